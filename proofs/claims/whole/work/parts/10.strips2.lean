/-- the first k are g -/
def tabr {α : Type} (g f : Nat → α) (k : Nat) : Nat → α := fun j => if j < k then g j else f j
theorem tabr_0 {α : Type} (g f : Nat → α) : tabr g f 0 = f := by funext j; simp [tabr]
theorem tabr_in {α : Type} (g f : Nat → α) {k j : Nat} (h : j < k) : tabr g f k j = g j := by simp [tabr, h]
theorem tabr_out {α : Type} (g f : Nat → α) {k j : Nat} (h : k ≤ j) : tabr g f k j = f j := by simp [tabr, Nat.not_lt.mpr h]
theorem tabr_1 (g f : Nat → Int32) (i : Nat) : upd (tabr g f i) i (g i) = tabr g f (i + 1) := by
  funext j
  simp only [tabr, upd]
  by_cases h : j = i
  · subst h; simp
  · rw [if_neg h]
    by_cases h2 : j < i
    · rw [if_pos h2, if_pos (by omega)]
    · rw [if_neg h2, if_neg (by omega)]
theorem tabr_1L (g f : Nat → Int64) (i : Nat) : vp_updL (tabr g f i) i (g i) = tabr g f (i + 1) := by
  funext j
  simp only [tabr, vp_updL]
  by_cases h : j = i
  · subst h; simp
  · rw [if_neg h]
    by_cases h2 : j < i
    · rw [if_pos h2, if_pos (by omega)]
    · rw [if_neg h2, if_neg (by omega)]
theorem tabr_1D (g f : Nat → UInt64) (i : Nat) : vf_upd (tabr g f i) i (g i) = tabr g f (i + 1) := by
  funext j
  simp only [tabr, vf_upd]
  by_cases h : j = i
  · subst h; simp
  · rw [if_neg h]
    by_cases h2 : j < i
    · rw [if_pos h2, if_pos (by omega)]
    · rw [if_neg h2, if_neg (by omega)]
/-- k of them from b on are g -/
def rngr {α : Type} (g f : Nat → α) (b k : Nat) : Nat → α := fun j => if b ≤ j ∧ j < b + k then g (j - b) else f j
theorem rngr_0 {α : Type} (g f : Nat → α) (b : Nat) : rngr g f b 0 = f := by funext j; unfold rngr; rw [if_neg (by omega)]
theorem rngr_in {α : Type} (g f : Nat → α) {b k j : Nat} (h : j < k) : rngr g f b k (b + j) = g j := by unfold rngr; rw [if_pos (by omega)]; congr 1; omega
theorem rngr_out {α : Type} (g f : Nat → α) {b k j : Nat} (h : ¬ (b ≤ j ∧ j < b + k)) : rngr g f b k j = f j := by unfold rngr; rw [if_neg h]
theorem rngr_1 (g f : Nat → Int32) (b i : Nat) : upd (rngr g f b i) (b + i) (g i) = rngr g f b (i + 1) := by
  funext j
  simp only [rngr, upd]
  by_cases h : j = b + i
  · subst h; rw [if_pos rfl, if_pos (by omega)]; congr 1; omega
  · rw [if_neg h]
    by_cases h2 : b ≤ j ∧ j < b + i
    · rw [if_pos h2, if_pos (by omega)]
    · rw [if_neg h2, if_neg (by omega)]
set_option maxHeartbeats 4000000 in
set_option maxRecDepth 100000 in
theorem k_multiply {sh : List Sh} {M : Mm} (n : Nat → Nat) (hsh : sh[1]? = some (.inr (4, [5, 6, 7, 8]))) (hs2 : sh[2]? = some (.inl (0, 3))) (hs5 : sh[5]? = some (.inl (0, 8))) (hn : ∀ r, r < 3 → gI M 2 r = nI (n r)) : CT mX4_multiply [.ref 1] sh M (Pv sh (sI M 5 (tabr (fun h => nI (prd n h 3)) (gI M 5) 8))) := by
  refine CT.mk (lv := [(0, .ref 1)]) rfl (by decide +kernel) (Nat.le_of_ble_eq_true rfl) ?_
  intro X C RT
  have lp : ∀ (h : Nat) , h ≤ 8 → Wd X (0, 0) 2 [(0, .ref 1), (1, .int (nI h))] [] sh (sI M 5 (tabr (fun h => nI (prd n h 3)) (gI M 5) h)) := by
    intro h
    induction hq_lp : 8 - h using Nat.strongRecOn generalizing h with
    | ind k_lp ih_lp =>
      intro hh
      refine e_iload_n C dX4_multiply_2 rfl rfl ?_
      refine e_bipush (v := (nI 7)) C dX4_multiply_3 (by decide) ?_
      refine e_icmp_gtN (tgt := 58) C dX4_multiply_5 (by omega) (by omega) (by decide) (fun h5 => ?_) (fun h5 => ?_)
      · exact e_vret C dX4_multiply_58 RT ⟨Nat.zero_le _, Nat.zero_le _⟩ (by rw [show h = 8 by omega]; exact ⟨rfl, rfl, rfl⟩)
      · refine e_iconst (v := (nI 1)) C dX4_multiply_8 (by decide) ?_
        refine e_istore_n (lv2 := [(2, .int (nI 1)), (0, .ref 1), (1, .int (nI h))]) C dX4_multiply_9 rfl (by decide) rfl ?_
        refine e_iconst (v := (nI 0)) C dX4_multiply_10 (by decide) ?_
        refine e_istore_n (lv2 := [(3, .int (nI 0)), (2, .int (nI 1)), (0, .ref 1), (1, .int (nI h))]) C dX4_multiply_11 rfl (by decide) rfl ?_
        refine e_loc [2, 3, 1, 0] rfl ?_
        have lq : ∀ (r : Nat) (q : Nat), r ≤ 3 → q = prd n h r → Wd X (0, 0) 12 [(0, .ref 1), (1, .int (nI h)), (2, .int (nI q)), (3, .int (nI r))] [] sh (sI M 5 (tabr (fun h => nI (prd n h 3)) (gI M 5) h)) := by
          intro r
          induction hq_lq : 3 - r using Nat.strongRecOn generalizing r with
          | ind k_lq ih_lq =>
            intro q hr hq
            refine e_iload_n C dX4_multiply_12 rfl rfl ?_
            refine e_iconst (v := (nI 3)) C dX4_multiply_13 (by decide) ?_
            refine e_icmp_geN (tgt := 45) C dX4_multiply_14 (by omega) (by omega) (by decide) (fun h14 => ?_) (fun h14 => ?_)
            · refine e_aload_n C dX4_multiply_45 rfl rfl ?_
              refine e_getR (q := 5) C dX4_multiply_46 fX4_21 hsh rfl ?_
              refine e_iload_n C dX4_multiply_49 rfl rfl ?_
              refine e_iload_n C dX4_multiply_50 rfl rfl ?_
              refine e_iastoreN C dX4_multiply_51 hs5 (by omega) (by omega) ?_
              refine e_mem (sI M 5 (tabr (fun h => nI (prd n h 3)) (gI M 5) (h + 1))) (by rw [sI_sI, gI_sI, hq, show r = 3 by omega]; exact congrArg _ (tabr_1 _ _ h)) ?_
              refine e_iincN (lv2 := [(1, .int (nI (h + 1))), (0, .ref 1), (2, .int (nI q)), (3, .int (nI r))]) C dX4_multiply_52 rfl (by decide) (nI_1 _) rfl ?_
              refine e_goto (tgt := 2) C dX4_multiply_55 (by decide) ?_
              refine e_loc [1, 0] rfl ?_
              exact ih_lp (8 - (h + 1)) (by omega) (h + 1) rfl (by omega)
            · refine e_iload_n C dX4_multiply_17 rfl rfl ?_
              refine e_iload_n C dX4_multiply_18 rfl rfl ?_
              refine e_iload_n C dX4_multiply_19 rfl rfl ?_
              refine e_ishr C dX4_multiply_20 ?_
              refine e_iconst (v := (nI 1)) C dX4_multiply_21 (by decide) ?_
              refine e_iand C dX4_multiply_22 ?_
              refine e_topi (nI (bitN h r)) (bitN_eq h (by omega) r (by omega)) ?_
              have hbl := bitN_lt h r
              refine e_iconst (v := (nI 1)) C dX4_multiply_23 (by decide) ?_
              refine e_icmp_neN (tgt := 36) C dX4_multiply_24 (by omega) (by omega) (by decide) (fun h24 => ?_) (fun h24 => ?_)
              · refine e_iconst (v := (nI 1)) C dX4_multiply_36 (by decide) ?_
                refine e_imulN C dX4_multiply_37 ?_
                refine e_istore_n (lv2 := [(2, .int (nI (q * 1))), (0, .ref 1), (1, .int (nI h)), (3, .int (nI r))]) C dX4_multiply_38 rfl (by decide) rfl ?_
                refine e_iincN (lv2 := [(3, .int (nI (r + 1))), (2, .int (nI (q * 1))), (0, .ref 1), (1, .int (nI h))]) C dX4_multiply_39 rfl (by decide) (nI_1 _) rfl ?_
                refine e_goto (tgt := 12) C dX4_multiply_42 (by decide) ?_
                refine e_loc [2, 3, 1, 0] rfl ?_
                exact ih_lq (3 - (r + 1)) (by omega) (r + 1) rfl (q * 1) (by omega) (by simp only [prd]; rw [← hq]; simp [h24])
              · refine e_aload_n C dX4_multiply_27 rfl rfl ?_
                refine e_getR (q := 2) C dX4_multiply_28 fX4_9 hsh rfl ?_
                refine e_iload_n C dX4_multiply_31 rfl rfl ?_
                refine e_ialoadN C dX4_multiply_32 hs2 (by omega) (by omega) ?_
                refine e_topi (nI (n r)) ((congrFun (gI_sI_ne M _ (by decide)) _).trans (hn r (by omega))) ?_
                refine e_goto (tgt := 37) C dX4_multiply_33 (by decide) ?_
                refine e_imulN C dX4_multiply_37 ?_
                refine e_istore_n (lv2 := [(2, .int (nI (q * (n r)))), (0, .ref 1), (1, .int (nI h)), (3, .int (nI r))]) C dX4_multiply_38 rfl (by decide) rfl ?_
                refine e_iincN (lv2 := [(3, .int (nI (r + 1))), (2, .int (nI (q * (n r)))), (0, .ref 1), (1, .int (nI h))]) C dX4_multiply_39 rfl (by decide) (nI_1 _) rfl ?_
                refine e_goto (tgt := 12) C dX4_multiply_42 (by decide) ?_
                refine e_loc [2, 3, 1, 0] rfl ?_
                exact ih_lq (3 - (r + 1)) (by omega) (r + 1) rfl (q * (n r)) (by omega) (by simp only [prd]; rw [← hq]; simp [h24])
        exact lq 0 1 (by omega) rfl
  refine e_iconst (v := (nI 0)) C dX4_multiply_0 (by decide) ?_
  refine e_istore_n (lv2 := [(1, .int (nI 0)), (0, .ref 1)]) C dX4_multiply_1 rfl (by decide) rfl ?_
  refine e_loc [1, 0] rfl ?_
  refine e_mem (sI M 5 (tabr (fun h => nI (prd n h 3)) (gI M 5) 0)) (by rw [tabr_0, sI_self]) ?_
  exact lp 0 (by omega)
def blkP (P : Nat → Nat) (r : Nat) : Nat → Nat := fun j => if r * 20 ≤ j ∧ j < r * 20 + 20 then 0 else P j
theorem up_s {α : Type} (f : Nat → α) (k : Nat) (v : α) : va_up f k v k = v := by simp [va_up]
theorem up_n {α : Type} (f : Nat → α) {k j : Nat} (v : α) (h : j ≠ k) : va_up f k v j = f j := by simp [va_up, h]
def BlF (M : Mm) (n P : Nat → Nat) (r nn : Nat) (M2 : Mm) : Prop := StOK M2 (va_up n r nn) (blkP P r) ∧ Same [2, 3, 5] M M2
set_option maxHeartbeats 4000000 in
set_option maxRecDepth 100000 in
theorem k_blank {w : Bool} {M : Mm} {n P : Nat → Nat} (hS : StOK M n P) (r nn : Nat) (hr : r < 3) (hnn : 4 ≤ nn ∧ nn ≤ 20) : CT mX4_blank [.ref 1, .int (nI r), .int (nI nn)] (shF w) M (Qv (shF w) (BlF M n P r nn)) := by
  refine CT.mk (lv := [(0, .ref 1), (1, .int (nI r)), (2, .int (nI nn))]) rfl (by decide +kernel) (Nat.le_of_ble_eq_true rfl) ?_
  intro X C RT
  obtain ⟨hn, hn20, hP, hP8, hpr⟩ := id hS
  refine e_aload_n C dX4_blank_0 rfl rfl ?_
  refine e_getR (q := 2) C dX4_blank_1 fX4_9 rfl rfl ?_
  refine e_iload_n C dX4_blank_4 rfl rfl ?_
  refine e_iload_n C dX4_blank_5 rfl rfl ?_
  refine e_iastoreN C dX4_blank_6 rfl (by omega) (by omega) ?_
  refine e_aload_n C dX4_blank_7 rfl rfl ?_
  have hn2 : ∀ q, q < 3 → gI (sI M 2 (upd (gI M 2) r (nI nn))) 2 q = nI (va_up n r nn q) := by
    intro q hq
    rw [gI_sI]
    by_cases h : q = r
    · subst h; rw [upd_s, up_s]
    · rw [upd_n _ _ h, up_n _ _ h, hn q hq]
  refine e_callVv C dX4_blank_8 [] (k_multiply (va_up n r nn) rfl rfl rfl hn2) okX4_multiply lX4_30 rfl rfl rfl rfl ⟨rfl, rfl⟩ ⟨Nat.le_of_ble_eq_true rfl, Nat.le_of_ble_eq_true rfl⟩ (Nat.le_of_ble_eq_true rfl) ⟨Nat.zero_le _, Nat.zero_le _⟩ ?_
  refine e_iconst (v := (nI 0)) C dX4_blank_11 (by decide) ?_
  refine e_istore_n (lv2 := [(3, .int (nI 0)), (0, .ref 1), (1, .int (nI r)), (2, .int (nI nn))]) C dX4_blank_12 rfl (by decide) rfl ?_
  refine e_nm (fun M1 hM1 => ?_)
  have h13 : gI M1 3 = gI M 3 := by rw [hM1, gI_sI_ne _ _ (by decide), gI_sI_ne _ _ (by decide)]
  have h12 : ∀ q, q < 3 → gI M1 2 q = nI (va_up n r nn q) := by rw [hM1, gI_sI_ne _ _ (by decide)]; exact hn2
  have h15 : ∀ h, h < 8 → gI M1 5 h = nI (prd (va_up n r nn) h 3) := by intro h hh; rw [hM1, gI_sI, tabr_in _ _ hh]
  have h1s : Same [2, 3, 5] M M1 := by rw [hM1]; exact ((Same.rf _ M).I (by decide)).I (by decide)
  have hfin : BlF M n P r nn (sI M1 3 (rngr (fun _ => nI 0) (gI M 3) (r * 20) 20)) := by
    refine ⟨⟨?_, ?_, ?_, ?_, ?_⟩, h1s.I (by decide)⟩
    · rw [gI_sI_ne _ _ (by decide)]; exact h12
    · intro q hq
      by_cases h : q = r
      · subst h; rw [up_s]; exact hnn
      · rw [up_n _ _ h]; exact hn20 q hq
    · intro j hj
      rw [gI_sI]
      unfold rngr blkP
      split
      · rfl
      · exact hP j hj
    · intro j
      unfold blkP
      split
      · decide
      · exact hP8 j
    · rw [gI_sI_ne _ _ (by decide)]; exact h15
  refine e_loc [1, 2, 3, 0] rfl ?_
  have lp : ∀ (i : Nat) , i ≤ 20 → Wd X (0, 0) 13 [(0, .ref 1), (1, .int (nI r)), (2, .int (nI nn)), (3, .int (nI i))] [] (shF w) (sI M1 3 (rngr (fun _ => nI 0) (gI M 3) (r * 20) i)) := by
    intro i
    induction hq_lp : 20 - i using Nat.strongRecOn generalizing i with
    | ind k_lp ih_lp =>
      intro hi
      refine e_iload_n C dX4_blank_13 rfl rfl ?_
      refine e_bipush (v := (nI 20)) C dX4_blank_14 (by decide) ?_
      refine e_icmp_geN (tgt := 32) C dX4_blank_16 (by omega) (by omega) (by decide) (fun h16 => ?_) (fun h16 => ?_)
      · exact e_vret C dX4_blank_32 RT ⟨Nat.zero_le _, Nat.zero_le _⟩ (qv_ (by rw [show i = 20 by omega]; exact hfin))
      · refine e_aload_n C dX4_blank_19 rfl rfl ?_
        refine e_iload_n C dX4_blank_20 rfl rfl ?_
        refine e_iload_n C dX4_blank_21 rfl rfl ?_
        refine e_iconst (v := (nI 0)) C dX4_blank_22 (by decide) ?_
        refine e_callVv C dX4_blank_23 [.int (nI r), .int (nI i), .int (nI 0)] (k_put r i 0 (by omega) (by omega)) okX4_put lX4_45 rfl rfl rfl rfl ⟨rfl, rfl⟩ ⟨Nat.le_of_ble_eq_true rfl, Nat.le_of_ble_eq_true rfl⟩ (Nat.le_of_ble_eq_true rfl) ⟨Nat.zero_le _, Nat.zero_le _⟩ ?_
        refine e_iincN (lv2 := [(3, .int (nI (i + 1))), (0, .ref 1), (1, .int (nI r)), (2, .int (nI nn))]) C dX4_blank_26 rfl (by decide) (nI_1 _) rfl ?_
        refine e_goto (tgt := 13) C dX4_blank_29 (by decide) ?_
        refine e_mem (sI M1 3 (rngr (fun _ => nI 0) (gI M 3) (r * 20) (i + 1))) (by rw [sI_sI, gI_sI, rngr_1]) ?_
        refine e_loc [1, 2, 3, 0] rfl ?_
        exact ih_lp (20 - (i + 1)) (by omega) (i + 1) rfl (by omega)
  refine e_mem (sI M1 3 (rngr (fun _ => nI 0) (gI M 3) (r * 20) 0)) (by rw [rngr_0, ← h13, sI_self]) ?_
  exact lp 0 (by omega)
/-- how much a picture is due -/
def dueI (cnt laid : Nat → Nat) (n s p : Nat) : Int32 := nI (cnt p * (s + 1)) - nI (n * laid p)
def dueZ (cnt laid : Nat → Nat) (n s p : Nat) : Int := (cnt p * (s + 1) : Nat) - (n * laid p : Nat)
theorem dueI_Z {cnt laid : Nat → Nat} {n s p : Nat} (h1 : cnt p ≤ 20) (h2 : s < 20) (h3 : n ≤ 20) (h4 : laid p ≤ 20) : (dueI cnt laid n s p).toInt = dueZ cnt laid n s p := by
  have h5 : cnt p * (s + 1) ≤ 20 * 20 := Nat.mul_le_mul h1 (by omega)
  have h6 : n * laid p ≤ 20 * 20 := Nat.mul_le_mul h3 h4
  unfold dueI dueZ
  rw [pk_sub_toInt (by omega) (by omega)]
/-- the picture that is most due, among the first k -/
def bestD (cnt laid : Nat → Nat) (n s : Nat) : Nat → Option Nat
  | 0 => none
  | k + 1 => match bestD cnt laid n s k with
    | none => if laid k < cnt k then some k else none
    | some b => if laid k < cnt k ∧ dueZ cnt laid n s b < dueZ cnt laid n s k then some k else some b
def DuF (cnt laid : Nat → Nat) (n s : Nat) (o : Option Nat) (b : Nat) (m : Int32) (f : Nat) : Prop := match o with
  | none => b = 0 ∧ f = 0
  | some q => b = q ∧ f = 1 ∧ m = dueI cnt laid n s q ∧ q < 8
set_option maxHeartbeats 4000000 in
set_option maxRecDepth 100000 in
theorem k_mostDue {w : Bool} {M : Mm} (cnt laid : Nat → Nat) (s nn : Nat) (hc : ∀ p, p < 8 → gI M 6 p = nI (cnt p) ∧ cnt p ≤ 20) (hl : ∀ p, p < 8 → gI M 4 p = nI (laid p) ∧ laid p ≤ 20) (hs : s < 20) (hnn : nn ≤ 20) : CT mX4_mostDue [.ref 1, .int (nI s), .int (nI nn), .ref 6] (shF w) M (Pi (nI ((bestD cnt laid nn s 8).getD 0)) (shF w) M) := by
  refine CT.mk (lv := [(0, .ref 1), (1, .int (nI s)), (2, .int (nI nn)), (3, .ref 6)]) rfl (by decide +kernel) (Nat.le_of_ble_eq_true rfl) ?_
  intro X C RT
  have lp : ∀ (p : Nat) (b : Nat) (m : Int32) (f : Nat), p ≤ 8 → f ≤ 1 → DuF cnt laid nn s (bestD cnt laid nn s p) b m f → Wd X (0, 0) 12 [(0, .ref 1), (1, .int (nI s)), (2, .int (nI nn)), (3, .ref 6), (4, .int (nI b)), (5, .int m), (6, .int (nI f)), (7, .int (nI p))] [] (shF w) M := by
    intro p
    induction hq_lp : 8 - p using Nat.strongRecOn generalizing p with
    | ind k_lp ih_lp =>
      intro b m f hp hf hD
      have hlp := fun h => hl p h
      have hcp := fun h => hc p h
      refine e_iload C dX4_mostDue_12 rfl ?_
      refine e_bipush (v := (nI 8)) C dX4_mostDue_14 (by decide) ?_
      refine e_icmp_geN (tgt := 82) C dX4_mostDue_16 (by omega) (by omega) (by decide) (fun h16 => ?_) (fun h16 => ?_)
      · refine e_iload C dX4_mostDue_82 rfl ?_
        exact e_zret C dX4_mostDue_84 RT rfl ⟨Nat.zero_le _, Nat.zero_le _⟩ (pi_ (congrArg nI (by rw [show p = 8 by omega] at hD; cases ho : bestD cnt laid nn s 8 with | none => (rw [ho] at hD; exact hD.1) | some q => (rw [ho] at hD; exact hD.1))))
      · refine e_aload_n C dX4_mostDue_19 rfl rfl ?_
        refine e_iload C dX4_mostDue_20 rfl ?_
        refine e_ialoadN C dX4_mostDue_22 rfl (by omega) (by omega) ?_
        refine e_topi (nI (cnt p)) ((hc p (by omega)).1) ?_
        refine e_iload_n C dX4_mostDue_23 rfl rfl ?_
        refine e_iconst (v := (nI 1)) C dX4_mostDue_24 (by decide) ?_
        refine e_iaddN C dX4_mostDue_25 ?_
        refine e_imulN C dX4_mostDue_26 ?_
        refine e_iload_n C dX4_mostDue_27 rfl rfl ?_
        refine e_aload_n C dX4_mostDue_28 rfl rfl ?_
        refine e_getR (q := 4) C dX4_mostDue_29 fX4_18 rfl rfl ?_
        refine e_iload C dX4_mostDue_32 rfl ?_
        refine e_ialoadN C dX4_mostDue_34 rfl (by omega) (by omega) ?_
        refine e_topi (nI (laid p)) ((hl p (by omega)).1) ?_
        refine e_imulN C dX4_mostDue_35 ?_
        refine e_isub C dX4_mostDue_36 ?_
        refine e_topi (dueI cnt laid nn s p) rfl ?_
        refine e_istore (lv2 := [(8, .int (dueI cnt laid nn s p)), (0, .ref 1), (1, .int (nI s)), (2, .int (nI nn)), (3, .ref 6), (4, .int (nI b)), (5, .int m), (6, .int (nI f)), (7, .int (nI p))]) C dX4_mostDue_37 (by decide) rfl ?_
        refine e_aload_n C dX4_mostDue_39 rfl rfl ?_
        refine e_getR (q := 4) C dX4_mostDue_40 fX4_18 rfl rfl ?_
        refine e_iload C dX4_mostDue_43 rfl ?_
        refine e_ialoadN C dX4_mostDue_45 rfl (by omega) (by omega) ?_
        refine e_topi (nI (laid p)) ((hl p (by omega)).1) ?_
        refine e_aload_n C dX4_mostDue_46 rfl rfl ?_
        refine e_iload C dX4_mostDue_47 rfl ?_
        refine e_ialoadN C dX4_mostDue_49 rfl (by omega) (by omega) ?_
        refine e_topi (nI (cnt p)) ((hc p (by omega)).1) ?_
        refine e_icmp_geN (tgt := 76) C dX4_mostDue_50 (by omega) (by omega) (by decide) (fun h50 => ?_) (fun h50 => ?_)
        · refine e_iincN (lv2 := [(7, .int (nI (p + 1))), (8, .int (dueI cnt laid nn s p)), (0, .ref 1), (1, .int (nI s)), (2, .int (nI nn)), (3, .ref 6), (4, .int (nI b)), (5, .int m), (6, .int (nI f))]) C dX4_mostDue_76 rfl (by decide) (nI_1 _) rfl ?_
          refine e_goto (tgt := 12) C dX4_mostDue_79 (by decide) ?_
          refine e_loc [2, 3, 4, 5, 6, 7, 8, 0] rfl ?_
          have e9 : DuF cnt laid nn s (bestD cnt laid nn s (p + 1)) b m f := by
            have hZ := dueI_Z (cnt := cnt) (laid := laid) (n := nn) (s := s) (p := p) (hc p (by omega)).2 hs hnn (hl p (by omega)).2
            simp only [bestD]
            cases ho : bestD cnt laid nn s p with
            | none =>
              rw [ho] at hD
              obtain ⟨d1, d2⟩ := hD
              first | (exact absurd d2 (by omega)) | (simp only; rw [if_pos (by omega)]; exact ⟨rfl, rfl, rfl, by omega⟩) | (simp only; rw [if_neg (by omega)]; exact ⟨by omega, by omega⟩)
            | some q =>
              rw [ho] at hD
              obtain ⟨d1, d2, d3, d4⟩ := hD
              have hZq := dueI_Z (cnt := cnt) (laid := laid) (n := nn) (s := s) (p := q) (hc q (by omega)).2 hs hnn (hl q (by omega)).2
              first | (exact absurd d2 (by omega)) | (simp only; rw [if_pos ⟨by omega, by omega⟩]; exact ⟨rfl, rfl, rfl, by omega⟩) | (simp only; rw [if_neg (by omega)]; exact ⟨by omega, by omega, d3, d4⟩)
          exact ih_lp (8 - (p + 1)) (by omega) (p + 1) rfl b m f (by omega) (by omega) e9
        · refine e_iload C dX4_mostDue_53 rfl ?_
          refine e_if_eqN (tgt := 65) C dX4_mostDue_55 (by omega) (by decide) (fun h55 => ?_) (fun h55 => ?_)
          · refine e_iload C dX4_mostDue_65 rfl ?_
            refine e_istore (lv2 := [(4, .int (nI p)), (8, .int (dueI cnt laid nn s p)), (0, .ref 1), (1, .int (nI s)), (2, .int (nI nn)), (3, .ref 6), (5, .int m), (6, .int (nI f)), (7, .int (nI p))]) C dX4_mostDue_67 (by decide) rfl ?_
            refine e_iload C dX4_mostDue_69 rfl ?_
            refine e_istore (lv2 := [(5, .int (dueI cnt laid nn s p)), (4, .int (nI p)), (8, .int (dueI cnt laid nn s p)), (0, .ref 1), (1, .int (nI s)), (2, .int (nI nn)), (3, .ref 6), (6, .int (nI f)), (7, .int (nI p))]) C dX4_mostDue_71 (by decide) rfl ?_
            refine e_iconst (v := (nI 1)) C dX4_mostDue_73 (by decide) ?_
            refine e_istore (lv2 := [(6, .int (nI 1)), (5, .int (dueI cnt laid nn s p)), (4, .int (nI p)), (8, .int (dueI cnt laid nn s p)), (0, .ref 1), (1, .int (nI s)), (2, .int (nI nn)), (3, .ref 6), (7, .int (nI p))]) C dX4_mostDue_74 (by decide) rfl ?_
            refine e_iincN (lv2 := [(7, .int (nI (p + 1))), (6, .int (nI 1)), (5, .int (dueI cnt laid nn s p)), (4, .int (nI p)), (8, .int (dueI cnt laid nn s p)), (0, .ref 1), (1, .int (nI s)), (2, .int (nI nn)), (3, .ref 6)]) C dX4_mostDue_76 rfl (by decide) (nI_1 _) rfl ?_
            refine e_goto (tgt := 12) C dX4_mostDue_79 (by decide) ?_
            refine e_loc [5, 6, 7, 8, 3, 2, 1, 0] rfl ?_
            have e9 : DuF cnt laid nn s (bestD cnt laid nn s (p + 1)) p (dueI cnt laid nn s p) 1 := by
              have hZ := dueI_Z (cnt := cnt) (laid := laid) (n := nn) (s := s) (p := p) (hc p (by omega)).2 hs hnn (hl p (by omega)).2
              simp only [bestD]
              cases ho : bestD cnt laid nn s p with
              | none =>
                rw [ho] at hD
                obtain ⟨d1, d2⟩ := hD
                first | (exact absurd d2 (by omega)) | (simp only; rw [if_pos (by omega)]; exact ⟨rfl, rfl, rfl, by omega⟩) | (simp only; rw [if_neg (by omega)]; exact ⟨by omega, by omega⟩)
              | some q =>
                rw [ho] at hD
                obtain ⟨d1, d2, d3, d4⟩ := hD
                have hZq := dueI_Z (cnt := cnt) (laid := laid) (n := nn) (s := s) (p := q) (hc q (by omega)).2 hs hnn (hl q (by omega)).2
                first | (exact absurd d2 (by omega)) | (simp only; rw [if_pos ⟨by omega, by omega⟩]; exact ⟨rfl, rfl, rfl, by omega⟩) | (simp only; rw [if_neg (by omega)]; exact ⟨by omega, by omega, d3, d4⟩)
            exact ih_lp (8 - (p + 1)) (by omega) (p + 1) rfl p (dueI cnt laid nn s p) 1 (by omega) (by omega) e9
          · refine e_iload C dX4_mostDue_58 rfl ?_
            refine e_iload C dX4_mostDue_60 rfl ?_
            refine e_icmp_le (x := (dueI cnt laid nn s p)) (y := m) (tgt := 76) C dX4_mostDue_62 (by decide) (fun h62 => ?_) (fun h62 => ?_)
            · refine e_iincN (lv2 := [(7, .int (nI (p + 1))), (8, .int (dueI cnt laid nn s p)), (0, .ref 1), (1, .int (nI s)), (2, .int (nI nn)), (3, .ref 6), (4, .int (nI b)), (5, .int m), (6, .int (nI f))]) C dX4_mostDue_76 rfl (by decide) (nI_1 _) rfl ?_
              refine e_goto (tgt := 12) C dX4_mostDue_79 (by decide) ?_
              refine e_loc [2, 3, 4, 5, 6, 7, 8, 0] rfl ?_
              have e9 : DuF cnt laid nn s (bestD cnt laid nn s (p + 1)) b m f := by
                have hZ := dueI_Z (cnt := cnt) (laid := laid) (n := nn) (s := s) (p := p) (hc p (by omega)).2 hs hnn (hl p (by omega)).2
                simp only [bestD]
                cases ho : bestD cnt laid nn s p with
                | none =>
                  rw [ho] at hD
                  obtain ⟨d1, d2⟩ := hD
                  first | (exact absurd d2 (by omega)) | (simp only; rw [if_pos (by omega)]; exact ⟨rfl, rfl, rfl, by omega⟩) | (simp only; rw [if_neg (by omega)]; exact ⟨by omega, by omega⟩)
                | some q =>
                  rw [ho] at hD
                  obtain ⟨d1, d2, d3, d4⟩ := hD
                  have hZq := dueI_Z (cnt := cnt) (laid := laid) (n := nn) (s := s) (p := q) (hc q (by omega)).2 hs hnn (hl q (by omega)).2
                  rw [d3, Int32.le_iff_toInt_le, hZ, hZq] at h62
                  first | (exact absurd d2 (by omega)) | (simp only; rw [if_pos ⟨by omega, by omega⟩]; exact ⟨rfl, rfl, rfl, by omega⟩) | (simp only; rw [if_neg (by omega)]; exact ⟨by omega, by omega, d3, d4⟩)
              exact ih_lp (8 - (p + 1)) (by omega) (p + 1) rfl b m f (by omega) (by omega) e9
            · refine e_iload C dX4_mostDue_65 rfl ?_
              refine e_istore (lv2 := [(4, .int (nI p)), (8, .int (dueI cnt laid nn s p)), (0, .ref 1), (1, .int (nI s)), (2, .int (nI nn)), (3, .ref 6), (5, .int m), (6, .int (nI f)), (7, .int (nI p))]) C dX4_mostDue_67 (by decide) rfl ?_
              refine e_iload C dX4_mostDue_69 rfl ?_
              refine e_istore (lv2 := [(5, .int (dueI cnt laid nn s p)), (4, .int (nI p)), (8, .int (dueI cnt laid nn s p)), (0, .ref 1), (1, .int (nI s)), (2, .int (nI nn)), (3, .ref 6), (6, .int (nI f)), (7, .int (nI p))]) C dX4_mostDue_71 (by decide) rfl ?_
              refine e_iconst (v := (nI 1)) C dX4_mostDue_73 (by decide) ?_
              refine e_istore (lv2 := [(6, .int (nI 1)), (5, .int (dueI cnt laid nn s p)), (4, .int (nI p)), (8, .int (dueI cnt laid nn s p)), (0, .ref 1), (1, .int (nI s)), (2, .int (nI nn)), (3, .ref 6), (7, .int (nI p))]) C dX4_mostDue_74 (by decide) rfl ?_
              refine e_iincN (lv2 := [(7, .int (nI (p + 1))), (6, .int (nI 1)), (5, .int (dueI cnt laid nn s p)), (4, .int (nI p)), (8, .int (dueI cnt laid nn s p)), (0, .ref 1), (1, .int (nI s)), (2, .int (nI nn)), (3, .ref 6)]) C dX4_mostDue_76 rfl (by decide) (nI_1 _) rfl ?_
              refine e_goto (tgt := 12) C dX4_mostDue_79 (by decide) ?_
              refine e_loc [5, 6, 7, 8, 3, 2, 1, 0] rfl ?_
              have e9 : DuF cnt laid nn s (bestD cnt laid nn s (p + 1)) p (dueI cnt laid nn s p) 1 := by
                have hZ := dueI_Z (cnt := cnt) (laid := laid) (n := nn) (s := s) (p := p) (hc p (by omega)).2 hs hnn (hl p (by omega)).2
                simp only [bestD]
                cases ho : bestD cnt laid nn s p with
                | none =>
                  rw [ho] at hD
                  obtain ⟨d1, d2⟩ := hD
                  first | (exact absurd d2 (by omega)) | (simp only; rw [if_pos (by omega)]; exact ⟨rfl, rfl, rfl, by omega⟩) | (simp only; rw [if_neg (by omega)]; exact ⟨by omega, by omega⟩)
                | some q =>
                  rw [ho] at hD
                  obtain ⟨d1, d2, d3, d4⟩ := hD
                  have hZq := dueI_Z (cnt := cnt) (laid := laid) (n := nn) (s := s) (p := q) (hc q (by omega)).2 hs hnn (hl q (by omega)).2
                  rw [d3, Int32.le_iff_toInt_le, hZ, hZq] at h62
                  first | (exact absurd d2 (by omega)) | (simp only; rw [if_pos ⟨by omega, by omega⟩]; exact ⟨rfl, rfl, rfl, by omega⟩) | (simp only; rw [if_neg (by omega)]; exact ⟨by omega, by omega, d3, d4⟩)
              exact ih_lp (8 - (p + 1)) (by omega) (p + 1) rfl p (dueI cnt laid nn s p) 1 (by omega) (by omega) e9
  refine e_iconst (v := (nI 0)) C dX4_mostDue_0 (by decide) ?_
  refine e_istore (lv2 := [(4, .int (nI 0)), (0, .ref 1), (1, .int (nI s)), (2, .int (nI nn)), (3, .ref 6)]) C dX4_mostDue_1 (by decide) rfl ?_
  refine e_iconst (v := (nI 0)) C dX4_mostDue_3 (by decide) ?_
  refine e_istore (lv2 := [(5, .int (nI 0)), (4, .int (nI 0)), (0, .ref 1), (1, .int (nI s)), (2, .int (nI nn)), (3, .ref 6)]) C dX4_mostDue_4 (by decide) rfl ?_
  refine e_iconst (v := (nI 0)) C dX4_mostDue_6 (by decide) ?_
  refine e_istore (lv2 := [(6, .int (nI 0)), (5, .int (nI 0)), (4, .int (nI 0)), (0, .ref 1), (1, .int (nI s)), (2, .int (nI nn)), (3, .ref 6)]) C dX4_mostDue_7 (by decide) rfl ?_
  refine e_iconst (v := (nI 0)) C dX4_mostDue_9 (by decide) ?_
  refine e_istore (lv2 := [(7, .int (nI 0)), (6, .int (nI 0)), (5, .int (nI 0)), (4, .int (nI 0)), (0, .ref 1), (1, .int (nI s)), (2, .int (nI nn)), (3, .ref 6)]) C dX4_mostDue_10 (by decide) rfl ?_
  refine e_loc [4, 5, 6, 7, 3, 2, 1, 0] rfl ?_
  exact lp 0 0 (nI 0) 0 (by omega) (by omega) ⟨rfl, rfl⟩
theorem bestD_lt {cnt laid : Nat → Nat} {n s : Nat} : ∀ {k q : Nat}, bestD cnt laid n s k = some q → q < k
  | 0, q, h => by simp [bestD] at h
  | k + 1, q, h => by
    simp only [bestD] at h
    cases ho : bestD cnt laid n s k with
    | none =>
      rw [ho] at h; simp only at h
      split at h
      · cases h; omega
      · cases h
    | some b =>
      have hb := bestD_lt ho
      rw [ho] at h; simp only at h
      split at h
      · cases h; omega
      · cases h; omega
/-- how often each picture was laid at the first s stops; what is laid at stop s -/
def layL (cnt : Nat → Nat) (n : Nat) : Nat → Nat → Nat
  | 0 => fun _ => 0
  | s + 1 => va_up (layL cnt n s) ((bestD cnt (layL cnt n s) n s 8).getD 0) (layL cnt n s ((bestD cnt (layL cnt n s) n s 8).getD 0) + 1)
def layB (cnt : Nat → Nat) (n s : Nat) : Nat := (bestD cnt (layL cnt n s) n s 8).getD 0
theorem layB_lt (cnt : Nat → Nat) (n s : Nat) : layB cnt n s < 8 := by
  unfold layB
  cases h : bestD cnt (layL cnt n s) n s 8 with
  | none => decide
  | some q => exact bestD_lt h
theorem layL_le (cnt : Nat → Nat) (n : Nat) : ∀ s p, layL cnt n s p ≤ s
  | 0, p => Nat.le_refl 0
  | s + 1, p => by
    simp only [layL, va_up]
    have h1 := layL_le cnt n s
    split
    · have := h1 ((bestD cnt (layL cnt n s) n s 8).getD 0); omega
    · have := h1 p; omega
def layP (P cnt : Nat → Nat) (r nn : Nat) : Nat → Nat := rngr (layB cnt nn) (blkP P r) (r * 20) nn
def LyF (M : Mm) (n P cnt : Nat → Nat) (r nn : Nat) (M2 : Mm) : Prop := StOK M2 (va_up n r nn) (layP P cnt r nn) ∧ Same [2, 3, 4, 5] M M2
def LyI (M : Mm) (n P cnt : Nat → Nat) (r nn s : Nat) (M2 : Mm) : Prop := StOK M2 (va_up n r nn) (rngr (layB cnt nn) (blkP P r) (r * 20) s) ∧ (∀ p, p < 8 → gI M2 4 p = nI (layL cnt nn s p)) ∧ Same [2, 3, 4, 5] M M2
theorem LyI.step {M M2 : Mm} {n P cnt : Nat → Nat} {r nn s : Nat} (h : LyI M n P cnt r nn s M2) (hr : r < 3) (hs : s < 20) : LyI M n P cnt r nn (s + 1) (sI (sI M2 3 (upd (gI M2 3) (r * 20 + s) (nI (layB cnt nn s)))) 4 (upd (gI M2 4) (layB cnt nn s) (nI (layL cnt nn s (layB cnt nn s) + 1)))) := by
  obtain ⟨⟨h1, h2, h3, h4, h5⟩, h6, h7⟩ := h
  refine ⟨⟨?_, h2, ?_, ?_, ?_⟩, ?_, (h7.I (by decide)).I (by decide)⟩
  · rw [gI_sI_ne _ _ (by decide), gI_sI_ne _ _ (by decide)]; exact h1
  · intro j hj
    rw [gI_sI_ne _ _ (by decide), gI_sI]
    by_cases hq : j = r * 20 + s
    · subst hq; rw [upd_s, rngr_in _ _ (by omega)]
    · rw [upd_n _ _ hq, h3 j hj]
      congr 1
      unfold rngr
      by_cases h8 : r * 20 ≤ j ∧ j < r * 20 + s
      · rw [if_pos h8, if_pos (by omega)]
      · rw [if_neg h8, if_neg (by omega)]
  · intro j
    have h8 := h4 j
    unfold rngr
    split
    · exact layB_lt _ _ _
    · unfold blkP; split
      · decide
      · rename_i h9 h10
        unfold rngr at h8
        rw [if_neg (by omega)] at h8
        unfold blkP at h8
        rw [if_neg h10] at h8
        exact h8
  · rw [gI_sI_ne _ _ (by decide), gI_sI_ne _ _ (by decide)]; exact h5
  · intro p hp
    rw [gI_sI]
    show upd _ (layB cnt nn s) _ p = nI (va_up (layL cnt nn s) (layB cnt nn s) _ p)
    by_cases hq : p = layB cnt nn s
    · subst hq; rw [upd_s, up_s]; rfl
    · rw [upd_n _ _ hq, up_n _ _ hq, h6 p hp]
set_option maxHeartbeats 4000000 in
set_option maxRecDepth 100000 in
theorem k_layEven {w : Bool} {M : Mm} {n P : Nat → Nat} (hS : StOK M n P) (cnt : Nat → Nat) (r nn : Nat) (hr : r < 3) (hnn : 4 ≤ nn ∧ nn ≤ 20) (hc : ∀ p, p < 8 → gI M 6 p = nI (cnt p) ∧ cnt p ≤ 20) : CT mX4_layEven [.ref 1, .int (nI r), .int (nI nn), .ref 6] (shF w) M (Qv (shF w) (LyF M n P cnt r nn)) := by
  refine CT.mk (lv := [(0, .ref 1), (1, .int (nI r)), (2, .int (nI nn)), (3, .ref 6)]) rfl (by decide +kernel) (Nat.le_of_ble_eq_true rfl) ?_
  intro X C RT
  refine e_aload_n C dX4_layEven_0 rfl rfl ?_
  refine e_iload_n C dX4_layEven_1 rfl rfl ?_
  refine e_iload_n C dX4_layEven_2 rfl rfl ?_
  refine e_callVvQ C dX4_layEven_3 [.int (nI r), .int (nI nn)] (k_blank hS r nn (by omega) (by omega)) okX4_blank lX4_49 rfl rfl rfl ⟨rfl, rfl⟩ ⟨Nat.le_of_ble_eq_true rfl, Nat.le_of_ble_eq_true rfl⟩ (Nat.le_of_ble_eq_true rfl) ⟨Nat.zero_le _, Nat.zero_le _⟩ (fun M1 hM1 => ?_)
  refine e_aload_n C dX4_layEven_6 rfl rfl ?_
  refine e_getR (q := 4) C dX4_layEven_7 fX4_18 rfl rfl ?_
  refine e_iconst (v := (nI 0)) C dX4_layEven_10 (by decide) ?_
  refine e_callSv C dX4_layEven_11 [.ref 4, .int (nI 0)] (k_fillI (nI 0) rfl (by decide)) okJ7_fill_53178 lX4_24 rfl rfl ⟨rfl, rfl⟩ ⟨Nat.le_of_ble_eq_true rfl, Nat.le_of_ble_eq_true rfl⟩ (Nat.le_of_ble_eq_true rfl) ⟨Nat.zero_le _, Nat.zero_le _⟩ ?_
  refine e_nm (fun M2 hM2 => ?_)
  refine e_iconst (v := (nI 0)) C dX4_layEven_14 (by decide) ?_
  refine e_istore (lv2 := [(4, .int (nI 0)), (0, .ref 1), (1, .int (nI r)), (2, .int (nI nn)), (3, .ref 6)]) C dX4_layEven_15 (by decide) rfl ?_
  refine e_loc [1, 2, 3, 4, 0] rfl ?_
  have lp : ∀ (s : Nat) (M9 : Mm), s ≤ nn → LyI M n P cnt r nn s M9 → Wd X (0, 0) 17 [(0, .ref 1), (1, .int (nI r)), (2, .int (nI nn)), (3, .ref 6), (4, .int (nI s))] [] (shF w) M9 := by
    intro s
    induction hq_lp : nn - s using Nat.strongRecOn generalizing s with
    | ind k_lp ih_lp =>
      intro M9 hi hI
      have hc2 : ∀ p, p < 8 → gI M9 6 p = nI (cnt p) ∧ cnt p ≤ 20 := by rw [hI.2.2.gI (by decide)]; exact hc
      have hl2 : ∀ p, p < 8 → gI M9 4 p = nI (layL cnt nn s p) ∧ layL cnt nn s p ≤ 20 := fun p hp => ⟨hI.2.1 p hp, Nat.le_trans (layL_le cnt nn s p) (by omega)⟩
      have hb8 := layB_lt cnt nn s
      refine e_iload C dX4_layEven_17 rfl ?_
      refine e_iload_n C dX4_layEven_19 rfl rfl ?_
      refine e_icmp_geN (tgt := 59) C dX4_layEven_20 (by omega) (by omega) (by decide) (fun h20 => ?_) (fun h20 => ?_)
      · exact e_vret C dX4_layEven_59 RT ⟨Nat.zero_le _, Nat.zero_le _⟩ (qv_ (by have hs9 : s = nn := (by omega); subst hs9; exact ⟨hI.1, hI.2.2⟩))
      · refine e_aload_n C dX4_layEven_23 rfl rfl ?_
        refine e_iload C dX4_layEven_24 rfl ?_
        refine e_iload_n C dX4_layEven_26 rfl rfl ?_
        refine e_aload_n C dX4_layEven_27 rfl rfl ?_
        refine e_callVi C dX4_layEven_28 [.int (nI s), .int (nI nn), .ref 6] (k_mostDue cnt (layL cnt nn s) s nn hc2 hl2 (by omega) (by omega)) okX4_mostDue lX4_53 rfl rfl rfl ⟨rfl, rfl⟩ ⟨Nat.le_of_ble_eq_true rfl, Nat.le_of_ble_eq_true rfl⟩ (Nat.le_of_ble_eq_true rfl) ⟨Nat.zero_le _, Nat.zero_le _⟩ ?_
        refine e_istore (lv2 := [(5, .int (nI (layB cnt nn s))), (0, .ref 1), (1, .int (nI r)), (2, .int (nI nn)), (3, .ref 6), (4, .int (nI s))]) C dX4_layEven_31 (by decide) rfl ?_
        refine e_aload_n C dX4_layEven_33 rfl rfl ?_
        refine e_iload_n C dX4_layEven_34 rfl rfl ?_
        refine e_iload C dX4_layEven_35 rfl ?_
        refine e_iload C dX4_layEven_37 rfl ?_
        refine e_callVv C dX4_layEven_39 [.int (nI r), .int (nI s), .int (nI (layB cnt nn s))] (k_put r s (layB cnt nn s) (by omega) (by omega)) okX4_put lX4_45 rfl rfl rfl rfl ⟨rfl, rfl⟩ ⟨Nat.le_of_ble_eq_true rfl, Nat.le_of_ble_eq_true rfl⟩ (Nat.le_of_ble_eq_true rfl) ⟨Nat.zero_le _, Nat.zero_le _⟩ ?_
        refine e_nm (fun M3 hM3 => ?_)
        refine e_aload_n C dX4_layEven_42 rfl rfl ?_
        refine e_getR (q := 4) C dX4_layEven_43 fX4_18 rfl rfl ?_
        refine e_iload C dX4_layEven_46 rfl ?_
        refine e_dup2 C dX4_layEven_48 rfl rfl ?_
        refine e_ialoadN C dX4_layEven_49 rfl (by omega) (by omega) ?_
        refine e_topi (nI (layL cnt nn s (layB cnt nn s))) (by rw [hM3, gI_sI_ne _ _ (by decide)]; exact hI.2.1 _ (by omega)) ?_
        refine e_iconst (v := (nI 1)) C dX4_layEven_50 (by decide) ?_
        refine e_iaddN C dX4_layEven_51 ?_
        refine e_iastoreN C dX4_layEven_52 rfl (by omega) (by omega) ?_
        refine e_nm (fun M4 hM4 => ?_)
        refine e_iincN (lv2 := [(4, .int (nI (s + 1))), (5, .int (nI (layB cnt nn s))), (0, .ref 1), (1, .int (nI r)), (2, .int (nI nn)), (3, .ref 6)]) C dX4_layEven_53 rfl (by decide) (nI_1 _) rfl ?_
        refine e_goto (tgt := 17) C dX4_layEven_56 (by decide) ?_
        have hI2 := hI.step hr (by omega)
        have e8 : gI M3 4 = gI M9 4 := by rw [hM3, gI_sI_ne _ _ (by decide)]
        rw [← e8, ← hM3, ← hM4] at hI2
        refine e_loc [2, 3, 4, 5, 0] rfl ?_
        exact ih_lp (nn - (s + 1)) (by omega) (s + 1) rfl M4 (by omega) hI2
  refine lp 0 M2 (by omega) ?_
  obtain ⟨hb1, hb2⟩ := hM1
  refine ⟨?_, ?_, ?_⟩
  · rw [rngr_0]; exact hb1.same (by rw [hM2, gI_sI_ne _ _ (by decide)]) (by rw [hM2, gI_sI_ne _ _ (by decide)]) (by rw [hM2, gI_sI_ne _ _ (by decide)])
  · intro p hp; rw [hM2, gI_sI]; simp [fillr, hp, layL]
  · rw [hM2]; exact (hb2.up (by decide)).I (by decide)
/-- a digest goes on over k numbers -/
def mixR (g : Nat → Int64) (h : Int64) : Nat → Int64
  | 0 => h
  | k + 1 => lN 31 * mixR g h k + g k
def mixS (n P : Nat → Nat) (h : Int64) : Nat → Int64
  | 0 => h
  | r + 1 => mixR (fun s => lN (P (r * 20 + s))) (lN 31 * mixS n P h r + lN (n r)) (n r)
set_option maxHeartbeats 4000000 in
set_option maxRecDepth 100000 in
theorem k_smix {w : Bool} {M : Mm} {n P : Nat → Nat} (hS : StOK M n P) (h : Int64) : CT mX4_mixedInto [.ref 1, .long h] (shF w) M (Pl (mixS n P h 3) (shF w) M) := by
  refine CT.mk (lv := [(0, .ref 1), (1, .long h)]) rfl (by decide +kernel) (Nat.le_of_ble_eq_true rfl) ?_
  intro X C RT
  obtain ⟨hn, hn20, hP, hP8, hpr⟩ := id hS
  have lp : ∀ (r : Nat) (x9 : Int64), r ≤ 3 → x9 = mixS n P h r → Wd X (0, 0) 5 [(0, .ref 1), (1, .long h), (3, .long x9), (5, .int (nI r))] [] (shF w) M := by
    intro r
    induction hq_lp : 3 - r using Nat.strongRecOn generalizing r with
    | ind k_lp ih_lp =>
      intro x9 hr hx9
      have hnr := fun q => hn20 r q
      refine e_iload C dX4_mixedInto_5 rfl ?_
      refine e_iconst (v := (nI 3)) C dX4_mixedInto_7 (by decide) ?_
      refine e_icmp_geN (tgt := 69) C dX4_mixedInto_8 (by omega) (by omega) (by decide) (fun h8 => ?_) (fun h8 => ?_)
      · refine e_lload_n C dX4_mixedInto_69 rfl rfl ?_
        exact e_lret C dX4_mixedInto_70 RT ⟨Nat.zero_le _, Nat.zero_le _⟩ (pl_ (by rw [hx9, show r = 3 by omega]))
      · refine e_ldc2 (v := lN 31) C dX4_mixedInto_11 kX4_67 ?_
        refine e_lload_n C dX4_mixedInto_14 rfl rfl ?_
        refine e_lmul C dX4_mixedInto_15 ?_
        refine e_aload_n C dX4_mixedInto_16 rfl rfl ?_
        refine e_getR (q := 2) C dX4_mixedInto_17 fX4_9 rfl rfl ?_
        refine e_iload C dX4_mixedInto_20 rfl ?_
        refine e_ialoadN C dX4_mixedInto_22 rfl (by omega) (by omega) ?_
        refine e_topi (nI (n r)) (hn r (by omega)) ?_
        refine e_i2lN C dX4_mixedInto_23 (by omega) ?_
        refine e_ladd C dX4_mixedInto_24 ?_
        refine e_lstore_n (lv2 := [(3, .long (((lN 31) * x9) + (lN (n r)))), (0, .ref 1), (1, .long h), (5, .int (nI r))]) C dX4_mixedInto_25 rfl (by decide) rfl ?_
        refine e_iconst (v := (nI 0)) C dX4_mixedInto_26 (by decide) ?_
        refine e_istore (lv2 := [(6, .int (nI 0)), (3, .long (((lN 31) * x9) + (lN (n r)))), (0, .ref 1), (1, .long h), (5, .int (nI r))]) C dX4_mixedInto_27 (by decide) rfl ?_
        refine e_loc [2, 3, 1, 4, 0] rfl ?_
        have lq : ∀ (s : Nat) (y : Int64), s ≤ n r → y = mixR (fun s => lN (P (r * 20 + s))) (lN 31 * x9 + lN (n r)) s → Wd X (0, 0) 29 [(0, .ref 1), (1, .long h), (3, .long y), (5, .int (nI r)), (6, .int (nI s))] [] (shF w) M := by
          intro s
          induction hq_lq : n r - s using Nat.strongRecOn generalizing s with
          | ind k_lq ih_lq =>
            intro y hs hy
            refine e_iload C dX4_mixedInto_29 rfl ?_
            refine e_aload_n C dX4_mixedInto_31 rfl rfl ?_
            refine e_getR (q := 2) C dX4_mixedInto_32 fX4_9 rfl rfl ?_
            refine e_iload C dX4_mixedInto_35 rfl ?_
            refine e_ialoadN C dX4_mixedInto_37 rfl (by omega) (by omega) ?_
            refine e_topi (nI (n r)) (hn r (by omega)) ?_
            refine e_icmp_geN (tgt := 63) C dX4_mixedInto_38 (by omega) (by omega) (by decide) (fun h38 => ?_) (fun h38 => ?_)
            · refine e_iincN (lv2 := [(5, .int (nI (r + 1))), (0, .ref 1), (1, .long h), (3, .long y), (6, .int (nI s))]) C dX4_mixedInto_63 rfl (by decide) (nI_1 _) rfl ?_
              refine e_goto (tgt := 5) C dX4_mixedInto_66 (by decide) ?_
              refine e_loc [1, 2, 3, 0] rfl ?_
              exact ih_lp (3 - (r + 1)) (by omega) (r + 1) rfl y (by omega) (by simp only [mixS]; rw [← hx9, hy, show s = n r by omega])
            · refine e_ldc2 (v := lN 31) C dX4_mixedInto_41 kX4_67 ?_
              refine e_lload_n C dX4_mixedInto_44 rfl rfl ?_
              refine e_lmul C dX4_mixedInto_45 ?_
              refine e_aload_n C dX4_mixedInto_46 rfl rfl ?_
              refine e_iload C dX4_mixedInto_47 rfl ?_
              refine e_iload C dX4_mixedInto_49 rfl ?_
              have hb1 := hS.2.2.2.1 (r * 20 + s)
              refine e_callVi C dX4_mixedInto_51 [.int (nI r), .int (nI s)] (k_shown hS r s (by omega) (by omega)) okX4_shown lX4_57 rfl rfl rfl ⟨rfl, rfl⟩ ⟨Nat.le_of_ble_eq_true rfl, Nat.le_of_ble_eq_true rfl⟩ (Nat.le_of_ble_eq_true rfl) ⟨Nat.zero_le _, Nat.zero_le _⟩ ?_
              refine e_i2lN C dX4_mixedInto_54 (by omega) ?_
              refine e_ladd C dX4_mixedInto_55 ?_
              refine e_lstore_n (lv2 := [(3, .long (((lN 31) * y) + (lN (P (r * 20 + s))))), (0, .ref 1), (1, .long h), (5, .int (nI r)), (6, .int (nI s))]) C dX4_mixedInto_56 rfl (by decide) rfl ?_
              refine e_iincN (lv2 := [(6, .int (nI (s + 1))), (3, .long (((lN 31) * y) + (lN (P (r * 20 + s))))), (0, .ref 1), (1, .long h), (5, .int (nI r))]) C dX4_mixedInto_57 rfl (by decide) (nI_1 _) rfl ?_
              refine e_goto (tgt := 29) C dX4_mixedInto_60 (by decide) ?_
              refine e_loc [2, 3, 1, 4, 0] rfl ?_
              exact ih_lq (n r - (s + 1)) (by omega) (s + 1) rfl (((lN 31) * y) + (lN (P (r * 20 + s)))) (by omega) (by simp only [mixR]; rw [← hy])
        exact lq 0 _ (by omega) rfl
  refine e_lload_n C dX4_mixedInto_0 rfl rfl ?_
  refine e_lstore_n (lv2 := [(3, .long h), (0, .ref 1), (1, .long h)]) C dX4_mixedInto_1 rfl (by decide) rfl ?_
  refine e_iconst (v := (nI 0)) C dX4_mixedInto_2 (by decide) ?_
  refine e_istore (lv2 := [(5, .int (nI 0)), (3, .long h), (0, .ref 1), (1, .long h)]) C dX4_mixedInto_3 (by decide) rfl ?_
  refine e_loc [2, 3, 1, 0] rfl ?_
  exact lp 0 h (by omega) rfl
