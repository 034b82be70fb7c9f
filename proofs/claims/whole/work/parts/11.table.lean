def fitW (x : Int32) (p : Nat) : Bool := decide (x = -1) || decide (x = nI p)
/-- row i fits the line l -/
def fitR (W : Nat → Nat → Int32) (i l : Nat) : Bool := fitW (W i 0) (l / 64) && fitW (W i 1) (l / 8 % 8) && fitW (W i 2) (l % 8)
def fstR (W : Nat → Nat → Int32) (k l : Nat) : Option Nat := fstb (fun i => fitR W i l) k
def amt (W : Nat → Nat → Int32) (pv : Nat → Nat) (k l : Nat) : Nat := match fstR W k l with
  | some i => pv i
  | none => 0
def okW (x : Int32) : Prop := x = -1 ∨ (0 ≤ x.toInt ∧ x.toInt ≤ 7)
def TbOK (M : Mm) (k : Nat) (W : Nat → Nat → Int32) (pv : Nat → Nat) : Prop := gI M 7 3 = nI k ∧ k ≤ 12 ∧ (∀ i, i < k → ∀ q, q < 3 → gI M 8 (i * 3 + q) = W i q) ∧ (∀ i, i < k → gI M 9 i = nI (pv i) ∧ pv i ≤ 10000) ∧ (∀ l, l < 512 → gI M 10 l = oI (fstR W k l)) ∧ (∀ i, i < k → ∀ q, q < 3 → okW (W i q))
theorem TbOK.same {M M2 : Mm} {k : Nat} {W : Nat → Nat → Int32} {pv : Nat → Nat} (h : TbOK M k W pv) (h7 : gI M2 7 = gI M 7) (h8 : gI M2 8 = gI M 8) (h9 : gI M2 9 = gI M 9) (h10 : gI M2 10 = gI M 10) : TbOK M2 k W pv := ⟨by rw [h7]; exact h.1, h.2.1, by rw [h8]; exact h.2.2.1, by rw [h9]; exact h.2.2.2.1, by rw [h10]; exact h.2.2.2.2.1, h.2.2.2.2.2⟩
theorem fstb_lt {f : Nat → Bool} : ∀ {k i : Nat}, fstb f k = some i → i < k ∧ f i = true
  | 0, i, h => by simp [fstb] at h
  | k + 1, i, h => by
    simp only [fstb] at h
    cases ho : fstb f k with
    | none =>
      rw [ho] at h; simp only at h
      split at h
      · rename_i h2; cases h; exact ⟨by omega, h2⟩
      · cases h
    | some j =>
      rw [ho] at h; simp only at h
      cases h
      have := fstb_lt ho
      exact ⟨by omega, this.2⟩
theorem fstb_none {f : Nat → Bool} : ∀ {k : Nat}, fstb f k = none → ∀ i, i < k → f i = false
  | 0, _, i, hi => by omega
  | k + 1, h, i, hi => by
    simp only [fstb] at h
    cases ho : fstb f k with
    | none =>
      rw [ho] at h; simp only at h
      split at h
      · cases h
      · rename_i h2
        by_cases h3 : i = k
        · subst h3; simpa using h2
        · exact fstb_none ho i (by omega)
    | some j => rw [ho] at h; simp at h
theorem fstb_congr {f g : Nat → Bool} : ∀ {k : Nat}, (∀ i, i < k → f i = g i) → fstb f k = fstb g k
  | 0, _ => rfl
  | k + 1, h => by simp only [fstb]; rw [fstb_congr (k := k) (fun i hi => h i (by omega)), h k (by omega)]
theorem nI_nm1 {i : Nat} (h : i < 2 ^ 31) : ¬ nI i = -1 := fun h2 => by
  have h3 := nI_toInt h
  rw [h2] at h3
  have h4 : (-1 : Int32).toInt = -1 := rfl
  omega
theorem oI_m1 {x : Option Nat} (h : ∀ i, x = some i → i < 2 ^ 31) : oI x = -1 ↔ x = none := by
  cases x with
  | none => simp [oI]
  | some i => simp [oI, nI_nm1 (h i rfl)]
theorem amt_le {W : Nat → Nat → Int32} {pv : Nat → Nat} {k l : Nat} (h : ∀ i, i < k → pv i ≤ 10000) : amt W pv k l ≤ 10000 := by
  unfold amt
  cases ho : fstR W k l with
  | none => simp
  | some i => exact h i (fstb_lt ho).1
set_option maxHeartbeats 4000000 in
set_option maxRecDepth 100000 in
theorem k_amount {w : Bool} {M : Mm} {k : Nat} {W : Nat → Nat → Int32} {pv : Nat → Nat} (hT : TbOK M k W pv) (l : Nat) (hl : l < 512) : CT mX2_amount [.ref 7, .int (nI l)] (shF w) M (Pi (nI (amt W pv k l)) (shF w) M) := by
  refine CT.mk (lv := [(0, .ref 7), (1, .int (nI l))]) rfl (by decide +kernel) (Nat.le_of_ble_eq_true rfl) ?_
  intro X C RT
  obtain ⟨hk, hk12, hW, hv, hf, hok⟩ := hT
  cases ho : fstR W k l with
  | none =>
    refine e_aload_n C dX2_amount_0 rfl rfl ?_
    refine e_getR (q := 10) C dX2_amount_1 fX2_18 rfl rfl ?_
    refine e_iload_n C dX2_amount_4 rfl rfl ?_
    refine e_ialoadN C dX2_amount_5 rfl (by omega) (by omega) ?_
    refine e_topi (-1) (by rw [hf l hl, ho]; rfl) ?_
    refine e_istore_n (lv2 := [(2, .int (-1)), (0, .ref 7), (1, .int (nI l))]) C dX2_amount_6 rfl (by decide) rfl ?_
    refine e_iload_n C dX2_amount_7 rfl rfl ?_
    refine e_iconst (v := (-1)) C dX2_amount_8 (by decide) ?_
    refine e_icmp_ne (x := (-1)) (y := (-1)) (tgt := 16) C dX2_amount_9 (by decide) (fun h9 => by exact absurd rfl h9) (fun h9 => ?_)
    refine e_iconst (v := (nI 0)) C dX2_amount_12 (by decide) ?_
    refine e_goto (tgt := 22) C dX2_amount_13 (by decide) ?_
    exact e_zret C dX2_amount_22 RT rfl ⟨Nat.zero_le _, Nat.zero_le _⟩ (pi_ (by unfold amt; rw [ho]))
  | some i =>
    have hik := (fstb_lt ho).1
    refine e_aload_n C dX2_amount_0 rfl rfl ?_
    refine e_getR (q := 10) C dX2_amount_1 fX2_18 rfl rfl ?_
    refine e_iload_n C dX2_amount_4 rfl rfl ?_
    refine e_ialoadN C dX2_amount_5 rfl (by omega) (by omega) ?_
    refine e_topi (nI i) (by rw [hf l hl, ho]; rfl) ?_
    refine e_istore_n (lv2 := [(2, .int (nI i)), (0, .ref 7), (1, .int (nI l))]) C dX2_amount_6 rfl (by decide) rfl ?_
    refine e_iload_n C dX2_amount_7 rfl rfl ?_
    refine e_iconst (v := (-1)) C dX2_amount_8 (by decide) ?_
    refine e_icmp_ne (x := (nI i)) (y := (-1)) (tgt := 16) C dX2_amount_9 (by decide) (fun h9 => ?_) (fun h9 => by exact absurd h9 (nI_nm1 (by omega)))
    refine e_aload_n C dX2_amount_16 rfl rfl ?_
    refine e_getR (q := 9) C dX2_amount_17 fX2_15 rfl rfl ?_
    refine e_iload_n C dX2_amount_20 rfl rfl ?_
    refine e_ialoadN C dX2_amount_21 rfl (by omega) (by omega) ?_
    refine e_topi (nI (pv i)) ((hv i (by omega)).1) ?_
    exact e_zret C dX2_amount_22 RT rfl ⟨Nat.zero_le _, Nat.zero_le _⟩ (pi_ (by unfold amt; rw [ho]))
set_option maxHeartbeats 4000000 in
set_option maxRecDepth 100000 in
theorem k_firstRow {w : Bool} {M : Mm} {k : Nat} {W : Nat → Nat → Int32} {pv : Nat → Nat} (hT : TbOK M k W pv) (l : Nat) (hl : l < 512) : CT mX2_firstRow [.ref 7, .int (nI l)] (shF w) M (Pi (oI (fstR W k l)) (shF w) M) := by
  refine CT.mk (lv := [(0, .ref 7), (1, .int (nI l))]) rfl (by decide +kernel) (Nat.le_of_ble_eq_true rfl) ?_
  intro X C RT
  refine e_aload_n C dX2_firstRow_0 rfl rfl ?_
  refine e_getR (q := 10) C dX2_firstRow_1 fX2_18 rfl rfl ?_
  refine e_iload_n C dX2_firstRow_4 rfl rfl ?_
  refine e_ialoadN C dX2_firstRow_5 rfl (by omega) (by omega) ?_
  exact e_zret C dX2_firstRow_6 RT rfl ⟨Nat.zero_le _, Nat.zero_le _⟩ (pi_ (hT.2.2.2.2.1 l hl))
def fitr (f : Nat → Int32) (c row : Int32) (b k : Nat) : Nat → Int32 := fun l => if b ≤ l ∧ l < b + k ∧ fitW c (l - b) = true ∧ f l = -1 then row else f l
theorem fitr_0 (f : Nat → Int32) (c row : Int32) (b : Nat) : fitr f c row b 0 = f := by funext l; unfold fitr; rw [if_neg (by omega)]
theorem fitr_y {f : Nat → Int32} {c row : Int32} {b i : Nat} (h1 : fitW c i = true) (h2 : f (b + i) = -1) : upd (fitr f c row b i) (b + i) row = fitr f c row b (i + 1) := by
  funext l
  simp only [fitr, upd]
  by_cases h : l = b + i
  · subst h; rw [if_pos rfl, if_pos ⟨by omega, by omega, by rw [show b + i - b = i by omega]; exact h1, h2⟩]
  · rw [if_neg h]
    by_cases h3 : b ≤ l ∧ l < b + i ∧ fitW c (l - b) = true ∧ f l = -1
    · rw [if_pos h3, if_pos ⟨h3.1, by omega, h3.2.2⟩]
    · rw [if_neg h3, if_neg (fun h4 => h3 ⟨h4.1, by omega, h4.2.2⟩)]
theorem fitr_n {f : Nat → Int32} {c row : Int32} {b i : Nat} (h1 : ¬ (fitW c i = true ∧ f (b + i) = -1)) : fitr f c row b i = fitr f c row b (i + 1) := by
  funext l
  unfold fitr
  by_cases h3 : b ≤ l ∧ l < b + i ∧ fitW c (l - b) = true ∧ f l = -1
  · rw [if_pos h3, if_pos ⟨h3.1, by omega, h3.2.2⟩]
  · rw [if_neg h3, if_neg (fun h4 => by
      by_cases h : l = b + i
      · subst h; exact h1 ⟨by have := h4.2.2.1; rw [show b + i - b = i by omega] at this; exact this, h4.2.2.2⟩
      · exact h3 ⟨h4.1, by omega, h4.2.2⟩)]
theorem fitr_at {f : Nat → Int32} {c row : Int32} {b i : Nat} : fitr f c row b i (b + i) = f (b + i) := by unfold fitr; rw [if_neg (by omega)]
set_option maxHeartbeats 4000000 in
set_option maxRecDepth 100000 in
theorem k_fitLast {w : Bool} {M : Mm} (c row : Int32) (b : Nat) (hb : b + 8 ≤ 512) : CT mX2_fitLast [.ref 7, .int c, .int row, .int (nI b)] (shF w) M (Pv (shF w) (sI M 10 (fitr (gI M 10) c row b 8))) := by
  refine CT.mk (lv := [(0, .ref 7), (1, .int c), (2, .int row), (3, .int (nI b))]) rfl (by decide +kernel) (Nat.le_of_ble_eq_true rfl) ?_
  intro X C RT
  have lp : ∀ (i : Nat) , i ≤ 8 → Wd X (0, 0) 3 [(0, .ref 7), (1, .int c), (2, .int row), (3, .int (nI b)), (4, .int (nI i))] [] (shF w) (sI M 10 (fitr (gI M 10) c row b i)) := by
    intro i
    induction hq_lp : 8 - i using Nat.strongRecOn generalizing i with
    | ind k_lp ih_lp =>
      intro hi
      refine e_iload C dX2_fitLast_3 rfl ?_
      refine e_bipush (v := (nI 8)) C dX2_fitLast_5 (by decide) ?_
      refine e_icmp_geN (tgt := 48) C dX2_fitLast_7 (by omega) (by omega) (by decide) (fun h7 => ?_) (fun h7 => ?_)
      · exact e_vret C dX2_fitLast_48 RT ⟨Nat.zero_le _, Nat.zero_le _⟩ (by rw [show i = 8 by omega]; exact ⟨rfl, rfl, rfl⟩)
      · refine e_iload_n C dX2_fitLast_10 rfl rfl ?_
        refine e_iload C dX2_fitLast_11 rfl ?_
        refine e_callSi C dX2_fitLast_13 [.int c, .int (nI i)] (k_fits c (nI i)) okX2_fits lX2_31 rfl ⟨rfl, rfl⟩ ⟨Nat.le_of_ble_eq_true rfl, Nat.le_of_ble_eq_true rfl⟩ (Nat.le_of_ble_eq_true rfl) ⟨Nat.zero_le _, Nat.zero_le _⟩ ?_
        refine e_if_eqB (b := decide (c = -1) || decide (c = (nI i))) (tgt := 42) C dX2_fitLast_16 (by decide) (fun h16 => ?_) (fun h16 => ?_)
        · refine e_iincN (lv2 := [(4, .int (nI (i + 1))), (0, .ref 7), (1, .int c), (2, .int row), (3, .int (nI b))]) C dX2_fitLast_42 rfl (by decide) (nI_1 _) rfl ?_
          refine e_goto (tgt := 3) C dX2_fitLast_45 (by decide) ?_
          refine e_loc [1, 2, 3, 4, 0] rfl ?_
          refine e_mem (sI M 10 (fitr (gI M 10) c row b (i + 1))) (by rw [fitr_n (fun h => by have := h.1; unfold fitW at this; rw [h16] at this; cases this)]) ?_
          exact ih_lp (8 - (i + 1)) (by omega) (i + 1) rfl (by omega)
        · refine e_aload_n C dX2_fitLast_19 rfl rfl ?_
          refine e_getR (q := 10) C dX2_fitLast_20 fX2_18 rfl rfl ?_
          refine e_iload_n C dX2_fitLast_23 rfl rfl ?_
          refine e_iload C dX2_fitLast_24 rfl ?_
          refine e_iaddN C dX2_fitLast_26 ?_
          refine e_ialoadN C dX2_fitLast_27 rfl (by omega) (by omega) ?_
          refine e_topi (gI M 10 (b + i)) (by rw [gI_sI, fitr_at]) ?_
          refine e_iconst (v := (-1)) C dX2_fitLast_28 (by decide) ?_
          refine e_icmp_ne (x := (gI M 10 (b + i))) (y := (-1)) (tgt := 42) C dX2_fitLast_29 (by decide) (fun h29 => ?_) (fun h29 => ?_)
          · refine e_iincN (lv2 := [(4, .int (nI (i + 1))), (0, .ref 7), (1, .int c), (2, .int row), (3, .int (nI b))]) C dX2_fitLast_42 rfl (by decide) (nI_1 _) rfl ?_
            refine e_goto (tgt := 3) C dX2_fitLast_45 (by decide) ?_
            refine e_loc [1, 2, 3, 4, 0] rfl ?_
            refine e_mem (sI M 10 (fitr (gI M 10) c row b (i + 1))) (by rw [fitr_n (fun h => h29 h.2)]) ?_
            exact ih_lp (8 - (i + 1)) (by omega) (i + 1) rfl (by omega)
          · refine e_aload_n C dX2_fitLast_32 rfl rfl ?_
            refine e_getR (q := 10) C dX2_fitLast_33 fX2_18 rfl rfl ?_
            refine e_iload_n C dX2_fitLast_36 rfl rfl ?_
            refine e_iload C dX2_fitLast_37 rfl ?_
            refine e_iaddN C dX2_fitLast_39 ?_
            refine e_iload_n C dX2_fitLast_40 rfl rfl ?_
            refine e_iastoreN C dX2_fitLast_41 rfl (by omega) (by omega) ?_
            refine e_iincN (lv2 := [(4, .int (nI (i + 1))), (0, .ref 7), (1, .int c), (2, .int row), (3, .int (nI b))]) C dX2_fitLast_42 rfl (by decide) (nI_1 _) rfl ?_
            refine e_goto (tgt := 3) C dX2_fitLast_45 (by decide) ?_
            refine e_loc [1, 2, 3, 4, 0] rfl ?_
            refine e_mem (sI M 10 (fitr (gI M 10) c row b (i + 1))) (by rw [gI_sI, sI_sI, fitr_y h16 h29]) ?_
            exact ih_lp (8 - (i + 1)) (by omega) (i + 1) rfl (by omega)
  refine e_iconst (v := (nI 0)) C dX2_fitLast_0 (by decide) ?_
  refine e_istore (lv2 := [(4, .int (nI 0)), (0, .ref 7), (1, .int c), (2, .int row), (3, .int (nI b))]) C dX2_fitLast_1 (by decide) rfl ?_
  refine e_loc [1, 2, 3, 4, 0] rfl ?_
  refine e_mem (sI M 10 (fitr (gI M 10) c row b 0)) (by rw [fitr_0, sI_self]) ?_
  exact lp 0 (by omega)
def wsh (a b c : Int32) : Nat → Int32 := fun q => if q = 0 then a else if q = 1 then b else c
def addN (W : Nat → Nat → Int32) (k : Nat) (a b c : Int32) (l : Nat) : Int32 := oI (fstR (va_up W k (wsh a b c)) (k + 1) l)
theorem fstR_up {W : Nat → Nat → Int32} {k : Nat} {g : Nat → Int32} (l : Nat) : fstR (va_up W k g) k l = fstR W k l := fstb_congr (fun i hi => by unfold fitR; rw [up_n _ _ (by omega)])
theorem addN_eq {W : Nat → Nat → Int32} {k : Nat} {a b c : Int32} (l : Nat) (hk : k ≤ 12) : addN W k a b c l = if (fitW a (l / 64) && fitW b (l / 8 % 8) && fitW c (l % 8)) = true ∧ oI (fstR W k l) = -1 then nI k else oI (fstR W k l) := by
  have h1 : fitR (va_up W k (wsh a b c)) k l = (fitW a (l / 64) && fitW b (l / 8 % 8) && fitW c (l % 8)) := by unfold fitR; rw [up_s]; rfl
  have h2 : fstR (va_up W k (wsh a b c)) (k + 1) l = match fstR W k l with
    | some i => some i
    | none => if (fitW a (l / 64) && fitW b (l / 8 % 8) && fitW c (l % 8)) = true then some k else none := by
    rw [← fstR_up (k := k) (g := wsh a b c) l, ← h1]; rfl
  unfold addN
  rw [h2]
  cases ho : fstR W k l with
  | none =>
    simp only
    by_cases h3 : (fitW a (l / 64) && fitW b (l / 8 % 8) && fitW c (l % 8)) = true
    · rw [if_pos h3, if_pos ⟨h3, rfl⟩]; rfl
    · rw [if_neg h3, if_neg (fun h => h3 h.1)]
  | some i =>
    have hi := (fstb_lt ho).1
    simp only
    rw [if_neg (fun h => nI_nm1 (i := i) (by omega) h.2)]
def AdI (M1 : Mm) (W : Nat → Nat → Int32) (k : Nat) (a b c : Int32) (m : Nat) (M2 : Mm) : Prop := Same [10] M1 M2 ∧ ∀ l, l < 512 → gI M2 10 l = if l < m * 8 then addN W k a b c l else oI (fstR W k l)
theorem AdI.n {M1 M2 : Mm} {W : Nat → Nat → Int32} {k : Nat} {a b c : Int32} {p q : Nat} (h : AdI M1 W k a b c (p * 8 + q) M2) (hk : k ≤ 12) (hq : q < 8) (h2 : ¬ (fitW a p = true ∧ fitW b q = true)) : AdI M1 W k a b c (p * 8 + (q + 1)) M2 := by
  refine ⟨h.1, fun l hl => ?_⟩
  rw [h.2 l hl]
  by_cases h3 : l < (p * 8 + q) * 8
  · rw [if_pos h3, if_pos (by omega)]
  · rw [if_neg h3]
    by_cases h4 : l < (p * 8 + (q + 1)) * 8
    · rw [if_pos h4, addN_eq l hk, show l / 64 = p by omega, show l / 8 % 8 = q by omega, if_neg]
      intro h5
      simp only [Bool.and_eq_true] at h5
      exact h2 h5.1.1
    · rw [if_neg h4]
theorem AdI.y {M1 M2 : Mm} {W : Nat → Nat → Int32} {k : Nat} {a b c : Int32} {p q : Nat} (h : AdI M1 W k a b c (p * 8 + q) M2) (hk : k ≤ 12) (hq : q < 8) (h1 : fitW a p = true) (h2 : fitW b q = true) : AdI M1 W k a b c (p * 8 + (q + 1)) (sI M2 10 (fitr (gI M2 10) c (nI k) ((p * 8 + q) * 8 + 0) 8)) := by
  refine ⟨h.1.I (by decide), fun l hl => ?_⟩
  rw [gI_sI]
  unfold fitr
  rw [h.2 l hl]
  by_cases h3 : l < (p * 8 + q) * 8
  · rw [if_neg (by omega), if_pos h3, if_pos (by omega)]
  · rw [if_neg h3]
    by_cases h4 : l < (p * 8 + (q + 1)) * 8
    · rw [if_pos h4, addN_eq l hk, show l / 64 = p by omega, show l / 8 % 8 = q by omega, show l - ((p * 8 + q) * 8 + 0) = l % 8 by omega, h1, h2]
      simp only [Bool.true_and]
      by_cases h5 : fitW c (l % 8) = true ∧ oI (fstR W k l) = -1
      · rw [if_pos h5, if_pos ⟨by omega, by omega, h5⟩]
      · rw [if_neg h5, if_neg (fun h6 => h5 h6.2.2)]
    · rw [if_neg h4, if_neg (by omega)]
def AdF (M : Mm) (k : Nat) (W : Nat → Nat → Int32) (pv : Nat → Nat) (a b c : Int32) (v : Nat) (M2 : Mm) : Prop := TbOK M2 (k + 1) (va_up W k (wsh a b c)) (va_up pv k v) ∧ Same [7, 8, 9, 10] M M2
set_option maxHeartbeats 4000000 in
set_option maxRecDepth 100000 in
theorem k_tadd {w : Bool} {M : Mm} {k : Nat} {W : Nat → Nat → Int32} {pv : Nat → Nat} (hT : TbOK M k W pv) (a b c : Int32) (v : Nat) (hk2 : k < 12) (hv2 : v ≤ 10000) (ha : okW a) (hb : okW b) (hc : okW c) : CT mX2_add [.ref 7, .int a, .int b, .int c, .int (nI v)] (shF w) M (Qi (nI k) (shF w) (AdF M k W pv a b c v)) := by
  refine CT.mk (lv := [(0, .ref 7), (1, .int a), (2, .int b), (3, .int c), (4, .int (nI v))]) rfl (by decide +kernel) (Nat.le_of_ble_eq_true rfl) ?_
  intro X C RT
  obtain ⟨hk, hk12, hW, hv, hf, hok⟩ := hT
  refine e_aload_n C dX2_add_0 rfl rfl ?_
  refine e_getI C dX2_add_1 fX2_21 rfl rfl ?_
  refine e_topi (nI k) hk ?_
  refine e_istore (lv2 := [(5, .int (nI k)), (0, .ref 7), (1, .int a), (2, .int b), (3, .int c), (4, .int (nI v))]) C dX2_add_4 (by decide) rfl ?_
  refine e_aload_n C dX2_add_6 rfl rfl ?_
  refine e_getR (q := 8) C dX2_add_7 fX2_9 rfl rfl ?_
  refine e_iload C dX2_add_10 rfl ?_
  refine e_iconst (v := (nI 3)) C dX2_add_12 (by decide) ?_
  refine e_imulN C dX2_add_13 ?_
  refine e_iload_n C dX2_add_14 rfl rfl ?_
  refine e_iastoreN C dX2_add_15 rfl (by omega) (by omega) ?_
  refine e_aload_n C dX2_add_16 rfl rfl ?_
  refine e_getR (q := 8) C dX2_add_17 fX2_9 rfl rfl ?_
  refine e_iload C dX2_add_20 rfl ?_
  refine e_iconst (v := (nI 3)) C dX2_add_22 (by decide) ?_
  refine e_imulN C dX2_add_23 ?_
  refine e_iconst (v := (nI 1)) C dX2_add_24 (by decide) ?_
  refine e_iaddN C dX2_add_25 ?_
  refine e_iload_n C dX2_add_26 rfl rfl ?_
  refine e_iastoreN C dX2_add_27 rfl (by omega) (by omega) ?_
  refine e_aload_n C dX2_add_28 rfl rfl ?_
  refine e_getR (q := 8) C dX2_add_29 fX2_9 rfl rfl ?_
  refine e_iload C dX2_add_32 rfl ?_
  refine e_iconst (v := (nI 3)) C dX2_add_34 (by decide) ?_
  refine e_imulN C dX2_add_35 ?_
  refine e_iconst (v := (nI 2)) C dX2_add_36 (by decide) ?_
  refine e_iaddN C dX2_add_37 ?_
  refine e_iload_n C dX2_add_38 rfl rfl ?_
  refine e_iastoreN C dX2_add_39 rfl (by omega) (by omega) ?_
  refine e_aload_n C dX2_add_40 rfl rfl ?_
  refine e_getR (q := 9) C dX2_add_41 fX2_15 rfl rfl ?_
  refine e_iload C dX2_add_44 rfl ?_
  refine e_iload C dX2_add_46 rfl ?_
  refine e_iastoreN C dX2_add_48 rfl (by omega) (by omega) ?_
  refine e_aload_n C dX2_add_49 rfl rfl ?_
  refine e_dup C dX2_add_50 rfl ?_
  refine e_getI C dX2_add_51 fX2_21 rfl rfl ?_
  refine e_topi (nI k) (by simp only [gI_sI_ne _ _ (show (7 : Nat) ≠ 8 by decide), gI_sI_ne _ _ (show (7 : Nat) ≠ 9 by decide)]; exact hk) ?_
  refine e_iconst (v := (nI 1)) C dX2_add_54 (by decide) ?_
  refine e_iaddN C dX2_add_55 ?_
  refine e_putI C dX2_add_56 pX2_21 rfl rfl rfl rfl ?_
  refine e_iconst (v := (nI 0)) C dX2_add_59 (by decide) ?_
  refine e_istore (lv2 := [(6, .int (nI 0)), (5, .int (nI k)), (0, .ref 7), (1, .int a), (2, .int b), (3, .int c), (4, .int (nI v))]) C dX2_add_60 (by decide) rfl ?_
  refine e_loc [2, 3, 4, 5, 6, 1, 0] rfl ?_
  refine e_nm (fun M1 hM1 => ?_)
  have e10 : gI M1 10 = gI M 10 := by rw [hM1]; simp only [gI_sI_ne _ _ (show (10 : Nat) ≠ 7 by decide), gI_sI_ne _ _ (show (10 : Nat) ≠ 8 by decide), gI_sI_ne _ _ (show (10 : Nat) ≠ 9 by decide)]
  have s1 : Same [7, 8, 9, 10] M M1 := by rw [hM1]; exact (((((Same.rf _ M).I (by decide)).I (by decide)).I (by decide)).I (by decide)).I (by decide)
  have e7 : gI M1 7 3 = nI (k + 1) := by rw [hM1, gI_sI, upd_s]
  have e9 : gI M1 9 = upd (gI M 9) k (nI v) := by rw [hM1, gI_sI_ne _ _ (by decide), gI_sI, gI_sI_ne _ _ (by decide), gI_sI_ne _ _ (by decide), gI_sI_ne _ _ (by decide)]
  have e8 : gI M1 8 = upd (upd (upd (gI M 8) (k * 3) a) (k * 3 + 1) b) (k * 3 + 2) c := by rw [hM1, gI_sI_ne _ _ (by decide), gI_sI_ne _ _ (by decide), gI_sI, gI_sI, gI_sI]
  have hfin : ∀ M2, AdI M1 W k a b c (8 * 8) M2 → AdF M k W pv a b c v M2 := by
    intro M2 hI
    refine ⟨⟨by rw [hI.1.gI (by decide)]; exact e7, by omega, ?_, ?_, ?_, ?_⟩, s1.tr (hI.1.up (by decide))⟩
    · intro i hi q hq
      rw [hI.1.gI (by decide), e8]
      by_cases h : i = k
      · subst h; rw [up_s]
        rcases (show q = 0 ∨ q = 1 ∨ q = 2 by omega) with rfl | rfl | rfl
        · rw [upd_n _ _ (by omega), upd_n _ _ (by omega)]; exact upd_s _ _ _
        · rw [upd_n _ _ (by omega)]; exact upd_s _ _ _
        · exact upd_s _ _ _
      · rw [up_n _ _ h, upd_n _ _ (by omega), upd_n _ _ (by omega), upd_n _ _ (by omega)]; exact hW i (by omega) q hq
    · intro i hi
      rw [hI.1.gI (by decide), e9]
      by_cases h : i = k
      · subst h; rw [up_s, upd_s]; exact ⟨rfl, hv2⟩
      · rw [up_n _ _ h, upd_n _ _ h]; exact hv i (by omega)
    · intro l hl; rw [hI.2 l hl, if_pos (by omega)]; rfl
    · intro i hi q hq
      by_cases h : i = k
      · subst h; rw [up_s]
        rcases (show q = 0 ∨ q = 1 ∨ q = 2 by omega) with rfl | rfl | rfl
        · exact ha
        · exact hb
        · exact hc
      · rw [up_n _ _ h]; exact hok i (by omega) q hq
  have lp : ∀ (p : Nat) (M2 : Mm), p ≤ 8 → AdI M1 W k a b c (p * 8) M2 → Wd X (0, 0) 62 [(0, .ref 7), (1, .int a), (2, .int b), (3, .int c), (4, .int (nI v)), (5, .int (nI k)), (6, .int (nI p))] [] (shF w) M2 := by
    intro p
    induction hq_lp : 8 - p using Nat.strongRecOn generalizing p with
    | ind k_lp ih_lp =>
      intro M2 hp hI2
      refine e_iload C dX2_add_62 rfl ?_
      refine e_bipush (v := (nI 8)) C dX2_add_64 (by decide) ?_
      refine e_icmp_geN (tgt := 124) C dX2_add_66 (by omega) (by omega) (by decide) (fun h66 => ?_) (fun h66 => ?_)
      · refine e_iload C dX2_add_124 rfl ?_
        exact e_zret C dX2_add_126 RT rfl ⟨Nat.zero_le _, Nat.zero_le _⟩ (qi_ rfl (hfin M2 (by rw [show p = 8 by omega] at hI2; exact hI2)))
      · refine e_iconst (v := (nI 0)) C dX2_add_69 (by decide) ?_
        refine e_istore (lv2 := [(7, .int (nI 0)), (0, .ref 7), (1, .int a), (2, .int b), (3, .int c), (4, .int (nI v)), (5, .int (nI k)), (6, .int (nI p))]) C dX2_add_70 (by decide) rfl ?_
        refine e_loc [1, 2, 3, 4, 5, 6, 7, 0] rfl ?_
        have lq : ∀ (q : Nat) (M3 : Mm), q ≤ 8 → AdI M1 W k a b c (p * 8 + q) M3 → Wd X (0, 0) 72 [(0, .ref 7), (1, .int a), (2, .int b), (3, .int c), (4, .int (nI v)), (5, .int (nI k)), (6, .int (nI p)), (7, .int (nI q))] [] (shF w) M3 := by
          intro q
          induction hq_lq : 8 - q using Nat.strongRecOn generalizing q with
          | ind k_lq ih_lq =>
            intro M3 hq hI3
            refine e_iload C dX2_add_72 rfl ?_
            refine e_bipush (v := (nI 8)) C dX2_add_74 (by decide) ?_
            refine e_icmp_geN (tgt := 118) C dX2_add_76 (by omega) (by omega) (by decide) (fun h76 => ?_) (fun h76 => ?_)
            · refine e_iincN (lv2 := [(6, .int (nI (p + 1))), (0, .ref 7), (1, .int a), (2, .int b), (3, .int c), (4, .int (nI v)), (5, .int (nI k)), (7, .int (nI q))]) C dX2_add_118 rfl (by decide) (nI_1 _) rfl ?_
              refine e_goto (tgt := 62) C dX2_add_121 (by decide) ?_
              refine e_loc [1, 2, 3, 4, 5, 6, 0] rfl ?_
              exact ih_lp (8 - (p + 1)) (by omega) (p + 1) rfl M3 (by omega) (by rw [show (p + 1) * 8 = p * 8 + q by omega]; exact hI3)
            · refine e_iload_n C dX2_add_79 rfl rfl ?_
              refine e_iload C dX2_add_80 rfl ?_
              refine e_callSi C dX2_add_82 [.int a, .int (nI p)] (k_fits a (nI p)) okX2_fits lX2_31 rfl ⟨rfl, rfl⟩ ⟨Nat.le_of_ble_eq_true rfl, Nat.le_of_ble_eq_true rfl⟩ (Nat.le_of_ble_eq_true rfl) ⟨Nat.zero_le _, Nat.zero_le _⟩ ?_
              refine e_if_eqB (b := decide (a = -1) || decide (a = (nI p))) (tgt := 112) C dX2_add_85 (by decide) (fun h85 => ?_) (fun h85 => ?_)
              · refine e_iincN (lv2 := [(7, .int (nI (q + 1))), (0, .ref 7), (1, .int a), (2, .int b), (3, .int c), (4, .int (nI v)), (5, .int (nI k)), (6, .int (nI p))]) C dX2_add_112 rfl (by decide) (nI_1 _) rfl ?_
                refine e_goto (tgt := 72) C dX2_add_115 (by decide) ?_
                refine e_loc [1, 2, 3, 4, 5, 6, 7, 0] rfl ?_
                exact ih_lq (8 - (q + 1)) (by omega) (q + 1) rfl M3 (by omega) (hI3.n hk12 (by omega) (fun h => by have h9 := h.1; unfold fitW at h9; rw [h85] at h9; cases h9))
              · refine e_iload_n C dX2_add_88 rfl rfl ?_
                refine e_iload C dX2_add_89 rfl ?_
                refine e_callSi C dX2_add_91 [.int b, .int (nI q)] (k_fits b (nI q)) okX2_fits lX2_31 rfl ⟨rfl, rfl⟩ ⟨Nat.le_of_ble_eq_true rfl, Nat.le_of_ble_eq_true rfl⟩ (Nat.le_of_ble_eq_true rfl) ⟨Nat.zero_le _, Nat.zero_le _⟩ ?_
                refine e_if_eqB (b := decide (b = -1) || decide (b = (nI q))) (tgt := 112) C dX2_add_94 (by decide) (fun h94 => ?_) (fun h94 => ?_)
                · refine e_iincN (lv2 := [(7, .int (nI (q + 1))), (0, .ref 7), (1, .int a), (2, .int b), (3, .int c), (4, .int (nI v)), (5, .int (nI k)), (6, .int (nI p))]) C dX2_add_112 rfl (by decide) (nI_1 _) rfl ?_
                  refine e_goto (tgt := 72) C dX2_add_115 (by decide) ?_
                  refine e_loc [1, 2, 3, 4, 5, 6, 7, 0] rfl ?_
                  exact ih_lq (8 - (q + 1)) (by omega) (q + 1) rfl M3 (by omega) (hI3.n hk12 (by omega) (fun h => by have h9 := h.2; unfold fitW at h9; rw [h94] at h9; cases h9))
                · refine e_aload_n C dX2_add_97 rfl rfl ?_
                  refine e_iload_n C dX2_add_98 rfl rfl ?_
                  refine e_iload C dX2_add_99 rfl ?_
                  refine e_iload C dX2_add_101 rfl ?_
                  refine e_iload C dX2_add_103 rfl ?_
                  refine e_iconst (v := (nI 0)) C dX2_add_105 (by decide) ?_
                  refine e_callSi C dX2_add_106 [.int (nI p), .int (nI q), .int (nI 0)] (k_lineOf p q 0) okX7_lineOf lX2_35 rfl ⟨rfl, rfl⟩ ⟨Nat.le_of_ble_eq_true rfl, Nat.le_of_ble_eq_true rfl⟩ (Nat.le_of_ble_eq_true rfl) ⟨Nat.zero_le _, Nat.zero_le _⟩ ?_
                  refine e_callVv C dX2_add_109 [.int c, .int (nI k), .int (nI ((p * 8 + q) * 8 + 0))] (k_fitLast c (nI k) ((p * 8 + q) * 8 + 0) (by omega)) okX2_fitLast lX2_39 rfl rfl rfl rfl ⟨rfl, rfl⟩ ⟨Nat.le_of_ble_eq_true rfl, Nat.le_of_ble_eq_true rfl⟩ (Nat.le_of_ble_eq_true rfl) ⟨Nat.zero_le _, Nat.zero_le _⟩ ?_
                  refine e_iincN (lv2 := [(7, .int (nI (q + 1))), (0, .ref 7), (1, .int a), (2, .int b), (3, .int c), (4, .int (nI v)), (5, .int (nI k)), (6, .int (nI p))]) C dX2_add_112 rfl (by decide) (nI_1 _) rfl ?_
                  refine e_goto (tgt := 72) C dX2_add_115 (by decide) ?_
                  refine e_loc [1, 2, 3, 4, 5, 6, 7, 0] rfl ?_
                  exact ih_lq (8 - (q + 1)) (by omega) (q + 1) rfl (sI M3 10 (fitr (gI M3 10) c (nI k) ((p * 8 + q) * 8 + 0) 8)) (by omega) (hI3.y hk12 (by omega) h85 h94)
        exact lq 0 M2 (by omega) hI2
  exact lp 0 M1 (by omega) ⟨Same.rf _ _, fun l hl => by rw [e10, hf l hl, if_neg (by omega)]⟩
set_option maxHeartbeats 4000000 in
set_option maxRecDepth 100000 in
theorem k_empty {w : Bool} {M : Mm} {k : Nat} {W : Nat → Nat → Int32} {pv : Nat → Nat} (hT : TbOK M k W pv)  : CT mX2_empty [.ref 7] (shF w) M (Qi (nI k) (shF w) (fun M2 => TbOK M2 0 W pv ∧ Same [7, 8, 9, 10] M M2)) := by
  refine CT.mk (lv := [(0, .ref 7)]) rfl (by decide +kernel) (Nat.le_of_ble_eq_true rfl) ?_
  intro X C RT
  refine e_aload_n C dX2_empty_0 rfl rfl ?_
  refine e_getI C dX2_empty_1 fX2_21 rfl rfl ?_
  refine e_topi (nI k) hT.1 ?_
  refine e_istore_n (lv2 := [(1, .int (nI k)), (0, .ref 7)]) C dX2_empty_4 rfl (by decide) rfl ?_
  refine e_aload_n C dX2_empty_5 rfl rfl ?_
  refine e_iconst (v := (nI 0)) C dX2_empty_6 (by decide) ?_
  refine e_putI C dX2_empty_7 pX2_21 rfl rfl rfl rfl ?_
  refine e_aload_n C dX2_empty_10 rfl rfl ?_
  refine e_getR (q := 10) C dX2_empty_11 fX2_18 rfl rfl ?_
  refine e_iconst (v := (-1)) C dX2_empty_14 (by decide) ?_
  refine e_callSv C dX2_empty_15 [.ref 10, .int (-1)] (k_fillI (-1) rfl (by decide)) okJ7_fill_53178 lX2_25 rfl rfl ⟨rfl, rfl⟩ ⟨Nat.le_of_ble_eq_true rfl, Nat.le_of_ble_eq_true rfl⟩ (Nat.le_of_ble_eq_true rfl) ⟨Nat.zero_le _, Nat.zero_le _⟩ ?_
  refine e_iload_n C dX2_empty_18 rfl rfl ?_
  exact e_zret C dX2_empty_19 RT rfl ⟨Nat.zero_le _, Nat.zero_le _⟩ (qi_ rfl ⟨⟨by rw [gI_sI_ne _ _ (by decide), gI_sI, upd_s], by omega, fun i hi => absurd hi (by omega), fun i hi => absurd hi (by omega), fun l hl => by rw [gI_sI]; simp [fillr, hl, fstR, fstb, oI], fun i hi => absurd hi (by omega)⟩, ((Same.rf _ M).I (by decide)).I (by decide)⟩)
def mixT (W : Nat → Nat → Int32) (pv : Nat → Nat) (h : Int64) : Nat → Int64
  | 0 => h
  | i + 1 => lN 31 * mixR (fun q => (W i q).toInt64) (mixT W pv h i) 3 + lN (pv i)
set_option maxHeartbeats 4000000 in
set_option maxRecDepth 100000 in
theorem k_tmix {w : Bool} {M : Mm} {k : Nat} {W : Nat → Nat → Int32} {pv : Nat → Nat} (hT : TbOK M k W pv) (h : Int64) : CT mX2_mixedInto [.ref 7, .long h] (shF w) M (Pl (mixT W pv h k) (shF w) M) := by
  refine CT.mk (lv := [(0, .ref 7), (1, .long h)]) rfl (by decide +kernel) (Nat.le_of_ble_eq_true rfl) ?_
  intro X C RT
  obtain ⟨hk, hk12, hW, hv, hf, hok⟩ := id hT
  have lp : ∀ (i : Nat) (x9 : Int64), i ≤ k → x9 = mixT W pv h i → Wd X (0, 0) 5 [(0, .ref 7), (1, .long h), (3, .long x9), (5, .int (nI i))] [] (shF w) M := by
    intro i
    induction hq_lp : k - i using Nat.strongRecOn generalizing i with
    | ind k_lp ih_lp =>
      intro x9 hi hx9
      have hvi := fun h => (hv i h).2
      refine e_iload C dX2_mixedInto_5 rfl ?_
      refine e_aload_n C dX2_mixedInto_7 rfl rfl ?_
      refine e_getI C dX2_mixedInto_8 fX2_21 rfl rfl ?_
      refine e_topi (nI k) hk ?_
      refine e_icmp_geN (tgt := 70) C dX2_mixedInto_11 (by omega) (by omega) (by decide) (fun h11 => ?_) (fun h11 => ?_)
      · refine e_lload_n C dX2_mixedInto_70 rfl rfl ?_
        exact e_lret C dX2_mixedInto_71 RT ⟨Nat.zero_le _, Nat.zero_le _⟩ (pl_ (by rw [hx9, show i = k by omega]))
      · refine e_iconst (v := (nI 0)) C dX2_mixedInto_14 (by decide) ?_
        refine e_istore (lv2 := [(6, .int (nI 0)), (0, .ref 7), (1, .long h), (3, .long x9), (5, .int (nI i))]) C dX2_mixedInto_15 (by decide) rfl ?_
        refine e_loc [1, 2, 3, 4, 0] rfl ?_
        have lq : ∀ (q : Nat) (y : Int64), q ≤ 3 → y = mixR (fun q => (W i q).toInt64) x9 q → Wd X (0, 0) 17 [(0, .ref 7), (1, .long h), (3, .long y), (5, .int (nI i)), (6, .int (nI q))] [] (shF w) M := by
          intro q
          induction hq_lq : 3 - q using Nat.strongRecOn generalizing q with
          | ind k_lq ih_lq =>
            intro y hq hy
            refine e_iload C dX2_mixedInto_17 rfl ?_
            refine e_iconst (v := (nI 3)) C dX2_mixedInto_19 (by decide) ?_
            refine e_icmp_geN (tgt := 49) C dX2_mixedInto_20 (by omega) (by omega) (by decide) (fun h20 => ?_) (fun h20 => ?_)
            · refine e_ldc2 (v := lN 31) C dX2_mixedInto_49 kX2_43 ?_
              refine e_lload_n C dX2_mixedInto_52 rfl rfl ?_
              refine e_lmul C dX2_mixedInto_53 ?_
              refine e_aload_n C dX2_mixedInto_54 rfl rfl ?_
              refine e_getR (q := 9) C dX2_mixedInto_55 fX2_15 rfl rfl ?_
              refine e_iload C dX2_mixedInto_58 rfl ?_
              refine e_ialoadN C dX2_mixedInto_60 rfl (by omega) (by omega) ?_
              refine e_topi (nI (pv i)) ((hv i (by omega)).1) ?_
              have hvi2 := hvi (by omega)
              refine e_i2lN C dX2_mixedInto_61 (by omega) ?_
              refine e_ladd C dX2_mixedInto_62 ?_
              refine e_lstore_n (lv2 := [(3, .long (((lN 31) * y) + (lN (pv i)))), (0, .ref 7), (1, .long h), (5, .int (nI i)), (6, .int (nI q))]) C dX2_mixedInto_63 rfl (by decide) rfl ?_
              refine e_iincN (lv2 := [(5, .int (nI (i + 1))), (3, .long (((lN 31) * y) + (lN (pv i)))), (0, .ref 7), (1, .long h), (6, .int (nI q))]) C dX2_mixedInto_64 rfl (by decide) (nI_1 _) rfl ?_
              refine e_goto (tgt := 5) C dX2_mixedInto_67 (by decide) ?_
              refine e_loc [2, 3, 1, 0] rfl ?_
              exact ih_lp (k - (i + 1)) (by omega) (i + 1) rfl (((lN 31) * y) + (lN (pv i))) (by omega) (by simp only [mixT]; rw [← hx9, hy, show q = 3 by omega])
            · refine e_ldc2 (v := lN 31) C dX2_mixedInto_23 kX2_43 ?_
              refine e_lload_n C dX2_mixedInto_26 rfl rfl ?_
              refine e_lmul C dX2_mixedInto_27 ?_
              refine e_aload_n C dX2_mixedInto_28 rfl rfl ?_
              refine e_getR (q := 8) C dX2_mixedInto_29 fX2_9 rfl rfl ?_
              refine e_iload C dX2_mixedInto_32 rfl ?_
              refine e_iconst (v := (nI 3)) C dX2_mixedInto_34 (by decide) ?_
              refine e_imulN C dX2_mixedInto_35 ?_
              refine e_iload C dX2_mixedInto_36 rfl ?_
              refine e_iaddN C dX2_mixedInto_38 ?_
              refine e_ialoadN C dX2_mixedInto_39 rfl (by omega) (by omega) ?_
              refine e_topi (W i q) (hW i (by omega) q (by omega)) ?_
              refine e_i2l C dX2_mixedInto_40 ?_
              refine e_ladd C dX2_mixedInto_41 ?_
              refine e_lstore_n (lv2 := [(3, .long (((lN 31) * y) + ((W i q).toInt64))), (0, .ref 7), (1, .long h), (5, .int (nI i)), (6, .int (nI q))]) C dX2_mixedInto_42 rfl (by decide) rfl ?_
              refine e_iincN (lv2 := [(6, .int (nI (q + 1))), (3, .long (((lN 31) * y) + ((W i q).toInt64))), (0, .ref 7), (1, .long h), (5, .int (nI i))]) C dX2_mixedInto_43 rfl (by decide) (nI_1 _) rfl ?_
              refine e_goto (tgt := 17) C dX2_mixedInto_46 (by decide) ?_
              refine e_loc [2, 3, 1, 4, 0] rfl ?_
              exact ih_lq (3 - (q + 1)) (by omega) (q + 1) rfl (((lN 31) * y) + ((W i q).toInt64)) (by omega) (by simp only [mixR]; rw [← hy])
        exact lq 0 x9 (by omega) rfl
  refine e_lload_n C dX2_mixedInto_0 rfl rfl ?_
  refine e_lstore_n (lv2 := [(3, .long h), (0, .ref 7), (1, .long h)]) C dX2_mixedInto_1 rfl (by decide) rfl ?_
  refine e_iconst (v := (nI 0)) C dX2_mixedInto_2 (by decide) ?_
  refine e_istore (lv2 := [(5, .int (nI 0)), (3, .long h), (0, .ref 7), (1, .long h)]) C dX2_mixedInto_3 (by decide) rfl ?_
  refine e_loc [2, 3, 1, 0] rfl ?_
  exact lp 0 h (by omega) rfl
