def SgOK (M : Mm) (g : Nat) (q : Nat → Nat → Nat) : Prop := gI M 18 1 = nI g ∧ g ≤ 200 ∧ ∀ r, r < 3 → ∀ s, s < 20 → gI M 19 (r * 20 + s) = nI (cntb (fun i => decide (q i r = s)) g)
theorem SgOK.same {M M2 : Mm} {g : Nat} {q : Nat → Nat → Nat} (h : SgOK M g q) (h1 : gI M2 18 = gI M 18) (h2 : gI M2 19 = gI M 19) : SgOK M2 g q := ⟨by rw [h1]; exact h.1, h.2.1, by rw [h2]; exact h.2.2⟩
theorem cntb_le (f : Nat → Bool) : ∀ k, cntb f k ≤ k
  | 0 => Nat.le_refl 0
  | k + 1 => by have := cntb_le f k; unfold cntb; split <;> omega
def wsh3 (a b c : Nat) : Nat → Nat := fun r => if r = 0 then a else if r = 1 then b else c
set_option maxHeartbeats 4000000 in
set_option maxRecDepth 100000 in
theorem k_forget {w : Bool} {M : Mm} {q : Nat → Nat → Nat} : CT mX3_forget [.ref 18] (shF w) M (Qv (shF w) (fun M2 => SgOK M2 0 q ∧ Same [18, 19] M M2)) := by
  refine CT.mk (lv := [(0, .ref 18)]) rfl (by decide +kernel) (Nat.le_of_ble_eq_true rfl) ?_
  intro X C RT
  refine e_aload_n C dX3_forget_0 rfl rfl ?_
  refine e_iconst (v := (nI 0)) C dX3_forget_1 (by decide) ?_
  refine e_putI C dX3_forget_2 pX3_15 rfl rfl rfl rfl ?_
  refine e_aload_n C dX3_forget_5 rfl rfl ?_
  refine e_getR (q := 19) C dX3_forget_6 fX3_9 rfl rfl ?_
  refine e_iconst (v := (nI 0)) C dX3_forget_9 (by decide) ?_
  refine e_callSv C dX3_forget_10 [.ref 19, .int (nI 0)] (k_fillI (nI 0) rfl (by decide)) okJ7_fill_53178 lX3_19 rfl rfl ⟨rfl, rfl⟩ ⟨Nat.le_of_ble_eq_true rfl, Nat.le_of_ble_eq_true rfl⟩ (Nat.le_of_ble_eq_true rfl) ⟨Nat.zero_le _, Nat.zero_le _⟩ ?_
  exact e_vret C dX3_forget_13 RT ⟨Nat.zero_le _, Nat.zero_le _⟩ (qv_ ⟨⟨by rw [gI_sI_ne _ _ (by decide), gI_sI, upd_s], by omega, fun r hr s hs => by rw [gI_sI]; unfold fillr; rw [if_pos (by omega)]; rfl⟩, ((Same.rf _ M).I (by decide)).I (by decide)⟩)
set_option maxHeartbeats 4000000 in
set_option maxRecDepth 100000 in
theorem k_times {w : Bool} {M : Mm} {g : Nat} {q : Nat → Nat → Nat} (hG : SgOK M g q) (r s : Nat) (hr : r < 3) (hs : s < 20) : CT mX3_times [.ref 18, .int (nI r), .int (nI s)] (shF w) M (Pi (nI (cntb (fun i => decide (q i r = s)) g)) (shF w) M) := by
  refine CT.mk (lv := [(0, .ref 18), (1, .int (nI r)), (2, .int (nI s))]) rfl (by decide +kernel) (Nat.le_of_ble_eq_true rfl) ?_
  intro X C RT
  refine e_aload_n C dX3_times_0 rfl rfl ?_
  refine e_getR (q := 19) C dX3_times_1 fX3_9 rfl rfl ?_
  refine e_iload_n C dX3_times_4 rfl rfl ?_
  refine e_bipush (v := (nI 20)) C dX3_times_5 (by decide) ?_
  refine e_imulN C dX3_times_7 ?_
  refine e_iload_n C dX3_times_8 rfl rfl ?_
  refine e_iaddN C dX3_times_9 ?_
  refine e_ialoadN C dX3_times_10 rfl (by omega) (by omega) ?_
  exact e_zret C dX3_times_11 RT rfl ⟨Nat.zero_le _, Nat.zero_le _⟩ (pi_ (hG.2.2 r hr s hs))
set_option maxHeartbeats 4000000 in
set_option maxRecDepth 100000 in
theorem k_mostSeen {w : Bool} {M : Mm} {g : Nat} {q : Nat → Nat → Nat} (hG : SgOK M g q) (r : Nat) (hr : r < 3) : CT mX3_mostSeen [.ref 18, .int (nI r)] (shF w) M (Pi (nI (bstH (fun s => cntb (fun i => decide (q i r = s)) g) 19)) (shF w) M) := by
  refine CT.mk (lv := [(0, .ref 18), (1, .int (nI r))]) rfl (by decide +kernel) (Nat.le_of_ble_eq_true rfl) ?_
  intro X C RT
  have hg := hG.2.1
  have lp : ∀ (j : Nat) (bb : Nat), j ≤ 19 → bb = bstH (fun s => cntb (fun i => decide (q i r = s)) g) j → Wd X (0, 0) 4 [(0, .ref 18), (1, .int (nI r)), (2, .int (nI bb)), (3, .int (nI (j + 1)))] [] (shF w) M := by
    intro j
    induction hq_lp : 19 - j using Nat.strongRecOn generalizing j with
    | ind k_lp ih_lp =>
      intro bb hj hb2
      have hbl := bstH_le (fun s => cntb (fun i => decide (q i r = s)) g) j
      refine e_iload_n C dX3_mostSeen_4 rfl rfl ?_
      refine e_bipush (v := (nI 20)) C dX3_mostSeen_5 (by decide) ?_
      refine e_icmp_geN (tgt := 33) C dX3_mostSeen_7 (by omega) (by omega) (by decide) (fun h7 => ?_) (fun h7 => ?_)
      · refine e_iload_n C dX3_mostSeen_33 rfl rfl ?_
        exact e_zret C dX3_mostSeen_34 RT rfl ⟨Nat.zero_le _, Nat.zero_le _⟩ (pi_ (congrArg nI (by rw [hb2, show j = 19 by omega])))
      · refine e_aload_n C dX3_mostSeen_10 rfl rfl ?_
        refine e_iload_n C dX3_mostSeen_11 rfl rfl ?_
        refine e_iload_n C dX3_mostSeen_12 rfl rfl ?_
        have ht1 := cntb_le (fun i => decide (q i r = (j + 1))) g
        refine e_callVi C dX3_mostSeen_13 [.int (nI r), .int (nI (j + 1))] (k_times hG r (j + 1) (by omega) (by omega)) okX3_times lX3_25 rfl rfl rfl ⟨rfl, rfl⟩ ⟨Nat.le_of_ble_eq_true rfl, Nat.le_of_ble_eq_true rfl⟩ (Nat.le_of_ble_eq_true rfl) ⟨Nat.zero_le _, Nat.zero_le _⟩ ?_
        refine e_aload_n C dX3_mostSeen_16 rfl rfl ?_
        refine e_iload_n C dX3_mostSeen_17 rfl rfl ?_
        refine e_iload_n C dX3_mostSeen_18 rfl rfl ?_
        have ht2 := cntb_le (fun i => decide (q i r = bb)) g
        refine e_callVi C dX3_mostSeen_19 [.int (nI r), .int (nI bb)] (k_times hG r bb (by omega) (by omega)) okX3_times lX3_25 rfl rfl rfl ⟨rfl, rfl⟩ ⟨Nat.le_of_ble_eq_true rfl, Nat.le_of_ble_eq_true rfl⟩ (Nat.le_of_ble_eq_true rfl) ⟨Nat.zero_le _, Nat.zero_le _⟩ ?_
        refine e_icmp_leN (tgt := 27) C dX3_mostSeen_22 (by omega) (by omega) (by decide) (fun h22 => ?_) (fun h22 => ?_)
        · refine e_iincN (lv2 := [(3, .int (nI (j + 1 + 1))), (0, .ref 18), (1, .int (nI r)), (2, .int (nI bb))]) C dX3_mostSeen_27 rfl (by decide) (nI_1 _) rfl ?_
          refine e_goto (tgt := 4) C dX3_mostSeen_30 (by decide) ?_
          refine e_loc [1, 2, 3, 0] rfl ?_
          exact ih_lp (19 - (j + 1)) (by omega) (j + 1) rfl bb (by omega) (by show _ = bstH (fun s => cntb (fun i => decide (q i r = s)) g) (j + 1); unfold bstH; rw [← hb2, if_neg (by first | omega | (dsimp only; omega))])
        · refine e_iload_n C dX3_mostSeen_25 rfl rfl ?_
          refine e_istore_n (lv2 := [(2, .int (nI (j + 1))), (0, .ref 18), (1, .int (nI r)), (3, .int (nI (j + 1)))]) C dX3_mostSeen_26 rfl (by decide) rfl ?_
          refine e_iincN (lv2 := [(3, .int (nI (j + 1 + 1))), (2, .int (nI (j + 1))), (0, .ref 18), (1, .int (nI r))]) C dX3_mostSeen_27 rfl (by decide) (nI_1 _) rfl ?_
          refine e_goto (tgt := 4) C dX3_mostSeen_30 (by decide) ?_
          refine e_loc [2, 3, 1, 0] rfl ?_
          exact ih_lp (19 - (j + 1)) (by omega) (j + 1) rfl (j + 1) (by omega) (by show _ = bstH (fun s => cntb (fun i => decide (q i r = s)) g) (j + 1); unfold bstH; rw [← hb2, if_pos (by first | omega | (dsimp only; omega))])
  refine e_iconst (v := (nI 0)) C dX3_mostSeen_0 (by decide) ?_
  refine e_istore_n (lv2 := [(2, .int (nI 0)), (0, .ref 18), (1, .int (nI r))]) C dX3_mostSeen_1 rfl (by decide) rfl ?_
  refine e_iconst (v := (nI 1)) C dX3_mostSeen_2 (by decide) ?_
  refine e_istore_n (lv2 := [(3, .int (nI 1)), (2, .int (nI 0)), (0, .ref 18), (1, .int (nI r))]) C dX3_mostSeen_3 rfl (by decide) rfl ?_
  refine e_loc [2, 3, 1, 0] rfl ?_
  exact lp 0 0 (by omega) rfl
def SgF (M : Mm) (g : Nat) (q : Nat → Nat → Nat) (a b c : Nat) (M2 : Mm) : Prop := (if g < 200 then SgOK M2 (g + 1) (va_up q g (wsh3 a b c)) else SgOK M2 g q) ∧ Same [18, 19] M M2
theorem cntb_congr {f g : Nat → Bool} : ∀ {k : Nat}, (∀ i, i < k → f i = g i) → cntb f k = cntb g k
  | 0, _ => rfl
  | k + 1, h => by simp only [cntb]; rw [cntb_congr (k := k) (fun i hi => h i (by omega)), h k (by omega)]
theorem cnt_up {q : Nat → Nat → Nat} {g : Nat} {x : Nat → Nat} (r s : Nat) : cntb (fun i => decide (va_up q g x i r = s)) (g + 1) = cntb (fun i => decide (q i r = s)) g + (if x r = s then 1 else 0) := by
  have h9 : va_up q g x g = x := up_s _ _ _
  simp only [cntb, h9]
  rw [cntb_congr (g := fun i => decide (q i r = s)) (fun i hi => by rw [up_n _ _ (by omega)])]
  by_cases h : x r = s <;> simp [h]
theorem seen3 {a b c r s : Nat} (hr : r < 3) (hs : s < 20) (ha : a < 20) (hb : b < 20) (hc : c < 20) : iw (r * 20 + s = a) 1 + iw (r * 20 + s = 20 + b) 1 + iw (r * 20 + s = 40 + c) 1 = if wsh3 a b c r = s then 1 else 0 := by
  unfold iw wsh3
  rcases (show r = 0 ∨ r = 1 ∨ r = 2 by omega) with rfl | rfl | rfl
  · rw [if_neg (show ¬ 0 * 20 + s = 20 + b by omega), if_neg (show ¬ 0 * 20 + s = 40 + c by omega), if_pos rfl]
    by_cases h : a = s
    · rw [if_pos h, if_pos (by omega)]
    · rw [if_neg h, if_neg (by omega)]
  · rw [if_neg (show ¬ 1 * 20 + s = a by omega), if_neg (show ¬ 1 * 20 + s = 40 + c by omega), if_neg (show ¬ (1 : Nat) = 0 by decide), if_pos rfl]
    by_cases h : b = s
    · rw [if_pos h, if_pos (by omega)]
    · rw [if_neg h, if_neg (by omega)]
  · rw [if_neg (show ¬ 2 * 20 + s = a by omega), if_neg (show ¬ 2 * 20 + s = 20 + b by omega), if_neg (show ¬ (2 : Nat) = 0 by decide), if_neg (show ¬ (2 : Nat) = 1 by decide)]
    by_cases h : c = s
    · rw [if_pos h, if_pos (by omega)]
    · rw [if_neg h, if_neg (by omega)]
theorem add1I {f : Nat → Int32} {u : Nat → Nat} {N i : Nat} (h : ∀ j, j < N → f j = nI (u j)) (hi : i < N) : ∀ j, j < N → upd f i (nI (u i + 1)) j = nI (u j + iw (j = i) 1) := by
  intro j hj
  unfold iw
  by_cases e : j = i
  · subst e; rw [upd_s, if_pos rfl]
  · rw [upd_n _ _ e, if_neg e, h j hj]; rfl
set_option maxHeartbeats 4000000 in
set_option maxRecDepth 100000 in
theorem k_gadd {w : Bool} {M : Mm} {g : Nat} {q : Nat → Nat → Nat} (hG : SgOK M g q) (a b c : Nat) (ha : a < 20) (hb : b < 20) (hc : c < 20) : CT mX3_add [.ref 18, .int (nI a), .int (nI b), .int (nI c)] (shF w) M (Qv (shF w) (SgF M g q a b c)) := by
  refine CT.mk (lv := [(0, .ref 18), (1, .int (nI a)), (2, .int (nI b)), (3, .int (nI c))]) rfl (by decide +kernel) (Nat.le_of_ble_eq_true rfl) ?_
  intro X C RT
  obtain ⟨g1, g2, g3⟩ := id hG
  obtain ⟨u, hu⟩ : ∃ u : Nat → Nat, u = fun j => cntb (fun i => decide (q i (j / 20) = j % 20)) g := ⟨_, rfl⟩
  have u0 : ∀ j, j < 60 → gI M 19 j = nI (u j) := by
    intro j hj
    have h9 := g3 (j / 20) (by omega) (j % 20) (by omega)
    rw [show j / 20 * 20 + j % 20 = j by omega] at h9
    rw [h9, hu]
  refine e_aload_n C dX3_add_0 rfl rfl ?_
  refine e_getI C dX3_add_1 fX3_15 rfl rfl ?_
  refine e_topi (nI g) g1 ?_
  refine e_sipush (v := (nI 200)) C dX3_add_4 (by decide) ?_
  refine e_icmp_ltN (tgt := 11) C dX3_add_7 (by omega) (by omega) (by decide) (fun h7 => ?_) (fun h7 => ?_)
  · refine e_aload_n C dX3_add_11 rfl rfl ?_
    refine e_dup C dX3_add_12 rfl ?_
    refine e_getI C dX3_add_13 fX3_15 rfl rfl ?_
    refine e_topi (nI g) g1 ?_
    refine e_iconst (v := (nI 1)) C dX3_add_16 (by decide) ?_
    refine e_iaddN C dX3_add_17 ?_
    refine e_putI C dX3_add_18 pX3_15 rfl rfl rfl rfl ?_
    refine e_nm (fun M1 hM1 => ?_)
    have u1 : ∀ j, j < 60 → gI M1 19 j = nI (u j) := by rw [hM1, gI_sI_ne _ _ (by decide)]; exact u0
    have s1 : Same [18, 19] M M1 := by rw [hM1]; exact (Same.rf _ M).I (by decide)
    have q1 : gI M1 18 1 = nI (g + 1) := by rw [hM1, gI_sI, upd_s]
    refine e_aload_n C dX3_add_21 rfl rfl ?_
    refine e_getR (q := 19) C dX3_add_22 fX3_9 rfl rfl ?_
    refine e_iload_n C dX3_add_25 rfl rfl ?_
    refine e_dup2 C dX3_add_26 rfl rfl ?_
    refine e_ialoadN C dX3_add_27 rfl (by omega) (by omega) ?_
    refine e_topi (nI (u a)) (u1 a (by omega)) ?_
    refine e_iconst (v := (nI 1)) C dX3_add_28 (by decide) ?_
    refine e_iaddN C dX3_add_29 ?_
    refine e_iastoreN C dX3_add_30 rfl (by omega) (by omega) ?_
    refine e_nm (fun M2 hM2 => ?_)
    have u2 : ∀ j, j < 60 → gI M2 19 j = nI (u j + iw (j = a) 1) := by rw [hM2, gI_sI]; exact add1I (u := fun j => u j) u1 (by omega)
    have s2 : Same [18, 19] M M2 := by rw [hM2]; exact s1.I (by decide)
    have q2 : gI M2 18 1 = nI (g + 1) := by rw [hM2, gI_sI_ne _ _ (by decide)]; exact q1
    refine e_aload_n C dX3_add_31 rfl rfl ?_
    refine e_getR (q := 19) C dX3_add_32 fX3_9 rfl rfl ?_
    refine e_bipush (v := (nI 20)) C dX3_add_35 (by decide) ?_
    refine e_iload_n C dX3_add_37 rfl rfl ?_
    refine e_iaddN C dX3_add_38 ?_
    refine e_dup2 C dX3_add_39 rfl rfl ?_
    refine e_ialoadN C dX3_add_40 rfl (by omega) (by omega) ?_
    refine e_topi (nI (u (20 + b) + iw ((20 + b) = a) 1)) (u2 (20 + b) (by omega)) ?_
    refine e_iconst (v := (nI 1)) C dX3_add_41 (by decide) ?_
    refine e_iaddN C dX3_add_42 ?_
    refine e_iastoreN C dX3_add_43 rfl (by omega) (by omega) ?_
    refine e_nm (fun M3 hM3 => ?_)
    have u3 : ∀ j, j < 60 → gI M3 19 j = nI (u j + iw (j = a) 1 + iw (j = 20 + b) 1) := by rw [hM3, gI_sI]; exact add1I (u := fun j => u j + iw (j = a) 1) u2 (by omega)
    have s3 : Same [18, 19] M M3 := by rw [hM3]; exact s2.I (by decide)
    have q3 : gI M3 18 1 = nI (g + 1) := by rw [hM3, gI_sI_ne _ _ (by decide)]; exact q2
    refine e_aload_n C dX3_add_44 rfl rfl ?_
    refine e_getR (q := 19) C dX3_add_45 fX3_9 rfl rfl ?_
    refine e_bipush (v := (nI 40)) C dX3_add_48 (by decide) ?_
    refine e_iload_n C dX3_add_50 rfl rfl ?_
    refine e_iaddN C dX3_add_51 ?_
    refine e_dup2 C dX3_add_52 rfl rfl ?_
    refine e_ialoadN C dX3_add_53 rfl (by omega) (by omega) ?_
    refine e_topi (nI (u (40 + c) + iw ((40 + c) = a) 1 + iw ((40 + c) = 20 + b) 1)) (u3 (40 + c) (by omega)) ?_
    refine e_iconst (v := (nI 1)) C dX3_add_54 (by decide) ?_
    refine e_iaddN C dX3_add_55 ?_
    refine e_iastoreN C dX3_add_56 rfl (by omega) (by omega) ?_
    refine e_nm (fun M4 hM4 => ?_)
    have u4 : ∀ j, j < 60 → gI M4 19 j = nI (u j + iw (j = a) 1 + iw (j = 20 + b) 1 + iw (j = 40 + c) 1) := by rw [hM4, gI_sI]; exact add1I (u := fun j => u j + iw (j = a) 1 + iw (j = 20 + b) 1) u3 (by omega)
    have s4 : Same [18, 19] M M4 := by rw [hM4]; exact s3.I (by decide)
    have q4 : gI M4 18 1 = nI (g + 1) := by rw [hM4, gI_sI_ne _ _ (by decide)]; exact q3
    exact e_vret C dX3_add_57 RT ⟨Nat.zero_le _, Nat.zero_le _⟩ (qv_ ⟨by rw [if_pos h7]; exact ⟨q4, by omega, fun r hr s hs => by rw [u4 (r * 20 + s) (by omega), cnt_up, ← seen3 hr hs ha hb hc]; congr 1; rw [hu]; simp only [show (r * 20 + s) / 20 = r by omega, show (r * 20 + s) % 20 = s by omega]; omega⟩, s4⟩)
  · exact e_vret C dX3_add_10 RT ⟨Nat.zero_le _, Nat.zero_le _⟩ (qv_ ⟨by rw [if_neg (by omega)]; exact hG, Same.rf _ M⟩)
def TlOK (M : Mm) (R H : Nat) (z : Nat → Int32) : Prop := gI M 17 0 = nI R ∧ gI M 17 1 = nI H ∧ H ≤ R ∧ 1 ≤ R ∧ R ≤ 200 ∧ ∀ j, 2 ≤ j → j < 7 → gI M 17 j = z j
theorem TlOK.same {M M2 : Mm} {R H : Nat} {z : Nat → Int32} (h : TlOK M R H z) (h1 : gI M2 17 = gI M 17) : TlOK M2 R H z := ⟨by rw [h1]; exact h.1, by rw [h1]; exact h.2.1, h.2.2.1, h.2.2.2.1, h.2.2.2.2.1, by rw [h1]; exact h.2.2.2.2.2⟩
def takeH (R H L : Nat) : Nat := H + min L (R - H)
def takeZ (z : Nat → Int32) (R H L : Nat) : Nat → Int32 := upd (upd z 2 (z 2 + nI (L - min L (R - H)))) 3 (z 3 + nI L)
def outZ (z : Nat → Int32) (H v : Nat) : Nat → Int32 := upd (upd z 4 (z 4 + nI (min v H))) 5 (z 5 + nI (v - min v H))
def TlF (M : Mm) (R H : Nat) (z : Nat → Int32) (M2 : Mm) : Prop := TlOK M2 R H z ∧ Same [17] M M2
set_option maxHeartbeats 4000000 in
set_option maxRecDepth 100000 in
theorem k_take {w : Bool} {M : Mm} {R H : Nat} {z : Nat → Int32} (hT7 : TlOK M R H z) (L : Nat) (hL : L ≤ 3) : CT mX6_take [.ref 17, .int (nI L)] (shF w) M (Qv (shF w) (TlF M R (takeH R H L) (takeZ z R H L))) := by
  refine CT.mk (lv := [(0, .ref 17), (1, .int (nI L))]) rfl (by decide +kernel) (Nat.le_of_ble_eq_true rfl) ?_
  intro X C RT
  obtain ⟨t0, t1, tH, tR, tR2, tz⟩ := hT7
  refine e_iload_n C dX6_take_0 rfl rfl ?_
  refine e_aload_n C dX6_take_1 rfl rfl ?_
  refine e_getI C dX6_take_2 fX6_9 rfl rfl ?_
  refine e_topi (nI R) t0 ?_
  refine e_aload_n C dX6_take_5 rfl rfl ?_
  refine e_getI C dX6_take_6 fX6_15 rfl rfl ?_
  refine e_topi (nI H) t1 ?_
  refine e_isubN C dX6_take_9 (by omega) ?_
  refine e_minN C dX6_take_10 (by omega) (by omega) (e_memg 496 (by decide +kernel) rfl) (e_memg 497 (by decide +kernel) rfl) (e_memg 43 (by decide +kernel) rfl) (e_memg 498 (by decide +kernel) rfl) (Nat.le_of_ble_eq_true rfl) (Nat.le_of_ble_eq_true rfl) ⟨Nat.zero_le _, Nat.zero_le _⟩ ?_
  refine e_istore_n (lv2 := [(2, .int (nI (min L (R - H)))), (0, .ref 17), (1, .int (nI L))]) C dX6_take_13 rfl (by decide) rfl ?_
  refine e_aload_n C dX6_take_14 rfl rfl ?_
  refine e_dup C dX6_take_15 rfl ?_
  refine e_getI C dX6_take_16 fX6_15 rfl rfl ?_
  refine e_topi (nI H) t1 ?_
  refine e_iload_n C dX6_take_19 rfl rfl ?_
  refine e_iaddN C dX6_take_20 ?_
  refine e_putI C dX6_take_21 pX6_15 rfl rfl rfl rfl ?_
  refine e_aload_n C dX6_take_24 rfl rfl ?_
  refine e_dup C dX6_take_25 rfl ?_
  refine e_getI C dX6_take_26 fX6_18 rfl rfl ?_
  refine e_iload_n C dX6_take_29 rfl rfl ?_
  refine e_iload_n C dX6_take_30 rfl rfl ?_
  refine e_isubN C dX6_take_31 (by omega) ?_
  refine e_iadd C dX6_take_32 ?_
  refine e_putI C dX6_take_33 pX6_18 rfl rfl rfl rfl ?_
  refine e_aload_n C dX6_take_36 rfl rfl ?_
  refine e_dup C dX6_take_37 rfl ?_
  refine e_getI C dX6_take_38 fX6_21 rfl rfl ?_
  refine e_iload_n C dX6_take_41 rfl rfl ?_
  refine e_iadd C dX6_take_42 ?_
  refine e_putI C dX6_take_43 pX6_21 rfl rfl rfl rfl ?_
  exact e_vret C dX6_take_46 RT ⟨Nat.zero_le _, Nat.zero_le _⟩ (qv_ ⟨⟨by simp [gI_sI, upd, t0], by simp [gI_sI, upd, takeH], by unfold takeH; omega, tR, tR2, fun j h1 h2 => by have e2 := tz 2 (by decide) (by decide); have e3 := tz 3 (by decide) (by decide); rcases (show j = 2 ∨ j = 3 ∨ j = 4 ∨ j = 5 ∨ j = 6 by omega) with rfl | rfl | rfl | rfl | rfl <;> simp [gI_sI, upd, takeZ, e2, e3, tz]⟩, (((Same.rf _ M).I (by decide)).I (by decide)).I (by decide)⟩)
set_option maxHeartbeats 4000000 in
set_option maxRecDepth 100000 in
theorem k_payOut {w : Bool} {M : Mm} {R H : Nat} {z : Nat → Int32} (hT7 : TlOK M R H z) (v : Nat) (hv : v ≤ 30000) : CT mX6_payOut [.ref 17, .int (nI v)] (shF w) M (Qv (shF w) (TlF M R (H - min v H) (outZ z H v))) := by
  refine CT.mk (lv := [(0, .ref 17), (1, .int (nI v))]) rfl (by decide +kernel) (Nat.le_of_ble_eq_true rfl) ?_
  intro X C RT
  obtain ⟨t0, t1, tH, tR, tR2, tz⟩ := hT7
  refine e_iload_n C dX6_payOut_0 rfl rfl ?_
  refine e_aload_n C dX6_payOut_1 rfl rfl ?_
  refine e_getI C dX6_payOut_2 fX6_15 rfl rfl ?_
  refine e_topi (nI H) t1 ?_
  refine e_minN C dX6_payOut_5 (by omega) (by omega) (e_memg 496 (by decide +kernel) rfl) (e_memg 497 (by decide +kernel) rfl) (e_memg 43 (by decide +kernel) rfl) (e_memg 498 (by decide +kernel) rfl) (Nat.le_of_ble_eq_true rfl) (Nat.le_of_ble_eq_true rfl) ⟨Nat.zero_le _, Nat.zero_le _⟩ ?_
  refine e_istore_n (lv2 := [(2, .int (nI (min v H))), (0, .ref 17), (1, .int (nI v))]) C dX6_payOut_8 rfl (by decide) rfl ?_
  refine e_aload_n C dX6_payOut_9 rfl rfl ?_
  refine e_dup C dX6_payOut_10 rfl ?_
  refine e_getI C dX6_payOut_11 fX6_15 rfl rfl ?_
  refine e_topi (nI H) t1 ?_
  refine e_iload_n C dX6_payOut_14 rfl rfl ?_
  refine e_isubN C dX6_payOut_15 (by omega) ?_
  refine e_putI C dX6_payOut_16 pX6_15 rfl rfl rfl rfl ?_
  refine e_aload_n C dX6_payOut_19 rfl rfl ?_
  refine e_dup C dX6_payOut_20 rfl ?_
  refine e_getI C dX6_payOut_21 fX6_24 rfl rfl ?_
  refine e_iload_n C dX6_payOut_24 rfl rfl ?_
  refine e_iadd C dX6_payOut_25 ?_
  refine e_putI C dX6_payOut_26 pX6_24 rfl rfl rfl rfl ?_
  refine e_aload_n C dX6_payOut_29 rfl rfl ?_
  refine e_dup C dX6_payOut_30 rfl ?_
  refine e_getI C dX6_payOut_31 fX6_27 rfl rfl ?_
  refine e_iload_n C dX6_payOut_34 rfl rfl ?_
  refine e_iload_n C dX6_payOut_35 rfl rfl ?_
  refine e_isubN C dX6_payOut_36 (by omega) ?_
  refine e_iadd C dX6_payOut_37 ?_
  refine e_putI C dX6_payOut_38 pX6_27 rfl rfl rfl rfl ?_
  exact e_vret C dX6_payOut_41 RT ⟨Nat.zero_le _, Nat.zero_le _⟩ (qv_ ⟨⟨by simp [gI_sI, upd, t0], by simp [gI_sI, upd], by omega, tR, tR2, fun j h1 h2 => by have e2 := tz 4 (by decide) (by decide); have e3 := tz 5 (by decide) (by decide); rcases (show j = 2 ∨ j = 3 ∨ j = 4 ∨ j = 5 ∨ j = 6 by omega) with rfl | rfl | rfl | rfl | rfl <;> simp [gI_sI, upd, outZ, e2, e3, tz]⟩, (((Same.rf _ M).I (by decide)).I (by decide)).I (by decide)⟩)
