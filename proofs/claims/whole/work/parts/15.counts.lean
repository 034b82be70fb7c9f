/-- f lists, rising, all u with 0 < cnt u -/
def Enum (cnt : Nat → Nat) (sz : Nat) (f : Nat → Nat) : Prop := (∀ i j, i < j → j < sz → f i < f j) ∧ (∀ i, i < sz → 0 < cnt (f i)) ∧ (∀ u, 0 < cnt u → ∃ i, i < sz ∧ f i = u)
def lbF (f : Nat → Nat) (sz v lb : Nat) : Prop := lb ≤ sz ∧ (∀ i, i < lb → f i < v) ∧ (∀ i, lb ≤ i → i < sz → v ≤ f i)
theorem lb_ex {f : Nat → Nat} {v : Nat} : ∀ {sz : Nat}, (∀ i j, i < j → j < sz → f i < f j) → ∃ lb, lbF f sz v lb
  | 0, _ => ⟨0, Nat.le_refl 0, fun i hi => absurd hi (by omega), fun i h1 h2 => absurd h2 (by omega)⟩
  | sz + 1, h => by
    obtain ⟨lb, h1, h2, h3⟩ := lb_ex (f := f) (v := v) (sz := sz) (fun i j hij hj => h i j hij (by omega))
    by_cases he : lb = sz
    · by_cases hf : f sz < v
      · exact ⟨sz + 1, Nat.le_refl _, fun i hi => by
          by_cases e : i = sz
          · subst e; exact hf
          · exact h2 i (by omega), fun i h5 h6 => absurd h5 (by omega)⟩
      · exact ⟨sz, by omega, fun i hi => h2 i (by omega), fun i h5 h6 => by
          have e : i = sz := by omega
          subst e; omega⟩
    · exact ⟨lb, by omega, h2, fun i h5 h6 => by
        by_cases e : i = sz
        · subst e
          have h7 := h3 lb (Nat.le_refl _) (by omega)
          have h8 := h lb i (by omega) (by omega)
          omega
        · exact h3 i h5 (by omega)⟩
def PcOK (M : Mm) (cnt : Nat → Nat) (sz : Nat) (f : Nat → Nat) : Prop := gI M 14 2 = nI sz ∧ sz ≤ 455 ∧ (∀ i, i < sz → gI M 15 i = nI (f i) ∧ gI M 16 i = nI (cnt (f i)) ∧ f i ≤ 30000) ∧ Enum cnt sz f
theorem PcOK.same {M M2 : Mm} {cnt : Nat → Nat} {sz : Nat} {f : Nat → Nat} (h : PcOK M cnt sz f) (h1 : gI M2 14 = gI M 14) (h2 : gI M2 15 = gI M 15) (h3 : gI M2 16 = gI M 16) : PcOK M2 cnt sz f := ⟨by rw [h1]; exact h.1, h.2.1, by rw [h2, h3]; exact h.2.2.1, h.2.2.2⟩
def PcE (M : Mm) (cnt : Nat → Nat) (M2 : Mm) : Prop := (∃ sz f, PcOK M2 cnt sz f) ∧ Same [14, 15, 16] M M2
set_option maxHeartbeats 4000000 in
set_option maxRecDepth 100000 in
theorem k_cbegin {w : Bool} {M : Mm}  : CT mX1_begin [.ref 14] (shF w) M (Qv (shF w) (PcE M (fun _ => 0))) := by
  refine CT.mk (lv := [(0, .ref 14)]) rfl (by decide +kernel) (Nat.le_of_ble_eq_true rfl) ?_
  intro X C RT
  refine e_aload_n C dX1_begin_0 rfl rfl ?_
  refine e_iconst (v := (nI 0)) C dX1_begin_1 (by decide) ?_
  refine e_putI C dX1_begin_2 pX1_16 rfl rfl rfl rfl ?_
  exact e_vret C dX1_begin_5 RT ⟨Nat.zero_le _, Nat.zero_le _⟩ (qv_ ⟨⟨0, fun _ => 0, by rw [gI_sI, upd_s], by omega, fun i hi => absurd hi (by omega), fun i j h1 h2 => absurd h2 (by omega), fun i hi => absurd hi (by omega), fun u hu => (Nat.lt_irrefl 0 hu).elim⟩, (Same.rf _ M).I (by decide)⟩)
set_option maxHeartbeats 4000000 in
set_option maxRecDepth 100000 in
theorem k_placeOf {w : Bool} {M : Mm} {cnt : Nat → Nat} {sz : Nat} {f : Nat → Nat} (hC : PcOK M cnt sz f) (v lb : Nat) (hv : v ≤ 30000) (hlb : lbF f sz v lb) : CT mX1_placeOf [.ref 14, .int (nI v)] (shF w) M (Pi (nI lb) (shF w) M) := by
  refine CT.mk (lv := [(0, .ref 14), (1, .int (nI v))]) rfl (by decide +kernel) (Nat.le_of_ble_eq_true rfl) ?_
  intro X C RT
  obtain ⟨c1, c2, c3, -⟩ := hC
  obtain ⟨b1, b2, b3⟩ := hlb
  have lp : ∀ (st : Nat) (pl : Nat), st = 256 ∨ st = 128 ∨ st = 64 ∨ st = 32 ∨ st = 16 ∨ st = 8 ∨ st = 4 ∨ st = 2 ∨ st = 1 ∨ st = 0 → pl ≤ lb → lb + 1 ≤ pl + max (2 * st) 1 → Wd X (0, 0) 6 [(0, .ref 14), (1, .int (nI v)), (2, .int (nI pl)), (3, .int (nI st))] [] (shF w) M := by
    intro st
    induction hq_lp : st + 0 using Nat.strongRecOn generalizing st with
    | ind k_lp ih_lp =>
      intro pl hst hp1 hp2
      refine e_iload_n C dX1_placeOf_6 rfl rfl ?_
      refine e_if_leN (tgt := 45) C dX1_placeOf_7 (by omega) (by decide) (fun h7 => ?_) (fun h7 => ?_)
      · refine e_iload_n C dX1_placeOf_45 rfl rfl ?_
        exact e_zret C dX1_placeOf_46 RT rfl ⟨Nat.zero_le _, Nat.zero_le _⟩ (pi_ (congrArg nI (by omega)))
      · refine e_iload_n C dX1_placeOf_10 rfl rfl ?_
        refine e_iload_n C dX1_placeOf_11 rfl rfl ?_
        refine e_iaddN C dX1_placeOf_12 ?_
        refine e_aload_n C dX1_placeOf_13 rfl rfl ?_
        refine e_getI C dX1_placeOf_14 fX1_16 rfl rfl ?_
        refine e_topi (nI sz) c1 ?_
        refine e_icmp_gtN (tgt := 38) C dX1_placeOf_17 (by omega) (by omega) (by decide) (fun h17 => ?_) (fun h17 => ?_)
        · refine e_iload_n C dX1_placeOf_38 rfl rfl ?_
          refine e_iconst (v := (nI 2)) C dX1_placeOf_39 (by decide) ?_
          refine e_idivN C dX1_placeOf_40 (by omega) (by omega) (by omega) ?_
          refine e_istore_n (lv2 := [(3, .int (nI (st / 2))), (0, .ref 14), (1, .int (nI v)), (2, .int (nI pl))]) C dX1_placeOf_41 rfl (by decide) rfl ?_
          refine e_goto (tgt := 6) C dX1_placeOf_42 (by decide) ?_
          have h9 : lb < pl + st := by omega
          refine e_loc [1, 2, 3, 0] rfl ?_
          exact ih_lp (st / 2 + 0) (by omega) (st / 2) rfl pl (by omega) (by omega) (by omega)
        · refine e_aload_n C dX1_placeOf_20 rfl rfl ?_
          refine e_getR (q := 15) C dX1_placeOf_21 fX1_9 rfl rfl ?_
          refine e_iload_n C dX1_placeOf_24 rfl rfl ?_
          refine e_iload_n C dX1_placeOf_25 rfl rfl ?_
          refine e_iaddN C dX1_placeOf_26 ?_
          refine e_iconst (v := (nI 1)) C dX1_placeOf_27 (by decide) ?_
          refine e_isubN C dX1_placeOf_28 (by omega) ?_
          refine e_ialoadN C dX1_placeOf_29 rfl (by omega) (by omega) ?_
          refine e_topi (nI (f ((pl + st) - 1))) ((c3 ((pl + st) - 1) (by omega)).1) ?_
          refine e_iload_n C dX1_placeOf_30 rfl rfl ?_
          have hf30 := (c3 (pl + st - 1) (by omega)).2.2
          refine e_icmp_geN (tgt := 38) C dX1_placeOf_31 (by omega) (by omega) (by decide) (fun h31 => ?_) (fun h31 => ?_)
          · refine e_iload_n C dX1_placeOf_38 rfl rfl ?_
            refine e_iconst (v := (nI 2)) C dX1_placeOf_39 (by decide) ?_
            refine e_idivN C dX1_placeOf_40 (by omega) (by omega) (by omega) ?_
            refine e_istore_n (lv2 := [(3, .int (nI (st / 2))), (0, .ref 14), (1, .int (nI v)), (2, .int (nI pl))]) C dX1_placeOf_41 rfl (by decide) rfl ?_
            refine e_goto (tgt := 6) C dX1_placeOf_42 (by decide) ?_
            have h9 : lb < pl + st := Nat.lt_of_not_le (fun h8 => absurd (b2 (pl + st - 1) (by omega)) (by omega))
            refine e_loc [1, 2, 3, 0] rfl ?_
            exact ih_lp (st / 2 + 0) (by omega) (st / 2) rfl pl (by omega) (by omega) (by omega)
          · refine e_iload_n C dX1_placeOf_34 rfl rfl ?_
            refine e_iload_n C dX1_placeOf_35 rfl rfl ?_
            refine e_iaddN C dX1_placeOf_36 ?_
            refine e_istore_n (lv2 := [(2, .int (nI (pl + st))), (0, .ref 14), (1, .int (nI v)), (3, .int (nI st))]) C dX1_placeOf_37 rfl (by decide) rfl ?_
            refine e_iload_n C dX1_placeOf_38 rfl rfl ?_
            refine e_iconst (v := (nI 2)) C dX1_placeOf_39 (by decide) ?_
            refine e_idivN C dX1_placeOf_40 (by omega) (by omega) (by omega) ?_
            refine e_istore_n (lv2 := [(3, .int (nI (st / 2))), (2, .int (nI (pl + st))), (0, .ref 14), (1, .int (nI v))]) C dX1_placeOf_41 rfl (by decide) rfl ?_
            refine e_goto (tgt := 6) C dX1_placeOf_42 (by decide) ?_
            have h9 : pl + st ≤ lb := Nat.le_of_not_lt (fun h8 => absurd (b3 (pl + st - 1) (by omega) (by omega)) (by omega))
            refine e_loc [2, 3, 1, 0] rfl ?_
            exact ih_lp (st / 2 + 0) (by omega) (st / 2) rfl (pl + st) (by omega) (by omega) (by omega)
  refine e_iconst (v := (nI 0)) C dX1_placeOf_0 (by decide) ?_
  refine e_istore_n (lv2 := [(2, .int (nI 0)), (0, .ref 14), (1, .int (nI v))]) C dX1_placeOf_1 rfl (by decide) rfl ?_
  refine e_sipush (v := (nI 256)) C dX1_placeOf_2 (by decide) ?_
  refine e_istore_n (lv2 := [(3, .int (nI 256)), (2, .int (nI 0)), (0, .ref 14), (1, .int (nI v))]) C dX1_placeOf_5 rfl (by decide) rfl ?_
  refine e_loc [2, 3, 1, 0] rfl ?_
  exact lp 256 0 (by omega) (by omega) (by omega)
def insF (f : Nat → Nat) (lb v : Nat) : Nat → Nat := fun i => if i < lb then f i else if i = lb then v else f (i - 1)
theorem Enum.hit {cnt : Nat → Nat} {sz : Nat} {f : Nat → Nat} (h : Enum cnt sz f) {v i : Nat} (hi : i < sz) (hv : f i = v) : Enum (va_up cnt v (cnt v + 1)) sz f := by
  refine ⟨h.1, fun j hj => ?_, fun u hu => ?_⟩
  · by_cases e : f j = v
    · rw [e, up_s]; omega
    · rw [up_n _ _ e]; exact h.2.1 j hj
  · by_cases e : u = v
    · exact ⟨i, hi, by rw [hv, e]⟩
    · rw [up_n _ _ e] at hu; exact h.2.2 u hu
theorem Enum.ins {cnt : Nat → Nat} {sz : Nat} {f : Nat → Nat} (h : Enum cnt sz f) {v lb : Nat} (hl : lbF f sz v lb) (hn : ∀ i, i < sz → f i ≠ v) : Enum (va_up cnt v (cnt v + 1)) (sz + 1) (insF f lb v) := by
  obtain ⟨l1, l2, l3⟩ := hl
  have l4 : ∀ i, lb ≤ i → i < sz → v < f i := fun i h1 h2 => by have := l3 i h1 h2; have := hn i h2; omega
  refine ⟨fun i j hij hj => ?_, fun j hj => ?_, fun u hu => ?_⟩
  · unfold insF
    by_cases a1 : i < lb
    · rw [if_pos a1]
      by_cases a2 : j < lb
      · rw [if_pos a2]; exact h.1 i j hij (by omega)
      · rw [if_neg a2]
        by_cases a3 : j = lb
        · rw [if_pos a3]; exact l2 i a1
        · rw [if_neg a3]; have := l2 i a1; have := l4 (j - 1) (by omega) (by omega); omega
    · rw [if_neg a1, if_neg (show ¬ j < lb by omega), if_neg (show ¬ j = lb by omega)]
      by_cases a3 : i = lb
      · rw [if_pos a3]; exact l4 (j - 1) (by omega) (by omega)
      · rw [if_neg a3]; exact h.1 (i - 1) (j - 1) (by omega) (by omega)
  · unfold insF
    by_cases a1 : j < lb
    · rw [if_pos a1, up_n _ _ (hn j (by omega))]; exact h.2.1 j (by omega)
    · rw [if_neg a1]
      by_cases a3 : j = lb
      · rw [if_pos a3, up_s]; omega
      · rw [if_neg a3, up_n _ _ (hn (j - 1) (by omega))]; exact h.2.1 (j - 1) (by omega)
  · by_cases e : u = v
    · exact ⟨lb, by omega, by unfold insF; rw [if_neg (by omega), if_pos rfl, e]⟩
    · rw [up_n _ _ e] at hu
      obtain ⟨i, hi, hf⟩ := h.2.2 u hu
      by_cases a1 : i < lb
      · exact ⟨i, by omega, by unfold insF; rw [if_pos a1]; exact hf⟩
      · exact ⟨i + 1, by omega, by unfold insF; rw [if_neg (by omega), if_neg (by omega)]; exact hf⟩
theorem chit {M : Mm} {cnt : Nat → Nat} {sz : Nat} {f : Nat → Nat} {lb v : Nat} (hC : PcOK M cnt sz f) (hl : lb < sz) (hv : f lb = v) : PcE M (va_up cnt v (cnt v + 1)) (sI M 16 (upd (gI M 16) lb (nI (cnt (f lb) + 1)))) := by
  obtain ⟨c1, c2, c3, c4⟩ := hC
  refine ⟨⟨sz, f, by rw [gI_sI_ne _ _ (by decide)]; exact c1, c2, fun i hi => ⟨by rw [gI_sI_ne _ _ (by decide)]; exact (c3 i hi).1, ?_, (c3 i hi).2.2⟩, c4.hit hl hv⟩, (Same.rf _ M).I (by decide)⟩
  rw [gI_sI]
  by_cases e : i = lb
  · subst e; rw [upd_s, hv, up_s]
  · have hne : f i ≠ v := fun h9 => e (by
      rcases Nat.lt_trichotomy i lb with h8 | h8 | h8
      · have := c4.1 i lb h8 hl; omega
      · exact h8
      · have := c4.1 lb i h8 hi; omega)
    rw [upd_n _ _ e, up_n _ _ hne]; exact (c3 i hi).2.1
theorem cins {M : Mm} {cnt : Nat → Nat} {sz : Nat} {f : Nat → Nat} {lb v : Nat} (hC : PcOK M cnt sz f) (hl : lbF f sz v lb) (hne : ∀ i, i < sz → f i ≠ v) (hs : sz < 455) (hv : v ≤ 30000) (hc0 : cnt v = 0) {M2 : Mm} (e14 : gI M2 14 2 = nI (sz + 1)) (e15 : gI M2 15 = upd (va_cpy (gI M 15) (gI M 15) lb (lb + 1) (sz - lb)) lb (nI v)) (e16 : gI M2 16 = upd (va_cpy (gI M 16) (gI M 16) lb (lb + 1) (sz - lb)) lb (nI 1)) (hsm : Same [14, 15, 16] M M2) : PcE M (va_up cnt v (cnt v + 1)) M2 := by
  obtain ⟨c1, c2, c3, c4⟩ := hC
  have hl1 := hl.1
  refine ⟨⟨sz + 1, insF f lb v, e14, by omega, fun i hi => ?_, c4.ins hl hne⟩, hsm⟩
  rw [e15, e16]
  unfold insF
  by_cases a1 : i < lb
  · rw [if_pos a1, upd_n _ _ (by omega), upd_n _ _ (by omega), pk_cpy_out (by omega), pk_cpy_out (by omega), up_n _ _ (hne i (by omega))]
    exact c3 i (by omega)
  · rw [if_neg a1]
    by_cases a2 : i = lb
    · subst a2; rw [if_pos rfl, upd_s, upd_s, up_s, hc0]; exact ⟨rfl, rfl, hv⟩
    · rw [if_neg a2, upd_n _ _ a2, upd_n _ _ a2, pk_cpy_in (by omega) (by omega), pk_cpy_in (by omega) (by omega), show lb + (i - (lb + 1)) = i - 1 by omega, up_n _ _ (hne (i - 1) (by omega))]
      exact c3 (i - 1) (by omega)
set_option maxHeartbeats 4000000 in
set_option maxRecDepth 100000 in
theorem k_cadd {w : Bool} {M : Mm} {cnt : Nat → Nat} {sz : Nat} {f : Nat → Nat} (hC : PcOK M cnt sz f) (v : Nat) (hv : v ≤ 30000) (hr : cnt v = 0 → sz < 455) : CT mX1_add [.ref 14, .int (nI v)] (shF w) M (Qv (shF w) (PcE M (va_up cnt v (cnt v + 1)))) := by
  refine CT.mk (lv := [(0, .ref 14), (1, .int (nI v))]) rfl (by decide +kernel) (Nat.le_of_ble_eq_true rfl) ?_
  intro X C RT
  obtain ⟨c1, c2, c3, c4⟩ := id hC
  obtain ⟨lb, hlb⟩ := lb_ex (f := f) (v := v) (sz := sz) c4.1
  obtain ⟨b1, b2, b3⟩ := id hlb
  refine e_aload_n C dX1_add_0 rfl rfl ?_
  refine e_iload_n C dX1_add_1 rfl rfl ?_
  refine e_callVi C dX1_add_2 [.int (nI v)] (k_placeOf hC v lb hv hlb) okX1_placeOf lX1_20 rfl rfl rfl ⟨rfl, rfl⟩ ⟨Nat.le_of_ble_eq_true rfl, Nat.le_of_ble_eq_true rfl⟩ (Nat.le_of_ble_eq_true rfl) ⟨Nat.zero_le _, Nat.zero_le _⟩ ?_
  refine e_istore_n (lv2 := [(2, .int (nI lb)), (0, .ref 14), (1, .int (nI v))]) C dX1_add_5 rfl (by decide) rfl ?_
  refine e_iload_n C dX1_add_6 rfl rfl ?_
  refine e_aload_n C dX1_add_7 rfl rfl ?_
  refine e_getI C dX1_add_8 fX1_16 rfl rfl ?_
  refine e_topi (nI sz) c1 ?_
  refine e_icmp_geN (tgt := 37) C dX1_add_11 (by omega) (by omega) (by decide) (fun h11 => ?_) (fun h11 => ?_)
  · refine e_aload_n C dX1_add_37 rfl rfl ?_
    refine e_getI C dX1_add_38 fX1_16 rfl rfl ?_
    refine e_topi (nI sz) c1 ?_
    refine e_sipush (v := (nI 455)) C dX1_add_41 (by decide) ?_
    have hne : ∀ i, i < sz → f i ≠ v := fun i hi => by have := b2 i (by omega); omega
    have hc0 : cnt v = 0 := by rcases Nat.eq_zero_or_pos (cnt v) with h8 | h8; exact h8; obtain ⟨i, hi, hfi⟩ := c4.2.2 v h8; exact absurd hfi (hne i hi)
    have hr2 := hr hc0
    refine e_icmp_geN (tgt := 113) C dX1_add_44 (by omega) (by omega) (by decide) (fun h44 => by omega) (fun h44 => ?_)
    refine e_aload_n C dX1_add_47 rfl rfl ?_
    refine e_getR (q := 15) C dX1_add_48 fX1_9 rfl rfl ?_
    refine e_iload_n C dX1_add_51 rfl rfl ?_
    refine e_aload_n C dX1_add_52 rfl rfl ?_
    refine e_getR (q := 15) C dX1_add_53 fX1_9 rfl rfl ?_
    refine e_iload_n C dX1_add_56 rfl rfl ?_
    refine e_iconst (v := (nI 1)) C dX1_add_57 (by decide) ?_
    refine e_iaddN C dX1_add_58 ?_
    refine e_aload_n C dX1_add_59 rfl rfl ?_
    refine e_getI C dX1_add_60 fX1_16 rfl rfl ?_
    refine e_topi (nI sz) c1 ?_
    refine e_iload_n C dX1_add_63 rfl rfl ?_
    refine e_isubN C dX1_add_64 (by omega) ?_
    refine e_copyI C dX1_add_65 (e_memg 531 (by decide +kernel) rfl) (e_memg 533 (by decide +kernel) rfl) (e_memg 532 (by decide +kernel) rfl) (e_memg 44 (by decide +kernel) rfl) rfl rfl (by omega) (by omega) (by decide) (by decide) (Nat.le_of_ble_eq_true rfl) (Nat.le_of_ble_eq_true rfl) ?_
    refine e_aload_n C dX1_add_68 rfl rfl ?_
    refine e_getR (q := 16) C dX1_add_69 fX1_13 rfl rfl ?_
    refine e_iload_n C dX1_add_72 rfl rfl ?_
    refine e_aload_n C dX1_add_73 rfl rfl ?_
    refine e_getR (q := 16) C dX1_add_74 fX1_13 rfl rfl ?_
    refine e_iload_n C dX1_add_77 rfl rfl ?_
    refine e_iconst (v := (nI 1)) C dX1_add_78 (by decide) ?_
    refine e_iaddN C dX1_add_79 ?_
    refine e_aload_n C dX1_add_80 rfl rfl ?_
    refine e_getI C dX1_add_81 fX1_16 rfl rfl ?_
    refine e_topi (nI sz) (by simp only [gI_sI_ne _ _ (show (14 : Nat) ≠ 15 by decide), gI_sI_ne _ _ (show (14 : Nat) ≠ 16 by decide)]; exact c1) ?_
    refine e_iload_n C dX1_add_84 rfl rfl ?_
    refine e_isubN C dX1_add_85 (by omega) ?_
    refine e_copyI C dX1_add_86 (e_memg 531 (by decide +kernel) rfl) (e_memg 533 (by decide +kernel) rfl) (e_memg 532 (by decide +kernel) rfl) (e_memg 44 (by decide +kernel) rfl) rfl rfl (by omega) (by omega) (by decide) (by decide) (Nat.le_of_ble_eq_true rfl) (Nat.le_of_ble_eq_true rfl) ?_
    refine e_aload_n C dX1_add_89 rfl rfl ?_
    refine e_getR (q := 15) C dX1_add_90 fX1_9 rfl rfl ?_
    refine e_iload_n C dX1_add_93 rfl rfl ?_
    refine e_iload_n C dX1_add_94 rfl rfl ?_
    refine e_iastoreN C dX1_add_95 rfl (by omega) (by omega) ?_
    refine e_aload_n C dX1_add_96 rfl rfl ?_
    refine e_getR (q := 16) C dX1_add_97 fX1_13 rfl rfl ?_
    refine e_iload_n C dX1_add_100 rfl rfl ?_
    refine e_iconst (v := (nI 1)) C dX1_add_101 (by decide) ?_
    refine e_iastoreN C dX1_add_102 rfl (by omega) (by omega) ?_
    refine e_aload_n C dX1_add_103 rfl rfl ?_
    refine e_dup C dX1_add_104 rfl ?_
    refine e_getI C dX1_add_105 fX1_16 rfl rfl ?_
    refine e_topi (nI sz) (by simp only [gI_sI_ne _ _ (show (14 : Nat) ≠ 15 by decide), gI_sI_ne _ _ (show (14 : Nat) ≠ 16 by decide)]; exact c1) ?_
    refine e_iconst (v := (nI 1)) C dX1_add_108 (by decide) ?_
    refine e_iaddN C dX1_add_109 ?_
    refine e_putI C dX1_add_110 pX1_16 rfl rfl rfl rfl ?_
    exact e_vret C dX1_add_113 RT ⟨Nat.zero_le _, Nat.zero_le _⟩ (qv_ (cins hC hlb hne hr2 hv hc0 (by rw [gI_sI, upd_s]) (by rw [gI_sI_ne _ _ (by decide), gI_sI_ne _ _ (by decide), gI_sI, gI_sI_ne _ _ (by decide), gI_sI]) (by rw [gI_sI_ne _ _ (by decide), gI_sI, gI_sI_ne _ _ (by decide), gI_sI, gI_sI_ne _ _ (by decide)]) ((((((Same.rf _ M).I (by decide)).I (by decide)).I (by decide)).I (by decide)).I (by decide))))
  · refine e_aload_n C dX1_add_14 rfl rfl ?_
    refine e_getR (q := 15) C dX1_add_15 fX1_9 rfl rfl ?_
    refine e_iload_n C dX1_add_18 rfl rfl ?_
    refine e_ialoadN C dX1_add_19 rfl (by omega) (by omega) ?_
    refine e_topi (nI (f lb)) ((c3 lb (by omega)).1) ?_
    refine e_iload_n C dX1_add_20 rfl rfl ?_
    have hf30 := (c3 lb (by omega)).2.2
    refine e_icmp_neN (tgt := 37) C dX1_add_21 (by omega) (by omega) (by decide) (fun h21 => ?_) (fun h21 => ?_)
    · refine e_aload_n C dX1_add_37 rfl rfl ?_
      refine e_getI C dX1_add_38 fX1_16 rfl rfl ?_
      refine e_topi (nI sz) c1 ?_
      refine e_sipush (v := (nI 455)) C dX1_add_41 (by decide) ?_
      have hne : ∀ i, i < sz → f i ≠ v := fun i hi => by rcases Nat.lt_trichotomy i lb with h8 | h8 | h8; (have := b2 i h8; omega); (subst h8; exact h21); (have h7 := b3 lb (Nat.le_refl _) (by omega); have h6 := c4.1 lb i h8 hi; omega)
      have hc0 : cnt v = 0 := by rcases Nat.eq_zero_or_pos (cnt v) with h8 | h8; exact h8; obtain ⟨i, hi, hfi⟩ := c4.2.2 v h8; exact absurd hfi (hne i hi)
      have hr2 := hr hc0
      refine e_icmp_geN (tgt := 113) C dX1_add_44 (by omega) (by omega) (by decide) (fun h44 => by omega) (fun h44 => ?_)
      refine e_aload_n C dX1_add_47 rfl rfl ?_
      refine e_getR (q := 15) C dX1_add_48 fX1_9 rfl rfl ?_
      refine e_iload_n C dX1_add_51 rfl rfl ?_
      refine e_aload_n C dX1_add_52 rfl rfl ?_
      refine e_getR (q := 15) C dX1_add_53 fX1_9 rfl rfl ?_
      refine e_iload_n C dX1_add_56 rfl rfl ?_
      refine e_iconst (v := (nI 1)) C dX1_add_57 (by decide) ?_
      refine e_iaddN C dX1_add_58 ?_
      refine e_aload_n C dX1_add_59 rfl rfl ?_
      refine e_getI C dX1_add_60 fX1_16 rfl rfl ?_
      refine e_topi (nI sz) c1 ?_
      refine e_iload_n C dX1_add_63 rfl rfl ?_
      refine e_isubN C dX1_add_64 (by omega) ?_
      refine e_copyI C dX1_add_65 (e_memg 531 (by decide +kernel) rfl) (e_memg 533 (by decide +kernel) rfl) (e_memg 532 (by decide +kernel) rfl) (e_memg 44 (by decide +kernel) rfl) rfl rfl (by omega) (by omega) (by decide) (by decide) (Nat.le_of_ble_eq_true rfl) (Nat.le_of_ble_eq_true rfl) ?_
      refine e_aload_n C dX1_add_68 rfl rfl ?_
      refine e_getR (q := 16) C dX1_add_69 fX1_13 rfl rfl ?_
      refine e_iload_n C dX1_add_72 rfl rfl ?_
      refine e_aload_n C dX1_add_73 rfl rfl ?_
      refine e_getR (q := 16) C dX1_add_74 fX1_13 rfl rfl ?_
      refine e_iload_n C dX1_add_77 rfl rfl ?_
      refine e_iconst (v := (nI 1)) C dX1_add_78 (by decide) ?_
      refine e_iaddN C dX1_add_79 ?_
      refine e_aload_n C dX1_add_80 rfl rfl ?_
      refine e_getI C dX1_add_81 fX1_16 rfl rfl ?_
      refine e_topi (nI sz) (by simp only [gI_sI_ne _ _ (show (14 : Nat) ≠ 15 by decide), gI_sI_ne _ _ (show (14 : Nat) ≠ 16 by decide)]; exact c1) ?_
      refine e_iload_n C dX1_add_84 rfl rfl ?_
      refine e_isubN C dX1_add_85 (by omega) ?_
      refine e_copyI C dX1_add_86 (e_memg 531 (by decide +kernel) rfl) (e_memg 533 (by decide +kernel) rfl) (e_memg 532 (by decide +kernel) rfl) (e_memg 44 (by decide +kernel) rfl) rfl rfl (by omega) (by omega) (by decide) (by decide) (Nat.le_of_ble_eq_true rfl) (Nat.le_of_ble_eq_true rfl) ?_
      refine e_aload_n C dX1_add_89 rfl rfl ?_
      refine e_getR (q := 15) C dX1_add_90 fX1_9 rfl rfl ?_
      refine e_iload_n C dX1_add_93 rfl rfl ?_
      refine e_iload_n C dX1_add_94 rfl rfl ?_
      refine e_iastoreN C dX1_add_95 rfl (by omega) (by omega) ?_
      refine e_aload_n C dX1_add_96 rfl rfl ?_
      refine e_getR (q := 16) C dX1_add_97 fX1_13 rfl rfl ?_
      refine e_iload_n C dX1_add_100 rfl rfl ?_
      refine e_iconst (v := (nI 1)) C dX1_add_101 (by decide) ?_
      refine e_iastoreN C dX1_add_102 rfl (by omega) (by omega) ?_
      refine e_aload_n C dX1_add_103 rfl rfl ?_
      refine e_dup C dX1_add_104 rfl ?_
      refine e_getI C dX1_add_105 fX1_16 rfl rfl ?_
      refine e_topi (nI sz) (by simp only [gI_sI_ne _ _ (show (14 : Nat) ≠ 15 by decide), gI_sI_ne _ _ (show (14 : Nat) ≠ 16 by decide)]; exact c1) ?_
      refine e_iconst (v := (nI 1)) C dX1_add_108 (by decide) ?_
      refine e_iaddN C dX1_add_109 ?_
      refine e_putI C dX1_add_110 pX1_16 rfl rfl rfl rfl ?_
      exact e_vret C dX1_add_113 RT ⟨Nat.zero_le _, Nat.zero_le _⟩ (qv_ (cins hC hlb hne hr2 hv hc0 (by rw [gI_sI, upd_s]) (by rw [gI_sI_ne _ _ (by decide), gI_sI_ne _ _ (by decide), gI_sI, gI_sI_ne _ _ (by decide), gI_sI]) (by rw [gI_sI_ne _ _ (by decide), gI_sI, gI_sI_ne _ _ (by decide), gI_sI, gI_sI_ne _ _ (by decide)]) ((((((Same.rf _ M).I (by decide)).I (by decide)).I (by decide)).I (by decide)).I (by decide))))
    · refine e_aload_n C dX1_add_24 rfl rfl ?_
      refine e_getR (q := 16) C dX1_add_25 fX1_13 rfl rfl ?_
      refine e_iload_n C dX1_add_28 rfl rfl ?_
      refine e_dup2 C dX1_add_29 rfl rfl ?_
      refine e_ialoadN C dX1_add_30 rfl (by omega) (by omega) ?_
      refine e_topi (nI (cnt (f lb))) ((c3 lb (by omega)).2.1) ?_
      refine e_iconst (v := (nI 1)) C dX1_add_31 (by decide) ?_
      refine e_iaddN C dX1_add_32 ?_
      refine e_iastoreN C dX1_add_33 rfl (by omega) (by omega) ?_
      refine e_goto (tgt := 113) C dX1_add_34 (by decide) ?_
      exact e_vret C dX1_add_113 RT ⟨Nat.zero_le _, Nat.zero_le _⟩ (qv_ (chit hC (by omega) h21))
