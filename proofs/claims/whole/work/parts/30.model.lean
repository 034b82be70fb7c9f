theorem iw_congr {c d : Prop} [Decidable c] [Decidable d] {v : Nat} (h : c ↔ d) : iw c v = iw d v := by
  unfold iw
  by_cases hc : c
  · rw [if_pos hc, if_pos (h.mp hc)]
  · rw [if_neg hc, if_neg (fun hd => hc (h.mpr hd))]
theorem u_3 {n : Nat → Nat} {E : Nat → Nat → Nat → Nat} {a b : Nat} (n0 : n 0 ≤ 20) (n1 : n 1 ≤ 20) (n2 : n 2 ≤ 20) (ha : a < 20) (hb : b < 20) : tot n (indU E (20 * a + b)) = tot n (indT E (2 * 400 + a * 20 + b)) := by
  refine tot_congr (fun x hx y hy t ht => ?_)
  unfold indU indT
  have e1 : iw (20 * a + b = 20 * x + y) (E x y t) = iw (2 * 400 + a * 20 + b = 2 * 400 + x * 20 + y) (E x y t) := iw_congr (by omega)
  have e2 : iw (20 * a + b = 400 + 20 * x + t) (E x y t) = iw (2 * 400 + a * 20 + b = 1 * 400 + x * 20 + t) (E x y t) := iw_congr (by omega)
  have e3 : iw (20 * a + b = 800 + 20 * y + t) (E x y t) = iw (2 * 400 + a * 20 + b = 0 * 400 + y * 20 + t) (E x y t) := iw_congr (by omega)
  omega
theorem u_5 {n : Nat → Nat} {E : Nat → Nat → Nat → Nat} {a c : Nat} (n0 : n 0 ≤ 20) (n1 : n 1 ≤ 20) (n2 : n 2 ≤ 20) (ha : a < 20) (hb : c < 20) : tot n (indU E (400 + 20 * a + c)) = tot n (indT E (1 * 400 + a * 20 + c)) := by
  refine tot_congr (fun x hx y hy t ht => ?_)
  unfold indU indT
  have e1 : iw (400 + 20 * a + c = 20 * x + y) (E x y t) = iw (1 * 400 + a * 20 + c = 2 * 400 + x * 20 + y) (E x y t) := iw_congr (by omega)
  have e2 : iw (400 + 20 * a + c = 400 + 20 * x + t) (E x y t) = iw (1 * 400 + a * 20 + c = 1 * 400 + x * 20 + t) (E x y t) := iw_congr (by omega)
  have e3 : iw (400 + 20 * a + c = 800 + 20 * y + t) (E x y t) = iw (1 * 400 + a * 20 + c = 0 * 400 + y * 20 + t) (E x y t) := iw_congr (by omega)
  omega
theorem u_6 {n : Nat → Nat} {E : Nat → Nat → Nat → Nat} {b c : Nat} (n0 : n 0 ≤ 20) (n1 : n 1 ≤ 20) (n2 : n 2 ≤ 20) (ha : b < 20) (hb : c < 20) : tot n (indU E (800 + 20 * b + c)) = tot n (indT E (0 * 400 + b * 20 + c)) := by
  refine tot_congr (fun x hx y hy t ht => ?_)
  unfold indU indT
  have e1 : iw (800 + 20 * b + c = 20 * x + y) (E x y t) = iw (0 * 400 + b * 20 + c = 2 * 400 + x * 20 + y) (E x y t) := iw_congr (by omega)
  have e2 : iw (800 + 20 * b + c = 400 + 20 * x + t) (E x y t) = iw (0 * 400 + b * 20 + c = 1 * 400 + x * 20 + t) (E x y t) := iw_congr (by omega)
  have e3 : iw (800 + 20 * b + c = 800 + 20 * y + t) (E x y t) = iw (0 * 400 + b * 20 + c = 0 * 400 + y * 20 + t) (E x y t) := iw_congr (by omega)
  omega
theorem mid_le (n P : Nat → Nat) (r p : Nat) : mid n P r p ≤ n r := cntb_le _ _
theorem nea_le (n P : Nat → Nat) (r p : Nat) : nea n P r p ≤ n r := cntb_le _ _
theorem rri {M M2 : Mm} {sh : List Sh} {p : Int32 × St} {v : Int32} {s : St} (e : p = (v, s)) (h : RInv M2 s) (hf : FrR M M2) : Qi p.1 sh (fun m => RInv m p.2 ∧ FrR M m) (some (.int v)) sh M2 := by subst e; exact ⟨rfl, rfl, h, hf⟩
theorem rrl {M M2 : Mm} {sh : List Sh} {p : Int64 × St} {v : Int64} {s : St} (e : p = (v, s)) (h : RInv M2 s) (hf : FrR M M2) : Ql p.1 sh (fun m => RInv m p.2 ∧ FrR M m) (some (.long v)) sh M2 := by subst e; exact ⟨rfl, rfl, h, hf⟩
theorem RhOK.row {M M2 : Mm} {R H : Nat} {z : Nat → Int32} (h : RhOK M R H z) (e : ∀ j, 19 ≤ j → j < 26 → gI M2 25 j = gI M 25 j) : RhOK M2 R H z := ⟨by rw [e 19 (by decide) (by decide)]; exact h.1, by rw [e 20 (by decide) (by decide)]; exact h.2.1, h.2.2.1, h.2.2.2.1, h.2.2.2.2.1, fun j h1 h2 => by rw [e (19 + j) (by omega) (by omega)]; exact h.2.2.2.2.2 j h1 h2⟩
theorem RgOK.row {M M2 : Mm} {g : Nat} {q : Nat → Nat → Nat} (h : RgOK M g q) (e : gI M2 25 26 = gI M 25 26) (e2 : gI M2 40 = gI M 40) : RgOK M2 g q := ⟨by rw [e]; exact h.1, h.2.1, by rw [e2]; exact h.2.2⟩
theorem RInv.lo {M M2 : Mm} {n P cnt : Nat → Nat} {k : Nat} {W : Nat → Nat → Int32} {pv : Nat → Nat} {L R H : Nat} {z : Nat → Int32} {g : Nat} {q : Nat → Nat → Nat} (h : RInv M (n, P, cnt, k, W, pv, L, R, H, z, g, q)) (hs : LoF M n k W pv (EE n P k W pv L) M2) : RInv M2 (n, P, cnt, k, W, pv, L, R, H, z, g, q) ∧ FrR M M2 := by
  obtain ⟨a1, a2, a3, a4, a5, a6⟩ := h
  obtain ⟨s1, s2, s3, s4⟩ := hs
  refine ⟨⟨a1.mv s4 (by decide) (s3 3 (by decide) (by decide)) (s3 8 (by decide) (by decide)), a2.same (s4.gI (by decide)), .inr ⟨s2, s1⟩, a4.row (fun j h1 h2 => s3 j (by omega) (by omega)), a5.row (s3 26 (by decide) (by decide)) (s4.gI (by decide)), a6⟩, s4.up (by decide)⟩
theorem RInv.sm {ks : List Nat} {M M2 : Mm} {s : St} (h : RInv M s) (hs : Same ks M M2) (hk : ((26 ∉ ks ∧ 27 ∉ ks) ∧ 29 ∉ ks ∧ 30 ∉ ks ∧ 31 ∉ ks ∧ 32 ∉ ks) ∧ (25 ∉ ks ∧ 28 ∉ ks ∧ 34 ∉ ks ∧ 35 ∉ ks) ∧ 36 ∉ ks ∧ 37 ∉ ks ∧ 38 ∉ ks ∧ 40 ∉ ks) : RInv M2 s := by
  obtain ⟨n, P, cnt, k, W, pv, L, R, H, z, g, q⟩ := s
  obtain ⟨a1, a2, a3, a4, a5, a6⟩ := h
  have e := hs.gI hk.2.1.1
  refine ⟨a1.mv hs hk.1 (congrFun e _) (congrFun e _), a2.same (hs.gI hk.2.1.2.1), ?_, a4.row (fun j _ _ => congrFun e _), a5.row (congrFun e _) (hs.gI hk.2.2.2.2.2), a6⟩
  rcases a3 with h9 | ⟨h9, h8⟩
  · exact .inl (by rw [e]; exact h9)
  · exact .inr ⟨by rw [e]; exact h9, h8.same (hs.gI hk.2.2.1) (hs.gI hk.2.1.2.2.2) (hs.gI hk.2.1.2.2.1) (hs.gJ hk.2.1.1) (congrFun e _) (hs.gJ hk.2.2.2.1) (hs.gJ hk.2.2.2.2.1)⟩
set_option maxHeartbeats 4000000 in
set_option maxRecDepth 100000 in
theorem r_middles {w : Bool} {M : Mm} {n P : Nat → Nat} (hS : RsOK M n P) (r p : Nat) (hr : r < 3) (hp : p < 8) : CT mX8_middles [.ref 25, .int (nI r), .int (nI p)] (shF w) M (Pi (nI (mid n P r p)) (shF w) M) := by
  refine CT.mk (lv := [(0, .ref 25), (1, .int (nI r)), (2, .int (nI p))]) rfl (by decide +kernel) (Nat.le_of_ble_eq_true rfl) ?_
  intro X C RT
  have hn9 := hS.2.1 r hr
  refine e_iconst (v := (nI 0)) C dX8_middles_0 (by decide) ?_
  refine e_istore_n (lv2 := [(3, .int (nI 0)), (0, .ref 25), (1, .int (nI r)), (2, .int (nI p))]) C dX8_middles_1 rfl (by decide) rfl ?_
  refine e_iconst (v := (nI 0)) C dX8_middles_2 (by decide) ?_
  refine e_istore (lv2 := [(4, .int (nI 0)), (3, .int (nI 0)), (0, .ref 25), (1, .int (nI r)), (2, .int (nI p))]) C dX8_middles_3 (by decide) rfl ?_
  refine e_loc [2, 3, 4, 1, 0] rfl ?_
  have lp : ∀ (i : Nat) (x9 : Nat), i ≤ n r → x9 = cntb (fun s => decide (P (r * 20 + s) = p)) i → Wd X (0, 0) 5 [(0, .ref 25), (1, .int (nI r)), (2, .int (nI p)), (3, .int (nI x9)), (4, .int (nI i))] [] (shF w) M := by
    intro i
    induction hq_lp : n r - i using Nat.strongRecOn generalizing i with
    | ind k_lp ih_lp =>
      intro x9 hi hx9
      have hPi := hS.2.2.2 (r * 20 + i)
      refine e_iload C dX8_middles_5 rfl ?_
      refine e_aload_n C dX8_middles_7 rfl rfl ?_
      refine e_getR (q := 26) C dX8_middles_8 fX8_7 rfl rfl ?_
      refine e_iload_n C dX8_middles_11 rfl rfl ?_
      refine e_ialoadN C dX8_middles_12 rfl (by omega) (by omega) ?_
      refine e_topi (nI (n r)) (hS.1 r (by omega)) ?_
      refine e_icmp_geN (tgt := 46) C dX8_middles_13 (by omega) (by omega) (by decide) (fun h13 => ?_) (fun h13 => ?_)
      · refine e_iload_n C dX8_middles_46 rfl rfl ?_
        exact e_zret C dX8_middles_47 RT rfl ⟨Nat.zero_le _, Nat.zero_le _⟩ (pi_ (congrArg nI (by rw [hx9, show i = n r by omega]; rfl)))
      · refine e_iload_n C dX8_middles_16 rfl rfl ?_
        refine e_aload_n C dX8_middles_17 rfl rfl ?_
        refine e_getR (q := 27) C dX8_middles_18 fX8_13 rfl rfl ?_
        refine e_bipush (v := (nI 20)) C dX8_middles_21 (by decide) ?_
        refine e_iload_n C dX8_middles_23 rfl rfl ?_
        refine e_imulN C dX8_middles_24 ?_
        refine e_iload C dX8_middles_25 rfl ?_
        refine e_iaddN C dX8_middles_27 ?_
        refine e_ialoadN C dX8_middles_28 rfl (by omega) (by omega) ?_
        refine e_topi (nI (P (r * 20 + i))) (by rw [show 20 * r + i = r * 20 + i by omega]; exact hS.2.2.1 r hr i (by omega)) ?_
        refine e_iload_n C dX8_middles_29 rfl rfl ?_
        refine e_icmp_neN (tgt := 37) C dX8_middles_30 (by omega) (by omega) (by decide) (fun h30 => ?_) (fun h30 => ?_)
        · refine e_iconst (v := (nI 0)) C dX8_middles_37 (by decide) ?_
          refine e_iaddN C dX8_middles_38 ?_
          refine e_istore_n (lv2 := [(3, .int (nI (x9 + 0))), (0, .ref 25), (1, .int (nI r)), (2, .int (nI p)), (4, .int (nI i))]) C dX8_middles_39 rfl (by decide) rfl ?_
          refine e_iincN (lv2 := [(4, .int (nI (i + 1))), (3, .int (nI (x9 + 0))), (0, .ref 25), (1, .int (nI r)), (2, .int (nI p))]) C dX8_middles_40 rfl (by decide) (nI_1 _) rfl ?_
          refine e_goto (tgt := 5) C dX8_middles_43 (by decide) ?_
          refine e_loc [2, 3, 4, 1, 0] rfl ?_
          exact ih_lp (n r - (i + 1)) (by omega) (i + 1) rfl (x9 + 0) (by omega) (by show _ = cntb (fun s => decide (P (r * 20 + s) = p)) (i + 1); unfold cntb; rw [← hx9]; simp [h30])
        · refine e_iconst (v := (nI 1)) C dX8_middles_33 (by decide) ?_
          refine e_goto (tgt := 38) C dX8_middles_34 (by decide) ?_
          refine e_iaddN C dX8_middles_38 ?_
          refine e_istore_n (lv2 := [(3, .int (nI (x9 + 1))), (0, .ref 25), (1, .int (nI r)), (2, .int (nI p)), (4, .int (nI i))]) C dX8_middles_39 rfl (by decide) rfl ?_
          refine e_iincN (lv2 := [(4, .int (nI (i + 1))), (3, .int (nI (x9 + 1))), (0, .ref 25), (1, .int (nI r)), (2, .int (nI p))]) C dX8_middles_40 rfl (by decide) (nI_1 _) rfl ?_
          refine e_goto (tgt := 5) C dX8_middles_43 (by decide) ?_
          refine e_loc [2, 3, 4, 1, 0] rfl ?_
          exact ih_lp (n r - (i + 1)) (by omega) (i + 1) rfl (x9 + 1) (by omega) (by show _ = cntb (fun s => decide (P (r * 20 + s) = p)) (i + 1); unfold cntb; rw [← hx9]; simp [h30])
  exact lp 0 0 (by omega) rfl
set_option maxHeartbeats 4000000 in
set_option maxRecDepth 100000 in
theorem r_nears {w : Bool} {M : Mm} {n P : Nat → Nat} (hS : RsOK M n P) (r p : Nat) (hr : r < 3) (hp : p < 8) : CT mX8_nears [.ref 25, .int (nI r), .int (nI p)] (shF w) M (Pi (nI (nea n P r p)) (shF w) M) := by
  refine CT.mk (lv := [(0, .ref 25), (1, .int (nI r)), (2, .int (nI p))]) rfl (by decide +kernel) (Nat.le_of_ble_eq_true rfl) ?_
  intro X C RT
  have hn9 := hS.2.1 r hr
  refine e_iconst (v := (nI 0)) C dX8_nears_0 (by decide) ?_
  refine e_istore_n (lv2 := [(3, .int (nI 0)), (0, .ref 25), (1, .int (nI r)), (2, .int (nI p))]) C dX8_nears_1 rfl (by decide) rfl ?_
  refine e_iconst (v := (nI 0)) C dX8_nears_2 (by decide) ?_
  refine e_istore (lv2 := [(4, .int (nI 0)), (3, .int (nI 0)), (0, .ref 25), (1, .int (nI r)), (2, .int (nI p))]) C dX8_nears_3 (by decide) rfl ?_
  refine e_loc [2, 3, 4, 1, 0] rfl ?_
  have lp : ∀ (i : Nat) (x9 : Nat), i ≤ n r → x9 = cntb (fun s => bes n P r p s) i → Wd X (0, 0) 5 [(0, .ref 25), (1, .int (nI r)), (2, .int (nI p)), (3, .int (nI x9)), (4, .int (nI i))] [] (shF w) M := by
    intro i
    induction hq_lp : n r - i using Nat.strongRecOn generalizing i with
    | ind k_lp ih_lp =>
      intro x9 hi hx9
      have hPi := hS.2.2.2 (r * 20 + i)
      refine e_iload C dX8_nears_5 rfl ?_
      refine e_aload_n C dX8_nears_7 rfl rfl ?_
      refine e_getR (q := 26) C dX8_nears_8 fX8_7 rfl rfl ?_
      refine e_iload_n C dX8_nears_11 rfl rfl ?_
      refine e_ialoadN C dX8_nears_12 rfl (by omega) (by omega) ?_
      refine e_topi (nI (n r)) (hS.1 r (by omega)) ?_
      refine e_icmp_geN (tgt := 66) C dX8_nears_13 (by omega) (by omega) (by decide) (fun h13 => ?_) (fun h13 => ?_)
      · refine e_iload_n C dX8_nears_66 rfl rfl ?_
        exact e_zret C dX8_nears_67 RT rfl ⟨Nat.zero_le _, Nat.zero_le _⟩ (pi_ (congrArg nI (by rw [hx9, show i = n r by omega]; rfl)))
      · refine e_iload_n C dX8_nears_16 rfl rfl ?_
        refine e_aload_n C dX8_nears_17 rfl rfl ?_
        refine e_iload_n C dX8_nears_18 rfl rfl ?_
        refine e_iload C dX8_nears_19 rfl ?_
        refine e_iconst (v := (nI 0)) C dX8_nears_21 (by decide) ?_
        have hb1 := hS.2.2.2 (r * 20 + i)
        refine e_callVi C dX8_nears_22 [.int (nI r), .int (nI i), .int (nI 0)] (r_shown hS r i (nI 0) i (by omega) (by omega) (Or.inl ⟨rfl, rfl⟩)) okX8_shown lX8_115 rfl rfl rfl ⟨rfl, rfl⟩ ⟨Nat.le_of_ble_eq_true rfl, Nat.le_of_ble_eq_true rfl⟩ (Nat.le_of_ble_eq_true rfl) ⟨Nat.zero_le _, Nat.zero_le _⟩ ?_
        refine e_iload_n C dX8_nears_25 rfl rfl ?_
        refine e_icmp_eqN (tgt := 57) C dX8_nears_26 (by omega) (by omega) (by decide) (fun h26 => ?_) (fun h26 => ?_)
        · refine e_iconst (v := (nI 0)) C dX8_nears_57 (by decide) ?_
          refine e_iaddN C dX8_nears_58 ?_
          refine e_istore_n (lv2 := [(3, .int (nI (x9 + 0))), (0, .ref 25), (1, .int (nI r)), (2, .int (nI p)), (4, .int (nI i))]) C dX8_nears_59 rfl (by decide) rfl ?_
          refine e_iincN (lv2 := [(4, .int (nI (i + 1))), (3, .int (nI (x9 + 0))), (0, .ref 25), (1, .int (nI r)), (2, .int (nI p))]) C dX8_nears_60 rfl (by decide) (nI_1 _) rfl ?_
          refine e_goto (tgt := 5) C dX8_nears_63 (by decide) ?_
          refine e_loc [2, 3, 4, 1, 0] rfl ?_
          exact ih_lp (n r - (i + 1)) (by omega) (i + 1) rfl (x9 + 0) (by omega) (by show _ = cntb (fun s => bes n P r p s) (i + 1); unfold cntb; rw [← hx9]; simp only [bes]; simp [h26])
        · refine e_aload_n C dX8_nears_29 rfl rfl ?_
          refine e_iload_n C dX8_nears_30 rfl rfl ?_
          refine e_iload C dX8_nears_31 rfl ?_
          refine e_iconst (v := (-1)) C dX8_nears_33 (by decide) ?_
          have hb2 := hS.2.2.2 (r * 20 + (abv (n r) i))
          refine e_callVi C dX8_nears_34 [.int (nI r), .int (nI i), .int (-1)] (r_shown hS r i (-1) (abv (n r) i) (by omega) (by omega) (Or.inr (Or.inl ⟨rfl, rfl⟩))) okX8_shown lX8_115 rfl rfl rfl ⟨rfl, rfl⟩ ⟨Nat.le_of_ble_eq_true rfl, Nat.le_of_ble_eq_true rfl⟩ (Nat.le_of_ble_eq_true rfl) ⟨Nat.zero_le _, Nat.zero_le _⟩ ?_
          refine e_iload_n C dX8_nears_37 rfl rfl ?_
          refine e_icmp_eqN (tgt := 53) C dX8_nears_38 (by omega) (by omega) (by decide) (fun h38 => ?_) (fun h38 => ?_)
          · refine e_iconst (v := (nI 1)) C dX8_nears_53 (by decide) ?_
            refine e_goto (tgt := 58) C dX8_nears_54 (by decide) ?_
            refine e_iaddN C dX8_nears_58 ?_
            refine e_istore_n (lv2 := [(3, .int (nI (x9 + 1))), (0, .ref 25), (1, .int (nI r)), (2, .int (nI p)), (4, .int (nI i))]) C dX8_nears_59 rfl (by decide) rfl ?_
            refine e_iincN (lv2 := [(4, .int (nI (i + 1))), (3, .int (nI (x9 + 1))), (0, .ref 25), (1, .int (nI r)), (2, .int (nI p))]) C dX8_nears_60 rfl (by decide) (nI_1 _) rfl ?_
            refine e_goto (tgt := 5) C dX8_nears_63 (by decide) ?_
            refine e_loc [2, 3, 4, 1, 0] rfl ?_
            exact ih_lp (n r - (i + 1)) (by omega) (i + 1) rfl (x9 + 1) (by omega) (by show _ = cntb (fun s => bes n P r p s) (i + 1); unfold cntb; rw [← hx9]; simp only [bes]; simp [h26, h38])
          · refine e_aload_n C dX8_nears_41 rfl rfl ?_
            refine e_iload_n C dX8_nears_42 rfl rfl ?_
            refine e_iload C dX8_nears_43 rfl ?_
            refine e_iconst (v := (nI 1)) C dX8_nears_45 (by decide) ?_
            have hb3 := hS.2.2.2 (r * 20 + (blw (n r) i))
            refine e_callVi C dX8_nears_46 [.int (nI r), .int (nI i), .int (nI 1)] (r_shown hS r i (nI 1) (blw (n r) i) (by omega) (by omega) (Or.inr (Or.inr ⟨rfl, rfl⟩))) okX8_shown lX8_115 rfl rfl rfl ⟨rfl, rfl⟩ ⟨Nat.le_of_ble_eq_true rfl, Nat.le_of_ble_eq_true rfl⟩ (Nat.le_of_ble_eq_true rfl) ⟨Nat.zero_le _, Nat.zero_le _⟩ ?_
            refine e_iload_n C dX8_nears_49 rfl rfl ?_
            refine e_icmp_neN (tgt := 57) C dX8_nears_50 (by omega) (by omega) (by decide) (fun h50 => ?_) (fun h50 => ?_)
            · refine e_iconst (v := (nI 0)) C dX8_nears_57 (by decide) ?_
              refine e_iaddN C dX8_nears_58 ?_
              refine e_istore_n (lv2 := [(3, .int (nI (x9 + 0))), (0, .ref 25), (1, .int (nI r)), (2, .int (nI p)), (4, .int (nI i))]) C dX8_nears_59 rfl (by decide) rfl ?_
              refine e_iincN (lv2 := [(4, .int (nI (i + 1))), (3, .int (nI (x9 + 0))), (0, .ref 25), (1, .int (nI r)), (2, .int (nI p))]) C dX8_nears_60 rfl (by decide) (nI_1 _) rfl ?_
              refine e_goto (tgt := 5) C dX8_nears_63 (by decide) ?_
              refine e_loc [2, 3, 4, 1, 0] rfl ?_
              exact ih_lp (n r - (i + 1)) (by omega) (i + 1) rfl (x9 + 0) (by omega) (by show _ = cntb (fun s => bes n P r p s) (i + 1); unfold cntb; rw [← hx9]; simp only [bes]; simp [h26, h38, h50])
            · refine e_iconst (v := (nI 1)) C dX8_nears_53 (by decide) ?_
              refine e_goto (tgt := 58) C dX8_nears_54 (by decide) ?_
              refine e_iaddN C dX8_nears_58 ?_
              refine e_istore_n (lv2 := [(3, .int (nI (x9 + 1))), (0, .ref 25), (1, .int (nI r)), (2, .int (nI p)), (4, .int (nI i))]) C dX8_nears_59 rfl (by decide) rfl ?_
              refine e_iincN (lv2 := [(4, .int (nI (i + 1))), (3, .int (nI (x9 + 1))), (0, .ref 25), (1, .int (nI r)), (2, .int (nI p))]) C dX8_nears_60 rfl (by decide) (nI_1 _) rfl ?_
              refine e_goto (tgt := 5) C dX8_nears_63 (by decide) ?_
              refine e_loc [2, 3, 4, 1, 0] rfl ?_
              exact ih_lp (n r - (i + 1)) (by omega) (i + 1) rfl (x9 + 1) (by omega) (by show _ = cntb (fun s => bes n P r p s) (i + 1); unfold cntb; rw [← hx9]; simp only [bes]; simp [h26, h38, h50])
  exact lp 0 0 (by omega) rfl
set_option maxHeartbeats 4000000 in
set_option maxRecDepth 100000 in
theorem r_worthOf {w : Bool} {M : Mm} {n P : Nat → Nat} {k : Nat} {W : Nat → Nat → Int32} {pv : Nat → Nat} {L : Nat} (hB : Rb M n P k W pv L) (hl : RlOK M n k W pv (EE n P k W pv L)) (a b c h : Nat) (ha : a < n 0) (hb : b < n 1) (hc : c < n 2) (hh : h < 8) : CT mX8_worthOf [.ref 25, .int (nI a), .int (nI b), .int (nI c), .int (nI h)] (shF w) M (Pl (lN (wrt n (EE n P k W pv L) a b c h)) (shF w) M) := by
  refine CT.mk (lv := [(0, .ref 25), (1, .int (nI a)), (2, .int (nI b)), (3, .int (nI c)), (4, .int (nI h))]) rfl (by decide +kernel) (Nat.le_of_ble_eq_true rfl) ?_
  intro X C RT
  obtain ⟨hS, hT, hL, hL1, hL3⟩ := id hB
  have n0 := hS.2.1 0 (by decide)
  have n1 := hS.2.1 1 (by decide)
  have n2 := hS.2.1 2 (by decide)
  rcases (show h = 0 ∨ h = 1 ∨ h = 2 ∨ h = 3 ∨ h = 4 ∨ h = 5 ∨ h = 6 ∨ h = 7 by omega) with rfl | rfl | rfl | rfl | rfl | rfl | rfl | rfl
  · refine e_iload C dX8_worthOf_0 rfl ?_
    refine e_tableIn (tgt := 44) C dX8_worthOf_2 (by decide) (by decide) rfl (by decide) ?_
    refine e_aload_n C dX8_worthOf_44 rfl rfl ?_
    refine e_getJ C dX8_worthOf_45 fX8_122 rfl rfl ?_
    refine e_topl (lN (heldS n (EE n P k W pv L) 0 a b c)) (by rw [hl.2.2.1]; exact congrArg lN held_0) ?_
    refine e_lstore (lv2 := [(5, .long (lN (heldS n (EE n P k W pv L) 0 a b c))), (0, .ref 25), (1, .int (nI a)), (2, .int (nI b)), (3, .int (nI c)), (4, .int (nI 0))]) C dX8_worthOf_48 (by decide) rfl ?_
    refine e_goto (tgt := 162) C dX8_worthOf_50 (by decide) ?_
    refine e_iconst (v := (nI 0)) C dX8_worthOf_162 (by decide) ?_
    refine e_istore (lv2 := [(7, .int (nI 0)), (5, .long (lN (heldS n (EE n P k W pv L) 0 a b c))), (0, .ref 25), (1, .int (nI a)), (2, .int (nI b)), (3, .int (nI c)), (4, .int (nI 0))]) C dX8_worthOf_163 (by decide) rfl ?_
    refine e_loc (lv2 := [(0, .ref 25), (1, .int (nI a)), (2, .int (nI b)), (3, .int (nI c)), (4, .int (nI 0)), (5, .long (lN (heldS n (EE n P k W pv L) 0 a b c))), (7, .int (nI 0))]) [2, 3, 4, 5, 6, 1, 0] rfl ?_
    refine e_iload C dX8_worthOf_165 rfl ?_
    refine e_iconst (v := (nI 3)) C dX8_worthOf_167 (by decide) ?_
    refine e_icmp_geN (tgt := 205) C dX8_worthOf_168 (by omega) (by omega) (by decide) (fun h168 => by omega) (fun h168 => ?_)
    refine e_lload C dX8_worthOf_171 rfl ?_
    refine e_iload C dX8_worthOf_173 rfl ?_
    refine e_iload C dX8_worthOf_175 rfl ?_
    refine e_ishr C dX8_worthOf_177 ?_
    refine e_iconst (v := (nI 1)) C dX8_worthOf_178 (by decide) ?_
    refine e_iand C dX8_worthOf_179 ?_
    refine e_iconst (v := (nI 1)) C dX8_worthOf_180 (by decide) ?_
    refine e_icmp_ne (x := (((nI 0) >>> ((nI 0) &&& 31)) &&& (nI 1))) (y := (nI 1)) (tgt := 195) C dX8_worthOf_181 (by decide) (fun h181 => ?_) (fun h181 => by exact absurd h181 (by decide))
    refine e_lconst (v := lN 1) C dX8_worthOf_195 (by decide) ?_
    refine e_lmulN C dX8_worthOf_196 ?_
    refine e_lstore (lv2 := [(5, .long (lN ((heldS n (EE n P k W pv L) 0 a b c) * 1))), (0, .ref 25), (1, .int (nI a)), (2, .int (nI b)), (3, .int (nI c)), (4, .int (nI 0)), (7, .int (nI 0))]) C dX8_worthOf_197 (by decide) rfl ?_
    refine e_iincN (lv2 := [(7, .int (nI (0 + 1))), (5, .long (lN ((heldS n (EE n P k W pv L) 0 a b c) * 1))), (0, .ref 25), (1, .int (nI a)), (2, .int (nI b)), (3, .int (nI c)), (4, .int (nI 0))]) C dX8_worthOf_199 rfl (by decide) (nI_1 _) rfl ?_
    refine e_goto (tgt := 165) C dX8_worthOf_202 (by decide) ?_
    refine e_loc (lv2 := [(0, .ref 25), (1, .int (nI a)), (2, .int (nI b)), (3, .int (nI c)), (4, .int (nI 0)), (5, .long (lN ((heldS n (EE n P k W pv L) 0 a b c) * 1))), (7, .int (nI 1))]) [2, 3, 4, 5, 6, 1, 0] rfl ?_
    refine e_iload C dX8_worthOf_165 rfl ?_
    refine e_iconst (v := (nI 3)) C dX8_worthOf_167 (by decide) ?_
    refine e_icmp_geN (tgt := 205) C dX8_worthOf_168 (by omega) (by omega) (by decide) (fun h168 => by omega) (fun h168 => ?_)
    refine e_lload C dX8_worthOf_171 rfl ?_
    refine e_iload C dX8_worthOf_173 rfl ?_
    refine e_iload C dX8_worthOf_175 rfl ?_
    refine e_ishr C dX8_worthOf_177 ?_
    refine e_iconst (v := (nI 1)) C dX8_worthOf_178 (by decide) ?_
    refine e_iand C dX8_worthOf_179 ?_
    refine e_iconst (v := (nI 1)) C dX8_worthOf_180 (by decide) ?_
    refine e_icmp_ne (x := (((nI 0) >>> ((nI 1) &&& 31)) &&& (nI 1))) (y := (nI 1)) (tgt := 195) C dX8_worthOf_181 (by decide) (fun h181 => ?_) (fun h181 => by exact absurd h181 (by decide))
    refine e_lconst (v := lN 1) C dX8_worthOf_195 (by decide) ?_
    refine e_lmulN C dX8_worthOf_196 ?_
    refine e_lstore (lv2 := [(5, .long (lN (((heldS n (EE n P k W pv L) 0 a b c) * 1) * 1))), (0, .ref 25), (1, .int (nI a)), (2, .int (nI b)), (3, .int (nI c)), (4, .int (nI 0)), (7, .int (nI 1))]) C dX8_worthOf_197 (by decide) rfl ?_
    refine e_iincN (lv2 := [(7, .int (nI (1 + 1))), (5, .long (lN (((heldS n (EE n P k W pv L) 0 a b c) * 1) * 1))), (0, .ref 25), (1, .int (nI a)), (2, .int (nI b)), (3, .int (nI c)), (4, .int (nI 0))]) C dX8_worthOf_199 rfl (by decide) (nI_1 _) rfl ?_
    refine e_goto (tgt := 165) C dX8_worthOf_202 (by decide) ?_
    refine e_loc (lv2 := [(0, .ref 25), (1, .int (nI a)), (2, .int (nI b)), (3, .int (nI c)), (4, .int (nI 0)), (5, .long (lN (((heldS n (EE n P k W pv L) 0 a b c) * 1) * 1))), (7, .int (nI 2))]) [2, 3, 4, 5, 6, 1, 0] rfl ?_
    refine e_iload C dX8_worthOf_165 rfl ?_
    refine e_iconst (v := (nI 3)) C dX8_worthOf_167 (by decide) ?_
    refine e_icmp_geN (tgt := 205) C dX8_worthOf_168 (by omega) (by omega) (by decide) (fun h168 => by omega) (fun h168 => ?_)
    refine e_lload C dX8_worthOf_171 rfl ?_
    refine e_iload C dX8_worthOf_173 rfl ?_
    refine e_iload C dX8_worthOf_175 rfl ?_
    refine e_ishr C dX8_worthOf_177 ?_
    refine e_iconst (v := (nI 1)) C dX8_worthOf_178 (by decide) ?_
    refine e_iand C dX8_worthOf_179 ?_
    refine e_iconst (v := (nI 1)) C dX8_worthOf_180 (by decide) ?_
    refine e_icmp_ne (x := (((nI 0) >>> ((nI 2) &&& 31)) &&& (nI 1))) (y := (nI 1)) (tgt := 195) C dX8_worthOf_181 (by decide) (fun h181 => ?_) (fun h181 => by exact absurd h181 (by decide))
    refine e_lconst (v := lN 1) C dX8_worthOf_195 (by decide) ?_
    refine e_lmulN C dX8_worthOf_196 ?_
    refine e_lstore (lv2 := [(5, .long (lN ((((heldS n (EE n P k W pv L) 0 a b c) * 1) * 1) * 1))), (0, .ref 25), (1, .int (nI a)), (2, .int (nI b)), (3, .int (nI c)), (4, .int (nI 0)), (7, .int (nI 2))]) C dX8_worthOf_197 (by decide) rfl ?_
    refine e_iincN (lv2 := [(7, .int (nI (2 + 1))), (5, .long (lN ((((heldS n (EE n P k W pv L) 0 a b c) * 1) * 1) * 1))), (0, .ref 25), (1, .int (nI a)), (2, .int (nI b)), (3, .int (nI c)), (4, .int (nI 0))]) C dX8_worthOf_199 rfl (by decide) (nI_1 _) rfl ?_
    refine e_goto (tgt := 165) C dX8_worthOf_202 (by decide) ?_
    refine e_loc (lv2 := [(0, .ref 25), (1, .int (nI a)), (2, .int (nI b)), (3, .int (nI c)), (4, .int (nI 0)), (5, .long (lN ((((heldS n (EE n P k W pv L) 0 a b c) * 1) * 1) * 1))), (7, .int (nI 3))]) [2, 3, 4, 5, 6, 1, 0] rfl ?_
    refine e_iload C dX8_worthOf_165 rfl ?_
    refine e_iconst (v := (nI 3)) C dX8_worthOf_167 (by decide) ?_
    refine e_icmp_geN (tgt := 205) C dX8_worthOf_168 (by omega) (by omega) (by decide) (fun h168 => ?_) (fun h168 => by omega)
    refine e_lload C dX8_worthOf_205 rfl ?_
    exact e_lret C dX8_worthOf_207 RT ⟨Nat.zero_le _, Nat.zero_le _⟩ (pl_ (congrArg lN (by unfold wrt; simp [prd, bitN, Nat.mul_assoc])))
  · refine e_iload C dX8_worthOf_0 rfl ?_
    refine e_tableIn (tgt := 53) C dX8_worthOf_2 (by decide) (by decide) rfl (by decide) ?_
    refine e_aload_n C dX8_worthOf_53 rfl rfl ?_
    refine e_getR (q := 37) C dX8_worthOf_54 fX8_47 rfl rfl ?_
    refine e_iload_n C dX8_worthOf_57 rfl rfl ?_
    refine e_laloadN C dX8_worthOf_58 rfl (by omega) (by omega) ?_
    refine e_topl (lN (heldS n (EE n P k W pv L) 1 a b c)) ((hl.2.2.2.2.1 _ (by omega)).trans (congrArg lN ((congrArg (fun j => tot n (indO (EE n P k W pv L) j)) (show a = 0 * 20 + a by omega)).trans (held_1 (a := a) (b := b) (c := c) n0.2 n1.2 n2.2 (by omega) (by omega) (by omega))))) ?_
    refine e_lstore (lv2 := [(5, .long (lN (heldS n (EE n P k W pv L) 1 a b c))), (0, .ref 25), (1, .int (nI a)), (2, .int (nI b)), (3, .int (nI c)), (4, .int (nI 1))]) C dX8_worthOf_59 (by decide) rfl ?_
    refine e_goto (tgt := 162) C dX8_worthOf_61 (by decide) ?_
    refine e_iconst (v := (nI 0)) C dX8_worthOf_162 (by decide) ?_
    refine e_istore (lv2 := [(7, .int (nI 0)), (5, .long (lN (heldS n (EE n P k W pv L) 1 a b c))), (0, .ref 25), (1, .int (nI a)), (2, .int (nI b)), (3, .int (nI c)), (4, .int (nI 1))]) C dX8_worthOf_163 (by decide) rfl ?_
    refine e_loc (lv2 := [(0, .ref 25), (1, .int (nI a)), (2, .int (nI b)), (3, .int (nI c)), (4, .int (nI 1)), (5, .long (lN (heldS n (EE n P k W pv L) 1 a b c))), (7, .int (nI 0))]) [2, 3, 4, 5, 6, 1, 0] rfl ?_
    refine e_iload C dX8_worthOf_165 rfl ?_
    refine e_iconst (v := (nI 3)) C dX8_worthOf_167 (by decide) ?_
    refine e_icmp_geN (tgt := 205) C dX8_worthOf_168 (by omega) (by omega) (by decide) (fun h168 => by omega) (fun h168 => ?_)
    refine e_lload C dX8_worthOf_171 rfl ?_
    refine e_iload C dX8_worthOf_173 rfl ?_
    refine e_iload C dX8_worthOf_175 rfl ?_
    refine e_ishr C dX8_worthOf_177 ?_
    refine e_iconst (v := (nI 1)) C dX8_worthOf_178 (by decide) ?_
    refine e_iand C dX8_worthOf_179 ?_
    refine e_iconst (v := (nI 1)) C dX8_worthOf_180 (by decide) ?_
    refine e_icmp_ne (x := (((nI 1) >>> ((nI 0) &&& 31)) &&& (nI 1))) (y := (nI 1)) (tgt := 195) C dX8_worthOf_181 (by decide) (fun h181 => by exact absurd (by decide) h181) (fun h181 => ?_)
    refine e_aload_n C dX8_worthOf_184 rfl rfl ?_
    refine e_getR (q := 26) C dX8_worthOf_185 fX8_7 rfl rfl ?_
    refine e_iload C dX8_worthOf_188 rfl ?_
    refine e_ialoadN C dX8_worthOf_190 rfl (by omega) (by omega) ?_
    refine e_topi (nI (n 0)) (hS.1 0 (by omega)) ?_
    refine e_i2lN C dX8_worthOf_191 (by omega) ?_
    refine e_goto (tgt := 196) C dX8_worthOf_192 (by decide) ?_
    refine e_lmulN C dX8_worthOf_196 ?_
    refine e_lstore (lv2 := [(5, .long (lN ((heldS n (EE n P k W pv L) 1 a b c) * (n 0)))), (0, .ref 25), (1, .int (nI a)), (2, .int (nI b)), (3, .int (nI c)), (4, .int (nI 1)), (7, .int (nI 0))]) C dX8_worthOf_197 (by decide) rfl ?_
    refine e_iincN (lv2 := [(7, .int (nI (0 + 1))), (5, .long (lN ((heldS n (EE n P k W pv L) 1 a b c) * (n 0)))), (0, .ref 25), (1, .int (nI a)), (2, .int (nI b)), (3, .int (nI c)), (4, .int (nI 1))]) C dX8_worthOf_199 rfl (by decide) (nI_1 _) rfl ?_
    refine e_goto (tgt := 165) C dX8_worthOf_202 (by decide) ?_
    refine e_loc (lv2 := [(0, .ref 25), (1, .int (nI a)), (2, .int (nI b)), (3, .int (nI c)), (4, .int (nI 1)), (5, .long (lN ((heldS n (EE n P k W pv L) 1 a b c) * (n 0)))), (7, .int (nI 1))]) [2, 3, 4, 5, 6, 1, 0] rfl ?_
    refine e_iload C dX8_worthOf_165 rfl ?_
    refine e_iconst (v := (nI 3)) C dX8_worthOf_167 (by decide) ?_
    refine e_icmp_geN (tgt := 205) C dX8_worthOf_168 (by omega) (by omega) (by decide) (fun h168 => by omega) (fun h168 => ?_)
    refine e_lload C dX8_worthOf_171 rfl ?_
    refine e_iload C dX8_worthOf_173 rfl ?_
    refine e_iload C dX8_worthOf_175 rfl ?_
    refine e_ishr C dX8_worthOf_177 ?_
    refine e_iconst (v := (nI 1)) C dX8_worthOf_178 (by decide) ?_
    refine e_iand C dX8_worthOf_179 ?_
    refine e_iconst (v := (nI 1)) C dX8_worthOf_180 (by decide) ?_
    refine e_icmp_ne (x := (((nI 1) >>> ((nI 1) &&& 31)) &&& (nI 1))) (y := (nI 1)) (tgt := 195) C dX8_worthOf_181 (by decide) (fun h181 => ?_) (fun h181 => by exact absurd h181 (by decide))
    refine e_lconst (v := lN 1) C dX8_worthOf_195 (by decide) ?_
    refine e_lmulN C dX8_worthOf_196 ?_
    refine e_lstore (lv2 := [(5, .long (lN (((heldS n (EE n P k W pv L) 1 a b c) * (n 0)) * 1))), (0, .ref 25), (1, .int (nI a)), (2, .int (nI b)), (3, .int (nI c)), (4, .int (nI 1)), (7, .int (nI 1))]) C dX8_worthOf_197 (by decide) rfl ?_
    refine e_iincN (lv2 := [(7, .int (nI (1 + 1))), (5, .long (lN (((heldS n (EE n P k W pv L) 1 a b c) * (n 0)) * 1))), (0, .ref 25), (1, .int (nI a)), (2, .int (nI b)), (3, .int (nI c)), (4, .int (nI 1))]) C dX8_worthOf_199 rfl (by decide) (nI_1 _) rfl ?_
    refine e_goto (tgt := 165) C dX8_worthOf_202 (by decide) ?_
    refine e_loc (lv2 := [(0, .ref 25), (1, .int (nI a)), (2, .int (nI b)), (3, .int (nI c)), (4, .int (nI 1)), (5, .long (lN (((heldS n (EE n P k W pv L) 1 a b c) * (n 0)) * 1))), (7, .int (nI 2))]) [2, 3, 4, 5, 6, 1, 0] rfl ?_
    refine e_iload C dX8_worthOf_165 rfl ?_
    refine e_iconst (v := (nI 3)) C dX8_worthOf_167 (by decide) ?_
    refine e_icmp_geN (tgt := 205) C dX8_worthOf_168 (by omega) (by omega) (by decide) (fun h168 => by omega) (fun h168 => ?_)
    refine e_lload C dX8_worthOf_171 rfl ?_
    refine e_iload C dX8_worthOf_173 rfl ?_
    refine e_iload C dX8_worthOf_175 rfl ?_
    refine e_ishr C dX8_worthOf_177 ?_
    refine e_iconst (v := (nI 1)) C dX8_worthOf_178 (by decide) ?_
    refine e_iand C dX8_worthOf_179 ?_
    refine e_iconst (v := (nI 1)) C dX8_worthOf_180 (by decide) ?_
    refine e_icmp_ne (x := (((nI 1) >>> ((nI 2) &&& 31)) &&& (nI 1))) (y := (nI 1)) (tgt := 195) C dX8_worthOf_181 (by decide) (fun h181 => ?_) (fun h181 => by exact absurd h181 (by decide))
    refine e_lconst (v := lN 1) C dX8_worthOf_195 (by decide) ?_
    refine e_lmulN C dX8_worthOf_196 ?_
    refine e_lstore (lv2 := [(5, .long (lN ((((heldS n (EE n P k W pv L) 1 a b c) * (n 0)) * 1) * 1))), (0, .ref 25), (1, .int (nI a)), (2, .int (nI b)), (3, .int (nI c)), (4, .int (nI 1)), (7, .int (nI 2))]) C dX8_worthOf_197 (by decide) rfl ?_
    refine e_iincN (lv2 := [(7, .int (nI (2 + 1))), (5, .long (lN ((((heldS n (EE n P k W pv L) 1 a b c) * (n 0)) * 1) * 1))), (0, .ref 25), (1, .int (nI a)), (2, .int (nI b)), (3, .int (nI c)), (4, .int (nI 1))]) C dX8_worthOf_199 rfl (by decide) (nI_1 _) rfl ?_
    refine e_goto (tgt := 165) C dX8_worthOf_202 (by decide) ?_
    refine e_loc (lv2 := [(0, .ref 25), (1, .int (nI a)), (2, .int (nI b)), (3, .int (nI c)), (4, .int (nI 1)), (5, .long (lN ((((heldS n (EE n P k W pv L) 1 a b c) * (n 0)) * 1) * 1))), (7, .int (nI 3))]) [2, 3, 4, 5, 6, 1, 0] rfl ?_
    refine e_iload C dX8_worthOf_165 rfl ?_
    refine e_iconst (v := (nI 3)) C dX8_worthOf_167 (by decide) ?_
    refine e_icmp_geN (tgt := 205) C dX8_worthOf_168 (by omega) (by omega) (by decide) (fun h168 => ?_) (fun h168 => by omega)
    refine e_lload C dX8_worthOf_205 rfl ?_
    exact e_lret C dX8_worthOf_207 RT ⟨Nat.zero_le _, Nat.zero_le _⟩ (pl_ (congrArg lN (by unfold wrt; simp [prd, bitN, Nat.mul_assoc])))
  · refine e_iload C dX8_worthOf_0 rfl ?_
    refine e_tableIn (tgt := 64) C dX8_worthOf_2 (by decide) (by decide) rfl (by decide) ?_
    refine e_aload_n C dX8_worthOf_64 rfl rfl ?_
    refine e_getR (q := 37) C dX8_worthOf_65 fX8_47 rfl rfl ?_
    refine e_bipush (v := (nI 20)) C dX8_worthOf_68 (by decide) ?_
    refine e_iload_n C dX8_worthOf_70 rfl rfl ?_
    refine e_iaddN C dX8_worthOf_71 ?_
    refine e_laloadN C dX8_worthOf_72 rfl (by omega) (by omega) ?_
    refine e_topl (lN (heldS n (EE n P k W pv L) 2 a b c)) ((hl.2.2.2.2.1 _ (by omega)).trans (congrArg lN ((congrArg (fun j => tot n (indO (EE n P k W pv L) j)) (show 20 + b = 1 * 20 + b by omega)).trans (held_2 (a := a) (b := b) (c := c) n0.2 n1.2 n2.2 (by omega) (by omega) (by omega))))) ?_
    refine e_lstore (lv2 := [(5, .long (lN (heldS n (EE n P k W pv L) 2 a b c))), (0, .ref 25), (1, .int (nI a)), (2, .int (nI b)), (3, .int (nI c)), (4, .int (nI 2))]) C dX8_worthOf_73 (by decide) rfl ?_
    refine e_goto (tgt := 162) C dX8_worthOf_75 (by decide) ?_
    refine e_iconst (v := (nI 0)) C dX8_worthOf_162 (by decide) ?_
    refine e_istore (lv2 := [(7, .int (nI 0)), (5, .long (lN (heldS n (EE n P k W pv L) 2 a b c))), (0, .ref 25), (1, .int (nI a)), (2, .int (nI b)), (3, .int (nI c)), (4, .int (nI 2))]) C dX8_worthOf_163 (by decide) rfl ?_
    refine e_loc (lv2 := [(0, .ref 25), (1, .int (nI a)), (2, .int (nI b)), (3, .int (nI c)), (4, .int (nI 2)), (5, .long (lN (heldS n (EE n P k W pv L) 2 a b c))), (7, .int (nI 0))]) [2, 3, 4, 5, 6, 1, 0] rfl ?_
    refine e_iload C dX8_worthOf_165 rfl ?_
    refine e_iconst (v := (nI 3)) C dX8_worthOf_167 (by decide) ?_
    refine e_icmp_geN (tgt := 205) C dX8_worthOf_168 (by omega) (by omega) (by decide) (fun h168 => by omega) (fun h168 => ?_)
    refine e_lload C dX8_worthOf_171 rfl ?_
    refine e_iload C dX8_worthOf_173 rfl ?_
    refine e_iload C dX8_worthOf_175 rfl ?_
    refine e_ishr C dX8_worthOf_177 ?_
    refine e_iconst (v := (nI 1)) C dX8_worthOf_178 (by decide) ?_
    refine e_iand C dX8_worthOf_179 ?_
    refine e_iconst (v := (nI 1)) C dX8_worthOf_180 (by decide) ?_
    refine e_icmp_ne (x := (((nI 2) >>> ((nI 0) &&& 31)) &&& (nI 1))) (y := (nI 1)) (tgt := 195) C dX8_worthOf_181 (by decide) (fun h181 => ?_) (fun h181 => by exact absurd h181 (by decide))
    refine e_lconst (v := lN 1) C dX8_worthOf_195 (by decide) ?_
    refine e_lmulN C dX8_worthOf_196 ?_
    refine e_lstore (lv2 := [(5, .long (lN ((heldS n (EE n P k W pv L) 2 a b c) * 1))), (0, .ref 25), (1, .int (nI a)), (2, .int (nI b)), (3, .int (nI c)), (4, .int (nI 2)), (7, .int (nI 0))]) C dX8_worthOf_197 (by decide) rfl ?_
    refine e_iincN (lv2 := [(7, .int (nI (0 + 1))), (5, .long (lN ((heldS n (EE n P k W pv L) 2 a b c) * 1))), (0, .ref 25), (1, .int (nI a)), (2, .int (nI b)), (3, .int (nI c)), (4, .int (nI 2))]) C dX8_worthOf_199 rfl (by decide) (nI_1 _) rfl ?_
    refine e_goto (tgt := 165) C dX8_worthOf_202 (by decide) ?_
    refine e_loc (lv2 := [(0, .ref 25), (1, .int (nI a)), (2, .int (nI b)), (3, .int (nI c)), (4, .int (nI 2)), (5, .long (lN ((heldS n (EE n P k W pv L) 2 a b c) * 1))), (7, .int (nI 1))]) [2, 3, 4, 5, 6, 1, 0] rfl ?_
    refine e_iload C dX8_worthOf_165 rfl ?_
    refine e_iconst (v := (nI 3)) C dX8_worthOf_167 (by decide) ?_
    refine e_icmp_geN (tgt := 205) C dX8_worthOf_168 (by omega) (by omega) (by decide) (fun h168 => by omega) (fun h168 => ?_)
    refine e_lload C dX8_worthOf_171 rfl ?_
    refine e_iload C dX8_worthOf_173 rfl ?_
    refine e_iload C dX8_worthOf_175 rfl ?_
    refine e_ishr C dX8_worthOf_177 ?_
    refine e_iconst (v := (nI 1)) C dX8_worthOf_178 (by decide) ?_
    refine e_iand C dX8_worthOf_179 ?_
    refine e_iconst (v := (nI 1)) C dX8_worthOf_180 (by decide) ?_
    refine e_icmp_ne (x := (((nI 2) >>> ((nI 1) &&& 31)) &&& (nI 1))) (y := (nI 1)) (tgt := 195) C dX8_worthOf_181 (by decide) (fun h181 => by exact absurd (by decide) h181) (fun h181 => ?_)
    refine e_aload_n C dX8_worthOf_184 rfl rfl ?_
    refine e_getR (q := 26) C dX8_worthOf_185 fX8_7 rfl rfl ?_
    refine e_iload C dX8_worthOf_188 rfl ?_
    refine e_ialoadN C dX8_worthOf_190 rfl (by omega) (by omega) ?_
    refine e_topi (nI (n 1)) (hS.1 1 (by omega)) ?_
    refine e_i2lN C dX8_worthOf_191 (by omega) ?_
    refine e_goto (tgt := 196) C dX8_worthOf_192 (by decide) ?_
    refine e_lmulN C dX8_worthOf_196 ?_
    refine e_lstore (lv2 := [(5, .long (lN (((heldS n (EE n P k W pv L) 2 a b c) * 1) * (n 1)))), (0, .ref 25), (1, .int (nI a)), (2, .int (nI b)), (3, .int (nI c)), (4, .int (nI 2)), (7, .int (nI 1))]) C dX8_worthOf_197 (by decide) rfl ?_
    refine e_iincN (lv2 := [(7, .int (nI (1 + 1))), (5, .long (lN (((heldS n (EE n P k W pv L) 2 a b c) * 1) * (n 1)))), (0, .ref 25), (1, .int (nI a)), (2, .int (nI b)), (3, .int (nI c)), (4, .int (nI 2))]) C dX8_worthOf_199 rfl (by decide) (nI_1 _) rfl ?_
    refine e_goto (tgt := 165) C dX8_worthOf_202 (by decide) ?_
    refine e_loc (lv2 := [(0, .ref 25), (1, .int (nI a)), (2, .int (nI b)), (3, .int (nI c)), (4, .int (nI 2)), (5, .long (lN (((heldS n (EE n P k W pv L) 2 a b c) * 1) * (n 1)))), (7, .int (nI 2))]) [2, 3, 4, 5, 6, 1, 0] rfl ?_
    refine e_iload C dX8_worthOf_165 rfl ?_
    refine e_iconst (v := (nI 3)) C dX8_worthOf_167 (by decide) ?_
    refine e_icmp_geN (tgt := 205) C dX8_worthOf_168 (by omega) (by omega) (by decide) (fun h168 => by omega) (fun h168 => ?_)
    refine e_lload C dX8_worthOf_171 rfl ?_
    refine e_iload C dX8_worthOf_173 rfl ?_
    refine e_iload C dX8_worthOf_175 rfl ?_
    refine e_ishr C dX8_worthOf_177 ?_
    refine e_iconst (v := (nI 1)) C dX8_worthOf_178 (by decide) ?_
    refine e_iand C dX8_worthOf_179 ?_
    refine e_iconst (v := (nI 1)) C dX8_worthOf_180 (by decide) ?_
    refine e_icmp_ne (x := (((nI 2) >>> ((nI 2) &&& 31)) &&& (nI 1))) (y := (nI 1)) (tgt := 195) C dX8_worthOf_181 (by decide) (fun h181 => ?_) (fun h181 => by exact absurd h181 (by decide))
    refine e_lconst (v := lN 1) C dX8_worthOf_195 (by decide) ?_
    refine e_lmulN C dX8_worthOf_196 ?_
    refine e_lstore (lv2 := [(5, .long (lN ((((heldS n (EE n P k W pv L) 2 a b c) * 1) * (n 1)) * 1))), (0, .ref 25), (1, .int (nI a)), (2, .int (nI b)), (3, .int (nI c)), (4, .int (nI 2)), (7, .int (nI 2))]) C dX8_worthOf_197 (by decide) rfl ?_
    refine e_iincN (lv2 := [(7, .int (nI (2 + 1))), (5, .long (lN ((((heldS n (EE n P k W pv L) 2 a b c) * 1) * (n 1)) * 1))), (0, .ref 25), (1, .int (nI a)), (2, .int (nI b)), (3, .int (nI c)), (4, .int (nI 2))]) C dX8_worthOf_199 rfl (by decide) (nI_1 _) rfl ?_
    refine e_goto (tgt := 165) C dX8_worthOf_202 (by decide) ?_
    refine e_loc (lv2 := [(0, .ref 25), (1, .int (nI a)), (2, .int (nI b)), (3, .int (nI c)), (4, .int (nI 2)), (5, .long (lN ((((heldS n (EE n P k W pv L) 2 a b c) * 1) * (n 1)) * 1))), (7, .int (nI 3))]) [2, 3, 4, 5, 6, 1, 0] rfl ?_
    refine e_iload C dX8_worthOf_165 rfl ?_
    refine e_iconst (v := (nI 3)) C dX8_worthOf_167 (by decide) ?_
    refine e_icmp_geN (tgt := 205) C dX8_worthOf_168 (by omega) (by omega) (by decide) (fun h168 => ?_) (fun h168 => by omega)
    refine e_lload C dX8_worthOf_205 rfl ?_
    exact e_lret C dX8_worthOf_207 RT ⟨Nat.zero_le _, Nat.zero_le _⟩ (pl_ (congrArg lN (by unfold wrt; simp [prd, bitN, Nat.mul_assoc])))
  · refine e_iload C dX8_worthOf_0 rfl ?_
    refine e_tableIn (tgt := 78) C dX8_worthOf_2 (by decide) (by decide) rfl (by decide) ?_
    refine e_aload_n C dX8_worthOf_78 rfl rfl ?_
    refine e_getR (q := 38) C dX8_worthOf_79 fX8_51 rfl rfl ?_
    refine e_bipush (v := (nI 20)) C dX8_worthOf_82 (by decide) ?_
    refine e_iload_n C dX8_worthOf_84 rfl rfl ?_
    refine e_imulN C dX8_worthOf_85 ?_
    refine e_iload_n C dX8_worthOf_86 rfl rfl ?_
    refine e_iaddN C dX8_worthOf_87 ?_
    refine e_laloadN C dX8_worthOf_88 rfl (by omega) (by omega) ?_
    refine e_topl (lN (heldS n (EE n P k W pv L) 3 a b c)) (by rw [hl.2.2.2.2.2 _ (by omega)]; exact congrArg lN ((u_3 n0.2 n1.2 n2.2 (by omega) (by omega)).trans (held_3 (a := a) (b := b) (c := c) n0.2 n1.2 n2.2 (by omega) (by omega) (by omega)))) ?_
    refine e_lstore (lv2 := [(5, .long (lN (heldS n (EE n P k W pv L) 3 a b c))), (0, .ref 25), (1, .int (nI a)), (2, .int (nI b)), (3, .int (nI c)), (4, .int (nI 3))]) C dX8_worthOf_89 (by decide) rfl ?_
    refine e_goto (tgt := 162) C dX8_worthOf_91 (by decide) ?_
    refine e_iconst (v := (nI 0)) C dX8_worthOf_162 (by decide) ?_
    refine e_istore (lv2 := [(7, .int (nI 0)), (5, .long (lN (heldS n (EE n P k W pv L) 3 a b c))), (0, .ref 25), (1, .int (nI a)), (2, .int (nI b)), (3, .int (nI c)), (4, .int (nI 3))]) C dX8_worthOf_163 (by decide) rfl ?_
    refine e_loc (lv2 := [(0, .ref 25), (1, .int (nI a)), (2, .int (nI b)), (3, .int (nI c)), (4, .int (nI 3)), (5, .long (lN (heldS n (EE n P k W pv L) 3 a b c))), (7, .int (nI 0))]) [2, 3, 4, 5, 6, 1, 0] rfl ?_
    refine e_iload C dX8_worthOf_165 rfl ?_
    refine e_iconst (v := (nI 3)) C dX8_worthOf_167 (by decide) ?_
    refine e_icmp_geN (tgt := 205) C dX8_worthOf_168 (by omega) (by omega) (by decide) (fun h168 => by omega) (fun h168 => ?_)
    refine e_lload C dX8_worthOf_171 rfl ?_
    refine e_iload C dX8_worthOf_173 rfl ?_
    refine e_iload C dX8_worthOf_175 rfl ?_
    refine e_ishr C dX8_worthOf_177 ?_
    refine e_iconst (v := (nI 1)) C dX8_worthOf_178 (by decide) ?_
    refine e_iand C dX8_worthOf_179 ?_
    refine e_iconst (v := (nI 1)) C dX8_worthOf_180 (by decide) ?_
    refine e_icmp_ne (x := (((nI 3) >>> ((nI 0) &&& 31)) &&& (nI 1))) (y := (nI 1)) (tgt := 195) C dX8_worthOf_181 (by decide) (fun h181 => by exact absurd (by decide) h181) (fun h181 => ?_)
    refine e_aload_n C dX8_worthOf_184 rfl rfl ?_
    refine e_getR (q := 26) C dX8_worthOf_185 fX8_7 rfl rfl ?_
    refine e_iload C dX8_worthOf_188 rfl ?_
    refine e_ialoadN C dX8_worthOf_190 rfl (by omega) (by omega) ?_
    refine e_topi (nI (n 0)) (hS.1 0 (by omega)) ?_
    refine e_i2lN C dX8_worthOf_191 (by omega) ?_
    refine e_goto (tgt := 196) C dX8_worthOf_192 (by decide) ?_
    refine e_lmulN C dX8_worthOf_196 ?_
    refine e_lstore (lv2 := [(5, .long (lN ((heldS n (EE n P k W pv L) 3 a b c) * (n 0)))), (0, .ref 25), (1, .int (nI a)), (2, .int (nI b)), (3, .int (nI c)), (4, .int (nI 3)), (7, .int (nI 0))]) C dX8_worthOf_197 (by decide) rfl ?_
    refine e_iincN (lv2 := [(7, .int (nI (0 + 1))), (5, .long (lN ((heldS n (EE n P k W pv L) 3 a b c) * (n 0)))), (0, .ref 25), (1, .int (nI a)), (2, .int (nI b)), (3, .int (nI c)), (4, .int (nI 3))]) C dX8_worthOf_199 rfl (by decide) (nI_1 _) rfl ?_
    refine e_goto (tgt := 165) C dX8_worthOf_202 (by decide) ?_
    refine e_loc (lv2 := [(0, .ref 25), (1, .int (nI a)), (2, .int (nI b)), (3, .int (nI c)), (4, .int (nI 3)), (5, .long (lN ((heldS n (EE n P k W pv L) 3 a b c) * (n 0)))), (7, .int (nI 1))]) [2, 3, 4, 5, 6, 1, 0] rfl ?_
    refine e_iload C dX8_worthOf_165 rfl ?_
    refine e_iconst (v := (nI 3)) C dX8_worthOf_167 (by decide) ?_
    refine e_icmp_geN (tgt := 205) C dX8_worthOf_168 (by omega) (by omega) (by decide) (fun h168 => by omega) (fun h168 => ?_)
    refine e_lload C dX8_worthOf_171 rfl ?_
    refine e_iload C dX8_worthOf_173 rfl ?_
    refine e_iload C dX8_worthOf_175 rfl ?_
    refine e_ishr C dX8_worthOf_177 ?_
    refine e_iconst (v := (nI 1)) C dX8_worthOf_178 (by decide) ?_
    refine e_iand C dX8_worthOf_179 ?_
    refine e_iconst (v := (nI 1)) C dX8_worthOf_180 (by decide) ?_
    refine e_icmp_ne (x := (((nI 3) >>> ((nI 1) &&& 31)) &&& (nI 1))) (y := (nI 1)) (tgt := 195) C dX8_worthOf_181 (by decide) (fun h181 => by exact absurd (by decide) h181) (fun h181 => ?_)
    refine e_aload_n C dX8_worthOf_184 rfl rfl ?_
    refine e_getR (q := 26) C dX8_worthOf_185 fX8_7 rfl rfl ?_
    refine e_iload C dX8_worthOf_188 rfl ?_
    refine e_ialoadN C dX8_worthOf_190 rfl (by omega) (by omega) ?_
    refine e_topi (nI (n 1)) (hS.1 1 (by omega)) ?_
    refine e_i2lN C dX8_worthOf_191 (by omega) ?_
    refine e_goto (tgt := 196) C dX8_worthOf_192 (by decide) ?_
    refine e_lmulN C dX8_worthOf_196 ?_
    refine e_lstore (lv2 := [(5, .long (lN (((heldS n (EE n P k W pv L) 3 a b c) * (n 0)) * (n 1)))), (0, .ref 25), (1, .int (nI a)), (2, .int (nI b)), (3, .int (nI c)), (4, .int (nI 3)), (7, .int (nI 1))]) C dX8_worthOf_197 (by decide) rfl ?_
    refine e_iincN (lv2 := [(7, .int (nI (1 + 1))), (5, .long (lN (((heldS n (EE n P k W pv L) 3 a b c) * (n 0)) * (n 1)))), (0, .ref 25), (1, .int (nI a)), (2, .int (nI b)), (3, .int (nI c)), (4, .int (nI 3))]) C dX8_worthOf_199 rfl (by decide) (nI_1 _) rfl ?_
    refine e_goto (tgt := 165) C dX8_worthOf_202 (by decide) ?_
    refine e_loc (lv2 := [(0, .ref 25), (1, .int (nI a)), (2, .int (nI b)), (3, .int (nI c)), (4, .int (nI 3)), (5, .long (lN (((heldS n (EE n P k W pv L) 3 a b c) * (n 0)) * (n 1)))), (7, .int (nI 2))]) [2, 3, 4, 5, 6, 1, 0] rfl ?_
    refine e_iload C dX8_worthOf_165 rfl ?_
    refine e_iconst (v := (nI 3)) C dX8_worthOf_167 (by decide) ?_
    refine e_icmp_geN (tgt := 205) C dX8_worthOf_168 (by omega) (by omega) (by decide) (fun h168 => by omega) (fun h168 => ?_)
    refine e_lload C dX8_worthOf_171 rfl ?_
    refine e_iload C dX8_worthOf_173 rfl ?_
    refine e_iload C dX8_worthOf_175 rfl ?_
    refine e_ishr C dX8_worthOf_177 ?_
    refine e_iconst (v := (nI 1)) C dX8_worthOf_178 (by decide) ?_
    refine e_iand C dX8_worthOf_179 ?_
    refine e_iconst (v := (nI 1)) C dX8_worthOf_180 (by decide) ?_
    refine e_icmp_ne (x := (((nI 3) >>> ((nI 2) &&& 31)) &&& (nI 1))) (y := (nI 1)) (tgt := 195) C dX8_worthOf_181 (by decide) (fun h181 => ?_) (fun h181 => by exact absurd h181 (by decide))
    refine e_lconst (v := lN 1) C dX8_worthOf_195 (by decide) ?_
    refine e_lmulN C dX8_worthOf_196 ?_
    refine e_lstore (lv2 := [(5, .long (lN ((((heldS n (EE n P k W pv L) 3 a b c) * (n 0)) * (n 1)) * 1))), (0, .ref 25), (1, .int (nI a)), (2, .int (nI b)), (3, .int (nI c)), (4, .int (nI 3)), (7, .int (nI 2))]) C dX8_worthOf_197 (by decide) rfl ?_
    refine e_iincN (lv2 := [(7, .int (nI (2 + 1))), (5, .long (lN ((((heldS n (EE n P k W pv L) 3 a b c) * (n 0)) * (n 1)) * 1))), (0, .ref 25), (1, .int (nI a)), (2, .int (nI b)), (3, .int (nI c)), (4, .int (nI 3))]) C dX8_worthOf_199 rfl (by decide) (nI_1 _) rfl ?_
    refine e_goto (tgt := 165) C dX8_worthOf_202 (by decide) ?_
    refine e_loc (lv2 := [(0, .ref 25), (1, .int (nI a)), (2, .int (nI b)), (3, .int (nI c)), (4, .int (nI 3)), (5, .long (lN ((((heldS n (EE n P k W pv L) 3 a b c) * (n 0)) * (n 1)) * 1))), (7, .int (nI 3))]) [2, 3, 4, 5, 6, 1, 0] rfl ?_
    refine e_iload C dX8_worthOf_165 rfl ?_
    refine e_iconst (v := (nI 3)) C dX8_worthOf_167 (by decide) ?_
    refine e_icmp_geN (tgt := 205) C dX8_worthOf_168 (by omega) (by omega) (by decide) (fun h168 => ?_) (fun h168 => by omega)
    refine e_lload C dX8_worthOf_205 rfl ?_
    exact e_lret C dX8_worthOf_207 RT ⟨Nat.zero_le _, Nat.zero_le _⟩ (pl_ (congrArg lN (by unfold wrt; simp [prd, bitN, Nat.mul_assoc])))
  · refine e_iload C dX8_worthOf_0 rfl ?_
    refine e_tableIn (tgt := 94) C dX8_worthOf_2 (by decide) (by decide) rfl (by decide) ?_
    refine e_aload_n C dX8_worthOf_94 rfl rfl ?_
    refine e_getR (q := 37) C dX8_worthOf_95 fX8_47 rfl rfl ?_
    refine e_bipush (v := (nI 40)) C dX8_worthOf_98 (by decide) ?_
    refine e_iload_n C dX8_worthOf_100 rfl rfl ?_
    refine e_iaddN C dX8_worthOf_101 ?_
    refine e_laloadN C dX8_worthOf_102 rfl (by omega) (by omega) ?_
    refine e_topl (lN (heldS n (EE n P k W pv L) 4 a b c)) ((hl.2.2.2.2.1 _ (by omega)).trans (congrArg lN ((congrArg (fun j => tot n (indO (EE n P k W pv L) j)) (show 40 + c = 2 * 20 + c by omega)).trans (held_4 (a := a) (b := b) (c := c) n0.2 n1.2 n2.2 (by omega) (by omega) (by omega))))) ?_
    refine e_lstore (lv2 := [(5, .long (lN (heldS n (EE n P k W pv L) 4 a b c))), (0, .ref 25), (1, .int (nI a)), (2, .int (nI b)), (3, .int (nI c)), (4, .int (nI 4))]) C dX8_worthOf_103 (by decide) rfl ?_
    refine e_goto (tgt := 162) C dX8_worthOf_105 (by decide) ?_
    refine e_iconst (v := (nI 0)) C dX8_worthOf_162 (by decide) ?_
    refine e_istore (lv2 := [(7, .int (nI 0)), (5, .long (lN (heldS n (EE n P k W pv L) 4 a b c))), (0, .ref 25), (1, .int (nI a)), (2, .int (nI b)), (3, .int (nI c)), (4, .int (nI 4))]) C dX8_worthOf_163 (by decide) rfl ?_
    refine e_loc (lv2 := [(0, .ref 25), (1, .int (nI a)), (2, .int (nI b)), (3, .int (nI c)), (4, .int (nI 4)), (5, .long (lN (heldS n (EE n P k W pv L) 4 a b c))), (7, .int (nI 0))]) [2, 3, 4, 5, 6, 1, 0] rfl ?_
    refine e_iload C dX8_worthOf_165 rfl ?_
    refine e_iconst (v := (nI 3)) C dX8_worthOf_167 (by decide) ?_
    refine e_icmp_geN (tgt := 205) C dX8_worthOf_168 (by omega) (by omega) (by decide) (fun h168 => by omega) (fun h168 => ?_)
    refine e_lload C dX8_worthOf_171 rfl ?_
    refine e_iload C dX8_worthOf_173 rfl ?_
    refine e_iload C dX8_worthOf_175 rfl ?_
    refine e_ishr C dX8_worthOf_177 ?_
    refine e_iconst (v := (nI 1)) C dX8_worthOf_178 (by decide) ?_
    refine e_iand C dX8_worthOf_179 ?_
    refine e_iconst (v := (nI 1)) C dX8_worthOf_180 (by decide) ?_
    refine e_icmp_ne (x := (((nI 4) >>> ((nI 0) &&& 31)) &&& (nI 1))) (y := (nI 1)) (tgt := 195) C dX8_worthOf_181 (by decide) (fun h181 => ?_) (fun h181 => by exact absurd h181 (by decide))
    refine e_lconst (v := lN 1) C dX8_worthOf_195 (by decide) ?_
    refine e_lmulN C dX8_worthOf_196 ?_
    refine e_lstore (lv2 := [(5, .long (lN ((heldS n (EE n P k W pv L) 4 a b c) * 1))), (0, .ref 25), (1, .int (nI a)), (2, .int (nI b)), (3, .int (nI c)), (4, .int (nI 4)), (7, .int (nI 0))]) C dX8_worthOf_197 (by decide) rfl ?_
    refine e_iincN (lv2 := [(7, .int (nI (0 + 1))), (5, .long (lN ((heldS n (EE n P k W pv L) 4 a b c) * 1))), (0, .ref 25), (1, .int (nI a)), (2, .int (nI b)), (3, .int (nI c)), (4, .int (nI 4))]) C dX8_worthOf_199 rfl (by decide) (nI_1 _) rfl ?_
    refine e_goto (tgt := 165) C dX8_worthOf_202 (by decide) ?_
    refine e_loc (lv2 := [(0, .ref 25), (1, .int (nI a)), (2, .int (nI b)), (3, .int (nI c)), (4, .int (nI 4)), (5, .long (lN ((heldS n (EE n P k W pv L) 4 a b c) * 1))), (7, .int (nI 1))]) [2, 3, 4, 5, 6, 1, 0] rfl ?_
    refine e_iload C dX8_worthOf_165 rfl ?_
    refine e_iconst (v := (nI 3)) C dX8_worthOf_167 (by decide) ?_
    refine e_icmp_geN (tgt := 205) C dX8_worthOf_168 (by omega) (by omega) (by decide) (fun h168 => by omega) (fun h168 => ?_)
    refine e_lload C dX8_worthOf_171 rfl ?_
    refine e_iload C dX8_worthOf_173 rfl ?_
    refine e_iload C dX8_worthOf_175 rfl ?_
    refine e_ishr C dX8_worthOf_177 ?_
    refine e_iconst (v := (nI 1)) C dX8_worthOf_178 (by decide) ?_
    refine e_iand C dX8_worthOf_179 ?_
    refine e_iconst (v := (nI 1)) C dX8_worthOf_180 (by decide) ?_
    refine e_icmp_ne (x := (((nI 4) >>> ((nI 1) &&& 31)) &&& (nI 1))) (y := (nI 1)) (tgt := 195) C dX8_worthOf_181 (by decide) (fun h181 => ?_) (fun h181 => by exact absurd h181 (by decide))
    refine e_lconst (v := lN 1) C dX8_worthOf_195 (by decide) ?_
    refine e_lmulN C dX8_worthOf_196 ?_
    refine e_lstore (lv2 := [(5, .long (lN (((heldS n (EE n P k W pv L) 4 a b c) * 1) * 1))), (0, .ref 25), (1, .int (nI a)), (2, .int (nI b)), (3, .int (nI c)), (4, .int (nI 4)), (7, .int (nI 1))]) C dX8_worthOf_197 (by decide) rfl ?_
    refine e_iincN (lv2 := [(7, .int (nI (1 + 1))), (5, .long (lN (((heldS n (EE n P k W pv L) 4 a b c) * 1) * 1))), (0, .ref 25), (1, .int (nI a)), (2, .int (nI b)), (3, .int (nI c)), (4, .int (nI 4))]) C dX8_worthOf_199 rfl (by decide) (nI_1 _) rfl ?_
    refine e_goto (tgt := 165) C dX8_worthOf_202 (by decide) ?_
    refine e_loc (lv2 := [(0, .ref 25), (1, .int (nI a)), (2, .int (nI b)), (3, .int (nI c)), (4, .int (nI 4)), (5, .long (lN (((heldS n (EE n P k W pv L) 4 a b c) * 1) * 1))), (7, .int (nI 2))]) [2, 3, 4, 5, 6, 1, 0] rfl ?_
    refine e_iload C dX8_worthOf_165 rfl ?_
    refine e_iconst (v := (nI 3)) C dX8_worthOf_167 (by decide) ?_
    refine e_icmp_geN (tgt := 205) C dX8_worthOf_168 (by omega) (by omega) (by decide) (fun h168 => by omega) (fun h168 => ?_)
    refine e_lload C dX8_worthOf_171 rfl ?_
    refine e_iload C dX8_worthOf_173 rfl ?_
    refine e_iload C dX8_worthOf_175 rfl ?_
    refine e_ishr C dX8_worthOf_177 ?_
    refine e_iconst (v := (nI 1)) C dX8_worthOf_178 (by decide) ?_
    refine e_iand C dX8_worthOf_179 ?_
    refine e_iconst (v := (nI 1)) C dX8_worthOf_180 (by decide) ?_
    refine e_icmp_ne (x := (((nI 4) >>> ((nI 2) &&& 31)) &&& (nI 1))) (y := (nI 1)) (tgt := 195) C dX8_worthOf_181 (by decide) (fun h181 => by exact absurd (by decide) h181) (fun h181 => ?_)
    refine e_aload_n C dX8_worthOf_184 rfl rfl ?_
    refine e_getR (q := 26) C dX8_worthOf_185 fX8_7 rfl rfl ?_
    refine e_iload C dX8_worthOf_188 rfl ?_
    refine e_ialoadN C dX8_worthOf_190 rfl (by omega) (by omega) ?_
    refine e_topi (nI (n 2)) (hS.1 2 (by omega)) ?_
    refine e_i2lN C dX8_worthOf_191 (by omega) ?_
    refine e_goto (tgt := 196) C dX8_worthOf_192 (by decide) ?_
    refine e_lmulN C dX8_worthOf_196 ?_
    refine e_lstore (lv2 := [(5, .long (lN ((((heldS n (EE n P k W pv L) 4 a b c) * 1) * 1) * (n 2)))), (0, .ref 25), (1, .int (nI a)), (2, .int (nI b)), (3, .int (nI c)), (4, .int (nI 4)), (7, .int (nI 2))]) C dX8_worthOf_197 (by decide) rfl ?_
    refine e_iincN (lv2 := [(7, .int (nI (2 + 1))), (5, .long (lN ((((heldS n (EE n P k W pv L) 4 a b c) * 1) * 1) * (n 2)))), (0, .ref 25), (1, .int (nI a)), (2, .int (nI b)), (3, .int (nI c)), (4, .int (nI 4))]) C dX8_worthOf_199 rfl (by decide) (nI_1 _) rfl ?_
    refine e_goto (tgt := 165) C dX8_worthOf_202 (by decide) ?_
    refine e_loc (lv2 := [(0, .ref 25), (1, .int (nI a)), (2, .int (nI b)), (3, .int (nI c)), (4, .int (nI 4)), (5, .long (lN ((((heldS n (EE n P k W pv L) 4 a b c) * 1) * 1) * (n 2)))), (7, .int (nI 3))]) [2, 3, 4, 5, 6, 1, 0] rfl ?_
    refine e_iload C dX8_worthOf_165 rfl ?_
    refine e_iconst (v := (nI 3)) C dX8_worthOf_167 (by decide) ?_
    refine e_icmp_geN (tgt := 205) C dX8_worthOf_168 (by omega) (by omega) (by decide) (fun h168 => ?_) (fun h168 => by omega)
    refine e_lload C dX8_worthOf_205 rfl ?_
    exact e_lret C dX8_worthOf_207 RT ⟨Nat.zero_le _, Nat.zero_le _⟩ (pl_ (congrArg lN (by unfold wrt; simp [prd, bitN, Nat.mul_assoc])))
  · refine e_iload C dX8_worthOf_0 rfl ?_
    refine e_tableIn (tgt := 108) C dX8_worthOf_2 (by decide) (by decide) rfl (by decide) ?_
    refine e_aload_n C dX8_worthOf_108 rfl rfl ?_
    refine e_getR (q := 38) C dX8_worthOf_109 fX8_51 rfl rfl ?_
    refine e_sipush (v := (nI 400)) C dX8_worthOf_112 (by decide) ?_
    refine e_bipush (v := (nI 20)) C dX8_worthOf_115 (by decide) ?_
    refine e_iload_n C dX8_worthOf_117 rfl rfl ?_
    refine e_imulN C dX8_worthOf_118 ?_
    refine e_iaddN C dX8_worthOf_119 ?_
    refine e_iload_n C dX8_worthOf_120 rfl rfl ?_
    refine e_iaddN C dX8_worthOf_121 ?_
    refine e_laloadN C dX8_worthOf_122 rfl (by omega) (by omega) ?_
    refine e_topl (lN (heldS n (EE n P k W pv L) 5 a b c)) (by rw [hl.2.2.2.2.2 _ (by omega)]; exact congrArg lN ((u_5 n0.2 n1.2 n2.2 (by omega) (by omega)).trans (held_5 (a := a) (b := b) (c := c) n0.2 n1.2 n2.2 (by omega) (by omega) (by omega)))) ?_
    refine e_lstore (lv2 := [(5, .long (lN (heldS n (EE n P k W pv L) 5 a b c))), (0, .ref 25), (1, .int (nI a)), (2, .int (nI b)), (3, .int (nI c)), (4, .int (nI 5))]) C dX8_worthOf_123 (by decide) rfl ?_
    refine e_goto (tgt := 162) C dX8_worthOf_125 (by decide) ?_
    refine e_iconst (v := (nI 0)) C dX8_worthOf_162 (by decide) ?_
    refine e_istore (lv2 := [(7, .int (nI 0)), (5, .long (lN (heldS n (EE n P k W pv L) 5 a b c))), (0, .ref 25), (1, .int (nI a)), (2, .int (nI b)), (3, .int (nI c)), (4, .int (nI 5))]) C dX8_worthOf_163 (by decide) rfl ?_
    refine e_loc (lv2 := [(0, .ref 25), (1, .int (nI a)), (2, .int (nI b)), (3, .int (nI c)), (4, .int (nI 5)), (5, .long (lN (heldS n (EE n P k W pv L) 5 a b c))), (7, .int (nI 0))]) [2, 3, 4, 5, 6, 1, 0] rfl ?_
    refine e_iload C dX8_worthOf_165 rfl ?_
    refine e_iconst (v := (nI 3)) C dX8_worthOf_167 (by decide) ?_
    refine e_icmp_geN (tgt := 205) C dX8_worthOf_168 (by omega) (by omega) (by decide) (fun h168 => by omega) (fun h168 => ?_)
    refine e_lload C dX8_worthOf_171 rfl ?_
    refine e_iload C dX8_worthOf_173 rfl ?_
    refine e_iload C dX8_worthOf_175 rfl ?_
    refine e_ishr C dX8_worthOf_177 ?_
    refine e_iconst (v := (nI 1)) C dX8_worthOf_178 (by decide) ?_
    refine e_iand C dX8_worthOf_179 ?_
    refine e_iconst (v := (nI 1)) C dX8_worthOf_180 (by decide) ?_
    refine e_icmp_ne (x := (((nI 5) >>> ((nI 0) &&& 31)) &&& (nI 1))) (y := (nI 1)) (tgt := 195) C dX8_worthOf_181 (by decide) (fun h181 => by exact absurd (by decide) h181) (fun h181 => ?_)
    refine e_aload_n C dX8_worthOf_184 rfl rfl ?_
    refine e_getR (q := 26) C dX8_worthOf_185 fX8_7 rfl rfl ?_
    refine e_iload C dX8_worthOf_188 rfl ?_
    refine e_ialoadN C dX8_worthOf_190 rfl (by omega) (by omega) ?_
    refine e_topi (nI (n 0)) (hS.1 0 (by omega)) ?_
    refine e_i2lN C dX8_worthOf_191 (by omega) ?_
    refine e_goto (tgt := 196) C dX8_worthOf_192 (by decide) ?_
    refine e_lmulN C dX8_worthOf_196 ?_
    refine e_lstore (lv2 := [(5, .long (lN ((heldS n (EE n P k W pv L) 5 a b c) * (n 0)))), (0, .ref 25), (1, .int (nI a)), (2, .int (nI b)), (3, .int (nI c)), (4, .int (nI 5)), (7, .int (nI 0))]) C dX8_worthOf_197 (by decide) rfl ?_
    refine e_iincN (lv2 := [(7, .int (nI (0 + 1))), (5, .long (lN ((heldS n (EE n P k W pv L) 5 a b c) * (n 0)))), (0, .ref 25), (1, .int (nI a)), (2, .int (nI b)), (3, .int (nI c)), (4, .int (nI 5))]) C dX8_worthOf_199 rfl (by decide) (nI_1 _) rfl ?_
    refine e_goto (tgt := 165) C dX8_worthOf_202 (by decide) ?_
    refine e_loc (lv2 := [(0, .ref 25), (1, .int (nI a)), (2, .int (nI b)), (3, .int (nI c)), (4, .int (nI 5)), (5, .long (lN ((heldS n (EE n P k W pv L) 5 a b c) * (n 0)))), (7, .int (nI 1))]) [2, 3, 4, 5, 6, 1, 0] rfl ?_
    refine e_iload C dX8_worthOf_165 rfl ?_
    refine e_iconst (v := (nI 3)) C dX8_worthOf_167 (by decide) ?_
    refine e_icmp_geN (tgt := 205) C dX8_worthOf_168 (by omega) (by omega) (by decide) (fun h168 => by omega) (fun h168 => ?_)
    refine e_lload C dX8_worthOf_171 rfl ?_
    refine e_iload C dX8_worthOf_173 rfl ?_
    refine e_iload C dX8_worthOf_175 rfl ?_
    refine e_ishr C dX8_worthOf_177 ?_
    refine e_iconst (v := (nI 1)) C dX8_worthOf_178 (by decide) ?_
    refine e_iand C dX8_worthOf_179 ?_
    refine e_iconst (v := (nI 1)) C dX8_worthOf_180 (by decide) ?_
    refine e_icmp_ne (x := (((nI 5) >>> ((nI 1) &&& 31)) &&& (nI 1))) (y := (nI 1)) (tgt := 195) C dX8_worthOf_181 (by decide) (fun h181 => ?_) (fun h181 => by exact absurd h181 (by decide))
    refine e_lconst (v := lN 1) C dX8_worthOf_195 (by decide) ?_
    refine e_lmulN C dX8_worthOf_196 ?_
    refine e_lstore (lv2 := [(5, .long (lN (((heldS n (EE n P k W pv L) 5 a b c) * (n 0)) * 1))), (0, .ref 25), (1, .int (nI a)), (2, .int (nI b)), (3, .int (nI c)), (4, .int (nI 5)), (7, .int (nI 1))]) C dX8_worthOf_197 (by decide) rfl ?_
    refine e_iincN (lv2 := [(7, .int (nI (1 + 1))), (5, .long (lN (((heldS n (EE n P k W pv L) 5 a b c) * (n 0)) * 1))), (0, .ref 25), (1, .int (nI a)), (2, .int (nI b)), (3, .int (nI c)), (4, .int (nI 5))]) C dX8_worthOf_199 rfl (by decide) (nI_1 _) rfl ?_
    refine e_goto (tgt := 165) C dX8_worthOf_202 (by decide) ?_
    refine e_loc (lv2 := [(0, .ref 25), (1, .int (nI a)), (2, .int (nI b)), (3, .int (nI c)), (4, .int (nI 5)), (5, .long (lN (((heldS n (EE n P k W pv L) 5 a b c) * (n 0)) * 1))), (7, .int (nI 2))]) [2, 3, 4, 5, 6, 1, 0] rfl ?_
    refine e_iload C dX8_worthOf_165 rfl ?_
    refine e_iconst (v := (nI 3)) C dX8_worthOf_167 (by decide) ?_
    refine e_icmp_geN (tgt := 205) C dX8_worthOf_168 (by omega) (by omega) (by decide) (fun h168 => by omega) (fun h168 => ?_)
    refine e_lload C dX8_worthOf_171 rfl ?_
    refine e_iload C dX8_worthOf_173 rfl ?_
    refine e_iload C dX8_worthOf_175 rfl ?_
    refine e_ishr C dX8_worthOf_177 ?_
    refine e_iconst (v := (nI 1)) C dX8_worthOf_178 (by decide) ?_
    refine e_iand C dX8_worthOf_179 ?_
    refine e_iconst (v := (nI 1)) C dX8_worthOf_180 (by decide) ?_
    refine e_icmp_ne (x := (((nI 5) >>> ((nI 2) &&& 31)) &&& (nI 1))) (y := (nI 1)) (tgt := 195) C dX8_worthOf_181 (by decide) (fun h181 => by exact absurd (by decide) h181) (fun h181 => ?_)
    refine e_aload_n C dX8_worthOf_184 rfl rfl ?_
    refine e_getR (q := 26) C dX8_worthOf_185 fX8_7 rfl rfl ?_
    refine e_iload C dX8_worthOf_188 rfl ?_
    refine e_ialoadN C dX8_worthOf_190 rfl (by omega) (by omega) ?_
    refine e_topi (nI (n 2)) (hS.1 2 (by omega)) ?_
    refine e_i2lN C dX8_worthOf_191 (by omega) ?_
    refine e_goto (tgt := 196) C dX8_worthOf_192 (by decide) ?_
    refine e_lmulN C dX8_worthOf_196 ?_
    refine e_lstore (lv2 := [(5, .long (lN ((((heldS n (EE n P k W pv L) 5 a b c) * (n 0)) * 1) * (n 2)))), (0, .ref 25), (1, .int (nI a)), (2, .int (nI b)), (3, .int (nI c)), (4, .int (nI 5)), (7, .int (nI 2))]) C dX8_worthOf_197 (by decide) rfl ?_
    refine e_iincN (lv2 := [(7, .int (nI (2 + 1))), (5, .long (lN ((((heldS n (EE n P k W pv L) 5 a b c) * (n 0)) * 1) * (n 2)))), (0, .ref 25), (1, .int (nI a)), (2, .int (nI b)), (3, .int (nI c)), (4, .int (nI 5))]) C dX8_worthOf_199 rfl (by decide) (nI_1 _) rfl ?_
    refine e_goto (tgt := 165) C dX8_worthOf_202 (by decide) ?_
    refine e_loc (lv2 := [(0, .ref 25), (1, .int (nI a)), (2, .int (nI b)), (3, .int (nI c)), (4, .int (nI 5)), (5, .long (lN ((((heldS n (EE n P k W pv L) 5 a b c) * (n 0)) * 1) * (n 2)))), (7, .int (nI 3))]) [2, 3, 4, 5, 6, 1, 0] rfl ?_
    refine e_iload C dX8_worthOf_165 rfl ?_
    refine e_iconst (v := (nI 3)) C dX8_worthOf_167 (by decide) ?_
    refine e_icmp_geN (tgt := 205) C dX8_worthOf_168 (by omega) (by omega) (by decide) (fun h168 => ?_) (fun h168 => by omega)
    refine e_lload C dX8_worthOf_205 rfl ?_
    exact e_lret C dX8_worthOf_207 RT ⟨Nat.zero_le _, Nat.zero_le _⟩ (pl_ (congrArg lN (by unfold wrt; simp [prd, bitN, Nat.mul_assoc])))
  · refine e_iload C dX8_worthOf_0 rfl ?_
    refine e_tableIn (tgt := 128) C dX8_worthOf_2 (by decide) (by decide) rfl (by decide) ?_
    refine e_aload_n C dX8_worthOf_128 rfl rfl ?_
    refine e_getR (q := 38) C dX8_worthOf_129 fX8_51 rfl rfl ?_
    refine e_sipush (v := (nI 800)) C dX8_worthOf_132 (by decide) ?_
    refine e_bipush (v := (nI 20)) C dX8_worthOf_135 (by decide) ?_
    refine e_iload_n C dX8_worthOf_137 rfl rfl ?_
    refine e_imulN C dX8_worthOf_138 ?_
    refine e_iaddN C dX8_worthOf_139 ?_
    refine e_iload_n C dX8_worthOf_140 rfl rfl ?_
    refine e_iaddN C dX8_worthOf_141 ?_
    refine e_laloadN C dX8_worthOf_142 rfl (by omega) (by omega) ?_
    refine e_topl (lN (heldS n (EE n P k W pv L) 6 a b c)) (by rw [hl.2.2.2.2.2 _ (by omega)]; exact congrArg lN ((u_6 n0.2 n1.2 n2.2 (by omega) (by omega)).trans (held_6 (a := a) (b := b) (c := c) n0.2 n1.2 n2.2 (by omega) (by omega) (by omega)))) ?_
    refine e_lstore (lv2 := [(5, .long (lN (heldS n (EE n P k W pv L) 6 a b c))), (0, .ref 25), (1, .int (nI a)), (2, .int (nI b)), (3, .int (nI c)), (4, .int (nI 6))]) C dX8_worthOf_143 (by decide) rfl ?_
    refine e_goto (tgt := 162) C dX8_worthOf_145 (by decide) ?_
    refine e_iconst (v := (nI 0)) C dX8_worthOf_162 (by decide) ?_
    refine e_istore (lv2 := [(7, .int (nI 0)), (5, .long (lN (heldS n (EE n P k W pv L) 6 a b c))), (0, .ref 25), (1, .int (nI a)), (2, .int (nI b)), (3, .int (nI c)), (4, .int (nI 6))]) C dX8_worthOf_163 (by decide) rfl ?_
    refine e_loc (lv2 := [(0, .ref 25), (1, .int (nI a)), (2, .int (nI b)), (3, .int (nI c)), (4, .int (nI 6)), (5, .long (lN (heldS n (EE n P k W pv L) 6 a b c))), (7, .int (nI 0))]) [2, 3, 4, 5, 6, 1, 0] rfl ?_
    refine e_iload C dX8_worthOf_165 rfl ?_
    refine e_iconst (v := (nI 3)) C dX8_worthOf_167 (by decide) ?_
    refine e_icmp_geN (tgt := 205) C dX8_worthOf_168 (by omega) (by omega) (by decide) (fun h168 => by omega) (fun h168 => ?_)
    refine e_lload C dX8_worthOf_171 rfl ?_
    refine e_iload C dX8_worthOf_173 rfl ?_
    refine e_iload C dX8_worthOf_175 rfl ?_
    refine e_ishr C dX8_worthOf_177 ?_
    refine e_iconst (v := (nI 1)) C dX8_worthOf_178 (by decide) ?_
    refine e_iand C dX8_worthOf_179 ?_
    refine e_iconst (v := (nI 1)) C dX8_worthOf_180 (by decide) ?_
    refine e_icmp_ne (x := (((nI 6) >>> ((nI 0) &&& 31)) &&& (nI 1))) (y := (nI 1)) (tgt := 195) C dX8_worthOf_181 (by decide) (fun h181 => ?_) (fun h181 => by exact absurd h181 (by decide))
    refine e_lconst (v := lN 1) C dX8_worthOf_195 (by decide) ?_
    refine e_lmulN C dX8_worthOf_196 ?_
    refine e_lstore (lv2 := [(5, .long (lN ((heldS n (EE n P k W pv L) 6 a b c) * 1))), (0, .ref 25), (1, .int (nI a)), (2, .int (nI b)), (3, .int (nI c)), (4, .int (nI 6)), (7, .int (nI 0))]) C dX8_worthOf_197 (by decide) rfl ?_
    refine e_iincN (lv2 := [(7, .int (nI (0 + 1))), (5, .long (lN ((heldS n (EE n P k W pv L) 6 a b c) * 1))), (0, .ref 25), (1, .int (nI a)), (2, .int (nI b)), (3, .int (nI c)), (4, .int (nI 6))]) C dX8_worthOf_199 rfl (by decide) (nI_1 _) rfl ?_
    refine e_goto (tgt := 165) C dX8_worthOf_202 (by decide) ?_
    refine e_loc (lv2 := [(0, .ref 25), (1, .int (nI a)), (2, .int (nI b)), (3, .int (nI c)), (4, .int (nI 6)), (5, .long (lN ((heldS n (EE n P k W pv L) 6 a b c) * 1))), (7, .int (nI 1))]) [2, 3, 4, 5, 6, 1, 0] rfl ?_
    refine e_iload C dX8_worthOf_165 rfl ?_
    refine e_iconst (v := (nI 3)) C dX8_worthOf_167 (by decide) ?_
    refine e_icmp_geN (tgt := 205) C dX8_worthOf_168 (by omega) (by omega) (by decide) (fun h168 => by omega) (fun h168 => ?_)
    refine e_lload C dX8_worthOf_171 rfl ?_
    refine e_iload C dX8_worthOf_173 rfl ?_
    refine e_iload C dX8_worthOf_175 rfl ?_
    refine e_ishr C dX8_worthOf_177 ?_
    refine e_iconst (v := (nI 1)) C dX8_worthOf_178 (by decide) ?_
    refine e_iand C dX8_worthOf_179 ?_
    refine e_iconst (v := (nI 1)) C dX8_worthOf_180 (by decide) ?_
    refine e_icmp_ne (x := (((nI 6) >>> ((nI 1) &&& 31)) &&& (nI 1))) (y := (nI 1)) (tgt := 195) C dX8_worthOf_181 (by decide) (fun h181 => by exact absurd (by decide) h181) (fun h181 => ?_)
    refine e_aload_n C dX8_worthOf_184 rfl rfl ?_
    refine e_getR (q := 26) C dX8_worthOf_185 fX8_7 rfl rfl ?_
    refine e_iload C dX8_worthOf_188 rfl ?_
    refine e_ialoadN C dX8_worthOf_190 rfl (by omega) (by omega) ?_
    refine e_topi (nI (n 1)) (hS.1 1 (by omega)) ?_
    refine e_i2lN C dX8_worthOf_191 (by omega) ?_
    refine e_goto (tgt := 196) C dX8_worthOf_192 (by decide) ?_
    refine e_lmulN C dX8_worthOf_196 ?_
    refine e_lstore (lv2 := [(5, .long (lN (((heldS n (EE n P k W pv L) 6 a b c) * 1) * (n 1)))), (0, .ref 25), (1, .int (nI a)), (2, .int (nI b)), (3, .int (nI c)), (4, .int (nI 6)), (7, .int (nI 1))]) C dX8_worthOf_197 (by decide) rfl ?_
    refine e_iincN (lv2 := [(7, .int (nI (1 + 1))), (5, .long (lN (((heldS n (EE n P k W pv L) 6 a b c) * 1) * (n 1)))), (0, .ref 25), (1, .int (nI a)), (2, .int (nI b)), (3, .int (nI c)), (4, .int (nI 6))]) C dX8_worthOf_199 rfl (by decide) (nI_1 _) rfl ?_
    refine e_goto (tgt := 165) C dX8_worthOf_202 (by decide) ?_
    refine e_loc (lv2 := [(0, .ref 25), (1, .int (nI a)), (2, .int (nI b)), (3, .int (nI c)), (4, .int (nI 6)), (5, .long (lN (((heldS n (EE n P k W pv L) 6 a b c) * 1) * (n 1)))), (7, .int (nI 2))]) [2, 3, 4, 5, 6, 1, 0] rfl ?_
    refine e_iload C dX8_worthOf_165 rfl ?_
    refine e_iconst (v := (nI 3)) C dX8_worthOf_167 (by decide) ?_
    refine e_icmp_geN (tgt := 205) C dX8_worthOf_168 (by omega) (by omega) (by decide) (fun h168 => by omega) (fun h168 => ?_)
    refine e_lload C dX8_worthOf_171 rfl ?_
    refine e_iload C dX8_worthOf_173 rfl ?_
    refine e_iload C dX8_worthOf_175 rfl ?_
    refine e_ishr C dX8_worthOf_177 ?_
    refine e_iconst (v := (nI 1)) C dX8_worthOf_178 (by decide) ?_
    refine e_iand C dX8_worthOf_179 ?_
    refine e_iconst (v := (nI 1)) C dX8_worthOf_180 (by decide) ?_
    refine e_icmp_ne (x := (((nI 6) >>> ((nI 2) &&& 31)) &&& (nI 1))) (y := (nI 1)) (tgt := 195) C dX8_worthOf_181 (by decide) (fun h181 => by exact absurd (by decide) h181) (fun h181 => ?_)
    refine e_aload_n C dX8_worthOf_184 rfl rfl ?_
    refine e_getR (q := 26) C dX8_worthOf_185 fX8_7 rfl rfl ?_
    refine e_iload C dX8_worthOf_188 rfl ?_
    refine e_ialoadN C dX8_worthOf_190 rfl (by omega) (by omega) ?_
    refine e_topi (nI (n 2)) (hS.1 2 (by omega)) ?_
    refine e_i2lN C dX8_worthOf_191 (by omega) ?_
    refine e_goto (tgt := 196) C dX8_worthOf_192 (by decide) ?_
    refine e_lmulN C dX8_worthOf_196 ?_
    refine e_lstore (lv2 := [(5, .long (lN ((((heldS n (EE n P k W pv L) 6 a b c) * 1) * (n 1)) * (n 2)))), (0, .ref 25), (1, .int (nI a)), (2, .int (nI b)), (3, .int (nI c)), (4, .int (nI 6)), (7, .int (nI 2))]) C dX8_worthOf_197 (by decide) rfl ?_
    refine e_iincN (lv2 := [(7, .int (nI (2 + 1))), (5, .long (lN ((((heldS n (EE n P k W pv L) 6 a b c) * 1) * (n 1)) * (n 2)))), (0, .ref 25), (1, .int (nI a)), (2, .int (nI b)), (3, .int (nI c)), (4, .int (nI 6))]) C dX8_worthOf_199 rfl (by decide) (nI_1 _) rfl ?_
    refine e_goto (tgt := 165) C dX8_worthOf_202 (by decide) ?_
    refine e_loc (lv2 := [(0, .ref 25), (1, .int (nI a)), (2, .int (nI b)), (3, .int (nI c)), (4, .int (nI 6)), (5, .long (lN ((((heldS n (EE n P k W pv L) 6 a b c) * 1) * (n 1)) * (n 2)))), (7, .int (nI 3))]) [2, 3, 4, 5, 6, 1, 0] rfl ?_
    refine e_iload C dX8_worthOf_165 rfl ?_
    refine e_iconst (v := (nI 3)) C dX8_worthOf_167 (by decide) ?_
    refine e_icmp_geN (tgt := 205) C dX8_worthOf_168 (by omega) (by omega) (by decide) (fun h168 => ?_) (fun h168 => by omega)
    refine e_lload C dX8_worthOf_205 rfl ?_
    exact e_lret C dX8_worthOf_207 RT ⟨Nat.zero_le _, Nat.zero_le _⟩ (pl_ (congrArg lN (by unfold wrt; simp [prd, bitN, Nat.mul_assoc])))
  · refine e_iload C dX8_worthOf_0 rfl ?_
    refine e_tableOut (tgt := 148) C dX8_worthOf_2 (by decide) (by decide) ?_
    refine e_aload_n C dX8_worthOf_148 rfl rfl ?_
    refine e_getR (q := 34) C dX8_worthOf_149 fX8_38 rfl rfl ?_
    refine e_iload_n C dX8_worthOf_152 rfl rfl ?_
    refine e_iload_n C dX8_worthOf_153 rfl rfl ?_
    refine e_iload_n C dX8_worthOf_154 rfl rfl ?_
    refine e_callSi C dX8_worthOf_155 [.int (nI a), .int (nI b), .int (nI c)] (r_place a b c) okX8_place lX8_132 rfl ⟨rfl, rfl⟩ ⟨Nat.le_of_ble_eq_true rfl, Nat.le_of_ble_eq_true rfl⟩ (Nat.le_of_ble_eq_true rfl) ⟨Nat.zero_le _, Nat.zero_le _⟩ ?_
    refine e_ialoadN C dX8_worthOf_158 rfl (by omega) (by omega) ?_
    refine e_topi (nI (heldS n (EE n P k W pv L) 7 a b c)) (hl.2.1 a ha b hb c hc) ?_
    have he9 : heldS n (EE n P k W pv L) 7 a b c ≤ 30000 := hB.le a b c
    refine e_i2lN C dX8_worthOf_159 (by omega) ?_
    refine e_lstore (lv2 := [(5, .long (lN (heldS n (EE n P k W pv L) 7 a b c))), (0, .ref 25), (1, .int (nI a)), (2, .int (nI b)), (3, .int (nI c)), (4, .int (nI 7))]) C dX8_worthOf_160 (by decide) rfl ?_
    refine e_iconst (v := (nI 0)) C dX8_worthOf_162 (by decide) ?_
    refine e_istore (lv2 := [(7, .int (nI 0)), (5, .long (lN (heldS n (EE n P k W pv L) 7 a b c))), (0, .ref 25), (1, .int (nI a)), (2, .int (nI b)), (3, .int (nI c)), (4, .int (nI 7))]) C dX8_worthOf_163 (by decide) rfl ?_
    refine e_loc (lv2 := [(0, .ref 25), (1, .int (nI a)), (2, .int (nI b)), (3, .int (nI c)), (4, .int (nI 7)), (5, .long (lN (heldS n (EE n P k W pv L) 7 a b c))), (7, .int (nI 0))]) [2, 3, 4, 5, 6, 1, 0] rfl ?_
    refine e_iload C dX8_worthOf_165 rfl ?_
    refine e_iconst (v := (nI 3)) C dX8_worthOf_167 (by decide) ?_
    refine e_icmp_geN (tgt := 205) C dX8_worthOf_168 (by omega) (by omega) (by decide) (fun h168 => by omega) (fun h168 => ?_)
    refine e_lload C dX8_worthOf_171 rfl ?_
    refine e_iload C dX8_worthOf_173 rfl ?_
    refine e_iload C dX8_worthOf_175 rfl ?_
    refine e_ishr C dX8_worthOf_177 ?_
    refine e_iconst (v := (nI 1)) C dX8_worthOf_178 (by decide) ?_
    refine e_iand C dX8_worthOf_179 ?_
    refine e_iconst (v := (nI 1)) C dX8_worthOf_180 (by decide) ?_
    refine e_icmp_ne (x := (((nI 7) >>> ((nI 0) &&& 31)) &&& (nI 1))) (y := (nI 1)) (tgt := 195) C dX8_worthOf_181 (by decide) (fun h181 => by exact absurd (by decide) h181) (fun h181 => ?_)
    refine e_aload_n C dX8_worthOf_184 rfl rfl ?_
    refine e_getR (q := 26) C dX8_worthOf_185 fX8_7 rfl rfl ?_
    refine e_iload C dX8_worthOf_188 rfl ?_
    refine e_ialoadN C dX8_worthOf_190 rfl (by omega) (by omega) ?_
    refine e_topi (nI (n 0)) (hS.1 0 (by omega)) ?_
    refine e_i2lN C dX8_worthOf_191 (by omega) ?_
    refine e_goto (tgt := 196) C dX8_worthOf_192 (by decide) ?_
    refine e_lmulN C dX8_worthOf_196 ?_
    refine e_lstore (lv2 := [(5, .long (lN ((heldS n (EE n P k W pv L) 7 a b c) * (n 0)))), (0, .ref 25), (1, .int (nI a)), (2, .int (nI b)), (3, .int (nI c)), (4, .int (nI 7)), (7, .int (nI 0))]) C dX8_worthOf_197 (by decide) rfl ?_
    refine e_iincN (lv2 := [(7, .int (nI (0 + 1))), (5, .long (lN ((heldS n (EE n P k W pv L) 7 a b c) * (n 0)))), (0, .ref 25), (1, .int (nI a)), (2, .int (nI b)), (3, .int (nI c)), (4, .int (nI 7))]) C dX8_worthOf_199 rfl (by decide) (nI_1 _) rfl ?_
    refine e_goto (tgt := 165) C dX8_worthOf_202 (by decide) ?_
    refine e_loc (lv2 := [(0, .ref 25), (1, .int (nI a)), (2, .int (nI b)), (3, .int (nI c)), (4, .int (nI 7)), (5, .long (lN ((heldS n (EE n P k W pv L) 7 a b c) * (n 0)))), (7, .int (nI 1))]) [2, 3, 4, 5, 6, 1, 0] rfl ?_
    refine e_iload C dX8_worthOf_165 rfl ?_
    refine e_iconst (v := (nI 3)) C dX8_worthOf_167 (by decide) ?_
    refine e_icmp_geN (tgt := 205) C dX8_worthOf_168 (by omega) (by omega) (by decide) (fun h168 => by omega) (fun h168 => ?_)
    refine e_lload C dX8_worthOf_171 rfl ?_
    refine e_iload C dX8_worthOf_173 rfl ?_
    refine e_iload C dX8_worthOf_175 rfl ?_
    refine e_ishr C dX8_worthOf_177 ?_
    refine e_iconst (v := (nI 1)) C dX8_worthOf_178 (by decide) ?_
    refine e_iand C dX8_worthOf_179 ?_
    refine e_iconst (v := (nI 1)) C dX8_worthOf_180 (by decide) ?_
    refine e_icmp_ne (x := (((nI 7) >>> ((nI 1) &&& 31)) &&& (nI 1))) (y := (nI 1)) (tgt := 195) C dX8_worthOf_181 (by decide) (fun h181 => by exact absurd (by decide) h181) (fun h181 => ?_)
    refine e_aload_n C dX8_worthOf_184 rfl rfl ?_
    refine e_getR (q := 26) C dX8_worthOf_185 fX8_7 rfl rfl ?_
    refine e_iload C dX8_worthOf_188 rfl ?_
    refine e_ialoadN C dX8_worthOf_190 rfl (by omega) (by omega) ?_
    refine e_topi (nI (n 1)) (hS.1 1 (by omega)) ?_
    refine e_i2lN C dX8_worthOf_191 (by omega) ?_
    refine e_goto (tgt := 196) C dX8_worthOf_192 (by decide) ?_
    refine e_lmulN C dX8_worthOf_196 ?_
    refine e_lstore (lv2 := [(5, .long (lN (((heldS n (EE n P k W pv L) 7 a b c) * (n 0)) * (n 1)))), (0, .ref 25), (1, .int (nI a)), (2, .int (nI b)), (3, .int (nI c)), (4, .int (nI 7)), (7, .int (nI 1))]) C dX8_worthOf_197 (by decide) rfl ?_
    refine e_iincN (lv2 := [(7, .int (nI (1 + 1))), (5, .long (lN (((heldS n (EE n P k W pv L) 7 a b c) * (n 0)) * (n 1)))), (0, .ref 25), (1, .int (nI a)), (2, .int (nI b)), (3, .int (nI c)), (4, .int (nI 7))]) C dX8_worthOf_199 rfl (by decide) (nI_1 _) rfl ?_
    refine e_goto (tgt := 165) C dX8_worthOf_202 (by decide) ?_
    refine e_loc (lv2 := [(0, .ref 25), (1, .int (nI a)), (2, .int (nI b)), (3, .int (nI c)), (4, .int (nI 7)), (5, .long (lN (((heldS n (EE n P k W pv L) 7 a b c) * (n 0)) * (n 1)))), (7, .int (nI 2))]) [2, 3, 4, 5, 6, 1, 0] rfl ?_
    refine e_iload C dX8_worthOf_165 rfl ?_
    refine e_iconst (v := (nI 3)) C dX8_worthOf_167 (by decide) ?_
    refine e_icmp_geN (tgt := 205) C dX8_worthOf_168 (by omega) (by omega) (by decide) (fun h168 => by omega) (fun h168 => ?_)
    refine e_lload C dX8_worthOf_171 rfl ?_
    refine e_iload C dX8_worthOf_173 rfl ?_
    refine e_iload C dX8_worthOf_175 rfl ?_
    refine e_ishr C dX8_worthOf_177 ?_
    refine e_iconst (v := (nI 1)) C dX8_worthOf_178 (by decide) ?_
    refine e_iand C dX8_worthOf_179 ?_
    refine e_iconst (v := (nI 1)) C dX8_worthOf_180 (by decide) ?_
    refine e_icmp_ne (x := (((nI 7) >>> ((nI 2) &&& 31)) &&& (nI 1))) (y := (nI 1)) (tgt := 195) C dX8_worthOf_181 (by decide) (fun h181 => by exact absurd (by decide) h181) (fun h181 => ?_)
    refine e_aload_n C dX8_worthOf_184 rfl rfl ?_
    refine e_getR (q := 26) C dX8_worthOf_185 fX8_7 rfl rfl ?_
    refine e_iload C dX8_worthOf_188 rfl ?_
    refine e_ialoadN C dX8_worthOf_190 rfl (by omega) (by omega) ?_
    refine e_topi (nI (n 2)) (hS.1 2 (by omega)) ?_
    refine e_i2lN C dX8_worthOf_191 (by omega) ?_
    refine e_goto (tgt := 196) C dX8_worthOf_192 (by decide) ?_
    refine e_lmulN C dX8_worthOf_196 ?_
    refine e_lstore (lv2 := [(5, .long (lN ((((heldS n (EE n P k W pv L) 7 a b c) * (n 0)) * (n 1)) * (n 2)))), (0, .ref 25), (1, .int (nI a)), (2, .int (nI b)), (3, .int (nI c)), (4, .int (nI 7)), (7, .int (nI 2))]) C dX8_worthOf_197 (by decide) rfl ?_
    refine e_iincN (lv2 := [(7, .int (nI (2 + 1))), (5, .long (lN ((((heldS n (EE n P k W pv L) 7 a b c) * (n 0)) * (n 1)) * (n 2)))), (0, .ref 25), (1, .int (nI a)), (2, .int (nI b)), (3, .int (nI c)), (4, .int (nI 7))]) C dX8_worthOf_199 rfl (by decide) (nI_1 _) rfl ?_
    refine e_goto (tgt := 165) C dX8_worthOf_202 (by decide) ?_
    refine e_loc (lv2 := [(0, .ref 25), (1, .int (nI a)), (2, .int (nI b)), (3, .int (nI c)), (4, .int (nI 7)), (5, .long (lN ((((heldS n (EE n P k W pv L) 7 a b c) * (n 0)) * (n 1)) * (n 2)))), (7, .int (nI 3))]) [2, 3, 4, 5, 6, 1, 0] rfl ?_
    refine e_iload C dX8_worthOf_165 rfl ?_
    refine e_iconst (v := (nI 3)) C dX8_worthOf_167 (by decide) ?_
    refine e_icmp_geN (tgt := 205) C dX8_worthOf_168 (by omega) (by omega) (by decide) (fun h168 => ?_) (fun h168 => by omega)
    refine e_lload C dX8_worthOf_205 rfl ?_
    exact e_lret C dX8_worthOf_207 RT ⟨Nat.zero_le _, Nat.zero_le _⟩ (pl_ (congrArg lN (by unfold wrt; simp [prd, bitN, Nat.mul_assoc])))
set_option maxHeartbeats 4000000 in
set_option maxRecDepth 100000 in
theorem r_holdOf {w : Bool} {M : Mm} {n P : Nat → Nat} {k : Nat} {W : Nat → Nat → Int32} {pv : Nat → Nat} {L : Nat} (hB : Rb M n P k W pv L) (hl : RlOK M n k W pv (EE n P k W pv L)) (a b c : Nat) (ha : a < n 0) (hb : b < n 1) (hc : c < n 2) : CT mX8_holdOf [.ref 25, .int (nI a), .int (nI b), .int (nI c)] (shF w) M (Pi (nI (bstH (wrt n (EE n P k W pv L) a b c) 7)) (shF w) M) := by
  refine CT.mk (lv := [(0, .ref 25), (1, .int (nI a)), (2, .int (nI b)), (3, .int (nI c))]) rfl (by decide +kernel) (Nat.le_of_ble_eq_true rfl) ?_
  intro X C RT
  obtain ⟨hS, hT, hL, hL1, hL3⟩ := id hB
  have n0 := hS.2.1 0 (by decide)
  have n1 := hS.2.1 1 (by decide)
  have n2 := hS.2.1 2 (by decide)
  refine e_iconst (v := (nI 0)) C dX8_holdOf_0 (by decide) ?_
  refine e_istore (lv2 := [(4, .int (nI 0)), (0, .ref 25), (1, .int (nI a)), (2, .int (nI b)), (3, .int (nI c))]) C dX8_holdOf_1 (by decide) rfl ?_
  refine e_iconst (v := (nI 1)) C dX8_holdOf_3 (by decide) ?_
  refine e_istore (lv2 := [(5, .int (nI 1)), (4, .int (nI 0)), (0, .ref 25), (1, .int (nI a)), (2, .int (nI b)), (3, .int (nI c))]) C dX8_holdOf_4 (by decide) rfl ?_
  refine e_loc [2, 3, 4, 5, 1, 0] rfl ?_
  have lp : ∀ (j : Nat) (bb : Nat), j ≤ 7 → bb = bstH (wrt n (EE n P k W pv L) a b c) j → Wd X (0, 0) 6 [(0, .ref 25), (1, .int (nI a)), (2, .int (nI b)), (3, .int (nI c)), (4, .int (nI bb)), (5, .int (nI (j + 1)))] [] (shF w) M := by
    intro j
    induction hq_lp : 7 - j using Nat.strongRecOn generalizing j with
    | ind k_lp ih_lp =>
      intro bb hj hb2
      have hbl := bstH_le (wrt n (EE n P k W pv L) a b c) j
      refine e_iload C dX8_holdOf_6 rfl ?_
      refine e_bipush (v := (nI 8)) C dX8_holdOf_8 (by decide) ?_
      refine e_icmp_geN (tgt := 50) C dX8_holdOf_10 (by omega) (by omega) (by decide) (fun h10 => ?_) (fun h10 => ?_)
      · refine e_iload C dX8_holdOf_50 rfl ?_
        exact e_zret C dX8_holdOf_52 RT rfl ⟨Nat.zero_le _, Nat.zero_le _⟩ (pi_ (congrArg nI (by rw [hb2, show j = 7 by omega])))
      · refine e_aload_n C dX8_holdOf_13 rfl rfl ?_
        refine e_iload_n C dX8_holdOf_14 rfl rfl ?_
        refine e_iload_n C dX8_holdOf_15 rfl rfl ?_
        refine e_iload_n C dX8_holdOf_16 rfl rfl ?_
        refine e_iload C dX8_holdOf_17 rfl ?_
        have hw1 := wrt_le n0.2 n1.2 n2.2 hB.le a b c (j + 1)
        refine e_callVl C dX8_holdOf_19 [.int (nI a), .int (nI b), .int (nI c), .int (nI (j + 1))] (r_worthOf hB hl a b c (j + 1) (by omega) (by omega) (by omega) (by omega)) okX8_worthOf lX8_145 rfl rfl rfl ⟨rfl, rfl⟩ ⟨Nat.le_of_ble_eq_true rfl, Nat.le_of_ble_eq_true rfl⟩ (Nat.le_of_ble_eq_true rfl) ⟨Nat.zero_le _, Nat.zero_le _⟩ ?_
        refine e_aload_n C dX8_holdOf_22 rfl rfl ?_
        refine e_iload_n C dX8_holdOf_23 rfl rfl ?_
        refine e_iload_n C dX8_holdOf_24 rfl rfl ?_
        refine e_iload_n C dX8_holdOf_25 rfl rfl ?_
        refine e_iload C dX8_holdOf_26 rfl ?_
        have hw2 := wrt_le n0.2 n1.2 n2.2 hB.le a b c bb
        refine e_callVl C dX8_holdOf_28 [.int (nI a), .int (nI b), .int (nI c), .int (nI bb)] (r_worthOf hB hl a b c bb (by omega) (by omega) (by omega) (by omega)) okX8_worthOf lX8_145 rfl rfl rfl ⟨rfl, rfl⟩ ⟨Nat.le_of_ble_eq_true rfl, Nat.le_of_ble_eq_true rfl⟩ (Nat.le_of_ble_eq_true rfl) ⟨Nat.zero_le _, Nat.zero_le _⟩ ?_
        refine e_lcmp_leN (tgt := 40) C dX8_holdOf_31 dX8_holdOf_32 (by omega) (by omega) (by decide) (fun h31 => ?_) (fun h31 => ?_)
        · refine e_iload C dX8_holdOf_40 rfl ?_
          refine e_istore (lv2 := [(4, .int (nI bb)), (0, .ref 25), (1, .int (nI a)), (2, .int (nI b)), (3, .int (nI c)), (5, .int (nI (j + 1)))]) C dX8_holdOf_42 (by decide) rfl ?_
          refine e_iincN (lv2 := [(5, .int (nI (j + 1 + 1))), (4, .int (nI bb)), (0, .ref 25), (1, .int (nI a)), (2, .int (nI b)), (3, .int (nI c))]) C dX8_holdOf_44 rfl (by decide) (nI_1 _) rfl ?_
          refine e_goto (tgt := 6) C dX8_holdOf_47 (by decide) ?_
          refine e_loc [2, 3, 4, 5, 1, 0] rfl ?_
          exact ih_lp (7 - (j + 1)) (by omega) (j + 1) rfl bb (by omega) (by show _ = bstH (wrt n (EE n P k W pv L) a b c) (j + 1); unfold bstH; rw [← hb2, if_neg (by omega)])
        · refine e_iload C dX8_holdOf_35 rfl ?_
          refine e_goto (tgt := 42) C dX8_holdOf_37 (by decide) ?_
          refine e_istore (lv2 := [(4, .int (nI (j + 1))), (0, .ref 25), (1, .int (nI a)), (2, .int (nI b)), (3, .int (nI c)), (5, .int (nI (j + 1)))]) C dX8_holdOf_42 (by decide) rfl ?_
          refine e_iincN (lv2 := [(5, .int (nI (j + 1 + 1))), (4, .int (nI (j + 1))), (0, .ref 25), (1, .int (nI a)), (2, .int (nI b)), (3, .int (nI c))]) C dX8_holdOf_44 rfl (by decide) (nI_1 _) rfl ?_
          refine e_goto (tgt := 6) C dX8_holdOf_47 (by decide) ?_
          refine e_loc [2, 3, 4, 5, 1, 0] rfl ?_
          exact ih_lp (7 - (j + 1)) (by omega) (j + 1) rfl (j + 1) (by omega) (by show _ = bstH (wrt n (EE n P k W pv L) a b c) (j + 1); unfold bstH; rw [← hb2, if_pos (by omega)])
  exact lp 0 0 (by omega) rfl
set_option maxHeartbeats 4000000 in
set_option maxRecDepth 100000 in
theorem r_playedBest {w : Bool} {M : Mm} {n P : Nat → Nat} {k : Nat} {W : Nat → Nat → Int32} {pv : Nat → Nat} {L : Nat} (hB : Rb M n P k W pv L) (hl : RlOK M n k W pv (EE n P k W pv L)) : CT mX8_playedBest [.ref 25] (shF w) M (Pl (lN (tot n (plB n (EE n P k W pv L)))) (shF w) M) := by
  refine CT.mk (lv := [(0, .ref 25)]) rfl (by decide +kernel) (Nat.le_of_ble_eq_true rfl) ?_
  intro X C RT
  obtain ⟨hS, hT, hL, hL1, hL3⟩ := id hB
  have n0 := hS.2.1 0 (by decide)
  have n1 := hS.2.1 1 (by decide)
  have n2 := hS.2.1 2 (by decide)
  refine e_lconst (v := lN 0) C dX8_playedBest_0 (by decide) ?_
  refine e_lstore_n (lv2 := [(1, .long (lN 0)), (0, .ref 25)]) C dX8_playedBest_1 rfl (by decide) rfl ?_
  refine e_iconst (v := (nI 0)) C dX8_playedBest_2 (by decide) ?_
  refine e_istore_n (lv2 := [(3, .int (nI 0)), (1, .long (lN 0)), (0, .ref 25)]) C dX8_playedBest_3 rfl (by decide) rfl ?_
  refine e_loc [2, 1, 0] rfl ?_
  have l1 : ∀ (a : Nat) (x1 : Nat), a ≤ n 0 → x1 = acc n (plB n (EE n P k W pv L)) a 0 0 → Wd X (0, 0) 4 [(0, .ref 25), (1, .long (lN x1)), (3, .int (nI a))] [] (shF w) M := by
    intro a
    induction hq_l1 : n 0 - a using Nat.strongRecOn generalizing a with
    | ind k_l1 ih_l1 =>
      intro x1 ha9 hI1
      refine e_iload_n C dX8_playedBest_4 rfl rfl ?_
      refine e_aload_n C dX8_playedBest_5 rfl rfl ?_
      refine e_getR (q := 26) C dX8_playedBest_6 fX8_7 rfl rfl ?_
      refine e_iconst (v := (nI 0)) C dX8_playedBest_9 (by decide) ?_
      refine e_ialoadN C dX8_playedBest_10 rfl (by omega) (by omega) ?_
      refine e_topi (nI (n 0)) (hS.1 0 (by omega)) ?_
      refine e_icmp_geN (tgt := 81) C dX8_playedBest_11 (by omega) (by omega) (by decide) (fun h11 => ?_) (fun h11 => ?_)
      · refine e_lload_n C dX8_playedBest_81 rfl rfl ?_
        exact e_lret C dX8_playedBest_82 RT ⟨Nat.zero_le _, Nat.zero_le _⟩ (pl_ (congrArg lN (by rw [hI1, show a = n 0 by omega, acc_n])))
      · refine e_iconst (v := (nI 0)) C dX8_playedBest_14 (by decide) ?_
        refine e_istore (lv2 := [(4, .int (nI 0)), (0, .ref 25), (1, .long (lN x1)), (3, .int (nI a))]) C dX8_playedBest_15 (by decide) rfl ?_
        refine e_loc [1, 2, 3, 0] rfl ?_
        have l2 : ∀ (b : Nat) (x2 : Nat), b ≤ n 1 → x2 = acc n (plB n (EE n P k W pv L)) a b 0 → Wd X (0, 0) 17 [(0, .ref 25), (1, .long (lN x2)), (3, .int (nI a)), (4, .int (nI b))] [] (shF w) M := by
          intro b
          induction hq_l2 : n 1 - b using Nat.strongRecOn generalizing b with
          | ind k_l2 ih_l2 =>
            intro x2 hb9 hI2
            refine e_iload C dX8_playedBest_17 rfl ?_
            refine e_aload_n C dX8_playedBest_19 rfl rfl ?_
            refine e_getR (q := 26) C dX8_playedBest_20 fX8_7 rfl rfl ?_
            refine e_iconst (v := (nI 1)) C dX8_playedBest_23 (by decide) ?_
            refine e_ialoadN C dX8_playedBest_24 rfl (by omega) (by omega) ?_
            refine e_topi (nI (n 1)) (hS.1 1 (by omega)) ?_
            refine e_icmp_geN (tgt := 75) C dX8_playedBest_25 (by omega) (by omega) (by decide) (fun h25 => ?_) (fun h25 => ?_)
            · refine e_iincN (lv2 := [(3, .int (nI (a + 1))), (0, .ref 25), (1, .long (lN x2)), (4, .int (nI b))]) C dX8_playedBest_75 rfl (by decide) (nI_1 _) rfl ?_
              refine e_goto (tgt := 4) C dX8_playedBest_78 (by decide) ?_
              refine e_loc [1, 2, 0] rfl ?_
              have hI4 := hI2
              rw [show b = n 1 by omega] at hI4
              exact ih_l1 (n 0 - (a + 1)) (by omega) (a + 1) rfl x2 (by omega) (by rw [acc_a]; exact hI4)
            · refine e_iconst (v := (nI 0)) C dX8_playedBest_28 (by decide) ?_
              refine e_istore (lv2 := [(5, .int (nI 0)), (0, .ref 25), (1, .long (lN x2)), (3, .int (nI a)), (4, .int (nI b))]) C dX8_playedBest_29 (by decide) rfl ?_
              refine e_loc [1, 2, 3, 4, 0] rfl ?_
              have l3 : ∀ (c : Nat) (x3 : Nat), c ≤ n 2 → x3 = acc n (plB n (EE n P k W pv L)) a b c → Wd X (0, 0) 31 [(0, .ref 25), (1, .long (lN x3)), (3, .int (nI a)), (4, .int (nI b)), (5, .int (nI c))] [] (shF w) M := by
                intro c
                induction hq_l3 : n 2 - c using Nat.strongRecOn generalizing c with
                | ind k_l3 ih_l3 =>
                  intro x3 hc9 hI3
                  refine e_iload C dX8_playedBest_31 rfl ?_
                  refine e_aload_n C dX8_playedBest_33 rfl rfl ?_
                  refine e_getR (q := 26) C dX8_playedBest_34 fX8_7 rfl rfl ?_
                  refine e_iconst (v := (nI 2)) C dX8_playedBest_37 (by decide) ?_
                  refine e_ialoadN C dX8_playedBest_38 rfl (by omega) (by omega) ?_
                  refine e_topi (nI (n 2)) (hS.1 2 (by omega)) ?_
                  refine e_icmp_geN (tgt := 69) C dX8_playedBest_39 (by omega) (by omega) (by decide) (fun h39 => ?_) (fun h39 => ?_)
                  · refine e_iincN (lv2 := [(4, .int (nI (b + 1))), (0, .ref 25), (1, .long (lN x3)), (3, .int (nI a)), (5, .int (nI c))]) C dX8_playedBest_69 rfl (by decide) (nI_1 _) rfl ?_
                    refine e_goto (tgt := 17) C dX8_playedBest_72 (by decide) ?_
                    refine e_loc [1, 2, 3, 0] rfl ?_
                    have hI4 := hI3
                    rw [show c = n 2 by omega] at hI4
                    exact ih_l2 (n 1 - (b + 1)) (by omega) (b + 1) rfl x3 (by omega) (by rw [acc_b]; exact hI4)
                  · refine e_lload_n C dX8_playedBest_42 rfl rfl ?_
                    refine e_aload_n C dX8_playedBest_43 rfl rfl ?_
                    refine e_iload_n C dX8_playedBest_44 rfl rfl ?_
                    refine e_iload C dX8_playedBest_45 rfl ?_
                    refine e_iload C dX8_playedBest_47 rfl ?_
                    refine e_aload_n C dX8_playedBest_49 rfl rfl ?_
                    refine e_iload_n C dX8_playedBest_50 rfl rfl ?_
                    refine e_iload C dX8_playedBest_51 rfl ?_
                    refine e_iload C dX8_playedBest_53 rfl ?_
                    have hg1 := bstH_le (wrt n (EE n P k W pv L) a b c) 7
                    refine e_callVi C dX8_playedBest_55 [.int (nI a), .int (nI b), .int (nI c)] (r_holdOf hB hl a b c (by omega) (by omega) (by omega)) okX8_holdOf lX8_142 rfl rfl rfl ⟨rfl, rfl⟩ ⟨Nat.le_of_ble_eq_true rfl, Nat.le_of_ble_eq_true rfl⟩ (Nat.le_of_ble_eq_true rfl) ⟨Nat.zero_le _, Nat.zero_le _⟩ ?_
                    have hw2 := wrt_le n0.2 n1.2 n2.2 hB.le a b c (bstH (wrt n (EE n P k W pv L) a b c) 7)
                    refine e_callVl C dX8_playedBest_58 [.int (nI a), .int (nI b), .int (nI c), .int (nI (bstH (wrt n (EE n P k W pv L) a b c) 7))] (r_worthOf hB hl a b c (bstH (wrt n (EE n P k W pv L) a b c) 7) (by omega) (by omega) (by omega) (by omega)) okX8_worthOf lX8_145 rfl rfl rfl ⟨rfl, rfl⟩ ⟨Nat.le_of_ble_eq_true rfl, Nat.le_of_ble_eq_true rfl⟩ (Nat.le_of_ble_eq_true rfl) ⟨Nat.zero_le _, Nat.zero_le _⟩ ?_
                    refine e_laddN C dX8_playedBest_61 ?_
                    refine e_lstore_n (lv2 := [(1, .long (lN (x3 + (wrt n (EE n P k W pv L) a b c (bstH (wrt n (EE n P k W pv L) a b c) 7))))), (0, .ref 25), (3, .int (nI a)), (4, .int (nI b)), (5, .int (nI c))]) C dX8_playedBest_62 rfl (by decide) rfl ?_
                    refine e_iincN (lv2 := [(5, .int (nI (c + 1))), (1, .long (lN (x3 + (wrt n (EE n P k W pv L) a b c (bstH (wrt n (EE n P k W pv L) a b c) 7))))), (0, .ref 25), (3, .int (nI a)), (4, .int (nI b))]) C dX8_playedBest_63 rfl (by decide) (nI_1 _) rfl ?_
                    refine e_goto (tgt := 31) C dX8_playedBest_66 (by decide) ?_
                    refine e_loc [2, 1, 3, 4, 0] rfl ?_
                    exact ih_l3 (n 2 - (c + 1)) (by omega) (c + 1) rfl (x3 + (wrt n (EE n P k W pv L) a b c (bstH (wrt n (EE n P k W pv L) a b c) 7))) (by omega) (by rw [acc_c, ← hI3]; rfl)
              exact l3 0 x2 (Nat.zero_le _) hI2
        exact l2 0 x1 (Nat.zero_le _) hI1
  exact l1 0 0 (Nat.zero_le _) rfl
