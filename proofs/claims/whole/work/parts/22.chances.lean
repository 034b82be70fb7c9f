def Qd (r : UInt64) (sh : List Sh) (F : Mm → Prop) : Option Value → List Sh → Mm → Prop := fun v s m => v = some (.double r) ∧ s = sh ∧ F m
theorem qd_ {v r : UInt64} {sh : List Sh} {M : Mm} {F : Mm → Prop} (h : v = r) (hF : F M) : Qd r sh F (some (.double v)) sh M := ⟨by rw [h], rfl, hF⟩
theorem e_callVdQ {X : Ctx} {kn : Nat × Nat} {pc : Nat} {lv : List (Nat × Value)} {st : List Value} {sh : List Sh} {M : Mm} {cc : ByteArray} {own : String} {nL : Nat} {R : Room} {mi : Mi} {i : Nat} {rest : List Value} {r : UInt64} {F : Mm → Prop} {b : Nat} {Cn : String} {ci : Nat} {fk : List Nat} (C : Cx X cc own nL R) (hd : decode cc pc = .ok (.invokevirtual i, 3)) (As : List Value) (hM : CT mi (.ref b :: As) sh M (Qd r sh F)) (hok : Ok mi As.length) (hlk : Lv own Cn i mi.1) (hb2 : sh[b]? = some (.inr (ci, fk))) (hc : (vwCl[ci]?).map (fun q => q.1) = some Cn) (hst : As.reverse ++ Value.ref b :: rest = st) (hmc : mi.2.2.2.2.cells = 0 ∧ mi.2.2.2.2.slots = 0) (hroom : mi.2.2.2.2.frames + 1 ≤ R.frames ∧ 8 + (mi.2.2.1 + 11) + mi.2.2.2.2.locals ≤ R.locals) (hrest : (rest.map (fun v => v.category)).sum ≤ 8) (hkn : kn.1 ≤ R.cells ∧ kn.2 ≤ R.slots) (k : ∀ M2, F M2 → Wd X kn (pc + 3) lv (.double r :: rest) sh M2) : Wd X kn pc lv st sh M := by
  subst hst
  refine e_callV_gen C hd hM hok hlk hb2 hc hroom hrest (by rw [hmc.1, hmc.2]; exact hkn) ?_ ?_
  · rintro v sh3 M3 ⟨rfl, rfl, hF⟩
    rw [hmc.1]; rfl
  · rintro v sh3 M3 ⟨rfl, rfl, hF⟩
    rw [hmc.1, hmc.2]
    exact k M3 hF
def bfP (w : Bool) : Nat := bif w then 23 else 22
def nwP (w : Bool) : Nat := bif w then 22 else 23
set_option maxHeartbeats 4000000 in
set_option maxRecDepth 100000 in
theorem k_oneGame {w : Bool} {M : Mm} {cnt : Nat → Nat} {sz : Nat} {f : Nat → Nat} (hC : PcOK M cnt sz f) (D : Nat → UInt64) (c N X9 e : Nat) (hc : c ≤ 200) (hD : ∀ j, j ≤ c → gD M (bfP w) j = D j) (hDb : ∀ j, j ≤ c → Bd (D j) X9 e) (hX : XOK X9) (he : 13 ≤ e) (he2 : e ≤ 1074) (hN : 1 ≤ N) (hN2 : N ≤ 8000) (hcs : ∀ i, i ≤ sz → sumN (fun j => cnt (f j)) i ≤ N) : CT mX0_oneGame [.ref 20, .int (nI c), .ref 14, .int (nI N)] (shF w) M (Pd (dryS cnt f N D c sz) (shF w) M) := by
  refine CT.mk (lv := [(0, .ref 20), (1, .int (nI c)), (2, .ref 14), (3, .int (nI N))]) rfl (by decide +kernel) (Nat.le_of_ble_eq_true rfl) ?_
  intro X C RT
  obtain ⟨c1, c2, c3, c4⟩ := id hC
  have hc1 : ∀ i, i < sz → 1 ≤ cnt (f i) := fun i hi => c4.2.1 i hi
  have hS := dryS_ok (h := c) hX hDb he he2 hN hN2 c2 hc1 hcs
  cases w with
  | false =>
    refine e_dconst0 C dX0_oneGame_0 ?_
    refine e_dstore (lv2 := [(4, .double FP.dconst0), (0, .ref 20), (1, .int (nI c)), (2, .ref 14), (3, .int (nI N))]) C dX0_oneGame_1 (by decide) rfl ?_
    refine e_iconst (v := (nI 0)) C dX0_oneGame_3 (by decide) ?_
    refine e_istore (lv2 := [(6, .int (nI 0)), (4, .double FP.dconst0), (0, .ref 20), (1, .int (nI c)), (2, .ref 14), (3, .int (nI N))]) C dX0_oneGame_4 (by decide) rfl ?_
    refine e_loc [2, 3, 4, 5, 1, 0] rfl ?_
    have lp : ∀ (i : Nat) (x9 : UInt64), i ≤ sz → x9 = dryS cnt f N D c i → Wd X (0, 0) 6 [(0, .ref 20), (1, .int (nI c)), (2, .ref 14), (3, .int (nI N)), (4, .double x9), (6, .int (nI i))] [] (shF false) M := by
      intro i
      induction hq_lp : sz - i using Nat.strongRecOn generalizing i with
      | ind k_lp ih_lp =>
        intro x9 hi hx9
        refine e_iload C dX0_oneGame_6 rfl ?_
        refine e_aload_n C dX0_oneGame_8 rfl rfl ?_
        refine e_getI C dX0_oneGame_9 fX0_37 rfl rfl ?_
        refine e_topi (nI sz) c1 ?_
        refine e_icmp_geN (tgt := 70) C dX0_oneGame_12 (by omega) (by omega) (by decide) (fun h12 => ?_) (fun h12 => ?_)
        · refine e_dload C dX0_oneGame_70 rfl ?_
          exact e_dret C dX0_oneGame_72 RT ⟨Nat.zero_le _, Nat.zero_le _⟩ (pd_ (by rw [hx9, show i = sz by omega]))
        · refine e_aload_n C dX0_oneGame_15 rfl rfl ?_
          refine e_getR (q := 15) C dX0_oneGame_16 fX0_43 rfl rfl ?_
          refine e_iload C dX0_oneGame_19 rfl ?_
          refine e_ialoadN C dX0_oneGame_21 rfl (by omega) (by omega) ?_
          refine e_topi (nI (f i)) ((c3 i (by omega)).1) ?_
          refine e_istore (lv2 := [(7, .int (nI (f i))), (0, .ref 20), (1, .int (nI c)), (2, .ref 14), (3, .int (nI N)), (4, .double x9), (6, .int (nI i))]) C dX0_oneGame_22 (by decide) rfl ?_
          refine e_aload_n C dX0_oneGame_24 rfl rfl ?_
          refine e_getR (q := 16) C dX0_oneGame_25 fX0_47 rfl rfl ?_
          refine e_iload C dX0_oneGame_28 rfl ?_
          refine e_ialoadN C dX0_oneGame_30 rfl (by omega) (by omega) ?_
          refine e_topi (nI (cnt (f i))) ((c3 i (by omega)).2.1) ?_
          refine e_i2d C dX0_oneGame_31 ?_
          refine e_iload_n C dX0_oneGame_32 rfl rfl ?_
          refine e_i2d C dX0_oneGame_33 ?_
          have hf30 := (c3 i (by omega)).2.2
          have hpx := dryP_ok (cnt := cnt) (f := f) (sz := sz) (i := i) (h := c) hX hDb he he2 hN hN2 hc1 hcs (by omega)
          have hs1 := (hS (i + 1) (by omega)).1
          refine e_ddiv C dX0_oneGame_34 hpx.1.n64 ?_
          refine e_dstore (lv2 := [(8, .double (FP.ddiv (FP.i2d (nI (cnt (f i)))) (FP.i2d (nI N)))), (7, .int (nI (f i))), (0, .ref 20), (1, .int (nI c)), (2, .ref 14), (3, .int (nI N)), (4, .double x9), (6, .int (nI i))]) C dX0_oneGame_35 (by decide) rfl ?_
          refine e_dload C dX0_oneGame_37 rfl ?_
          refine e_dload C dX0_oneGame_39 rfl ?_
          refine e_iload C dX0_oneGame_41 rfl ?_
          refine e_iload_n C dX0_oneGame_43 rfl rfl ?_
          refine e_icmp_leN (tgt := 51) C dX0_oneGame_44 (by omega) (by omega) (by decide) (fun h44 => ?_) (fun h44 => ?_)
          · refine e_aload_n C dX0_oneGame_51 rfl rfl ?_
            refine e_getR (q := 22) C dX0_oneGame_52 fX0_15 rfl rfl ?_
            refine e_iload_n C dX0_oneGame_55 rfl rfl ?_
            refine e_iload C dX0_oneGame_56 rfl ?_
            refine e_isubN C dX0_oneGame_58 (by omega) ?_
            refine e_daloadN C dX0_oneGame_59 rfl (by omega) (by omega) ?_
            refine e_topd (D (c - (f i))) (hD (c - (f i)) (by omega)) ?_
            have hxe : dryX D c (f i) = D (c - f i) := if_neg (by omega)
            have hse : dryS cnt f N D c (i + 1) = FP.dadd (dryS cnt f N D c i) (FP.dmul (shr (cnt (f i)) N) (dryX D c (f i))) := rfl
            rw [hse, hxe, ← hx9] at hs1
            rw [hxe] at hpx hse
            refine e_dmul C dX0_oneGame_60 hpx.2.1.n64 ?_
            refine e_dadd C dX0_oneGame_61 hs1.n64 ?_
            refine e_dstore (lv2 := [(4, .double (FP.dadd x9 (FP.dmul (FP.ddiv (FP.i2d (nI (cnt (f i)))) (FP.i2d (nI N))) (D (c - (f i)))))), (8, .double (FP.ddiv (FP.i2d (nI (cnt (f i)))) (FP.i2d (nI N)))), (7, .int (nI (f i))), (0, .ref 20), (1, .int (nI c)), (2, .ref 14), (3, .int (nI N)), (6, .int (nI i))]) C dX0_oneGame_62 (by decide) rfl ?_
            refine e_iincN (lv2 := [(6, .int (nI (i + 1))), (4, .double (FP.dadd x9 (FP.dmul (FP.ddiv (FP.i2d (nI (cnt (f i)))) (FP.i2d (nI N))) (D (c - (f i)))))), (8, .double (FP.ddiv (FP.i2d (nI (cnt (f i)))) (FP.i2d (nI N)))), (7, .int (nI (f i))), (0, .ref 20), (1, .int (nI c)), (2, .ref 14), (3, .int (nI N))]) C dX0_oneGame_64 rfl (by decide) (nI_1 _) rfl ?_
            refine e_goto (tgt := 6) C dX0_oneGame_67 (by decide) ?_
            refine e_loc [4, 5, 6, 7, 1, 0] rfl ?_
            exact ih_lp (sz - (i + 1)) (by omega) (i + 1) rfl (FP.dadd x9 (FP.dmul (FP.ddiv (FP.i2d (nI (cnt (f i)))) (FP.i2d (nI N))) (D (c - (f i))))) (by omega) (by rw [hse, hx9]; rfl)
          · refine e_dconst1 C dX0_oneGame_47 ?_
            refine e_goto (tgt := 60) C dX0_oneGame_48 (by decide) ?_
            have hxe : dryX D c (f i) = FP.dconst1 := if_pos h44
            have hse : dryS cnt f N D c (i + 1) = FP.dadd (dryS cnt f N D c i) (FP.dmul (shr (cnt (f i)) N) (dryX D c (f i))) := rfl
            rw [hse, hxe, ← hx9] at hs1
            rw [hxe] at hpx hse
            refine e_dmul C dX0_oneGame_60 hpx.2.1.n64 ?_
            refine e_dadd C dX0_oneGame_61 hs1.n64 ?_
            refine e_dstore (lv2 := [(4, .double (FP.dadd x9 (FP.dmul (FP.ddiv (FP.i2d (nI (cnt (f i)))) (FP.i2d (nI N))) FP.dconst1))), (8, .double (FP.ddiv (FP.i2d (nI (cnt (f i)))) (FP.i2d (nI N)))), (7, .int (nI (f i))), (0, .ref 20), (1, .int (nI c)), (2, .ref 14), (3, .int (nI N)), (6, .int (nI i))]) C dX0_oneGame_62 (by decide) rfl ?_
            refine e_iincN (lv2 := [(6, .int (nI (i + 1))), (4, .double (FP.dadd x9 (FP.dmul (FP.ddiv (FP.i2d (nI (cnt (f i)))) (FP.i2d (nI N))) FP.dconst1))), (8, .double (FP.ddiv (FP.i2d (nI (cnt (f i)))) (FP.i2d (nI N)))), (7, .int (nI (f i))), (0, .ref 20), (1, .int (nI c)), (2, .ref 14), (3, .int (nI N))]) C dX0_oneGame_64 rfl (by decide) (nI_1 _) rfl ?_
            refine e_goto (tgt := 6) C dX0_oneGame_67 (by decide) ?_
            refine e_loc [4, 5, 6, 7, 1, 0] rfl ?_
            exact ih_lp (sz - (i + 1)) (by omega) (i + 1) rfl (FP.dadd x9 (FP.dmul (FP.ddiv (FP.i2d (nI (cnt (f i)))) (FP.i2d (nI N))) FP.dconst1)) (by omega) (by rw [hse, hx9]; rfl)
    exact lp 0 _ (by omega) rfl
  | true =>
    refine e_dconst0 C dX0_oneGame_0 ?_
    refine e_dstore (lv2 := [(4, .double FP.dconst0), (0, .ref 20), (1, .int (nI c)), (2, .ref 14), (3, .int (nI N))]) C dX0_oneGame_1 (by decide) rfl ?_
    refine e_iconst (v := (nI 0)) C dX0_oneGame_3 (by decide) ?_
    refine e_istore (lv2 := [(6, .int (nI 0)), (4, .double FP.dconst0), (0, .ref 20), (1, .int (nI c)), (2, .ref 14), (3, .int (nI N))]) C dX0_oneGame_4 (by decide) rfl ?_
    refine e_loc [2, 3, 4, 5, 1, 0] rfl ?_
    have lp : ∀ (i : Nat) (x9 : UInt64), i ≤ sz → x9 = dryS cnt f N D c i → Wd X (0, 0) 6 [(0, .ref 20), (1, .int (nI c)), (2, .ref 14), (3, .int (nI N)), (4, .double x9), (6, .int (nI i))] [] (shF true) M := by
      intro i
      induction hq_lp : sz - i using Nat.strongRecOn generalizing i with
      | ind k_lp ih_lp =>
        intro x9 hi hx9
        refine e_iload C dX0_oneGame_6 rfl ?_
        refine e_aload_n C dX0_oneGame_8 rfl rfl ?_
        refine e_getI C dX0_oneGame_9 fX0_37 rfl rfl ?_
        refine e_topi (nI sz) c1 ?_
        refine e_icmp_geN (tgt := 70) C dX0_oneGame_12 (by omega) (by omega) (by decide) (fun h12 => ?_) (fun h12 => ?_)
        · refine e_dload C dX0_oneGame_70 rfl ?_
          exact e_dret C dX0_oneGame_72 RT ⟨Nat.zero_le _, Nat.zero_le _⟩ (pd_ (by rw [hx9, show i = sz by omega]))
        · refine e_aload_n C dX0_oneGame_15 rfl rfl ?_
          refine e_getR (q := 15) C dX0_oneGame_16 fX0_43 rfl rfl ?_
          refine e_iload C dX0_oneGame_19 rfl ?_
          refine e_ialoadN C dX0_oneGame_21 rfl (by omega) (by omega) ?_
          refine e_topi (nI (f i)) ((c3 i (by omega)).1) ?_
          refine e_istore (lv2 := [(7, .int (nI (f i))), (0, .ref 20), (1, .int (nI c)), (2, .ref 14), (3, .int (nI N)), (4, .double x9), (6, .int (nI i))]) C dX0_oneGame_22 (by decide) rfl ?_
          refine e_aload_n C dX0_oneGame_24 rfl rfl ?_
          refine e_getR (q := 16) C dX0_oneGame_25 fX0_47 rfl rfl ?_
          refine e_iload C dX0_oneGame_28 rfl ?_
          refine e_ialoadN C dX0_oneGame_30 rfl (by omega) (by omega) ?_
          refine e_topi (nI (cnt (f i))) ((c3 i (by omega)).2.1) ?_
          refine e_i2d C dX0_oneGame_31 ?_
          refine e_iload_n C dX0_oneGame_32 rfl rfl ?_
          refine e_i2d C dX0_oneGame_33 ?_
          have hf30 := (c3 i (by omega)).2.2
          have hpx := dryP_ok (cnt := cnt) (f := f) (sz := sz) (i := i) (h := c) hX hDb he he2 hN hN2 hc1 hcs (by omega)
          have hs1 := (hS (i + 1) (by omega)).1
          refine e_ddiv C dX0_oneGame_34 hpx.1.n64 ?_
          refine e_dstore (lv2 := [(8, .double (FP.ddiv (FP.i2d (nI (cnt (f i)))) (FP.i2d (nI N)))), (7, .int (nI (f i))), (0, .ref 20), (1, .int (nI c)), (2, .ref 14), (3, .int (nI N)), (4, .double x9), (6, .int (nI i))]) C dX0_oneGame_35 (by decide) rfl ?_
          refine e_dload C dX0_oneGame_37 rfl ?_
          refine e_dload C dX0_oneGame_39 rfl ?_
          refine e_iload C dX0_oneGame_41 rfl ?_
          refine e_iload_n C dX0_oneGame_43 rfl rfl ?_
          refine e_icmp_leN (tgt := 51) C dX0_oneGame_44 (by omega) (by omega) (by decide) (fun h44 => ?_) (fun h44 => ?_)
          · refine e_aload_n C dX0_oneGame_51 rfl rfl ?_
            refine e_getR (q := 23) C dX0_oneGame_52 fX0_15 rfl rfl ?_
            refine e_iload_n C dX0_oneGame_55 rfl rfl ?_
            refine e_iload C dX0_oneGame_56 rfl ?_
            refine e_isubN C dX0_oneGame_58 (by omega) ?_
            refine e_daloadN C dX0_oneGame_59 rfl (by omega) (by omega) ?_
            refine e_topd (D (c - (f i))) (hD (c - (f i)) (by omega)) ?_
            have hxe : dryX D c (f i) = D (c - f i) := if_neg (by omega)
            have hse : dryS cnt f N D c (i + 1) = FP.dadd (dryS cnt f N D c i) (FP.dmul (shr (cnt (f i)) N) (dryX D c (f i))) := rfl
            rw [hse, hxe, ← hx9] at hs1
            rw [hxe] at hpx hse
            refine e_dmul C dX0_oneGame_60 hpx.2.1.n64 ?_
            refine e_dadd C dX0_oneGame_61 hs1.n64 ?_
            refine e_dstore (lv2 := [(4, .double (FP.dadd x9 (FP.dmul (FP.ddiv (FP.i2d (nI (cnt (f i)))) (FP.i2d (nI N))) (D (c - (f i)))))), (8, .double (FP.ddiv (FP.i2d (nI (cnt (f i)))) (FP.i2d (nI N)))), (7, .int (nI (f i))), (0, .ref 20), (1, .int (nI c)), (2, .ref 14), (3, .int (nI N)), (6, .int (nI i))]) C dX0_oneGame_62 (by decide) rfl ?_
            refine e_iincN (lv2 := [(6, .int (nI (i + 1))), (4, .double (FP.dadd x9 (FP.dmul (FP.ddiv (FP.i2d (nI (cnt (f i)))) (FP.i2d (nI N))) (D (c - (f i)))))), (8, .double (FP.ddiv (FP.i2d (nI (cnt (f i)))) (FP.i2d (nI N)))), (7, .int (nI (f i))), (0, .ref 20), (1, .int (nI c)), (2, .ref 14), (3, .int (nI N))]) C dX0_oneGame_64 rfl (by decide) (nI_1 _) rfl ?_
            refine e_goto (tgt := 6) C dX0_oneGame_67 (by decide) ?_
            refine e_loc [4, 5, 6, 7, 1, 0] rfl ?_
            exact ih_lp (sz - (i + 1)) (by omega) (i + 1) rfl (FP.dadd x9 (FP.dmul (FP.ddiv (FP.i2d (nI (cnt (f i)))) (FP.i2d (nI N))) (D (c - (f i))))) (by omega) (by rw [hse, hx9]; rfl)
          · refine e_dconst1 C dX0_oneGame_47 ?_
            refine e_goto (tgt := 60) C dX0_oneGame_48 (by decide) ?_
            have hxe : dryX D c (f i) = FP.dconst1 := if_pos h44
            have hse : dryS cnt f N D c (i + 1) = FP.dadd (dryS cnt f N D c i) (FP.dmul (shr (cnt (f i)) N) (dryX D c (f i))) := rfl
            rw [hse, hxe, ← hx9] at hs1
            rw [hxe] at hpx hse
            refine e_dmul C dX0_oneGame_60 hpx.2.1.n64 ?_
            refine e_dadd C dX0_oneGame_61 hs1.n64 ?_
            refine e_dstore (lv2 := [(4, .double (FP.dadd x9 (FP.dmul (FP.ddiv (FP.i2d (nI (cnt (f i)))) (FP.i2d (nI N))) FP.dconst1))), (8, .double (FP.ddiv (FP.i2d (nI (cnt (f i)))) (FP.i2d (nI N)))), (7, .int (nI (f i))), (0, .ref 20), (1, .int (nI c)), (2, .ref 14), (3, .int (nI N)), (6, .int (nI i))]) C dX0_oneGame_62 (by decide) rfl ?_
            refine e_iincN (lv2 := [(6, .int (nI (i + 1))), (4, .double (FP.dadd x9 (FP.dmul (FP.ddiv (FP.i2d (nI (cnt (f i)))) (FP.i2d (nI N))) FP.dconst1))), (8, .double (FP.ddiv (FP.i2d (nI (cnt (f i)))) (FP.i2d (nI N)))), (7, .int (nI (f i))), (0, .ref 20), (1, .int (nI c)), (2, .ref 14), (3, .int (nI N))]) C dX0_oneGame_64 rfl (by decide) (nI_1 _) rfl ?_
            refine e_goto (tgt := 6) C dX0_oneGame_67 (by decide) ?_
            refine e_loc [4, 5, 6, 7, 1, 0] rfl ?_
            exact ih_lp (sz - (i + 1)) (by omega) (i + 1) rfl (FP.dadd x9 (FP.dmul (FP.ddiv (FP.i2d (nI (cnt (f i)))) (FP.i2d (nI N))) FP.dconst1)) (by omega) (by rw [hse, hx9]; rfl)
    exact lp 0 _ (by omega) rfl
/-- the greatest number of coins that still matters with g of t games counted -/
def hiC (R h L t g : Nat) : Nat := min R (h + L * (t - g))
def RdI (M : Mm) (DL : Nat → Nat → UInt64) (R h L t g : Nat) (w : Bool) (M2 : Mm) : Prop := (∀ j, j ≤ hiC R h L t g → gD M2 (nwP w) j = DL g j) ∧ Same [22, 23] M M2
def RdJ (M : Mm) (DL : Nat → Nat → UInt64) (R h L t g c : Nat) (w : Bool) (M2 : Mm) : Prop := (∀ j, j ≤ hiC R h L t g → gD M2 (bfP w) j = DL g j) ∧ (∀ j, j < c → gD M2 (nwP w) j = DL (g + 1) j) ∧ Same [22, 23] M M2
theorem hiC_le {R h L t g c : Nat} (hc : c ≤ hiC R h L t (g + 1)) (hg : g + 1 ≤ t) : min R (c + L) ≤ hiC R h L t g := by
  unfold hiC at hc ⊢
  have h1 : L * (t - g) = L * (t - (g + 1)) + L := by rw [show t - g = (t - (g + 1)) + 1 by omega, Nat.mul_add, Nat.mul_one]
  omega
theorem PcOK.sm {ks : List Nat} {M M2 : Mm} {cnt : Nat → Nat} {sz : Nat} {f : Nat → Nat} (h : PcOK M cnt sz f) (hs : Same ks M M2) (hk : 14 ∉ ks ∧ 15 ∉ ks ∧ 16 ∉ ks) : PcOK M2 cnt sz f := h.same (hs.gI hk.1) (hs.gI hk.2.1) (hs.gI hk.2.2)
set_option maxHeartbeats 4000000 in
set_option maxRecDepth 100000 in
theorem k_runsDry {w : Bool} {M : Mm} {cnt : Nat → Nat} {sz : Nat} {f : Nat → Nat} (hC : PcOK M cnt sz f) (h t L R N : Nat) (hh : h ≤ R) (hR : R ≤ 200) (ht : t ≤ 50) (hL : L ≤ 3) (hN : 1 ≤ N) (hN2 : N ≤ 8000) (hcs : ∀ i, i ≤ sz → sumN (fun j => cnt (f j)) i ≤ N) : CT mX0_runsDry [.ref 20, .int (nI h), .int (nI t), .int (nI L), .int (nI R), .ref 14, .int (nI N)] (shF w) M (fun v s m => v = some (.double (dryL cnt f sz N L R t h)) ∧ (∃ w2, s = shF w2) ∧ Same [22, 23] M m) := by
  refine CT.mk (lv := [(0, .ref 20), (1, .int (nI h)), (2, .int (nI t)), (3, .int (nI L)), (4, .int (nI R)), (5, .ref 14), (6, .int (nI N))]) rfl (by decide +kernel) (Nat.le_of_ble_eq_true rfl) ?_
  intro X C RT
  obtain ⟨c1, c2, c3, c4⟩ := id hC
  have hc1 : ∀ i, i < sz → 1 ≤ cnt (f i) := fun i hi => c4.2.1 i hi
  obtain ⟨DL, hDL⟩ : ∃ DL, DL = dryL cnt f sz N L R := ⟨_, rfl⟩
  have dryL_ok := @dryL_ok cnt f N sz L R
  rw [← hDL] at dryL_ok
  have lp : ∀ (g : Nat) (w9 : Bool) (M9 : Mm), g ≤ t → RdI M DL R h L t g w9 M9 → Wd X (0, 0) 11 [(0, .ref 20), (1, .int (nI h)), (2, .int (nI t)), (3, .int (nI L)), (4, .int (nI R)), (5, .ref 14), (6, .int (nI N)), (7, .int (nI (g + 1)))] [] (shF w9) M9 := by
    intro g
    induction hq : t - g using Nat.strongRecOn generalizing g with
    | ind k ih =>
      intro w9 M9 hg hI
      have hmul : L * (t - (g + 1)) ≤ 3 * 50 := Nat.mul_le_mul hL (by omega)
      have hXg : XOK (fO + g * 1820 * fd) := ⟨by omega, by have := Nat.mul_le_mul_right fd (show g * 1820 ≤ 91000 by omega); omega⟩
      cases w9 with
      | false =>
        refine e_iload C dX0_runsDry_11 rfl ?_
        refine e_iload_n C dX0_runsDry_13 rfl rfl ?_
        refine e_icmp_gtN (tgt := 98) C dX0_runsDry_14 (by omega) (by omega) (by decide) (fun h14 => ?_) (fun h14 => ?_)
        · refine e_aload_n C dX0_runsDry_98 rfl rfl ?_
          refine e_getR (q := 23) C dX0_runsDry_99 fX0_18 rfl rfl ?_
          refine e_iload_n C dX0_runsDry_102 rfl rfl ?_
          refine e_daloadN C dX0_runsDry_103 rfl (by omega) (by omega) ?_
          refine e_topd (DL g h) (hI.1 h (by unfold hiC; omega)) ?_
          exact e_dret C dX0_runsDry_104 RT ⟨Nat.zero_le _, Nat.zero_le _⟩ (⟨by rw [hDL, show g = t by omega], ⟨false, rfl⟩, hI.2⟩)
        · refine e_aload_n C dX0_runsDry_17 rfl rfl ?_
          refine e_getR (q := 22) C dX0_runsDry_18 fX0_15 rfl rfl ?_
          refine e_astore (lv2 := [(8, .ref 22), (0, .ref 20), (1, .int (nI h)), (2, .int (nI t)), (3, .int (nI L)), (4, .int (nI R)), (5, .ref 14), (6, .int (nI N)), (7, .int (nI (g + 1)))]) C dX0_runsDry_21 (by decide) rfl ?_
          refine e_aload_n C dX0_runsDry_23 rfl rfl ?_
          refine e_aload_n C dX0_runsDry_24 rfl rfl ?_
          refine e_getR (q := 23) C dX0_runsDry_25 fX0_18 rfl rfl ?_
          refine e_putR (sh2 := ((shF false).set 20 (.inr (0, [24, 26, 26])))) C dX0_runsDry_28 pX0_15 rfl rfl rfl rfl (fun _ => rfl) (fun _ => rfl) ?_
          refine e_aload_n C dX0_runsDry_31 rfl rfl ?_
          refine e_aload C dX0_runsDry_32 rfl ?_
          refine e_putR (sh2 := shF true) C dX0_runsDry_34 pX0_18 rfl rfl rfl rfl (fun _ => rfl) (fun _ => rfl) ?_
          refine e_iload C dX0_runsDry_37 rfl ?_
          refine e_iload_n C dX0_runsDry_39 rfl rfl ?_
          refine e_iload_n C dX0_runsDry_40 rfl rfl ?_
          refine e_iload_n C dX0_runsDry_41 rfl rfl ?_
          refine e_iload C dX0_runsDry_42 rfl ?_
          refine e_isubN C dX0_runsDry_44 (by omega) ?_
          refine e_imulN C dX0_runsDry_45 ?_
          refine e_iaddN C dX0_runsDry_46 ?_
          refine e_minN C dX0_runsDry_47 (by omega) (by omega) (e_memg 541 (by decide +kernel) rfl) (e_memg 497 (by decide +kernel) rfl) (e_memg 43 (by decide +kernel) rfl) (e_memg 498 (by decide +kernel) rfl) (Nat.le_of_ble_eq_true rfl) (Nat.le_of_ble_eq_true rfl) ⟨Nat.zero_le _, Nat.zero_le _⟩ ?_
          refine e_topi (nI (hiC R h L t (g + 1))) rfl ?_
          have hhi : hiC R h L t (g + 1) ≤ 200 := by unfold hiC; omega
          refine e_istore (lv2 := [(9, .int (nI (hiC R h L t (g + 1)))), (8, .ref 22), (0, .ref 20), (1, .int (nI h)), (2, .int (nI t)), (3, .int (nI L)), (4, .int (nI R)), (5, .ref 14), (6, .int (nI N)), (7, .int (nI (g + 1)))]) C dX0_runsDry_50 (by decide) rfl ?_
          refine e_iconst (v := (nI 0)) C dX0_runsDry_52 (by decide) ?_
          refine e_istore (lv2 := [(10, .int (nI 0)), (9, .int (nI (hiC R h L t (g + 1)))), (8, .ref 22), (0, .ref 20), (1, .int (nI h)), (2, .int (nI t)), (3, .int (nI L)), (4, .int (nI R)), (5, .ref 14), (6, .int (nI N)), (7, .int (nI (g + 1)))]) C dX0_runsDry_53 (by decide) rfl ?_
          refine e_loc [3, 4, 5, 6, 7, 8, 9, 10, 1, 0] rfl ?_
          have hJ0 : RdJ M DL R h L t g 0 true M9 := ⟨hI.1, fun j hj => absurd hj (by omega), hI.2⟩
          have lc : ∀ (c : Nat) (M8 : Mm), c ≤ hiC R h L t (g + 1) + 1 → RdJ M DL R h L t g c true M8 → Wd X (0, 0) 55 [(0, .ref 20), (1, .int (nI h)), (2, .int (nI t)), (3, .int (nI L)), (4, .int (nI R)), (5, .ref 14), (6, .int (nI N)), (7, .int (nI (g + 1))), (9, .int (nI (hiC R h L t (g + 1)))), (10, .int (nI c))] [] (shF true) M8 := by
            intro c
            induction hq_lc : hiC R h L t (g + 1) + 1 - c using Nat.strongRecOn generalizing c with
            | ind k_lc ih_lc =>
              intro M8 hcc hJ
              have hC9 := hC.sm hJ.2.2 (by decide)
              refine e_iload C dX0_runsDry_55 rfl ?_
              refine e_iload C dX0_runsDry_57 rfl ?_
              refine e_icmp_gtN (tgt := 92) C dX0_runsDry_59 (by omega) (by omega) (by decide) (fun h59 => ?_) (fun h59 => ?_)
              · refine e_iincN (lv2 := [(7, .int (nI (g + 1 + 1))), (0, .ref 20), (1, .int (nI h)), (2, .int (nI t)), (3, .int (nI L)), (4, .int (nI R)), (5, .ref 14), (6, .int (nI N)), (9, .int (nI (hiC R h L t (g + 1)))), (10, .int (nI c))]) C dX0_runsDry_92 rfl (by decide) (nI_1 _) rfl ?_
                refine e_goto (tgt := 11) C dX0_runsDry_95 (by decide) ?_
                refine e_loc [1, 2, 3, 4, 5, 6, 7, 0] rfl ?_
                exact ih (t - (g + 1)) (by omega) (g + 1) rfl true M8 (by omega) ⟨fun j hj => hJ.2.1 j (by omega), hJ.2.2⟩
              · refine e_aload_n C dX0_runsDry_62 rfl rfl ?_
                refine e_getR (q := 22) C dX0_runsDry_63 fX0_18 rfl rfl ?_
                refine e_iload C dX0_runsDry_66 rfl ?_
                refine e_aload_n C dX0_runsDry_68 rfl rfl ?_
                refine e_iload C dX0_runsDry_69 rfl ?_
                refine e_iload C dX0_runsDry_71 rfl ?_
                refine e_iload_n C dX0_runsDry_73 rfl rfl ?_
                refine e_iaddN C dX0_runsDry_74 ?_
                refine e_minN C dX0_runsDry_75 (by omega) (by omega) (e_memg 541 (by decide +kernel) rfl) (e_memg 497 (by decide +kernel) rfl) (e_memg 43 (by decide +kernel) rfl) (e_memg 498 (by decide +kernel) rfl) (Nat.le_of_ble_eq_true rfl) (Nat.le_of_ble_eq_true rfl) ⟨Nat.zero_le _, Nat.zero_le _⟩ ?_
                refine e_aload C dX0_runsDry_78 rfl ?_
                refine e_iload C dX0_runsDry_80 rfl ?_
                have hm9 := hiC_le (R := R) (L := L) (h := h) (t := t) (g := g) (c := c) (by omega) (by omega)
                refine e_callVd C dX0_runsDry_82 [.int (nI (min R (c + L))), .ref 14, .int (nI N)] (k_oneGame hC9 (DL g) (min R (c + L)) N (fO + g * 1820 * fd) (1074 - 13 * g) (by omega) (fun j hj => hJ.1 j (by omega)) (fun j _ => dryL_ok hN hN2 c2 hc1 hcs g (by omega) j) hXg (by omega) (by omega) hN hN2 hcs) okX0_oneGame lX0_33 rfl rfl rfl ⟨rfl, rfl⟩ ⟨Nat.le_of_ble_eq_true rfl, Nat.le_of_ble_eq_true rfl⟩ (Nat.le_of_ble_eq_true rfl) ⟨Nat.zero_le _, Nat.zero_le _⟩ ?_
                refine e_dastoreN C dX0_runsDry_85 rfl (by omega) (by omega) ?_
                refine e_iincN (lv2 := [(10, .int (nI (c + 1))), (0, .ref 20), (1, .int (nI h)), (2, .int (nI t)), (3, .int (nI L)), (4, .int (nI R)), (5, .ref 14), (6, .int (nI N)), (7, .int (nI (g + 1))), (9, .int (nI (hiC R h L t (g + 1))))]) C dX0_runsDry_86 rfl (by decide) (nI_1 _) rfl ?_
                refine e_goto (tgt := 55) C dX0_runsDry_89 (by decide) ?_
                refine e_loc [1, 2, 3, 4, 5, 6, 7, 8, 9, 0] rfl ?_
                have hJ2 : RdJ M DL R h L t g (c + 1) true (sD M8 22 (vf_upd (gD M8 22) c (dryS cnt f N (DL g) (min R (c + L)) sz))) := by
                  refine ⟨fun j hj => ?_, fun j hj => ?_, hJ.2.2.D (by decide)⟩
                  · show gD (sD M8 22 _) 23 j = _
                    rw [gD_sD_ne _ _ (by decide)]; exact hJ.1 j hj
                  · show gD (sD M8 22 _) 22 j = _
                    rw [gD_sD]
                    by_cases e9 : j = c
                    · subst e9; rw [updD_s, hDL]; rfl
                    · rw [updD_n _ _ e9]; exact hJ.2.1 j (by omega)
                exact ih_lc (hiC R h L t (g + 1) + 1 - (c + 1)) (by omega) (c + 1) rfl (sD M8 22 (vf_upd (gD M8 22) c (dryS cnt f N (DL g) (min R (c + L)) sz))) (by omega) hJ2
          exact lc 0 M9 (by omega) hJ0
      | true =>
        refine e_iload C dX0_runsDry_11 rfl ?_
        refine e_iload_n C dX0_runsDry_13 rfl rfl ?_
        refine e_icmp_gtN (tgt := 98) C dX0_runsDry_14 (by omega) (by omega) (by decide) (fun h14 => ?_) (fun h14 => ?_)
        · refine e_aload_n C dX0_runsDry_98 rfl rfl ?_
          refine e_getR (q := 22) C dX0_runsDry_99 fX0_18 rfl rfl ?_
          refine e_iload_n C dX0_runsDry_102 rfl rfl ?_
          refine e_daloadN C dX0_runsDry_103 rfl (by omega) (by omega) ?_
          refine e_topd (DL g h) (hI.1 h (by unfold hiC; omega)) ?_
          exact e_dret C dX0_runsDry_104 RT ⟨Nat.zero_le _, Nat.zero_le _⟩ (⟨by rw [hDL, show g = t by omega], ⟨true, rfl⟩, hI.2⟩)
        · refine e_aload_n C dX0_runsDry_17 rfl rfl ?_
          refine e_getR (q := 23) C dX0_runsDry_18 fX0_15 rfl rfl ?_
          refine e_astore (lv2 := [(8, .ref 23), (0, .ref 20), (1, .int (nI h)), (2, .int (nI t)), (3, .int (nI L)), (4, .int (nI R)), (5, .ref 14), (6, .int (nI N)), (7, .int (nI (g + 1)))]) C dX0_runsDry_21 (by decide) rfl ?_
          refine e_aload_n C dX0_runsDry_23 rfl rfl ?_
          refine e_aload_n C dX0_runsDry_24 rfl rfl ?_
          refine e_getR (q := 22) C dX0_runsDry_25 fX0_18 rfl rfl ?_
          refine e_putR (sh2 := ((shF true).set 20 (.inr (0, [24, 25, 25])))) C dX0_runsDry_28 pX0_15 rfl rfl rfl rfl (fun _ => rfl) (fun _ => rfl) ?_
          refine e_aload_n C dX0_runsDry_31 rfl rfl ?_
          refine e_aload C dX0_runsDry_32 rfl ?_
          refine e_putR (sh2 := shF false) C dX0_runsDry_34 pX0_18 rfl rfl rfl rfl (fun _ => rfl) (fun _ => rfl) ?_
          refine e_iload C dX0_runsDry_37 rfl ?_
          refine e_iload_n C dX0_runsDry_39 rfl rfl ?_
          refine e_iload_n C dX0_runsDry_40 rfl rfl ?_
          refine e_iload_n C dX0_runsDry_41 rfl rfl ?_
          refine e_iload C dX0_runsDry_42 rfl ?_
          refine e_isubN C dX0_runsDry_44 (by omega) ?_
          refine e_imulN C dX0_runsDry_45 ?_
          refine e_iaddN C dX0_runsDry_46 ?_
          refine e_minN C dX0_runsDry_47 (by omega) (by omega) (e_memg 541 (by decide +kernel) rfl) (e_memg 497 (by decide +kernel) rfl) (e_memg 43 (by decide +kernel) rfl) (e_memg 498 (by decide +kernel) rfl) (Nat.le_of_ble_eq_true rfl) (Nat.le_of_ble_eq_true rfl) ⟨Nat.zero_le _, Nat.zero_le _⟩ ?_
          refine e_topi (nI (hiC R h L t (g + 1))) rfl ?_
          have hhi : hiC R h L t (g + 1) ≤ 200 := by unfold hiC; omega
          refine e_istore (lv2 := [(9, .int (nI (hiC R h L t (g + 1)))), (8, .ref 23), (0, .ref 20), (1, .int (nI h)), (2, .int (nI t)), (3, .int (nI L)), (4, .int (nI R)), (5, .ref 14), (6, .int (nI N)), (7, .int (nI (g + 1)))]) C dX0_runsDry_50 (by decide) rfl ?_
          refine e_iconst (v := (nI 0)) C dX0_runsDry_52 (by decide) ?_
          refine e_istore (lv2 := [(10, .int (nI 0)), (9, .int (nI (hiC R h L t (g + 1)))), (8, .ref 23), (0, .ref 20), (1, .int (nI h)), (2, .int (nI t)), (3, .int (nI L)), (4, .int (nI R)), (5, .ref 14), (6, .int (nI N)), (7, .int (nI (g + 1)))]) C dX0_runsDry_53 (by decide) rfl ?_
          refine e_loc [3, 4, 5, 6, 7, 8, 9, 10, 1, 0] rfl ?_
          have hJ0 : RdJ M DL R h L t g 0 false M9 := ⟨hI.1, fun j hj => absurd hj (by omega), hI.2⟩
          have lc : ∀ (c : Nat) (M8 : Mm), c ≤ hiC R h L t (g + 1) + 1 → RdJ M DL R h L t g c false M8 → Wd X (0, 0) 55 [(0, .ref 20), (1, .int (nI h)), (2, .int (nI t)), (3, .int (nI L)), (4, .int (nI R)), (5, .ref 14), (6, .int (nI N)), (7, .int (nI (g + 1))), (9, .int (nI (hiC R h L t (g + 1)))), (10, .int (nI c))] [] (shF false) M8 := by
            intro c
            induction hq_lc : hiC R h L t (g + 1) + 1 - c using Nat.strongRecOn generalizing c with
            | ind k_lc ih_lc =>
              intro M8 hcc hJ
              have hC9 := hC.sm hJ.2.2 (by decide)
              refine e_iload C dX0_runsDry_55 rfl ?_
              refine e_iload C dX0_runsDry_57 rfl ?_
              refine e_icmp_gtN (tgt := 92) C dX0_runsDry_59 (by omega) (by omega) (by decide) (fun h59 => ?_) (fun h59 => ?_)
              · refine e_iincN (lv2 := [(7, .int (nI (g + 1 + 1))), (0, .ref 20), (1, .int (nI h)), (2, .int (nI t)), (3, .int (nI L)), (4, .int (nI R)), (5, .ref 14), (6, .int (nI N)), (9, .int (nI (hiC R h L t (g + 1)))), (10, .int (nI c))]) C dX0_runsDry_92 rfl (by decide) (nI_1 _) rfl ?_
                refine e_goto (tgt := 11) C dX0_runsDry_95 (by decide) ?_
                refine e_loc [1, 2, 3, 4, 5, 6, 7, 0] rfl ?_
                exact ih (t - (g + 1)) (by omega) (g + 1) rfl false M8 (by omega) ⟨fun j hj => hJ.2.1 j (by omega), hJ.2.2⟩
              · refine e_aload_n C dX0_runsDry_62 rfl rfl ?_
                refine e_getR (q := 23) C dX0_runsDry_63 fX0_18 rfl rfl ?_
                refine e_iload C dX0_runsDry_66 rfl ?_
                refine e_aload_n C dX0_runsDry_68 rfl rfl ?_
                refine e_iload C dX0_runsDry_69 rfl ?_
                refine e_iload C dX0_runsDry_71 rfl ?_
                refine e_iload_n C dX0_runsDry_73 rfl rfl ?_
                refine e_iaddN C dX0_runsDry_74 ?_
                refine e_minN C dX0_runsDry_75 (by omega) (by omega) (e_memg 541 (by decide +kernel) rfl) (e_memg 497 (by decide +kernel) rfl) (e_memg 43 (by decide +kernel) rfl) (e_memg 498 (by decide +kernel) rfl) (Nat.le_of_ble_eq_true rfl) (Nat.le_of_ble_eq_true rfl) ⟨Nat.zero_le _, Nat.zero_le _⟩ ?_
                refine e_aload C dX0_runsDry_78 rfl ?_
                refine e_iload C dX0_runsDry_80 rfl ?_
                have hm9 := hiC_le (R := R) (L := L) (h := h) (t := t) (g := g) (c := c) (by omega) (by omega)
                refine e_callVd C dX0_runsDry_82 [.int (nI (min R (c + L))), .ref 14, .int (nI N)] (k_oneGame hC9 (DL g) (min R (c + L)) N (fO + g * 1820 * fd) (1074 - 13 * g) (by omega) (fun j hj => hJ.1 j (by omega)) (fun j _ => dryL_ok hN hN2 c2 hc1 hcs g (by omega) j) hXg (by omega) (by omega) hN hN2 hcs) okX0_oneGame lX0_33 rfl rfl rfl ⟨rfl, rfl⟩ ⟨Nat.le_of_ble_eq_true rfl, Nat.le_of_ble_eq_true rfl⟩ (Nat.le_of_ble_eq_true rfl) ⟨Nat.zero_le _, Nat.zero_le _⟩ ?_
                refine e_dastoreN C dX0_runsDry_85 rfl (by omega) (by omega) ?_
                refine e_iincN (lv2 := [(10, .int (nI (c + 1))), (0, .ref 20), (1, .int (nI h)), (2, .int (nI t)), (3, .int (nI L)), (4, .int (nI R)), (5, .ref 14), (6, .int (nI N)), (7, .int (nI (g + 1))), (9, .int (nI (hiC R h L t (g + 1))))]) C dX0_runsDry_86 rfl (by decide) (nI_1 _) rfl ?_
                refine e_goto (tgt := 55) C dX0_runsDry_89 (by decide) ?_
                refine e_loc [1, 2, 3, 4, 5, 6, 7, 8, 9, 0] rfl ?_
                have hJ2 : RdJ M DL R h L t g (c + 1) false (sD M8 23 (vf_upd (gD M8 23) c (dryS cnt f N (DL g) (min R (c + L)) sz))) := by
                  refine ⟨fun j hj => ?_, fun j hj => ?_, hJ.2.2.D (by decide)⟩
                  · show gD (sD M8 23 _) 22 j = _
                    rw [gD_sD_ne _ _ (by decide)]; exact hJ.1 j hj
                  · show gD (sD M8 23 _) 23 j = _
                    rw [gD_sD]
                    by_cases e9 : j = c
                    · subst e9; rw [updD_s, hDL]; rfl
                    · rw [updD_n _ _ e9]; exact hJ.2.1 j (by omega)
                exact ih_lc (hiC R h L t (g + 1) + 1 - (c + 1)) (by omega) (c + 1) rfl (sD M8 23 (vf_upd (gD M8 23) c (dryS cnt f N (DL g) (min R (c + L)) sz))) (by omega) hJ2
          exact lc 0 M9 (by omega) hJ0
  cases w with
  | false =>
    refine e_aload_n C dX0_runsDry_0 rfl rfl ?_
    refine e_getR (q := 23) C dX0_runsDry_1 fX0_18 rfl rfl ?_
    refine e_dconst0 C dX0_runsDry_4 ?_
    refine e_callSv C dX0_runsDry_5 [.ref 23, .double FP.dconst0] (k_fillD FP.dconst0 rfl (by decide)) okJ7_fill_7f8df lX0_21 rfl rfl ⟨rfl, rfl⟩ ⟨Nat.le_of_ble_eq_true rfl, Nat.le_of_ble_eq_true rfl⟩ (Nat.le_of_ble_eq_true rfl) ⟨Nat.zero_le _, Nat.zero_le _⟩ ?_
    refine e_iconst (v := (nI 1)) C dX0_runsDry_8 (by decide) ?_
    refine e_istore (lv2 := [(7, .int (nI 1)), (0, .ref 20), (1, .int (nI h)), (2, .int (nI t)), (3, .int (nI L)), (4, .int (nI R)), (5, .ref 14), (6, .int (nI N))]) C dX0_runsDry_9 (by decide) rfl ?_
    refine e_loc [1, 2, 3, 4, 5, 6, 7, 0] rfl ?_
    exact lp 0 false _ (by omega) ⟨fun j hj => by show gD (sD M 23 _) 23 j = _; rw [gD_sD, hDL]; unfold hiC at hj; unfold fillr; rw [if_pos (by omega)]; rfl, (Same.rf _ M).D (by decide)⟩
  | true =>
    refine e_aload_n C dX0_runsDry_0 rfl rfl ?_
    refine e_getR (q := 22) C dX0_runsDry_1 fX0_18 rfl rfl ?_
    refine e_dconst0 C dX0_runsDry_4 ?_
    refine e_callSv C dX0_runsDry_5 [.ref 22, .double FP.dconst0] (k_fillD FP.dconst0 rfl (by decide)) okJ7_fill_7f8df lX0_21 rfl rfl ⟨rfl, rfl⟩ ⟨Nat.le_of_ble_eq_true rfl, Nat.le_of_ble_eq_true rfl⟩ (Nat.le_of_ble_eq_true rfl) ⟨Nat.zero_le _, Nat.zero_le _⟩ ?_
    refine e_iconst (v := (nI 1)) C dX0_runsDry_8 (by decide) ?_
    refine e_istore (lv2 := [(7, .int (nI 1)), (0, .ref 20), (1, .int (nI h)), (2, .int (nI t)), (3, .int (nI L)), (4, .int (nI R)), (5, .ref 14), (6, .int (nI N))]) C dX0_runsDry_9 (by decide) rfl ?_
    refine e_loc [1, 2, 3, 4, 5, 6, 7, 0] rfl ?_
    exact lp 0 true _ (by omega) ⟨fun j hj => by show gD (sD M 22 _) 22 j = _; rw [gD_sD, hDL]; unfold hiC at hj; unfold fillr; rw [if_pos (by omega)]; rfl, (Same.rf _ M).D (by decide)⟩
def OfI (M : Mm) (n g j : Nat) (M2 : Mm) : Prop := (∀ i, i < 201 → gD M2 21 i = if j < i then prb (hitN n) (misN n) (g + 1) i else prb (hitN n) (misN n) g i) ∧ Same [21] M M2
def OfG (M : Mm) (n g : Nat) (M2 : Mm) : Prop := (∀ i, i < 201 → gD M2 21 i = prb (hitN n) (misN n) g i) ∧ Same [21] M M2
set_option maxHeartbeats 4000000 in
set_option maxRecDepth 100000 in
theorem k_asOften {w : Bool} {M : Mm} (m G n : Nat) (h4 : 4 ≤ n) (h20 : n ≤ 20) (hG : G ≤ 200) (hm : m ≤ G) : CT mX0_asOften [.ref 20, .int (nI m), .int (nI G), .int (nI n)] (shF w) M (Qd (oddS (prb (hitN n) (misN n) G) m (G + 1 - m)) (shF w) (fun M2 => Same [21] M M2)) := by
  refine CT.mk (lv := [(0, .ref 20), (1, .int (nI m)), (2, .int (nI G)), (3, .int (nI n))]) rfl (by decide +kernel) (Nat.le_of_ble_eq_true rfl) ?_
  intro X C RT
  have hh := hit_ok h4 h20
  have hmi := mis_ok h4 h20
  refine e_dconst1 C dX0_asOften_0 ?_
  refine e_iload_n C dX0_asOften_1 rfl rfl ?_
  refine e_i2d C dX0_asOften_2 ?_
  refine e_ddiv C dX0_asOften_3 hh.1.n64 ?_
  refine e_topd (hitN n) rfl ?_
  refine e_dstore (lv2 := [(4, .double (hitN n)), (0, .ref 20), (1, .int (nI m)), (2, .int (nI G)), (3, .int (nI n))]) C dX0_asOften_4 (by decide) rfl ?_
  refine e_dconst1 C dX0_asOften_6 ?_
  refine e_dconst1 C dX0_asOften_7 ?_
  refine e_iload_n C dX0_asOften_8 rfl rfl ?_
  refine e_i2d C dX0_asOften_9 ?_
  refine e_ddiv C dX0_asOften_10 hh.1.n64 ?_
  refine e_topd (hitN n) rfl ?_
  refine e_dsub C dX0_asOften_11 hmi.1.n64 ?_
  refine e_topd (misN n) rfl ?_
  refine e_dstore (lv2 := [(6, .double (misN n)), (4, .double (hitN n)), (0, .ref 20), (1, .int (nI m)), (2, .int (nI G)), (3, .int (nI n))]) C dX0_asOften_12 (by decide) rfl ?_
  refine e_aload_n C dX0_asOften_14 rfl rfl ?_
  refine e_getR (q := 21) C dX0_asOften_15 fX0_9 rfl rfl ?_
  refine e_dconst0 C dX0_asOften_18 ?_
  refine e_callSv C dX0_asOften_19 [.ref 21, .double FP.dconst0] (k_fillD FP.dconst0 rfl (by decide)) okJ7_fill_7f8df lX0_21 rfl rfl ⟨rfl, rfl⟩ ⟨Nat.le_of_ble_eq_true rfl, Nat.le_of_ble_eq_true rfl⟩ (Nat.le_of_ble_eq_true rfl) ⟨Nat.zero_le _, Nat.zero_le _⟩ ?_
  refine e_aload_n C dX0_asOften_22 rfl rfl ?_
  refine e_getR (q := 21) C dX0_asOften_23 fX0_9 rfl rfl ?_
  refine e_iconst (v := (nI 0)) C dX0_asOften_26 (by decide) ?_
  refine e_dconst1 C dX0_asOften_27 ?_
  refine e_dastoreN C dX0_asOften_28 rfl (by omega) (by omega) ?_
  refine e_iconst (v := (nI 1)) C dX0_asOften_29 (by decide) ?_
  refine e_istore (lv2 := [(8, .int (nI 1)), (6, .double (misN n)), (4, .double (hitN n)), (0, .ref 20), (1, .int (nI m)), (2, .int (nI G)), (3, .int (nI n))]) C dX0_asOften_30 (by decide) rfl ?_
  refine e_loc [3, 4, 5, 6, 2, 1, 0] rfl ?_
  have lg : ∀ (g : Nat) (M9 : Mm), g ≤ G → OfG M n g M9 → Wd X (0, 0) 32 [(0, .ref 20), (1, .int (nI m)), (2, .int (nI G)), (3, .int (nI n)), (4, .double (hitN n)), (6, .double (misN n)), (8, .int (nI (g + 1)))] [] (shF w) M9 := by
    intro g
    induction hq_lg : G - g using Nat.strongRecOn generalizing g with
    | ind k_lg ih_lg =>
      intro M9 hg hI
      refine e_iload C dX0_asOften_32 rfl ?_
      refine e_iload_n C dX0_asOften_34 rfl rfl ?_
      refine e_icmp_gtN (tgt := 105) C dX0_asOften_35 (by omega) (by omega) (by decide) (fun h35 => ?_) (fun h35 => ?_)
      · refine e_dconst0 C dX0_asOften_105 ?_
        refine e_dstore (lv2 := [(8, .double FP.dconst0), (0, .ref 20), (1, .int (nI m)), (2, .int (nI G)), (3, .int (nI n)), (4, .double (hitN n)), (6, .double (misN n))]) C dX0_asOften_106 (by decide) rfl ?_
        refine e_iload_n C dX0_asOften_108 rfl rfl ?_
        refine e_istore (lv2 := [(10, .int (nI m)), (8, .double FP.dconst0), (0, .ref 20), (1, .int (nI m)), (2, .int (nI G)), (3, .int (nI n)), (4, .double (hitN n)), (6, .double (misN n))]) C dX0_asOften_109 (by decide) rfl ?_
        have hgG : g = G := by omega
        subst hgG
        refine e_loc [2, 3, 4, 5, 1, 0] rfl ?_
        have lk : ∀ (k : Nat) (x9 : UInt64), m + k ≤ g + 1 → x9 = oddS (prb (hitN n) (misN n) g) m k → Wd X (0, 0) 111 [(0, .ref 20), (1, .int (nI m)), (2, .int (nI g)), (3, .int (nI n)), (8, .double x9), (10, .int (nI (m + k)))] [] (shF w) M9 := by
          intro k
          induction hq_lk : g + 1 - (m + k) using Nat.strongRecOn generalizing k with
          | ind k_lk ih_lk =>
            intro x9 hk hx9
            have hok := fun h => (oddS_ok (n := n) (g := g) (m := m) h4 h20 hG (k + 1) h).1
            refine e_iload C dX0_asOften_111 rfl ?_
            refine e_iload_n C dX0_asOften_113 rfl rfl ?_
            refine e_icmp_gtN (tgt := 135) C dX0_asOften_114 (by omega) (by omega) (by decide) (fun h114 => ?_) (fun h114 => ?_)
            · refine e_dload C dX0_asOften_135 rfl ?_
              exact e_dret C dX0_asOften_137 RT ⟨Nat.zero_le _, Nat.zero_le _⟩ (qd_ (by rw [hx9, show k = g + 1 - m by omega]) hI.2)
            · refine e_dload C dX0_asOften_117 rfl ?_
              refine e_aload_n C dX0_asOften_119 rfl rfl ?_
              refine e_getR (q := 21) C dX0_asOften_120 fX0_9 rfl rfl ?_
              refine e_iload C dX0_asOften_123 rfl ?_
              refine e_daloadN C dX0_asOften_125 rfl (by omega) (by omega) ?_
              refine e_topd (prb (hitN n) (misN n) g (m + k)) (hI.1 _ (by omega)) ?_
              refine e_dadd C dX0_asOften_126 (by have h9 := hok (by omega); rw [oddS, ← hx9] at h9; exact h9.n64) ?_
              refine e_dstore (lv2 := [(8, .double (FP.dadd x9 (prb (hitN n) (misN n) g (m + k)))), (0, .ref 20), (1, .int (nI m)), (2, .int (nI g)), (3, .int (nI n)), (10, .int (nI (m + k)))]) C dX0_asOften_127 (by decide) rfl ?_
              refine e_iincN (lv2 := [(10, .int (nI (m + k + 1))), (8, .double (FP.dadd x9 (prb (hitN n) (misN n) g (m + k)))), (0, .ref 20), (1, .int (nI m)), (2, .int (nI g)), (3, .int (nI n))]) C dX0_asOften_129 rfl (by decide) (nI_1 _) rfl ?_
              refine e_goto (tgt := 111) C dX0_asOften_132 (by decide) ?_
              refine e_loc [2, 3, 4, 5, 1, 0] rfl ?_
              exact ih_lk (g + 1 - (m + (k + 1))) (by omega) (k + 1) rfl (FP.dadd x9 (prb (hitN n) (misN n) g (m + k))) (by omega) (by rw [oddS, ← hx9])
        exact lk 0 _ (by omega) rfl
      · refine e_iload C dX0_asOften_38 rfl ?_
        refine e_istore (lv2 := [(9, .int (nI (g + 1))), (0, .ref 20), (1, .int (nI m)), (2, .int (nI G)), (3, .int (nI n)), (4, .double (hitN n)), (6, .double (misN n)), (8, .int (nI (g + 1)))]) C dX0_asOften_40 (by decide) rfl ?_
        refine e_loc [1, 2, 3, 4, 5, 6, 7, 0] rfl ?_
        have lj : ∀ (j : Nat) (M8 : Mm), j ≤ g + 1 → OfI M n g j M8 → Wd X (0, 0) 42 [(0, .ref 20), (1, .int (nI m)), (2, .int (nI G)), (3, .int (nI n)), (4, .double (hitN n)), (6, .double (misN n)), (8, .int (nI (g + 1))), (9, .int (nI j))] [] (shF w) M8 := by
          intro j
          induction hq_lj : j + 0 using Nat.strongRecOn generalizing j with
          | ind k_lj ih_lj =>
            intro M8 hj hJ
            refine e_iload C dX0_asOften_42 rfl ?_
            refine e_iconst (v := (nI 1)) C dX0_asOften_44 (by decide) ?_
            refine e_icmp_ltN (tgt := 84) C dX0_asOften_45 (by omega) (by omega) (by decide) (fun h45 => ?_) (fun h45 => ?_)
            · have hst := fun q h => prb_step (g := g) h4 h20 (prb_bnd h4 h20 (by omega)).1 (prb_bnd h4 h20 (by omega)).2 q h
              refine e_aload_n C dX0_asOften_84 rfl rfl ?_
              refine e_getR (q := 21) C dX0_asOften_85 fX0_9 rfl rfl ?_
              refine e_iconst (v := (nI 0)) C dX0_asOften_88 (by decide) ?_
              refine e_aload_n C dX0_asOften_89 rfl rfl ?_
              refine e_getR (q := 21) C dX0_asOften_90 fX0_9 rfl rfl ?_
              refine e_iconst (v := (nI 0)) C dX0_asOften_93 (by decide) ?_
              refine e_daloadN C dX0_asOften_94 rfl (by omega) (by omega) ?_
              refine e_topd (prb (hitN n) (misN n) g 0) (by rw [hJ.1 _ (by omega), if_neg (by omega)]) ?_
              refine e_dload C dX0_asOften_95 rfl ?_
              refine e_dmul C dX0_asOften_97 (hst 0 (by omega)).1.n64 ?_
              refine e_dastoreN C dX0_asOften_98 rfl (by omega) (by omega) ?_
              refine e_iincN (lv2 := [(8, .int (nI (g + 1 + 1))), (0, .ref 20), (1, .int (nI m)), (2, .int (nI G)), (3, .int (nI n)), (4, .double (hitN n)), (6, .double (misN n)), (9, .int (nI j))]) C dX0_asOften_99 rfl (by decide) (nI_1 _) rfl ?_
              refine e_goto (tgt := 32) C dX0_asOften_102 (by decide) ?_
              refine e_loc [1, 2, 3, 4, 5, 6, 0] rfl ?_
              have hG2 : OfG M n (g + 1) (sD M8 21 (vf_upd (gD M8 21) 0 (FP.dmul (prb (hitN n) (misN n) g 0) (misN n)))) := by
                refine ⟨fun q hq => ?_, hJ.2.D (by decide)⟩
                rw [gD_sD]
                by_cases e9 : q = 0
                · subst e9; rw [updD_s]; rfl
                · rw [updD_n _ _ e9, hJ.1 q hq, if_pos (by omega)]
              exact ih_lg (G - (g + 1)) (by omega) (g + 1) rfl (sD M8 21 (vf_upd (gD M8 21) 0 (FP.dmul (prb (hitN n) (misN n) g 0) (misN n)))) (by omega) hG2
            · obtain ⟨i, hij⟩ : ∃ i, j = i + 1 := ⟨j - 1, by omega⟩
              subst hij
              have hst := fun q h => prb_step (g := g) h4 h20 (prb_bnd h4 h20 (by omega)).1 (prb_bnd h4 h20 (by omega)).2 q h
              refine e_aload_n C dX0_asOften_48 rfl rfl ?_
              refine e_getR (q := 21) C dX0_asOften_49 fX0_9 rfl rfl ?_
              refine e_iload C dX0_asOften_52 rfl ?_
              refine e_aload_n C dX0_asOften_54 rfl rfl ?_
              refine e_getR (q := 21) C dX0_asOften_55 fX0_9 rfl rfl ?_
              refine e_iload C dX0_asOften_58 rfl ?_
              refine e_daloadN C dX0_asOften_60 rfl (by omega) (by omega) ?_
              refine e_topd (prb (hitN n) (misN n) g (i + 1)) (by rw [hJ.1 _ (by omega), if_neg (by omega)]) ?_
              refine e_dload C dX0_asOften_61 rfl ?_
              refine e_dmul C dX0_asOften_63 (hst (i + 1) (by omega)).1.n64 ?_
              refine e_aload_n C dX0_asOften_64 rfl rfl ?_
              refine e_getR (q := 21) C dX0_asOften_65 fX0_9 rfl rfl ?_
              refine e_iload C dX0_asOften_68 rfl ?_
              refine e_iconst (v := (nI 1)) C dX0_asOften_70 (by decide) ?_
              refine e_isubN C dX0_asOften_71 (by omega) ?_
              refine e_daloadN C dX0_asOften_72 rfl (by omega) (by omega) ?_
              refine e_topd (prb (hitN n) (misN n) g i) (by rw [hJ.1 _ (by omega), if_neg (by omega)]; rfl) ?_
              refine e_dload C dX0_asOften_73 rfl ?_
              refine e_dmul C dX0_asOften_75 (hst i (by omega)).2.1.n64 ?_
              refine e_dadd C dX0_asOften_76 (hst (i + 1) (by omega)).2.2.1.n64 ?_
              refine e_dastoreN C dX0_asOften_77 rfl (by omega) (by omega) ?_
              refine e_iincN (lv2 := [(9, .int (nI i)), (0, .ref 20), (1, .int (nI m)), (2, .int (nI G)), (3, .int (nI n)), (4, .double (hitN n)), (6, .double (misN n)), (8, .int (nI (g + 1)))]) C dX0_asOften_78 rfl (by decide) (pk_m1 _) rfl ?_
              refine e_goto (tgt := 42) C dX0_asOften_81 (by decide) ?_
              refine e_loc [1, 2, 3, 4, 5, 6, 7, 0] rfl ?_
              have hJ2 : OfI M n g i (sD M8 21 (vf_upd (gD M8 21) (i + 1) (FP.dadd (FP.dmul (prb (hitN n) (misN n) g (i + 1)) (misN n)) (FP.dmul (prb (hitN n) (misN n) g i) (hitN n))))) := by
                refine ⟨fun q hq => ?_, hJ.2.D (by decide)⟩
                rw [gD_sD]
                by_cases e9 : q = i + 1
                · subst e9; rw [updD_s, if_pos (by omega)]; rfl
                · rw [updD_n _ _ e9, hJ.1 q hq]
                  by_cases e8 : i + 1 < q
                  · rw [if_pos e8, if_pos (by omega)]
                  · rw [if_neg e8, if_neg (by omega)]
              exact ih_lj (i + 0) (by omega) i rfl (sD M8 21 (vf_upd (gD M8 21) (i + 1) (FP.dadd (FP.dmul (prb (hitN n) (misN n) g (i + 1)) (misN n)) (FP.dmul (prb (hitN n) (misN n) g i) (hitN n))))) (by omega) hJ2
        have hJ0 : OfI M n g (g + 1) M9 := by
          refine ⟨fun q hq => ?_, hI.2⟩
          rw [hI.1 q hq]
          by_cases e9 : g + 1 < q
          · rw [if_pos e9, prb_0 h4 h20 _ _ e9, prb_0 h4 h20 _ _ (by omega)]
          · rw [if_neg e9]
        exact lj (g + 1) M9 (by omega) hJ0
  refine lg 0 (sD (sD M 21 (fillr (gD M 21) 201 FP.dconst0)) 21 (vf_upd (gD (sD M 21 (fillr (gD M 21) 201 FP.dconst0)) 21) 0 FP.dconst1)) (by omega) ⟨fun q hq => ?_, ((Same.rf _ M).D (by decide)).D (by decide)⟩
  rw [gD_sD]
  by_cases e9 : q = 0
  · subst e9; rw [updD_s]; rfl
  · rw [updD_n _ _ e9, gD_sD]; unfold fillr; rw [if_pos (by omega)]; obtain ⟨q1, rfl⟩ : ∃ q1, q = q1 + 1 := ⟨q - 1, by omega⟩; rfl
