theorem w_neg {n : Nat} (h : n < 2 ^ 31) : ¬ nI n < 0 := nI_pos h
/-- what a yes or a no is as an int -/
def bI (b : Bool) : Int32 := if b then 1 else 0
theorem bI_t : bI true = 1 := rfl
theorem bI_f : bI false = 0 := rfl
theorem bI_nar (b : Bool) : narrow .boolean (.int (bI b)) = .int (bI b) := by cases b <;> rfl
theorem i_eq {z : Nat} (h : z < 2 ^ 31) : nI z = 0 ↔ z = 0 := by
  constructor
  · intro h1
    exact (nI_eq h (by decide)).mp h1
  · intro h1; rw [h1]; rfl

theorem e_iaddN {X : Ctx} {kn : Nat × Nat} {pc : Nat} {lv : List (Nat × Value)} {st : List Value} {sh : List Sh} {M : Mm} {cc : ByteArray} {own : String} {nL : Nat} {R : Room} {a b : Nat} (C : Cx X cc own nL R) (hd : decode cc pc = .ok (.iadd, 1)) (k : Wd X kn (pc + 1) lv (.int (nI (a + b)) :: st) sh M) : Wd X kn pc lv (.int (nI b) :: .int (nI a) :: st) sh M := by
  refine e_iadd C hd ?_
  rw [nI_add]; exact k
theorem e_imulN {X : Ctx} {kn : Nat × Nat} {pc : Nat} {lv : List (Nat × Value)} {st : List Value} {sh : List Sh} {M : Mm} {cc : ByteArray} {own : String} {nL : Nat} {R : Room} {a b : Nat} (C : Cx X cc own nL R) (hd : decode cc pc = .ok (.imul, 1)) (k : Wd X kn (pc + 1) lv (.int (nI (a * b)) :: st) sh M) : Wd X kn pc lv (.int (nI b) :: .int (nI a) :: st) sh M := by
  refine e_imul C hd ?_
  rw [pk_mul]; exact k
theorem e_isubN {X : Ctx} {kn : Nat × Nat} {pc : Nat} {lv : List (Nat × Value)} {st : List Value} {sh : List Sh} {M : Mm} {cc : ByteArray} {own : String} {nL : Nat} {R : Room} {a b : Nat} (C : Cx X cc own nL R) (hd : decode cc pc = .ok (.isub, 1)) (h : b ≤ a) (k : Wd X kn (pc + 1) lv (.int (nI (a - b)) :: st) sh M) : Wd X kn pc lv (.int (nI b) :: .int (nI a) :: st) sh M := by
  refine e_isub C hd ?_
  rw [pk_sub h]; exact k
theorem e_idivN {X : Ctx} {kn : Nat × Nat} {pc : Nat} {lv : List (Nat × Value)} {st : List Value} {sh : List Sh} {M : Mm} {cc : ByteArray} {own : String} {nL : Nat} {R : Room} {a b : Nat} (C : Cx X cc own nL R) (hd : decode cc pc = .ok (.idiv, 1)) (ha : a < 2 ^ 31) (h0 : 0 < b) (hb : b < 2 ^ 31) (k : Wd X kn (pc + 1) lv (.int (nI (a / b)) :: st) sh M) : Wd X kn pc lv (.int (nI b) :: .int (nI a) :: st) sh M := by
  refine e_idiv C hd (nI_ne0 h0 hb) ?_
  rw [pk_div ha h0 hb]; exact k
theorem e_iremN {X : Ctx} {kn : Nat × Nat} {pc : Nat} {lv : List (Nat × Value)} {st : List Value} {sh : List Sh} {M : Mm} {cc : ByteArray} {own : String} {nL : Nat} {R : Room} {a b : Nat} (C : Cx X cc own nL R) (hd : decode cc pc = .ok (.irem, 1)) (ha : a < 2 ^ 31) (h0 : 0 < b) (hb : b < 2 ^ 31) (k : Wd X kn (pc + 1) lv (.int (nI (a % b)) :: st) sh M) : Wd X kn pc lv (.int (nI b) :: .int (nI a) :: st) sh M := by
  refine e_irem C hd (nI_ne0 h0 hb) ?_
  rw [pk_rem ha h0 hb]; exact k
theorem e_i2lN {X : Ctx} {kn : Nat × Nat} {pc : Nat} {lv : List (Nat × Value)} {st : List Value} {sh : List Sh} {M : Mm} {cc : ByteArray} {own : String} {nL : Nat} {R : Room} {a : Nat} (C : Cx X cc own nL R) (hd : decode cc pc = .ok (.i2l, 1)) (ha : a < 2 ^ 31) (k : Wd X kn (pc + 1) lv (.long (lN a) :: st) sh M) : Wd X kn pc lv (.int (nI a) :: st) sh M := by
  refine e_i2l C hd ?_
  rw [nI_l ha]; exact k
theorem e_laddN {X : Ctx} {kn : Nat × Nat} {pc : Nat} {lv : List (Nat × Value)} {st : List Value} {sh : List Sh} {M : Mm} {cc : ByteArray} {own : String} {nL : Nat} {R : Room} {a b : Nat} (C : Cx X cc own nL R) (hd : decode cc pc = .ok (.ladd, 1)) (k : Wd X kn (pc + 1) lv (.long (lN (a + b)) :: st) sh M) : Wd X kn pc lv (.long (lN b) :: .long (lN a) :: st) sh M := by
  refine e_ladd C hd ?_
  rw [lN_add]; exact k
theorem e_lmulN {X : Ctx} {kn : Nat × Nat} {pc : Nat} {lv : List (Nat × Value)} {st : List Value} {sh : List Sh} {M : Mm} {cc : ByteArray} {own : String} {nL : Nat} {R : Room} {a b : Nat} (C : Cx X cc own nL R) (hd : decode cc pc = .ok (.lmul, 1)) (k : Wd X kn (pc + 1) lv (.long (lN (a * b)) :: st) sh M) : Wd X kn pc lv (.long (lN b) :: .long (lN a) :: st) sh M := by
  refine e_lmul C hd ?_
  rw [lN_mul]; exact k
theorem e_lsubN {X : Ctx} {kn : Nat × Nat} {pc : Nat} {lv : List (Nat × Value)} {st : List Value} {sh : List Sh} {M : Mm} {cc : ByteArray} {own : String} {nL : Nat} {R : Room} {a b : Nat} (C : Cx X cc own nL R) (hd : decode cc pc = .ok (.lsub, 1)) (h : b ≤ a) (k : Wd X kn (pc + 1) lv (.long (lN (a - b)) :: st) sh M) : Wd X kn pc lv (.long (lN b) :: .long (lN a) :: st) sh M := by
  refine e_lsub C hd ?_
  rw [lN_sub h]; exact k
theorem e_ldivN {X : Ctx} {kn : Nat × Nat} {pc : Nat} {lv : List (Nat × Value)} {st : List Value} {sh : List Sh} {M : Mm} {cc : ByteArray} {own : String} {nL : Nat} {R : Room} {a b : Nat} (C : Cx X cc own nL R) (hd : decode cc pc = .ok (.ldiv, 1)) (ha : a < 2 ^ 63) (h0 : 0 < b) (hb : b < 2 ^ 63) (k : Wd X kn (pc + 1) lv (.long (lN (a / b)) :: st) sh M) : Wd X kn pc lv (.long (lN b) :: .long (lN a) :: st) sh M := by
  refine e_ldiv C hd (fun h9 => absurd ((pk_lEQ hb (by decide)).mp (h9.trans (show (0 : Int64) = lN 0 from rfl))) (by omega)) ?_
  rw [pk_lDiv ha h0 hb]; exact k
theorem e_iincN {X : Ctx} {kn : Nat × Nat} {pc : Nat} {lv : List (Nat × Value)} {st : List Value} {sh : List Sh} {M : Mm} {cc : ByteArray} {own : String} {nL : Nat} {R : Room} {i : Nat} {n : Int} {a b : Nat} {lv2 : List (Nat × Value)} (C : Cx X cc own nL R) (hd : decode cc pc = .ok (.iinc i n, 3)) (hv : lk lv i = some (.int (nI a))) (hn : i < nL) (hx2 : nI a + Int32.ofInt n = nI b) (hl2 : st1 lv i (.int (nI b)) = lv2) (k : Wd X kn (pc + 3) lv2 st sh M) : Wd X kn pc lv st sh M := e_iinc C hd hv hn hx2 hl2 k
theorem e_icmp_ltN {X : Ctx} {kn : Nat × Nat} {pc : Nat} {lv : List (Nat × Value)} {st : List Value} {sh : List Sh} {M : Mm} {cc : ByteArray} {own : String} {nL : Nat} {R : Room} {a b : Nat} {off : Int} {tgt : Nat} (C : Cx X cc own nL R) (hd : decode cc pc = .ok (.if_icmp .lt off, 3)) (ha : a < 2 ^ 31) (hb : b < 2 ^ 31) (ht : (pc : Int) + off = (tgt : Int)) (kt : a < b → Wd X kn tgt lv st sh M) (kf : b ≤ a → Wd X kn (pc + 3) lv st sh M) : Wd X kn pc lv (.int (nI b) :: .int (nI a) :: st) sh M :=
  e_icmp_lt C hd ht (fun h => kt ((nI_ltI ha hb).mp h)) (fun h => kf (by have h2 : ¬ (a < b) := fun h9 => h ((nI_ltI ha hb).mpr h9); omega))
theorem e_icmp_geN {X : Ctx} {kn : Nat × Nat} {pc : Nat} {lv : List (Nat × Value)} {st : List Value} {sh : List Sh} {M : Mm} {cc : ByteArray} {own : String} {nL : Nat} {R : Room} {a b : Nat} {off : Int} {tgt : Nat} (C : Cx X cc own nL R) (hd : decode cc pc = .ok (.if_icmp .ge off, 3)) (ha : a < 2 ^ 31) (hb : b < 2 ^ 31) (ht : (pc : Int) + off = (tgt : Int)) (kt : b ≤ a → Wd X kn tgt lv st sh M) (kf : a < b → Wd X kn (pc + 3) lv st sh M) : Wd X kn pc lv (.int (nI b) :: .int (nI a) :: st) sh M :=
  e_icmp_ge C hd ht (fun h => kt ((nI_leI hb ha).mp h)) (fun h => kf (by have h2 : ¬ (b ≤ a) := fun h9 => h ((nI_leI hb ha).mpr h9); omega))
theorem e_icmp_gtN {X : Ctx} {kn : Nat × Nat} {pc : Nat} {lv : List (Nat × Value)} {st : List Value} {sh : List Sh} {M : Mm} {cc : ByteArray} {own : String} {nL : Nat} {R : Room} {a b : Nat} {off : Int} {tgt : Nat} (C : Cx X cc own nL R) (hd : decode cc pc = .ok (.if_icmp .gt off, 3)) (ha : a < 2 ^ 31) (hb : b < 2 ^ 31) (ht : (pc : Int) + off = (tgt : Int)) (kt : b < a → Wd X kn tgt lv st sh M) (kf : a ≤ b → Wd X kn (pc + 3) lv st sh M) : Wd X kn pc lv (.int (nI b) :: .int (nI a) :: st) sh M :=
  e_icmp_gt C hd ht (fun h => kt ((nI_ltI hb ha).mp h)) (fun h => kf (by have h2 : ¬ (b < a) := fun h9 => h ((nI_ltI hb ha).mpr h9); omega))
theorem e_icmp_leN {X : Ctx} {kn : Nat × Nat} {pc : Nat} {lv : List (Nat × Value)} {st : List Value} {sh : List Sh} {M : Mm} {cc : ByteArray} {own : String} {nL : Nat} {R : Room} {a b : Nat} {off : Int} {tgt : Nat} (C : Cx X cc own nL R) (hd : decode cc pc = .ok (.if_icmp .le off, 3)) (ha : a < 2 ^ 31) (hb : b < 2 ^ 31) (ht : (pc : Int) + off = (tgt : Int)) (kt : a ≤ b → Wd X kn tgt lv st sh M) (kf : b < a → Wd X kn (pc + 3) lv st sh M) : Wd X kn pc lv (.int (nI b) :: .int (nI a) :: st) sh M :=
  e_icmp_le C hd ht (fun h => kt ((nI_leI ha hb).mp h)) (fun h => kf (by have h2 : ¬ (a ≤ b) := fun h9 => h ((nI_leI ha hb).mpr h9); omega))
theorem e_icmp_eqN {X : Ctx} {kn : Nat × Nat} {pc : Nat} {lv : List (Nat × Value)} {st : List Value} {sh : List Sh} {M : Mm} {cc : ByteArray} {own : String} {nL : Nat} {R : Room} {a b : Nat} {off : Int} {tgt : Nat} (C : Cx X cc own nL R) (hd : decode cc pc = .ok (.if_icmp .eq off, 3)) (ha : a < 2 ^ 31) (hb : b < 2 ^ 31) (ht : (pc : Int) + off = (tgt : Int)) (kt : a = b → Wd X kn tgt lv st sh M) (kf : a ≠ b → Wd X kn (pc + 3) lv st sh M) : Wd X kn pc lv (.int (nI b) :: .int (nI a) :: st) sh M :=
  e_icmp_eq C hd ht (fun h => kt ((nI_eq ha hb).mp h)) (fun h => kf (fun h9 => h ((nI_eq ha hb).mpr h9)))
theorem e_if_eqN {X : Ctx} {kn : Nat × Nat} {pc : Nat} {lv : List (Nat × Value)} {st : List Value} {sh : List Sh} {M : Mm} {cc : ByteArray} {own : String} {nL : Nat} {R : Room} {a : Nat} {off : Int} {tgt : Nat} (C : Cx X cc own nL R) (hd : decode cc pc = .ok (.ifCond .eq off, 3)) (ha : a < 2 ^ 31) (ht : (pc : Int) + off = (tgt : Int)) (kt : a = 0 → Wd X kn tgt lv st sh M) (kf : a ≠ 0 → Wd X kn (pc + 3) lv st sh M) : Wd X kn pc lv (.int (nI a) :: st) sh M :=
  e_if_eq C hd ht (fun h => kt ((i_eq ha).mp h)) (fun h => kf (fun h9 => h ((i_eq ha).mpr h9)))
theorem e_icmp_neN {X : Ctx} {kn : Nat × Nat} {pc : Nat} {lv : List (Nat × Value)} {st : List Value} {sh : List Sh} {M : Mm} {cc : ByteArray} {own : String} {nL : Nat} {R : Room} {a b : Nat} {off : Int} {tgt : Nat} (C : Cx X cc own nL R) (hd : decode cc pc = .ok (.if_icmp .ne off, 3)) (ha : a < 2 ^ 31) (hb : b < 2 ^ 31) (ht : (pc : Int) + off = (tgt : Int)) (kt : a ≠ b → Wd X kn tgt lv st sh M) (kf : a = b → Wd X kn (pc + 3) lv st sh M) : Wd X kn pc lv (.int (nI b) :: .int (nI a) :: st) sh M :=
  e_icmp_ne C hd ht (fun h => kt (fun h9 => h ((nI_eq ha hb).mpr h9))) (fun h => kf ((nI_eq ha hb).mp h))
theorem e_if_neN {X : Ctx} {kn : Nat × Nat} {pc : Nat} {lv : List (Nat × Value)} {st : List Value} {sh : List Sh} {M : Mm} {cc : ByteArray} {own : String} {nL : Nat} {R : Room} {a : Nat} {off : Int} {tgt : Nat} (C : Cx X cc own nL R) (hd : decode cc pc = .ok (.ifCond .ne off, 3)) (ha : a < 2 ^ 31) (ht : (pc : Int) + off = (tgt : Int)) (kt : a ≠ 0 → Wd X kn tgt lv st sh M) (kf : a = 0 → Wd X kn (pc + 3) lv st sh M) : Wd X kn pc lv (.int (nI a) :: st) sh M :=
  e_if_ne C hd ht (fun h => kt (fun h9 => h ((i_eq ha).mpr h9))) (fun h => kf ((i_eq ha).mp h))
theorem e_if_gtN {X : Ctx} {kn : Nat × Nat} {pc : Nat} {lv : List (Nat × Value)} {st : List Value} {sh : List Sh} {M : Mm} {cc : ByteArray} {own : String} {nL : Nat} {R : Room} {a : Nat} {off : Int} {tgt : Nat} (C : Cx X cc own nL R) (hd : decode cc pc = .ok (.ifCond .gt off, 3)) (ha : a < 2 ^ 31) (ht : (pc : Int) + off = (tgt : Int)) (kt : 0 < a → Wd X kn tgt lv st sh M) (kf : a = 0 → Wd X kn (pc + 3) lv st sh M) : Wd X kn pc lv (.int (nI a) :: st) sh M :=
  e_if_gt C hd ht (fun h => kt ((nI_ltI (a := 0) (by decide) ha).mp h)) (fun h => kf (by have h2 : ¬ 0 < a := fun h9 => h ((nI_ltI (a := 0) (by decide) ha).mpr h9); omega))
theorem e_if_leN {X : Ctx} {kn : Nat × Nat} {pc : Nat} {lv : List (Nat × Value)} {st : List Value} {sh : List Sh} {M : Mm} {cc : ByteArray} {own : String} {nL : Nat} {R : Room} {a : Nat} {off : Int} {tgt : Nat} (C : Cx X cc own nL R) (hd : decode cc pc = .ok (.ifCond .le off, 3)) (ha : a < 2 ^ 31) (ht : (pc : Int) + off = (tgt : Int)) (kt : a = 0 → Wd X kn tgt lv st sh M) (kf : 0 < a → Wd X kn (pc + 3) lv st sh M) : Wd X kn pc lv (.int (nI a) :: st) sh M :=
  e_if_le C hd ht (fun h => kt (by have h3 := (nI_leI (b := 0) ha (by decide)).mp h; omega)) (fun h => kf (by have h2 : ¬ a ≤ 0 := fun h9 => h ((nI_leI (b := 0) ha (by decide)).mpr h9); omega))
theorem e_if_eqB {X : Ctx} {kn : Nat × Nat} {pc : Nat} {lv : List (Nat × Value)} {st : List Value} {sh : List Sh} {M : Mm} {cc : ByteArray} {own : String} {nL : Nat} {R : Room} {b : Bool} {off : Int} {tgt : Nat} (C : Cx X cc own nL R) (hd : decode cc pc = .ok (.ifCond .eq off, 3)) (ht : (pc : Int) + off = (tgt : Int)) (kt : b = false → Wd X kn tgt lv st sh M) (kf : b = true → Wd X kn (pc + 3) lv st sh M) : Wd X kn pc lv (.int (bI b) :: st) sh M := by
  refine e_if_eq C hd ht (fun h => kt ?_) (fun h => kf ?_)
  · cases b <;> first | rfl | exact absurd h (by decide)
  · cases b <;> first | rfl | exact absurd h (by decide)
theorem e_if_neB {X : Ctx} {kn : Nat × Nat} {pc : Nat} {lv : List (Nat × Value)} {st : List Value} {sh : List Sh} {M : Mm} {cc : ByteArray} {own : String} {nL : Nat} {R : Room} {b : Bool} {off : Int} {tgt : Nat} (C : Cx X cc own nL R) (hd : decode cc pc = .ok (.ifCond .ne off, 3)) (ht : (pc : Int) + off = (tgt : Int)) (kt : b = true → Wd X kn tgt lv st sh M) (kf : b = false → Wd X kn (pc + 3) lv st sh M) : Wd X kn pc lv (.int (bI b) :: st) sh M := by
  refine e_if_ne C hd ht (fun h => kt ?_) (fun h => kf ?_)
  · cases b <;> first | rfl | exact absurd h (by decide)
  · cases b <;> first | rfl | exact absurd h (by decide)
theorem e_lcmp_lt {X : Ctx} {kn : Nat × Nat} {pc : Nat} {lv : List (Nat × Value)} {st : List Value} {sh : List Sh} {M : Mm} {cc : ByteArray} {own : String} {nL : Nat} {R : Room} {x y : Int64} {off : Int} {tgt : Nat} (C : Cx X cc own nL R) (hd0 : decode cc pc = .ok (.lcmp, 1)) (hd : decode cc (pc + 1) = .ok (.ifCond .lt off, 3)) (ht : ((pc + 1 : Nat) : Int) + off = (tgt : Int)) (kt : x < y → Wd X kn tgt lv st sh M) (kf : ¬ x < y → Wd X kn (pc + 1 + 3) lv st sh M) : Wd X kn pc lv (.long y :: .long x :: st) sh M := by
  refine e_lcmp C hd0 (e_if_lt C hd ht (fun h => kt ?_) (fun h => kf ?_))
  all_goals (revert h; unfold lg_cmp; intro h; split at h)
  all_goals first | (rename_i h1; first | (exact absurd h (by decide)) | (have h2 := Int64.lt_iff_toInt_lt.mp h1; simp only [Int64.le_iff_toInt_le, Int64.lt_iff_toInt_lt, ← Int64.toInt_inj]; omega)) | (rename_i h1; split at h; all_goals (rename_i h3; first | (exact absurd h (by decide)) | (have h2 := fun h9 => h1 (Int64.lt_iff_toInt_lt.mpr h9); simp only [Int64.le_iff_toInt_le, Int64.lt_iff_toInt_lt, ← Int64.toInt_inj] at *; omega)))
theorem e_lcmp_ge {X : Ctx} {kn : Nat × Nat} {pc : Nat} {lv : List (Nat × Value)} {st : List Value} {sh : List Sh} {M : Mm} {cc : ByteArray} {own : String} {nL : Nat} {R : Room} {x y : Int64} {off : Int} {tgt : Nat} (C : Cx X cc own nL R) (hd0 : decode cc pc = .ok (.lcmp, 1)) (hd : decode cc (pc + 1) = .ok (.ifCond .ge off, 3)) (ht : ((pc + 1 : Nat) : Int) + off = (tgt : Int)) (kt : y ≤ x → Wd X kn tgt lv st sh M) (kf : ¬ y ≤ x → Wd X kn (pc + 1 + 3) lv st sh M) : Wd X kn pc lv (.long y :: .long x :: st) sh M := by
  refine e_lcmp C hd0 (e_if_ge C hd ht (fun h => kt ?_) (fun h => kf ?_))
  all_goals (revert h; unfold lg_cmp; intro h; split at h)
  all_goals first | (rename_i h1; first | (exact absurd h (by decide)) | (have h2 := Int64.lt_iff_toInt_lt.mp h1; simp only [Int64.le_iff_toInt_le, Int64.lt_iff_toInt_lt, ← Int64.toInt_inj]; omega)) | (rename_i h1; split at h; all_goals (rename_i h3; first | (exact absurd h (by decide)) | (have h2 := fun h9 => h1 (Int64.lt_iff_toInt_lt.mpr h9); simp only [Int64.le_iff_toInt_le, Int64.lt_iff_toInt_lt, ← Int64.toInt_inj] at *; omega)))
theorem e_lcmp_gt {X : Ctx} {kn : Nat × Nat} {pc : Nat} {lv : List (Nat × Value)} {st : List Value} {sh : List Sh} {M : Mm} {cc : ByteArray} {own : String} {nL : Nat} {R : Room} {x y : Int64} {off : Int} {tgt : Nat} (C : Cx X cc own nL R) (hd0 : decode cc pc = .ok (.lcmp, 1)) (hd : decode cc (pc + 1) = .ok (.ifCond .gt off, 3)) (ht : ((pc + 1 : Nat) : Int) + off = (tgt : Int)) (kt : y < x → Wd X kn tgt lv st sh M) (kf : ¬ y < x → Wd X kn (pc + 1 + 3) lv st sh M) : Wd X kn pc lv (.long y :: .long x :: st) sh M := by
  refine e_lcmp C hd0 (e_if_gt C hd ht (fun h => kt ?_) (fun h => kf ?_))
  all_goals (revert h; unfold lg_cmp; intro h; split at h)
  all_goals first | (rename_i h1; first | (exact absurd h (by decide)) | (have h2 := Int64.lt_iff_toInt_lt.mp h1; simp only [Int64.le_iff_toInt_le, Int64.lt_iff_toInt_lt, ← Int64.toInt_inj]; omega)) | (rename_i h1; split at h; all_goals (rename_i h3; first | (exact absurd h (by decide)) | (have h2 := fun h9 => h1 (Int64.lt_iff_toInt_lt.mpr h9); simp only [Int64.le_iff_toInt_le, Int64.lt_iff_toInt_lt, ← Int64.toInt_inj] at *; omega)))
theorem e_lcmp_le {X : Ctx} {kn : Nat × Nat} {pc : Nat} {lv : List (Nat × Value)} {st : List Value} {sh : List Sh} {M : Mm} {cc : ByteArray} {own : String} {nL : Nat} {R : Room} {x y : Int64} {off : Int} {tgt : Nat} (C : Cx X cc own nL R) (hd0 : decode cc pc = .ok (.lcmp, 1)) (hd : decode cc (pc + 1) = .ok (.ifCond .le off, 3)) (ht : ((pc + 1 : Nat) : Int) + off = (tgt : Int)) (kt : x ≤ y → Wd X kn tgt lv st sh M) (kf : ¬ x ≤ y → Wd X kn (pc + 1 + 3) lv st sh M) : Wd X kn pc lv (.long y :: .long x :: st) sh M := by
  refine e_lcmp C hd0 (e_if_le C hd ht (fun h => kt ?_) (fun h => kf ?_))
  all_goals (revert h; unfold lg_cmp; intro h; split at h)
  all_goals first | (rename_i h1; first | (exact absurd h (by decide)) | (have h2 := Int64.lt_iff_toInt_lt.mp h1; simp only [Int64.le_iff_toInt_le, Int64.lt_iff_toInt_lt, ← Int64.toInt_inj]; omega)) | (rename_i h1; split at h; all_goals (rename_i h3; first | (exact absurd h (by decide)) | (have h2 := fun h9 => h1 (Int64.lt_iff_toInt_lt.mpr h9); simp only [Int64.le_iff_toInt_le, Int64.lt_iff_toInt_lt, ← Int64.toInt_inj] at *; omega)))
theorem e_lcmp_eq {X : Ctx} {kn : Nat × Nat} {pc : Nat} {lv : List (Nat × Value)} {st : List Value} {sh : List Sh} {M : Mm} {cc : ByteArray} {own : String} {nL : Nat} {R : Room} {x y : Int64} {off : Int} {tgt : Nat} (C : Cx X cc own nL R) (hd0 : decode cc pc = .ok (.lcmp, 1)) (hd : decode cc (pc + 1) = .ok (.ifCond .eq off, 3)) (ht : ((pc + 1 : Nat) : Int) + off = (tgt : Int)) (kt : x = y → Wd X kn tgt lv st sh M) (kf : ¬ x = y → Wd X kn (pc + 1 + 3) lv st sh M) : Wd X kn pc lv (.long y :: .long x :: st) sh M := by
  refine e_lcmp C hd0 (e_if_eq C hd ht (fun h => kt ?_) (fun h => kf ?_))
  all_goals (revert h; unfold lg_cmp; intro h; split at h)
  all_goals first | (rename_i h1; first | (exact absurd h (by decide)) | (have h2 := Int64.lt_iff_toInt_lt.mp h1; simp only [Int64.le_iff_toInt_le, Int64.lt_iff_toInt_lt, ← Int64.toInt_inj]; omega)) | (rename_i h1; split at h; all_goals (rename_i h3; first | (exact absurd h (by decide)) | (have h2 := fun h9 => h1 (Int64.lt_iff_toInt_lt.mpr h9); simp only [Int64.le_iff_toInt_le, Int64.lt_iff_toInt_lt, ← Int64.toInt_inj] at *; omega)))
theorem e_lcmp_ne {X : Ctx} {kn : Nat × Nat} {pc : Nat} {lv : List (Nat × Value)} {st : List Value} {sh : List Sh} {M : Mm} {cc : ByteArray} {own : String} {nL : Nat} {R : Room} {x y : Int64} {off : Int} {tgt : Nat} (C : Cx X cc own nL R) (hd0 : decode cc pc = .ok (.lcmp, 1)) (hd : decode cc (pc + 1) = .ok (.ifCond .ne off, 3)) (ht : ((pc + 1 : Nat) : Int) + off = (tgt : Int)) (kt : ¬ x = y → Wd X kn tgt lv st sh M) (kf : x = y → Wd X kn (pc + 1 + 3) lv st sh M) : Wd X kn pc lv (.long y :: .long x :: st) sh M := by
  refine e_lcmp C hd0 (e_if_ne C hd ht (fun h => kt ?_) (fun h => kf ?_))
  all_goals (revert h; unfold lg_cmp; intro h; split at h)
  all_goals first | (rename_i h1; first | (exact absurd h (by decide)) | (have h2 := Int64.lt_iff_toInt_lt.mp h1; simp only [Int64.le_iff_toInt_le, Int64.lt_iff_toInt_lt, ← Int64.toInt_inj]; omega)) | (rename_i h1; split at h; all_goals (rename_i h3; first | (exact absurd h (by decide)) | (have h2 := fun h9 => h1 (Int64.lt_iff_toInt_lt.mpr h9); simp only [Int64.le_iff_toInt_le, Int64.lt_iff_toInt_lt, ← Int64.toInt_inj] at *; omega)))
theorem e_lcmp_ltN {X : Ctx} {kn : Nat × Nat} {pc : Nat} {lv : List (Nat × Value)} {st : List Value} {sh : List Sh} {M : Mm} {cc : ByteArray} {own : String} {nL : Nat} {R : Room} {a b : Nat} {off : Int} {tgt : Nat} (C : Cx X cc own nL R) (hd0 : decode cc pc = .ok (.lcmp, 1)) (hd : decode cc (pc + 1) = .ok (.ifCond .lt off, 3)) (ha : a < 2 ^ 63) (hb : b < 2 ^ 63) (ht : ((pc + 1 : Nat) : Int) + off = (tgt : Int)) (kt : a < b → Wd X kn tgt lv st sh M) (kf : b ≤ a → Wd X kn (pc + 1 + 3) lv st sh M) : Wd X kn pc lv (.long (lN b) :: .long (lN a) :: st) sh M :=
  e_lcmp_lt C hd0 hd ht (fun h => kt ((pk_lLT ha hb).mp h)) (fun h => kf (by have h2 : ¬ (a < b) := fun h9 => h ((pk_lLT ha hb).mpr h9); omega))
theorem e_lcmp_geN {X : Ctx} {kn : Nat × Nat} {pc : Nat} {lv : List (Nat × Value)} {st : List Value} {sh : List Sh} {M : Mm} {cc : ByteArray} {own : String} {nL : Nat} {R : Room} {a b : Nat} {off : Int} {tgt : Nat} (C : Cx X cc own nL R) (hd0 : decode cc pc = .ok (.lcmp, 1)) (hd : decode cc (pc + 1) = .ok (.ifCond .ge off, 3)) (ha : a < 2 ^ 63) (hb : b < 2 ^ 63) (ht : ((pc + 1 : Nat) : Int) + off = (tgt : Int)) (kt : b ≤ a → Wd X kn tgt lv st sh M) (kf : a < b → Wd X kn (pc + 1 + 3) lv st sh M) : Wd X kn pc lv (.long (lN b) :: .long (lN a) :: st) sh M :=
  e_lcmp_ge C hd0 hd ht (fun h => kt ((pk_lLE hb ha).mp h)) (fun h => kf (by have h2 : ¬ (b ≤ a) := fun h9 => h ((pk_lLE hb ha).mpr h9); omega))
theorem e_lcmp_gtN {X : Ctx} {kn : Nat × Nat} {pc : Nat} {lv : List (Nat × Value)} {st : List Value} {sh : List Sh} {M : Mm} {cc : ByteArray} {own : String} {nL : Nat} {R : Room} {a b : Nat} {off : Int} {tgt : Nat} (C : Cx X cc own nL R) (hd0 : decode cc pc = .ok (.lcmp, 1)) (hd : decode cc (pc + 1) = .ok (.ifCond .gt off, 3)) (ha : a < 2 ^ 63) (hb : b < 2 ^ 63) (ht : ((pc + 1 : Nat) : Int) + off = (tgt : Int)) (kt : b < a → Wd X kn tgt lv st sh M) (kf : a ≤ b → Wd X kn (pc + 1 + 3) lv st sh M) : Wd X kn pc lv (.long (lN b) :: .long (lN a) :: st) sh M :=
  e_lcmp_gt C hd0 hd ht (fun h => kt ((pk_lLT hb ha).mp h)) (fun h => kf (by have h2 : ¬ (b < a) := fun h9 => h ((pk_lLT hb ha).mpr h9); omega))
theorem e_lcmp_leN {X : Ctx} {kn : Nat × Nat} {pc : Nat} {lv : List (Nat × Value)} {st : List Value} {sh : List Sh} {M : Mm} {cc : ByteArray} {own : String} {nL : Nat} {R : Room} {a b : Nat} {off : Int} {tgt : Nat} (C : Cx X cc own nL R) (hd0 : decode cc pc = .ok (.lcmp, 1)) (hd : decode cc (pc + 1) = .ok (.ifCond .le off, 3)) (ha : a < 2 ^ 63) (hb : b < 2 ^ 63) (ht : ((pc + 1 : Nat) : Int) + off = (tgt : Int)) (kt : a ≤ b → Wd X kn tgt lv st sh M) (kf : b < a → Wd X kn (pc + 1 + 3) lv st sh M) : Wd X kn pc lv (.long (lN b) :: .long (lN a) :: st) sh M :=
  e_lcmp_le C hd0 hd ht (fun h => kt ((pk_lLE ha hb).mp h)) (fun h => kf (by have h2 : ¬ (a ≤ b) := fun h9 => h ((pk_lLE ha hb).mpr h9); omega))
theorem cl_nI {n : Nat} (h : n < 2 ^ 31) : (nI n).toNatClampNeg = n := nI_clamp h
theorem e_ialoadN {X : Ctx} {kn : Nat × Nat} {pc : Nat} {lv : List (Nat × Value)} {st : List Value} {sh : List Sh} {M : Mm} {cc : ByteArray} {own : String} {nL : Nat} {R : Room} {a n i : Nat} (C : Cx X cc own nL R) (hd : decode cc pc = .ok (.iaload, 1)) (ha : sh[a]? = some (.inl (0, n))) (hin : i < n) (hn : n < 2 ^ 31) (k : Wd X kn (pc + 1) lv (.int (gI M a i) :: st) sh M) : Wd X kn pc lv (.int (nI i) :: .ref a :: st) sh M := by
  refine e_iaload C hd ha (vp_in_nI hin hn) ?_
  rw [cl_nI (Nat.lt_trans hin hn)]; exact k
theorem e_iastoreN {X : Ctx} {kn : Nat × Nat} {pc : Nat} {lv : List (Nat × Value)} {st : List Value} {sh : List Sh} {M : Mm} {cc : ByteArray} {own : String} {nL : Nat} {R : Room} {a n i : Nat} {x : Int32} (C : Cx X cc own nL R) (hd : decode cc pc = .ok (.iastore, 1)) (ha : sh[a]? = some (.inl (0, n))) (hin : i < n) (hn : n < 2 ^ 31) (k : Wd X kn (pc + 1) lv st sh (sI M a (upd (gI M a) i x))) : Wd X kn pc lv (.int x :: .int (nI i) :: .ref a :: st) sh M := by
  refine e_iastore C hd ha (vp_in_nI hin hn) ?_
  rw [cl_nI (Nat.lt_trans hin hn)]; exact k
theorem e_laloadN {X : Ctx} {kn : Nat × Nat} {pc : Nat} {lv : List (Nat × Value)} {st : List Value} {sh : List Sh} {M : Mm} {cc : ByteArray} {own : String} {nL : Nat} {R : Room} {a n i : Nat} (C : Cx X cc own nL R) (hd : decode cc pc = .ok (.laload, 1)) (ha : sh[a]? = some (.inl (1, n))) (hin : i < n) (hn : n < 2 ^ 31) (k : Wd X kn (pc + 1) lv (.long (gJ M a i) :: st) sh M) : Wd X kn pc lv (.int (nI i) :: .ref a :: st) sh M := by
  refine e_laload C hd ha (vp_in_nI hin hn) ?_
  rw [cl_nI (Nat.lt_trans hin hn)]; exact k
theorem e_lastoreN {X : Ctx} {kn : Nat × Nat} {pc : Nat} {lv : List (Nat × Value)} {st : List Value} {sh : List Sh} {M : Mm} {cc : ByteArray} {own : String} {nL : Nat} {R : Room} {a n i : Nat} {x : Int64} (C : Cx X cc own nL R) (hd : decode cc pc = .ok (.lastore, 1)) (ha : sh[a]? = some (.inl (1, n))) (hin : i < n) (hn : n < 2 ^ 31) (k : Wd X kn (pc + 1) lv st sh (sJ M a (vp_updL (gJ M a) i x))) : Wd X kn pc lv (.long x :: .int (nI i) :: .ref a :: st) sh M := by
  refine e_lastore C hd ha (vp_in_nI hin hn) ?_
  rw [cl_nI (Nat.lt_trans hin hn)]; exact k
theorem e_daloadN {X : Ctx} {kn : Nat × Nat} {pc : Nat} {lv : List (Nat × Value)} {st : List Value} {sh : List Sh} {M : Mm} {cc : ByteArray} {own : String} {nL : Nat} {R : Room} {a n i : Nat} (C : Cx X cc own nL R) (hd : decode cc pc = .ok (.daload, 1)) (ha : sh[a]? = some (.inl (2, n))) (hin : i < n) (hn : n < 2 ^ 31) (k : Wd X kn (pc + 1) lv (.double (gD M a i) :: st) sh M) : Wd X kn pc lv (.int (nI i) :: .ref a :: st) sh M := by
  refine e_daload C hd ha (vp_in_nI hin hn) ?_
  rw [cl_nI (Nat.lt_trans hin hn)]; exact k
theorem e_dastoreN {X : Ctx} {kn : Nat × Nat} {pc : Nat} {lv : List (Nat × Value)} {st : List Value} {sh : List Sh} {M : Mm} {cc : ByteArray} {own : String} {nL : Nat} {R : Room} {a n i : Nat} {x : UInt64} (C : Cx X cc own nL R) (hd : decode cc pc = .ok (.dastore, 1)) (ha : sh[a]? = some (.inl (2, n))) (hin : i < n) (hn : n < 2 ^ 31) (k : Wd X kn (pc + 1) lv st sh (sD M a (vf_upd (gD M a) i x))) : Wd X kn pc lv (.double x :: .int (nI i) :: .ref a :: st) sh M := by
  refine e_dastore C hd ha (vp_in_nI hin hn) ?_
  rw [cl_nI (Nat.lt_trans hin hn)]; exact k
theorem e_alen {X : Ctx} {kn : Nat × Nat} {pc : Nat} {lv : List (Nat × Value)} {st : List Value} {sh : List Sh} {M : Mm} {cc : ByteArray} {own : String} {nL : Nat} {R : Room} {a t n : Nat} (C : Cx X cc own nL R) (hd : decode cc pc = .ok (.arraylength, 1)) (ha : sh[a]? = some (.inl (t, n))) (k : Wd X kn (pc + 1) lv (.int (nI n) :: st) sh M) : Wd X kn pc lv (.ref a :: st) sh M := by
  obtain ⟨p, l, e, R0, s, m, args, below, meth, c, Q, D, ids, z, n0⟩ := X
  obtain ⟨hx, hb, hml, hown, hts, hK, hN, hlocks, rfl, hz⟩ := C
  intro H locs ls hln hP hS hl
  match t, ha with
  | 0, ha => exact va_alen hx hb hK hP a 0 (e_wl_at ha) rfl rfl hd (k H locs ls hln hP hS hl)
  | 1, ha => exact va_alen hx hb hK hP a 1 (e_wl_at ha) rfl rfl hd (k H locs ls hln hP hS hl)
  | t + 2, ha => exact va_alen hx hb hK hP a 2 (e_wl_at ha) rfl rfl hd (k H locs ls hln hP hS hl)
theorem e_min {X : Ctx} {kn : Nat × Nat} {pc : Nat} {lv : List (Nat × Value)} {st : List Value} {sh : List Sh} {M : Mm} {cc : ByteArray} {own : String} {nL : Nat} {R : Room} {i : Nat} {x y : Int32} (C : Cx X cc own nL R) (hd : decode cc pc = .ok (.invokestatic i, 3)) (h1 : Cond.methodLink own i Lib.Math.min.name ∈ lw_g) (h2 : Cond.static Lib.Math.min.name ∈ lw_g) (h3 : Cond.initialized "java/lang/Math" ∈ lw_g) (h4 : Cond.code Lib.Math.min.name Lib.Math.min.code 2 (some .int) ∈ lw_g) (hf : 1 ≤ R.frames) (hr : (st.map (fun v => v.category)).sum + 13 ≤ R.locals) (hkn : kn.1 ≤ R.cells ∧ kn.2 ≤ R.slots) (k : Wd X kn (pc + 3) lv (.int (if y < x then y else x) :: st) sh M) : Wd X kn pc lv (.int y :: .int x :: st) sh M := by
  obtain ⟨p, l, e, R0, s, m, args, below, meth, c, Q, D, ids, z, n0⟩ := X
  obtain ⟨hx, hb, hml, hown, hts, hK, hN, hlocks, rfl, hz⟩ := C
  intro H locs ls hln hP hS hl
  exact va_mmin hx hb hl.1.symm hown (hts _ h1) (hts _ h2) (hts _ h3) (hts _ h4) hf (by rw [e_cats]; exact hr) hkn.1 hkn.2 hd (k H locs ls hln hP hS hl)
theorem e_minN {X : Ctx} {kn : Nat × Nat} {pc : Nat} {lv : List (Nat × Value)} {st : List Value} {sh : List Sh} {M : Mm} {cc : ByteArray} {own : String} {nL : Nat} {R : Room} {i a b : Nat} (C : Cx X cc own nL R) (hd : decode cc pc = .ok (.invokestatic i, 3)) (ha : a < 2 ^ 31) (hb : b < 2 ^ 31) (h1 : Cond.methodLink own i Lib.Math.min.name ∈ lw_g) (h2 : Cond.static Lib.Math.min.name ∈ lw_g) (h3 : Cond.initialized "java/lang/Math" ∈ lw_g) (h4 : Cond.code Lib.Math.min.name Lib.Math.min.code 2 (some .int) ∈ lw_g) (hf : 1 ≤ R.frames) (hr : (st.map (fun v => v.category)).sum + 13 ≤ R.locals) (hkn : kn.1 ≤ R.cells ∧ kn.2 ≤ R.slots) (k : Wd X kn (pc + 3) lv (.int (nI (min a b)) :: st) sh M) : Wd X kn pc lv (.int (nI b) :: .int (nI a) :: st) sh M := by
  refine e_min C hd h1 h2 h3 h4 hf hr hkn ?_
  have h9 : (if nI b < nI a then nI b else nI a) = nI (min a b) := by
    by_cases h : b < a
    · rw [if_pos ((nI_ltI hb ha).mpr h), Nat.min_eq_right (by omega)]
    · rw [if_neg (fun h8 => h ((nI_ltI hb ha).mp h8)), Nat.min_eq_left (by omega)]
  rw [h9]; exact k
theorem e_copyI {X : Ctx} {kn : Nat × Nat} {pc : Nat} {lv : List (Nat × Value)} {st : List Value} {sh : List Sh} {M : Mm} {cc : ByteArray} {own : String} {nL : Nat} {R : Room} {i a b na nb : Nat} {sp dp n : Nat} (C : Cx X cc own nL R) (hd : decode cc pc = .ok (.invokestatic i, 3)) (h1 : Cond.methodLink own i arraycopyName ∈ lw_g) (h2 : Cond.native arraycopyName ∈ lw_g) (h3 : Cond.static arraycopyName ∈ lw_g) (h4 : Cond.initialized "java/lang/System" ∈ lw_g) (ha : sh[a]? = some (.inl (0, na))) (hb0 : sh[b]? = some (.inl (0, nb))) (h5 : sp + n ≤ na) (h6 : dp + n ≤ nb) (h7 : na < 2 ^ 31) (h8 : nb < 2 ^ 31) (hf : 1 ≤ R.frames) (hr : (st.map (fun v => v.category)).sum + 18 ≤ R.locals) (k : Wd X kn (pc + 3) lv st sh (sI M b (va_cpy (gI M a) (gI M b) sp dp n))) : Wd X kn pc lv (.int (nI n) :: .int (nI dp) :: .ref b :: .int (nI sp) :: .ref a :: st) sh M := by
  obtain ⟨p, l, e, R0, s, m, args, below, meth, c, Q, D, ids, z, n0⟩ := X
  obtain ⟨hx, hb, hml, hown, hts, hK, hN, hlocks, rfl, hz⟩ := C
  intro H locs ls hln hP hS hl
  have e1 : (nI sp).toNatClampNeg = sp := nI_clamp (by omega)
  have e2 : (nI dp).toNatClampNeg = dp := nI_clamp (by omega)
  have e3 : (nI n).toNatClampNeg = n := nI_clamp (by omega)
  refine va_copyi (ty := .int) hx hb hl.1.symm hown (hts _ h1) (hts _ h2) (hts _ h3) (hts _ h4) hK hP (e_D ids z M sh) hS a b 0 0 (e_wl_at ha) (e_wl_at hb0) rfl rfl rfl (nI_pos (by omega)) (nI_pos (by omega)) (nI_pos (by omega)) (by rw [e1, e3]; exact h5) (by rw [e2, e3]; exact h6) (fun _ _ => rfl) hf (by rw [e_cats]; exact hr) hd (fun H1 locs1 hP1 hD1 hS1 => ?_)
  rw [e1, e2, e3] at hP1
  have he := e_wl_set (ids := ids) (z := z) (M := M) (M' := sI M b (va_cpy (gI M a) (gI M b) sp dp n)) (sh := sh) (k := b) (a' := .inl (0, nb)) (fun j hj => ⟨gI_sI_ne M _ hj, rfl, rfl⟩)
  rw [e_set_same hb0] at he
  simp only [e_ce, gI_sI] at he
  exact k H1 locs1 ls hln (he ▸ hP1) hS1 hl
