def tb (z bs : Nat) : Value → Value
  | .ref q => .ref (z + q)
  | .null => .ref bs
  | v => v
theorem tb_cat (z bs : Nat) (v : Value) : (tb z bs v).category = v.category := by cases v <;> rfl
def tbL (z bs : Nat) (lv : List (Nat × Value)) : List (Nat × Value) := lv.map (fun q => (q.1, tb z bs q.2))
theorem lkb_at {z bs : Nat} {ls : Array Slot} {n i : Nat} {lv : List (Nat × Value)} {v : Value} (hl : lv_has ls n (tbL z bs lv)) (h : lk lv i = some v) : ls[i]? = some (.val (tb z bs v)) := hl.2.2 (i, tb z bs v) (List.mem_map.mpr ⟨(i, v), lk_mem h, rfl⟩)
theorem lkb_pos {z bs : Nat} {i : Nat} {lv : List (Nat × Value)} {v : Value} (h : lk lv i = some v) : ∃ k : Nat, (tbL z bs lv)[k]? = some (i, tb z bs v) := List.mem_iff_getElem?.mp (List.mem_map.mpr ⟨(i, v), lk_mem h, rfl⟩)
theorem st1_tb (z bs : Nat) (lv : List (Nat × Value)) (i : Nat) (v : Value) : (i, tb z bs v) :: (tbL z bs lv).filter (fun q => !(q.1 == i) && !(q.1 + 1 == i && q.2.category == 2)) = tbL z bs (st1 lv i v) := by
  simp only [tbL, st1, List.map_cons, List.filter_map]
  congr 3
  funext q
  simp only [Function.comp, tb_cat]
theorem e_catsb (z bs : Nat) (rest : List Value) : (rest.map (tb z bs)).map (fun v => v.category) = rest.map (fun v => v.category) := by
  rw [List.map_map]; congr 1; funext v; exact tb_cat z bs v
/-- the law's judgement -/
def Wl (X : Ctx) (bs : Nat) (kn : Nat × Nat) (pc : Nat) (lv : List (Nat × Value)) (st : List Value) (sh : List Sh) (M : Mm) : Prop :=
  match X with
  | (p, l, e, R, s, m, args, below, meth, c, Q, D, ids, z, n0) => ∀ (H : Heap) (locs : List Loc) (ls : Array Slot), sh.length = n0 + kn.1 → va_P D vwCl (e_wl ids z M 0 sh) H → va_S (fun q => z ≤ q) s.heap H locs → lv_has ls c.maxLocals (tbL z bs lv) → W p l e R s m args below meth c H locs kn.1 kn.2 Q (F0 m pc ls (st.map (tb z bs)))
/-- the script -/
def Sc (X : Ctx) (bs N0 : Nat) (xs : Nat → Int32) : Prop :=
  match X with
  | (p, l, e, R, s, m, args, below, meth, c, Q, D, ids, z, n0) => va_X bs N0 xs s s.heap ∧ bs < s.heap.size ∧ n0 = 0
/-- how the law ends -/
def Lret (X : Ctx) : Prop :=
  match X with
  | (p, l, e, R, s, m, args, below, meth, c, Q, D, ids, z, n0) => ∀ (H : Heap) (ls : Array Slot) (pc : Nat), decode cL_law pc = .ok (.ireturn, 1) → W p l e R s m args below meth c H [] 46 53200 Q (F0 m pc ls [.int 1])
theorem e_Laload {X : Ctx} {bs : Nat} {kn : Nat × Nat} {pc : Nat} {lv : List (Nat × Value)} {st : List Value} {sh : List Sh} {M : Mm} {cc : ByteArray} {own : String} {nL : Nat} {R : Room} {j : Fin 4} {i : Nat} {x : Nat} (C : Cx X cc own nL R) (hd : decode cc pc = .ok (.aload_n j, 1)) (hi : (j : Nat) = i) (hv : lk lv i = some (.ref x)) (k : Wl X bs kn (pc + 1) lv (.ref x :: st) sh (M)) : Wl X bs kn pc lv (st) sh M := by
  obtain ⟨p, l, e, R0, s, m, args, below, meth, c, Q, D, ids, z, n0⟩ := X
  obtain ⟨hx, hb, hml, hown, hts, hK, hN, hlocks, rfl, hz⟩ := C
  intro H locs ls hln hP hS hl
  exact lv_aload_n hx hb hd hi (lkb_at hl hv) (k H locs ls hln hP hS hl)
theorem e_Laload_s {X : Ctx} {bs : Nat} {kn : Nat × Nat} {pc : Nat} {lv : List (Nat × Value)} {st : List Value} {sh : List Sh} {M : Mm} {cc : ByteArray} {own : String} {nL : Nat} {R : Room} {j : Fin 4} {i : Nat} (C : Cx X cc own nL R) (hd : decode cc pc = .ok (.aload_n j, 1)) (hi : (j : Nat) = i) (hv : lk lv i = some .null) (k : Wl X bs kn (pc + 1) lv (.null :: st) sh (M)) : Wl X bs kn pc lv (st) sh M := by
  obtain ⟨p, l, e, R0, s, m, args, below, meth, c, Q, D, ids, z, n0⟩ := X
  obtain ⟨hx, hb, hml, hown, hts, hK, hN, hlocks, rfl, hz⟩ := C
  intro H locs ls hln hP hS hl
  exact lv_aload_n hx hb hd hi (lkb_at hl hv) (k H locs ls hln hP hS hl)
theorem e_Liload {X : Ctx} {bs : Nat} {kn : Nat × Nat} {pc : Nat} {lv : List (Nat × Value)} {st : List Value} {sh : List Sh} {M : Mm} {cc : ByteArray} {own : String} {nL : Nat} {R : Room} {j : Fin 4} {i : Nat} {x : Int32} (C : Cx X cc own nL R) (hd : decode cc pc = .ok (.iload_n j, 1)) (hi : (j : Nat) = i) (hv : lk lv i = some (.int x)) (k : Wl X bs kn (pc + 1) lv (.int x :: st) sh (M)) : Wl X bs kn pc lv (st) sh M := by
  obtain ⟨p, l, e, R0, s, m, args, below, meth, c, Q, D, ids, z, n0⟩ := X
  obtain ⟨hx, hb, hml, hown, hts, hK, hN, hlocks, rfl, hz⟩ := C
  intro H locs ls hln hP hS hl
  exact lv_iload_n hx hb hd hi (lkb_at hl hv) (k H locs ls hln hP hS hl)
theorem e_Lastore {X : Ctx} {bs : Nat} {kn : Nat × Nat} {pc : Nat} {lv : List (Nat × Value)} {st : List Value} {sh : List Sh} {M : Mm} {cc : ByteArray} {own : String} {nL : Nat} {R : Room} {j : Fin 4} {i : Nat} {x : Nat} {lv2 : List (Nat × Value)} (C : Cx X cc own nL R) (hd : decode cc pc = .ok (.astore_n j, 1)) (hi : (j : Nat) = i) (hn : i < nL) (hl2 : st1 lv i (.ref x) = lv2) (k : Wl X bs kn (pc + 1) lv2 (st) sh (M)) : Wl X bs kn pc lv (.ref x :: st) sh M := by
  obtain ⟨p, l, e, R0, s, m, args, below, meth, c, Q, D, ids, z, n0⟩ := X
  obtain ⟨hx, hb, hml, hown, hts, hK, hN, hlocks, rfl, hz⟩ := C
  intro H locs ls hln hP hS hl
  subst hi
  exact lv_astore_n (lv' := tbL z bs lv2) hx hb hd rfl hl (by rw [hml]; exact hn) (by rw [← hl2]; exact st1_tb z bs lv _ (.ref x)) (fun ls2 hl3 => k H locs ls2 hln hP hS hl3)
theorem e_Listore {X : Ctx} {bs : Nat} {kn : Nat × Nat} {pc : Nat} {lv : List (Nat × Value)} {st : List Value} {sh : List Sh} {M : Mm} {cc : ByteArray} {own : String} {nL : Nat} {R : Room} {j : Fin 4} {i : Nat} {x : Int32} {lv2 : List (Nat × Value)} (C : Cx X cc own nL R) (hd : decode cc pc = .ok (.istore_n j, 1)) (hi : (j : Nat) = i) (hn : i < nL) (hl2 : st1 lv i (.int x) = lv2) (k : Wl X bs kn (pc + 1) lv2 (st) sh (M)) : Wl X bs kn pc lv (.int x :: st) sh M := by
  obtain ⟨p, l, e, R0, s, m, args, below, meth, c, Q, D, ids, z, n0⟩ := X
  obtain ⟨hx, hb, hml, hown, hts, hK, hN, hlocks, rfl, hz⟩ := C
  intro H locs ls hln hP hS hl
  subst hi
  exact lv_istore_n (lv' := tbL z bs lv2) hx hb hd rfl hl (by rw [hml]; exact hn) (by rw [← hl2]; exact st1_tb z bs lv _ (.int x)) (fun ls2 hl3 => k H locs ls2 hln hP hS hl3)
theorem e_Liinc {X : Ctx} {bs : Nat} {kn : Nat × Nat} {pc : Nat} {lv : List (Nat × Value)} {st : List Value} {sh : List Sh} {M : Mm} {cc : ByteArray} {own : String} {nL : Nat} {R : Room} {i : Nat} {n : Int} {x v : Int32} {lv2 : List (Nat × Value)} (C : Cx X cc own nL R) (hd : decode cc pc = .ok (.iinc i n, 3)) (hv : lk lv i = some (.int x)) (hn : i < nL) (hx2 : x + Int32.ofInt n = v) (hl2 : st1 lv i (.int v) = lv2) (k : Wl X bs kn (pc + 3) lv2 (st) sh (M)) : Wl X bs kn pc lv (st) sh M := by
  obtain ⟨p, l, e, R0, s, m, args, below, meth, c, Q, D, ids, z, n0⟩ := X
  obtain ⟨hx, hb, hml, hown, hts, hK, hN, hlocks, rfl, hz⟩ := C
  intro H locs ls hln hP hS hl
  obtain ⟨k9, hk9⟩ := lkb_pos (z := z) (bs := bs) hv
  exact lv_iinc (k := k9) (v := v) (lv' := tbL z bs lv2) hx hb hd hl hk9 hx2 (by rw [hml]; exact hn) (by rw [← hl2]; exact st1_tb z bs lv _ (.int v)) (fun ls2 hl3 => k H locs ls2 hln hP hS hl3)
theorem e_Liconst {X : Ctx} {bs : Nat} {kn : Nat × Nat} {pc : Nat} {lv : List (Nat × Value)} {st : List Value} {sh : List Sh} {M : Mm} {cc : ByteArray} {own : String} {nL : Nat} {R : Room} {n : Int} {v : Int32} (C : Cx X cc own nL R) (hd : decode cc pc = .ok (.iconst n, 1)) (hv : Int32.ofInt n = v) (k : Wl X bs kn (pc + 1) lv (.int v :: st) sh (M)) : Wl X bs kn pc lv (st) sh M := by
  obtain ⟨p, l, e, R0, s, m, args, below, meth, c, Q, D, ids, z, n0⟩ := X
  obtain ⟨hx, hb, hml, hown, hts, hK, hN, hlocks, rfl, hz⟩ := C
  intro H locs ls hln hP hS hl
  exact lv_iconst hx hb hd hv (k H locs ls hln hP hS hl)
theorem e_Lbipush {X : Ctx} {bs : Nat} {kn : Nat × Nat} {pc : Nat} {lv : List (Nat × Value)} {st : List Value} {sh : List Sh} {M : Mm} {cc : ByteArray} {own : String} {nL : Nat} {R : Room} {n : Int} {v : Int32} (C : Cx X cc own nL R) (hd : decode cc pc = .ok (.bipush n, 2)) (hv : (Int8.ofInt n).toInt32 = v) (k : Wl X bs kn (pc + 2) lv (.int v :: st) sh (M)) : Wl X bs kn pc lv (st) sh M := by
  obtain ⟨p, l, e, R0, s, m, args, below, meth, c, Q, D, ids, z, n0⟩ := X
  obtain ⟨hx, hb, hml, hown, hts, hK, hN, hlocks, rfl, hz⟩ := C
  intro H locs ls hln hP hS hl
  exact lv_bipush hx hb hd hv (k H locs ls hln hP hS hl)
theorem e_Liadd {X : Ctx} {bs : Nat} {kn : Nat × Nat} {pc : Nat} {lv : List (Nat × Value)} {st : List Value} {sh : List Sh} {M : Mm} {cc : ByteArray} {own : String} {nL : Nat} {R : Room} {x y : Int32} (C : Cx X cc own nL R) (hd : decode cc pc = .ok (.iadd, 1)) (k : Wl X bs kn (pc + 1) lv (.int (x + y) :: st) sh (M)) : Wl X bs kn pc lv (.int y :: .int x :: st) sh M := by
  obtain ⟨p, l, e, R0, s, m, args, below, meth, c, Q, D, ids, z, n0⟩ := X
  obtain ⟨hx, hb, hml, hown, hts, hK, hN, hlocks, rfl, hz⟩ := C
  intro H locs ls hln hP hS hl
  exact lv_iadd hx hb hd (k H locs ls hln hP hS hl)
theorem e_Lisub {X : Ctx} {bs : Nat} {kn : Nat × Nat} {pc : Nat} {lv : List (Nat × Value)} {st : List Value} {sh : List Sh} {M : Mm} {cc : ByteArray} {own : String} {nL : Nat} {R : Room} {x y : Int32} (C : Cx X cc own nL R) (hd : decode cc pc = .ok (.isub, 1)) (k : Wl X bs kn (pc + 1) lv (.int (x - y) :: st) sh (M)) : Wl X bs kn pc lv (.int y :: .int x :: st) sh M := by
  obtain ⟨p, l, e, R0, s, m, args, below, meth, c, Q, D, ids, z, n0⟩ := X
  obtain ⟨hx, hb, hml, hown, hts, hK, hN, hlocks, rfl, hz⟩ := C
  intro H locs ls hln hP hS hl
  exact lv_isub hx hb hd (k H locs ls hln hP hS hl)
theorem e_Liand {X : Ctx} {bs : Nat} {kn : Nat × Nat} {pc : Nat} {lv : List (Nat × Value)} {st : List Value} {sh : List Sh} {M : Mm} {cc : ByteArray} {own : String} {nL : Nat} {R : Room} {x y : Int32} (C : Cx X cc own nL R) (hd : decode cc pc = .ok (.iand, 1)) (k : Wl X bs kn (pc + 1) lv (.int (x &&& y) :: st) sh (M)) : Wl X bs kn pc lv (.int y :: .int x :: st) sh M := by
  obtain ⟨p, l, e, R0, s, m, args, below, meth, c, Q, D, ids, z, n0⟩ := X
  obtain ⟨hx, hb, hml, hown, hts, hK, hN, hlocks, rfl, hz⟩ := C
  intro H locs ls hln hP hS hl
  exact lv_iand hx hb hd (k H locs ls hln hP hS hl)
theorem e_Ldup {X : Ctx} {bs : Nat} {kn : Nat × Nat} {pc : Nat} {lv : List (Nat × Value)} {st : List Value} {sh : List Sh} {M : Mm} {cc : ByteArray} {own : String} {nL : Nat} {R : Room} {v : Value} (C : Cx X cc own nL R) (hd : decode cc pc = .ok (.dup, 1)) (hv : v.category = 1) (k : Wl X bs kn (pc + 1) lv (v :: v :: st) sh (M)) : Wl X bs kn pc lv (v :: st) sh M := by
  obtain ⟨p, l, e, R0, s, m, args, below, meth, c, Q, D, ids, z, n0⟩ := X
  obtain ⟨hx, hb, hml, hown, hts, hK, hN, hlocks, rfl, hz⟩ := C
  intro H locs ls hln hP hS hl
  exact lv_dup hx hb hd ((tb_cat z bs v).trans hv) (k H locs ls hln hP hS hl)
theorem e_Llcmp {X : Ctx} {bs : Nat} {kn : Nat × Nat} {pc : Nat} {lv : List (Nat × Value)} {st : List Value} {sh : List Sh} {M : Mm} {cc : ByteArray} {own : String} {nL : Nat} {R : Room} {x y : Int64} (C : Cx X cc own nL R) (hd : decode cc pc = .ok (.lcmp, 1)) (k : Wl X bs kn (pc + 1) lv (.int (lg_cmp x y) :: st) sh (M)) : Wl X bs kn pc lv (.long y :: .long x :: st) sh M := by
  obtain ⟨p, l, e, R0, s, m, args, below, meth, c, Q, D, ids, z, n0⟩ := X
  obtain ⟨hx, hb, hml, hown, hts, hK, hN, hlocks, rfl, hz⟩ := C
  intro H locs ls hln hP hS hl
  exact W.lcmp hx hb hd (k H locs ls hln hP hS hl)
theorem e_Lgoto {X : Ctx} {bs : Nat} {kn : Nat × Nat} {pc : Nat} {lv : List (Nat × Value)} {st : List Value} {sh : List Sh} {M : Mm} {cc : ByteArray} {own : String} {nL : Nat} {R : Room} {off : Int} {tgt : Nat} (C : Cx X cc own nL R) (hd : decode cc pc = .ok (.goto off, 3)) (ht : (pc : Int) + off = (tgt : Int)) (k : Wl X bs kn tgt lv st sh M) : Wl X bs kn pc lv st sh M := by
  obtain ⟨p, l, e, R0, s, m, args, below, meth, c, Q, D, ids, z, n0⟩ := X
  obtain ⟨hx, hb, hml, hown, hts, hK, hN, hlocks, rfl, hz⟩ := C
  intro H locs ls hln hP hS hl
  exact lv_goto hx hb hd ht (k H locs ls hln hP hS hl)
theorem e_Licmp_gt {X : Ctx} {bs : Nat} {kn : Nat × Nat} {pc : Nat} {lv : List (Nat × Value)} {st : List Value} {sh : List Sh} {M : Mm} {cc : ByteArray} {own : String} {nL : Nat} {R : Room} {x y : Int32} {off : Int} {tgt : Nat} (C : Cx X cc own nL R) (hd : decode cc pc = .ok (.if_icmp .gt off, 3)) (ht : (pc : Int) + off = (tgt : Int)) (kt : y < x → Wl X bs kn tgt lv st sh M) (kf : ¬ y < x → Wl X bs kn (pc + 3) lv st sh M) : Wl X bs kn pc lv (.int y :: .int x :: st) sh M := by
  obtain ⟨p, l, e, R0, s, m, args, below, meth, c, Q, D, ids, z, n0⟩ := X
  obtain ⟨hx, hb, hml, hown, hts, hK, hN, hlocks, rfl, hz⟩ := C
  intro H locs ls hln hP hS hl
  exact lv_icmp_gt hx hb hd ht (fun h => kt h H locs ls hln hP hS hl) (fun h => kf h H locs ls hln hP hS hl)
theorem e_Licmp_eq {X : Ctx} {bs : Nat} {kn : Nat × Nat} {pc : Nat} {lv : List (Nat × Value)} {st : List Value} {sh : List Sh} {M : Mm} {cc : ByteArray} {own : String} {nL : Nat} {R : Room} {x y : Int32} {off : Int} {tgt : Nat} (C : Cx X cc own nL R) (hd : decode cc pc = .ok (.if_icmp .eq off, 3)) (ht : (pc : Int) + off = (tgt : Int)) (kt : x = y → Wl X bs kn tgt lv st sh M) (kf : ¬ x = y → Wl X bs kn (pc + 3) lv st sh M) : Wl X bs kn pc lv (.int y :: .int x :: st) sh M := by
  obtain ⟨p, l, e, R0, s, m, args, below, meth, c, Q, D, ids, z, n0⟩ := X
  obtain ⟨hx, hb, hml, hown, hts, hK, hN, hlocks, rfl, hz⟩ := C
  intro H locs ls hln hP hS hl
  exact lv_icmp_eq hx hb hd ht (fun h => kt h H locs ls hln hP hS hl) (fun h => kf h H locs ls hln hP hS hl)
theorem e_Lif_eq {X : Ctx} {bs : Nat} {kn : Nat × Nat} {pc : Nat} {lv : List (Nat × Value)} {st : List Value} {sh : List Sh} {M : Mm} {cc : ByteArray} {own : String} {nL : Nat} {R : Room} {x : Int32} {off : Int} {tgt : Nat} (C : Cx X cc own nL R) (hd : decode cc pc = .ok (.ifCond .eq off, 3)) (ht : (pc : Int) + off = (tgt : Int)) (kt : x = 0 → Wl X bs kn tgt lv st sh M) (kf : ¬ x = 0 → Wl X bs kn (pc + 3) lv st sh M) : Wl X bs kn pc lv (.int x :: st) sh M := by
  obtain ⟨p, l, e, R0, s, m, args, below, meth, c, Q, D, ids, z, n0⟩ := X
  obtain ⟨hx, hb, hml, hown, hts, hK, hN, hlocks, rfl, hz⟩ := C
  intro H locs ls hln hP hS hl
  exact lv_if_eq hx hb hd ht (fun h => kt h H locs ls hln hP hS hl) (fun h => kf h H locs ls hln hP hS hl)
theorem e_LtableIn {X : Ctx} {bs : Nat} {kn : Nat × Nat} {pc : Nat} {lv : List (Nat × Value)} {st : List Value} {sh : List Sh} {M : Mm} {cc : ByteArray} {own : String} {nL : Nat} {R : Room} {dflt lo hi : Int} {offs : Array Int} {len : Nat} {x : Int32} {off : Int} {tgt : Nat} (C : Cx X cc own nL R) (hd : decode cc pc = .ok (.tableswitch dflt lo hi offs, len)) (h1 : ¬ x.toInt < lo) (h2 : ¬ hi < x.toInt) (ho : offs[(x.toInt - lo).toNat]? = some off) (ht : (pc : Int) + off = (tgt : Int)) (k : Wl X bs kn tgt lv st sh M) : Wl X bs kn pc lv (.int x :: st) sh M := by
  obtain ⟨p, l, e, R0, s, m, args, below, meth, c, Q, D, ids, z, n0⟩ := X
  obtain ⟨hx, hb, hml, hown, hts, hK, hN, hlocks, rfl, hz⟩ := C
  intro H locs ls hln hP hS hl
  exact lv_tableIn hx hb hd h1 h2 ho ht (k H locs ls hln hP hS hl)
theorem e_LtableOut {X : Ctx} {bs : Nat} {kn : Nat × Nat} {pc : Nat} {lv : List (Nat × Value)} {st : List Value} {sh : List Sh} {M : Mm} {cc : ByteArray} {own : String} {nL : Nat} {R : Room} {dflt lo hi : Int} {offs : Array Int} {len : Nat} {x : Int32} {tgt : Nat} (C : Cx X cc own nL R) (hd : decode cc pc = .ok (.tableswitch dflt lo hi offs, len)) (h : x.toInt < lo ∨ hi < x.toInt) (ht : (pc : Int) + dflt = (tgt : Int)) (k : Wl X bs kn tgt lv st sh M) : Wl X bs kn pc lv (.int x :: st) sh M := by
  obtain ⟨p, l, e, R0, s, m, args, below, meth, c, Q, D, ids, z, n0⟩ := X
  obtain ⟨hx, hb, hml, hown, hts, hK, hN, hlocks, rfl, hz⟩ := C
  intro H locs ls hln hP hS hl
  exact lv_tableOut hx hb hd h ht (k H locs ls hln hP hS hl)
theorem e_Lsld {X : Ctx} {bs : Nat} {kn : Nat × Nat} {pc : Nat} {lv : List (Nat × Value)} {st : List Value} {sh : List Sh} {M : Mm} {cc : ByteArray} {own : String} {nL : Nat} {R : Room} {N0 : Nat} {xs : Nat → Int32} {i : Nat} (C : Cx X cc own nL R) (hd : decode cc pc = .ok (.iaload, 1)) (S : Sc X bs N0 xs) (hi : i < N0) (hN0 : N0 < 2 ^ 31) (k : Wl X bs kn (pc + 1) lv (.int (xs i) :: st) sh M) : Wl X bs kn pc lv (.int (nI i) :: .null :: st) sh M := by
  obtain ⟨p, l, e, R0, s, m, args, below, meth, c, Q, D, ids, z, n0⟩ := X
  obtain ⟨hx, hb, hml, hown, hts, hK, hN, hlocks, rfl, hz⟩ := C
  intro H locs ls hln hP hS hl
  obtain ⟨sx, sb, rfl⟩ := S
  refine va_sld hx hb sx sb (A := fun q => z ≤ q) (show ¬ z ≤ bs by omega) hS (vp_in_nI hi hN0) hd ?_
  rw [cl_nI (Nat.lt_trans hi hN0)]
  exact k H locs ls hln hP hS hl
theorem e_Lslen {X : Ctx} {bs : Nat} {kn : Nat × Nat} {pc : Nat} {lv : List (Nat × Value)} {st : List Value} {sh : List Sh} {M : Mm} {cc : ByteArray} {own : String} {nL : Nat} {R : Room} {N0 : Nat} {xs : Nat → Int32} (C : Cx X cc own nL R) (hd : decode cc pc = .ok (.arraylength, 1)) (S : Sc X bs N0 xs) (k : Wl X bs kn (pc + 1) lv (.int (nI N0) :: st) sh M) : Wl X bs kn pc lv (.null :: st) sh M := by
  obtain ⟨p, l, e, R0, s, m, args, below, meth, c, Q, D, ids, z, n0⟩ := X
  obtain ⟨hx, hb, hml, hown, hts, hK, hN, hlocks, rfl, hz⟩ := C
  intro H locs ls hln hP hS hl
  obtain ⟨sx, sb, rfl⟩ := S
  exact va_slen hx hb sx sb (A := fun q => z ≤ q) (show ¬ z ≤ bs by omega) hS hd (k H locs ls hln hP hS hl)
theorem e_Lnewo {X : Ctx} {bs : Nat} {kn : Nat × Nat} {pc : Nat} {lv : List (Nat × Value)} {st : List Value} {sh : List Sh} {M : Mm} {cc : ByteArray} {own : String} {nL : Nat} {R : Room} {i ci N q : Nat} {fk : List Nat} {sh2 : List Sh} {kn2 : Nat × Nat} (C : Cx X cc own nL R) (hd : decode cc pc = .ok (.new i, 3)) (hf : Nw own i ci fk N) (hq : sh.length = q) (hsh : sh ++ [.inr (ci, fk)] = sh2) (hk2 : (kn.1 + 1, kn.2 + N) = kn2) (hkn : kn2.1 ≤ R.cells ∧ kn2.2 ≤ R.slots) (k : Wl X bs kn2 (pc + 3) lv (.ref q :: st) sh2 (zr M q)) : Wl X bs kn pc lv st sh M := by
  obtain ⟨p, l, e, R0, s, m, args, below, meth, c, Q, D, ids, z, n0⟩ := X
  obtain ⟨hx, hb, hml, hown, hts, hK, hN, hlocks, rfl, hz⟩ := C
  intro H locs ls hln hP hS hl
  obtain ⟨Cn, T, ty0, h1, h2, h3, h4, h5, h6, h7⟩ := hf
  subst hq hsh hk2
  refine e_sz hz hln hP (fun hH => ?_)
  have hKn := hK.1 ci _ h1
  refine W.newcK hx hb hown (hts _ h4) (hts _ h5) (hts _ h6) rfl hd hkn.1 hkn.2 hKn.2.1 hH fun H1 kC hkC e1 z1 o1 => ?_
  have hk9 : ∀ (k : Nat) (x : Nat × va_E), (e_wl ids z M 0 sh)[k]? = some x → H1[x.1]? = H[x.1]? := fun k x hx9 => o1 x.1 (by have := (hP k x hx9).lt; omega)
  have hP1 : va_P D vwCl (e_wl ids z M 0 sh ++ [(z + sh.length, e_ce ids z (zr M sh.length) sh.length (.inr (ci, fk)))]) H1 := (hP.kept hk9).app (fun k x hx9 => by
    have hz9 : k < 1 := (List.getElem?_eq_some_iff.mp hx9).1
    rw [show k = 0 by omega] at hx9
    cases hx9
    exact ⟨_, h1, (u_born ty0 hts h2 hKn hkC e1 h3).to (e_fsD (zr_I M _) (zr_J M _) h7)⟩)
  rw [e_wl_app (fun j hj => zr_o M hj)] at hP1
  have hS1 : va_S (fun q => z ≤ q) s.heap H1 locs := ⟨by have := hS.1; omega, fun x h8 h9 => (o1 x (by have := hS.1; omega)).trans (hS.2.1 x h8 h9), hS.2.2⟩
  exact k H1 locs ls (by rw [List.length_append, hln]; simp; omega) hP1 hS1 hl
theorem e_Lloc {X : Ctx} {bs : Nat} {kn : Nat × Nat} {pc : Nat} {lv lv2 : List (Nat × Value)} {st : List Value} {sh : List Sh} {M : Mm} (ks : List Nat) (h : ks.filterMap (fun k => lv[k]?) = lv2) (k : Wl X bs kn pc lv2 st sh M) : Wl X bs kn pc lv st sh M := by
  obtain ⟨p, l, e, R0, s, m, args, below, meth, c, Q, D, ids, z, n0⟩ := X
  intro H locs ls hln hP hS hl
  refine k H locs ls hln hP hS ⟨hl.1, hl.2.1, fun q hq => ?_⟩
  obtain ⟨q0, h0, rfl⟩ := List.mem_map.mp hq
  rw [← h] at h0
  obtain ⟨j, -, hj⟩ := List.mem_filterMap.mp h0
  exact hl.2.2 _ (List.mem_map.mpr ⟨q0, List.mem_of_getElem? hj, rfl⟩)
theorem e_Ltopi {X : Ctx} {bs : Nat} {kn : Nat × Nat} {pc : Nat} {lv : List (Nat × Value)} {st : List Value} {sh : List Sh} {M : Mm} {v : Int32} (v2 : Int32) (h : v = v2) (k : Wl X bs kn pc lv (.int v2 :: st) sh M) : Wl X bs kn pc lv (.int v :: st) sh M := h ▸ k
theorem e_backR {p : Program} {l : Launch} {e : Env} {R : Room} {s : State} {m : MethodId} {args : Array Value} {below : List Frame} {meth : Method} {c : Code} {H : Heap} {locs : List Loc} {k1 k2 mc ms pc : Nat} {Q : State → Prop} {ls : Array Slot} {st0 rs : List Value} {a : Array Value} {D : va_G} {ids : Id3} {z : Nat} {post : Option Value → List Sh → Mm → Prop}
    (hr : va_Run p l e R s m args below meth c H locs k1 k2 mc ms (F0 m pc ls st0) rs (e_Qc D ids z post a) (fun q => z ≤ q)) (hS : va_S (fun q => z ≤ q) s.heap H locs)
    (kk : ∀ (v : Option Value) (sh2 : List Sh) (M2 : Mm) (H1 : Heap) (locs1 : List Loc), post v sh2 M2 → H1.size = z + sh2.length → va_P D vwCl (e_wl ids z M2 0 sh2) H1 → va_S (fun q => z ≤ q) s.heap H1 locs1 → W p l e R s m args below meth c H1 locs1 (k1 + mc) (k2 + ms) Q (F0 m (pc + 3) ls ((v.map (tr z)).toList ++ rs))) : W p l e R s m args below meth c H locs k1 k2 Q (F0 m pc ls st0) := by
  intro T hT X
  obtain ⟨v, st₀, t, T', L, h0, X', hL, e1, e2, ⟨⟨v', sh2, M2, hv, hp, hz2, hP2⟩, hz, hk⟩, st⟩ := hr T hT X
  cases hv
  rw [h0] at hz hk
  obtain ⟨t2, a1, b1⟩ := kk v' sh2 M2 T'.heap (locs ++ L) hp (by rw [e1]; exact hz2) (by rw [e1]; exact hP2)
    ⟨Nat.le_trans hS.1 (by rw [e1]; exact hz), fun q h1 h2 => by rw [e1, hk q (Nat.lt_of_lt_of_le h1 hS.1) h2]; exact hS.2.1 q h1 h2, fun q hq => by
      rcases List.mem_append.mp hq with h | h
      · exact hS.2.2 q h
      · exact hL q h⟩ T' rfl X'
  exact ⟨t2, st t2 a1, b1⟩
theorem e_LcallV_gen {X : Ctx} {bs : Nat} {kn : Nat × Nat} {pc : Nat} {lv : List (Nat × Value)} {sh : List Sh} {M : Mm} {cc : ByteArray} {own : String} {nL : Nat} {R : Room} {mi : Mi} {i b : Nat} {As rest : List Value} {post : Option Value → List Sh → Mm → Prop} {Cn : String} {ci : Nat} {fk : List Nat} (C : Cx X cc own nL R) (hd : decode cc pc = .ok (.invokevirtual i, 3)) (hM : CT mi (.ref b :: As) sh M post) (hok : Ok mi As.length) (hlk : Lv own Cn i mi.1) (hb2 : sh[b]? = some (.inr (ci, fk))) (hc : (vwCl[ci]?).map (fun q => q.1) = some Cn) (hAs : ∀ z bs, As.map (tb z bs) = As.map (tr z)) (hpv : ∀ z bs v sh2 M2, post v sh2 M2 → (v.map (tr z)).toList = v.toList.map (tb z bs)) (hroom : mi.2.2.2.2.frames + 1 ≤ R.frames ∧ 8 + (mi.2.2.1 + 11) + mi.2.2.2.2.locals ≤ R.locals) (hrest : (rest.map (fun v => v.category)).sum ≤ 8) (hkn : kn.1 + mi.2.2.2.2.cells ≤ R.cells ∧ kn.2 + mi.2.2.2.2.slots ≤ R.slots) (hlen : ∀ v sh2 M2, post v sh2 M2 → sh2.length = sh.length + mi.2.2.2.2.cells) (k : ∀ v sh2 M2, post v sh2 M2 → Wl X bs (kn.1 + mi.2.2.2.2.cells, kn.2 + mi.2.2.2.2.slots) (pc + 3) lv (v.toList ++ rest) sh2 M2) : Wl X bs kn pc lv (As.reverse ++ Value.ref b :: rest) sh M := by
  obtain ⟨p, l, e, R0, s, m, args, below, meth, c, Q, D, ids, z, n0⟩ := X
  obtain ⟨hx, hb, hml, hown, hts, hK, hN, hlocks, rfl, hz⟩ := C
  intro H locs ls hln hP hS hl
  refine e_sz hz hln hP (fun hH => ?_)
  obtain ⟨y, cc2, nL2, ret2, rm⟩ := mi
  have hKK : ∀ (v : Option Value) (sh2 : List Sh) (M2 : Mm) (H1 : Heap) (locs1 : List Loc), post v sh2 M2 → H1.size = z + sh2.length → va_P D vwCl (e_wl ids z M2 0 sh2) H1 → va_S (fun q => z ≤ q) s.heap H1 locs1 → W p l e R0 s m args below meth c H1 locs1 (kn.1 + rm.cells) (kn.2 + rm.slots) Q (F0 m (pc + 3) ls ((v.map (tr z)).toList ++ rest.map (tb z bs))) := fun v sh2 M2 H1 locs1 hp hz1 hP1 hS1 => by
    rw [hpv z bs v sh2 M2 hp, ← List.map_append]
    exact k v sh2 M2 hp H1 locs1 ls (by have h7 := hlen v sh2 M2 hp; show sh2.length = n0 + (kn.1 + rm.cells); simp only at h7; omega) hP1 hS1 hl
  have hstk : ((As.reverse ++ Value.ref b :: rest).map (tb z bs)) = ((As.map (tr z)).reverse ++ Value.ref (z + b) :: rest.map (tb z bs)) := by rw [← hAs z bs]; simp [tb]
  have hroom2 : 2 * (F0 m pc ls ((As.reverse ++ Value.ref b :: rest).map (tb z bs))).monitorRoom + ((rest.map (tb z bs)).map fun v => v.category).sum ≤ 8 := lv_room (by rw [e_catsb]; exact hrest)
  obtain ⟨hl1, hl2, hl3, hl4⟩ := hlk
  obtain ⟨q, hq, rfl⟩ := Option.map_eq_some_iff.mp hc
  have hrecv := va_recv hK hP hq (e_wl_at hb2)
  rcases hl1 with hl1 | ⟨host, hl1⟩
  · exact e_backR (va_runV (As := As.map (tr z)) (rest := rest.map (tb z bs)) (b := z + b) ⟨hx, hb, hml, hown, hts⟩ (hM l D ids z) ⟨callB_of As.length hts (e_goodIn hok.1) rfl rfl rfl (hts _ hl4) (hts _ hl1) hok.2 hroom, hts _ hl2, hts _ hl3⟩ ⟨e_blind D ids z _ sh M, hrecv, e_pre (av := .ref b :: As) hH hP hK hN⟩ rfl (by simp) (hl.1.trans hml) hstk hroom2 hd hkn) hS hKK
  · exact e_backR (va_runVN (As := As.map (tr z)) (rest := rest.map (tb z bs)) (b := z + b) ⟨hx, hb, hml, hown, hts⟩ (hM l D ids z) ⟨va_cnB As.length hts (e_goodIn hok.1) rfl rfl rfl (hN _ hl1) (hts _ hl4) hok.2 hroom, hts _ hl2, hts _ hl3⟩ ⟨e_blind D ids z _ sh M, hrecv, e_pre (av := .ref b :: As) hH hP hK hN⟩ rfl (by simp) (hl.1.trans hml) hstk hroom2 hd hkn) hS hKK
theorem e_LcallI_gen {X : Ctx} {bs : Nat} {kn : Nat × Nat} {pc : Nat} {lv : List (Nat × Value)} {sh : List Sh} {M : Mm} {cc : ByteArray} {own : String} {nL : Nat} {R : Room} {mi : Mi} {i b : Nat} {As rest : List Value} {post : Option Value → List Sh → Mm → Prop} (C : Cx X cc own nL R) (hd : decode cc pc = .ok (.invokespecial i, 3)) (hM : CT mi (.ref b :: As) sh M post) (hok : Ok mi As.length) (hlk : Li own i mi.1) (hy1 : mi.1.name = "<init>") (hr1 : mi.2.2.2.1 = none) (hAs : ∀ z bs, As.map (tb z bs) = As.map (tr z)) (hpv : ∀ z bs v sh2 M2, post v sh2 M2 → (v.map (tr z)).toList = v.toList.map (tb z bs)) (hroom : mi.2.2.2.2.frames + 1 ≤ R.frames ∧ 8 + (mi.2.2.1 + 11) + mi.2.2.2.2.locals ≤ R.locals) (hrest : (rest.map (fun v => v.category)).sum ≤ 8) (hkn : kn.1 + mi.2.2.2.2.cells ≤ R.cells ∧ kn.2 + mi.2.2.2.2.slots ≤ R.slots) (hlen : ∀ v sh2 M2, post v sh2 M2 → sh2.length = sh.length + mi.2.2.2.2.cells) (k : ∀ v sh2 M2, post v sh2 M2 → Wl X bs (kn.1 + mi.2.2.2.2.cells, kn.2 + mi.2.2.2.2.slots) (pc + 3) lv (v.toList ++ rest) sh2 M2) : Wl X bs kn pc lv (As.reverse ++ Value.ref b :: rest) sh M := by
  obtain ⟨p, l, e, R0, s, m, args, below, meth, c, Q, D, ids, z, n0⟩ := X
  obtain ⟨hx, hb, hml, hown, hts, hK, hN, hlocks, rfl, hz⟩ := C
  intro H locs ls hln hP hS hl
  refine e_sz hz hln hP (fun hH => ?_)
  obtain ⟨y, cc2, nL2, ret2, rm⟩ := mi
  have hKK : ∀ (v : Option Value) (sh2 : List Sh) (M2 : Mm) (H1 : Heap) (locs1 : List Loc), post v sh2 M2 → H1.size = z + sh2.length → va_P D vwCl (e_wl ids z M2 0 sh2) H1 → va_S (fun q => z ≤ q) s.heap H1 locs1 → W p l e R0 s m args below meth c H1 locs1 (kn.1 + rm.cells) (kn.2 + rm.slots) Q (F0 m (pc + 3) ls ((v.map (tr z)).toList ++ rest.map (tb z bs))) := fun v sh2 M2 H1 locs1 hp hz1 hP1 hS1 => by
    rw [hpv z bs v sh2 M2 hp, ← List.map_append]
    exact k v sh2 M2 hp H1 locs1 ls (by have h7 := hlen v sh2 M2 hp; show sh2.length = n0 + (kn.1 + rm.cells); simp only at h7; omega) hP1 hS1 hl
  have hstk : ((As.reverse ++ Value.ref b :: rest).map (tb z bs)) = ((As.map (tr z)).reverse ++ Value.ref (z + b) :: rest.map (tb z bs)) := by rw [← hAs z bs]; simp [tb]
  have hroom2 : 2 * (F0 m pc ls ((As.reverse ++ Value.ref b :: rest).map (tb z bs))).monitorRoom + ((rest.map (tb z bs)).map fun v => v.category).sum ≤ 8 := lv_room (by rw [e_catsb]; exact hrest)
  obtain ⟨hl1, hl2, hl4⟩ := hlk
  simp only at hr1
  subst hr1
  rcases hl1 with hl1 | ⟨host, hl1⟩
  · exact e_backR (va_runI (As := As.map (tr z)) (rest := rest.map (tb z bs)) (b := z + b) ⟨hx, hb, hml, hown, hts⟩ (hM l D ids z) ⟨callB_of As.length hts (e_goodIn hok.1) rfl rfl rfl (hts _ hl4) (hts _ hl1) hok.2 hroom, hy1, hts _ hl2⟩ ⟨e_blind D ids z _ sh M, e_pre (av := .ref b :: As) hH hP hK hN⟩ rfl (by simp) (hl.1.trans hml) hstk hroom2 hd hkn) hS hKK
  · exact e_backR (va_runIN (As := As.map (tr z)) (rest := rest.map (tb z bs)) (b := z + b) ⟨hx, hb, hml, hown, hts⟩ (hM l D ids z) ⟨va_cnB As.length hts (e_goodIn hok.1) rfl rfl rfl (hN _ hl1) (hts _ hl4) hok.2 hroom, hy1, hts _ hl2⟩ ⟨e_blind D ids z _ sh M, e_pre (av := .ref b :: As) hH hP hK hN⟩ rfl (by simp) (hl.1.trans hml) hstk hroom2 hd hkn) hS hKK
theorem e_LcallI {X : Ctx} {bs : Nat} {kn : Nat × Nat} {pc : Nat} {lv : List (Nat × Value)} {st : List Value} {sh : List Sh} {M : Mm} {cc : ByteArray} {own : String} {nL : Nat} {R : Room} {mi : Mi} {i b : Nat} {F : Mm → Prop} {sh2 : List Sh} {kn2 : Nat × Nat} (C : Cx X cc own nL R) (hd : decode cc pc = .ok (.invokespecial i, 3)) (hM : CT mi [.ref b] sh M (Qv sh2 F)) (hok : Ok mi 0) (hlk : Li own i mi.1) (hy1 : mi.1.name = "<init>") (hr1 : mi.2.2.2.1 = none) (hroom : mi.2.2.2.2.frames + 1 ≤ R.frames ∧ 8 + (mi.2.2.1 + 11) + mi.2.2.2.2.locals ≤ R.locals) (hrest : (st.map (fun v => v.category)).sum ≤ 8) (hk2 : (kn.1 + mi.2.2.2.2.cells, kn.2 + mi.2.2.2.2.slots) = kn2) (hkn : kn2.1 ≤ R.cells ∧ kn2.2 ≤ R.slots) (hlen : sh2.length = sh.length + mi.2.2.2.2.cells) (k : ∀ M2, F M2 → Wl X bs kn2 (pc + 3) lv st sh2 M2) : Wl X bs kn pc lv (.ref b :: st) sh M := by
  subst hk2
  refine e_LcallI_gen (As := []) (rest := st) C hd hM hok hlk hy1 hr1 (fun _ _ => rfl) (fun z bs v sh3 M3 h => by obtain ⟨rfl, -, -⟩ := h; rfl) hroom hrest hkn ?_ ?_
  · rintro v sh3 M3 ⟨rfl, rfl, hF⟩; exact hlen
  · rintro v sh3 M3 ⟨rfl, rfl, hF⟩; exact k M3 hF
theorem e_LcallVi {X : Ctx} {bs : Nat} {kn : Nat × Nat} {pc : Nat} {lv : List (Nat × Value)} {st : List Value} {sh : List Sh} {M : Mm} {cc : ByteArray} {own : String} {nL : Nat} {R : Room} {mi : Mi} {i b : Nat} {rest : List Value} {r : Int32} {F : Mm → Prop} {Cn : String} {ci : Nat} {fk : List Nat} (C : Cx X cc own nL R) (hd : decode cc pc = .ok (.invokevirtual i, 3)) (As : List Value) (hM : CT mi (.ref b :: As) sh M (Qi r sh F)) (hok : Ok mi As.length) (hlk : Lv own Cn i mi.1) (hb2 : sh[b]? = some (.inr (ci, fk))) (hc : (vwCl[ci]?).map (fun q => q.1) = some Cn) (hst : As.reverse ++ Value.ref b :: rest = st) (hAs : ∀ z bs, As.map (tb z bs) = As.map (tr z)) (hmc : mi.2.2.2.2.cells = 0 ∧ mi.2.2.2.2.slots = 0) (hroom : mi.2.2.2.2.frames + 1 ≤ R.frames ∧ 8 + (mi.2.2.1 + 11) + mi.2.2.2.2.locals ≤ R.locals) (hrest : (rest.map (fun v => v.category)).sum ≤ 8) (hkn : kn.1 ≤ R.cells ∧ kn.2 ≤ R.slots) (k : ∀ M2, F M2 → Wl X bs kn (pc + 3) lv (.int r :: rest) sh M2) : Wl X bs kn pc lv st sh M := by
  subst hst
  refine e_LcallV_gen C hd hM hok hlk hb2 hc hAs (fun z bs v sh3 M3 h => by obtain ⟨rfl, -, -⟩ := h; rfl) hroom hrest (by rw [hmc.1, hmc.2]; exact hkn) ?_ ?_
  · rintro v sh3 M3 ⟨rfl, rfl, hF⟩
    rw [hmc.1]; rfl
  · rintro v sh3 M3 ⟨rfl, rfl, hF⟩
    rw [hmc.1, hmc.2]
    exact k M3 hF
theorem e_LcallVl {X : Ctx} {bs : Nat} {kn : Nat × Nat} {pc : Nat} {lv : List (Nat × Value)} {st : List Value} {sh : List Sh} {M : Mm} {cc : ByteArray} {own : String} {nL : Nat} {R : Room} {mi : Mi} {i b : Nat} {rest : List Value} {r : Int64} {F : Mm → Prop} {Cn : String} {ci : Nat} {fk : List Nat} (C : Cx X cc own nL R) (hd : decode cc pc = .ok (.invokevirtual i, 3)) (As : List Value) (hM : CT mi (.ref b :: As) sh M (Ql r sh F)) (hok : Ok mi As.length) (hlk : Lv own Cn i mi.1) (hb2 : sh[b]? = some (.inr (ci, fk))) (hc : (vwCl[ci]?).map (fun q => q.1) = some Cn) (hst : As.reverse ++ Value.ref b :: rest = st) (hAs : ∀ z bs, As.map (tb z bs) = As.map (tr z)) (hmc : mi.2.2.2.2.cells = 0 ∧ mi.2.2.2.2.slots = 0) (hroom : mi.2.2.2.2.frames + 1 ≤ R.frames ∧ 8 + (mi.2.2.1 + 11) + mi.2.2.2.2.locals ≤ R.locals) (hrest : (rest.map (fun v => v.category)).sum ≤ 8) (hkn : kn.1 ≤ R.cells ∧ kn.2 ≤ R.slots) (k : ∀ M2, F M2 → Wl X bs kn (pc + 3) lv (.long r :: rest) sh M2) : Wl X bs kn pc lv st sh M := by
  subst hst
  refine e_LcallV_gen C hd hM hok hlk hb2 hc hAs (fun z bs v sh3 M3 h => by obtain ⟨rfl, -, -⟩ := h; rfl) hroom hrest (by rw [hmc.1, hmc.2]; exact hkn) ?_ ?_
  · rintro v sh3 M3 ⟨rfl, rfl, hF⟩
    rw [hmc.1]; rfl
  · rintro v sh3 M3 ⟨rfl, rfl, hF⟩
    rw [hmc.1, hmc.2]
    exact k M3 hF
theorem e_Lret {X : Ctx} {bs : Nat} {pc : Nat} {lv : List (Nat × Value)} {sh : List Sh} {M : Mm} {cc : ByteArray} {own : String} {nL : Nat} {R : Room} {N0 : Nat} {xs : Nat → Int32} (C : Cx X cc own nL R) (hd : decode cL_law pc = .ok (.ireturn, 1)) (LR : Lret X) (S : Sc X bs N0 xs) : Wl X bs (46, 53200) pc lv [.int (nI 1)] sh M := by
  obtain ⟨p, l, e, R0, s, m, args, below, meth, c, Q, D, ids, z, n0⟩ := X
  obtain ⟨hx, hb, hml, hown, hts, hK, hN, hlocks, rfl, hz⟩ := C
  obtain ⟨sx, sb, rfl⟩ := S
  intro H locs ls hln hP hS hl
  refine va_forget (fun q hq => by have := hS.2.2 q hq; omega) ?_
  exact LR H ls pc hd
theorem e_Larg {X : Ctx} {bs : Nat} {kn : Nat × Nat} {pc : Nat} {st : List Value} {sh : List Sh} {M : Mm} {cc : ByteArray} {own : String} {nL : Nat} {R : Room} {N0 : Nat} {xs : Nat → Int32} {i j : Nat} {n : Int} (C : Cx X cc own nL R) (S : Sc X bs N0 xs) (hn : Int32.ofInt n = nI j) (hi : i + j < N0) (hN0 : N0 < 2 ^ 31) (h0 : decode cc pc = .ok (.aload_n 0, 1)) (h1 : decode cc (pc + 1) = .ok (.iload_n 3, 1)) (h2 : decode cc (pc + 1 + 1) = .ok (.iconst n, 1)) (h3 : decode cc (pc + 1 + 1 + 1) = .ok (.iadd, 1)) (h4 : decode cc (pc + 1 + 1 + 1 + 1) = .ok (.iaload, 1)) (k : Wl X bs kn (pc + 1 + 1 + 1 + 1 + 1) [(0, .null), (1, .ref 0), (2, .ref 25), (3, .int (nI i))] (.int (xs (i + j)) :: st) sh M) : Wl X bs kn pc [(0, .null), (1, .ref 0), (2, .ref 25), (3, .int (nI i))] st sh M := by
  refine e_Laload_s C h0 rfl rfl ?_
  refine e_Liload C h1 rfl rfl ?_
  refine e_Liconst C h2 hn ?_
  refine e_Liadd C h3 ?_
  rw [nI_add]
  exact e_Lsld C h4 S hi hN0 k
