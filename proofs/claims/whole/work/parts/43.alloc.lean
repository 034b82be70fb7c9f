/-- a new place: all noughts -/
def zr (M : Mm) (k : Nat) : Mm := sD (sJ (sI M k (fun _ => 0)) k (fun _ => 0)) k (fun _ => 0)
theorem zr_I (M : Mm) (k : Nat) : gI (zr M k) k = fun _ => 0 := by unfold zr; rw [gI_sD, gI_sJ, gI_sI]
theorem zr_J (M : Mm) (k : Nat) : gJ (zr M k) k = fun _ => 0 := by unfold zr; rw [gJ_sD, gJ_sJ]
theorem zr_D (M : Mm) (k : Nat) : gD (zr M k) k = fun _ => 0 := by unfold zr; rw [gD_sD]
theorem zr_o (M : Mm) {k j : Nat} (h : j ≠ k) : gI (zr M k) j = gI M j ∧ gJ (zr M k) j = gJ M j ∧ gD (zr M k) j = gD M j := by
  unfold zr
  exact ⟨by rw [gI_sD, gI_sJ, gI_sI_ne _ _ h], by rw [gJ_sD, gJ_sJ_ne _ _ h, gJ_sI], by rw [gD_sD_ne _ _ h, gD_sJ, gD_sI]⟩
theorem Same.Z {ks : List Nat} {M M1 : Mm} {k : Nat} (h : Same ks M M1) (hk : k ∈ ks) : Same ks M (zr M1 k) := fun j hj => by
  have hne : j ≠ k := fun e => hj (e ▸ hk)
  have h1 := zr_o M1 hne
  have h2 := h j hj
  exact ⟨h1.1.trans h2.1, h1.2.1.trans h2.2.1, h1.2.2.trans h2.2.2⟩
theorem e_wl_app {ids : Id3} {z : Nat} {M M2 : Mm} {sh : List Sh} {a : Sh} (ho : ∀ j, j ≠ sh.length → gI M2 j = gI M j ∧ gJ M2 j = gJ M j ∧ gD M2 j = gD M j) : e_wl ids z M 0 sh ++ [(z + sh.length, e_ce ids z M2 sh.length a)] = e_wl ids z M2 0 (sh ++ [a]) := by
  apply e_wl_ext
  intro j
  have hl := e_wl_len ids z M sh 0
  rcases Nat.lt_trichotomy j sh.length with h | h | h
  · rw [List.getElem?_append_left (by omega), List.getElem?_append_left h, e_wl_get, Nat.zero_add]
    cases sh[j]? with
    | none => rfl
    | some b => simp only [Option.map_some]; rw [e_ce_eq (ho j (by omega)).1 (ho j (by omega)).2.1 (ho j (by omega)).2.2]
  · subst h
    rw [List.getElem?_append_right (by omega), List.getElem?_append_right (by omega), hl]
    simp
  · rw [List.getElem?_append_right (by omega), List.getElem?_append_right (by omega), hl]
    rw [List.getElem?_eq_none (by simp; omega), List.getElem?_eq_none (by simp; omega)]
    rfl
/-- the value of a new field by its kind -/
def dvk : Nat → Value
  | 0 => .int 0
  | 1 => .long 0
  | _ => .null
def Nw (own : String) (index ci : Nat) (fk : List Nat) (N : Nat) : Prop := ∃ (C : String) (T : u_T) (ty0 : Nat → FieldType), vwCl[ci]? = some (C, T, N) ∧ (∀ w ∈ u_ws C T N, w ∈ lw_g) ∧ (∀ k, k < N → parseFieldDescriptor (T k).2.2.1 = some (ty0 k)) ∧ Cond.classLink own index C ∈ lw_g ∧ Cond.instantiable C N ∈ lw_g ∧ Cond.initialized C ∈ lw_g ∧ ∀ j, j < N → j < fk.length ∧ fk.getD j 9 < 3 ∧ defaultValue (ty0 j) = dvk (fk.getD j 9)
theorem e_fsD {z : Nat} {M : Mm} {k : Nat} {fk : List Nat} {N : Nat} {ty0 : Nat → FieldType} (h1 : gI M k = fun _ => 0) (h2 : gJ M k = fun _ => 0) (h : ∀ j, j < N → j < fk.length ∧ fk.getD j 9 < 3 ∧ defaultValue (ty0 j) = dvk (fk.getD j 9)) : ∀ j, j < N → defaultValue (ty0 j) = vp_V (e_fs z M k 0 fk) j := by
  intro j hj
  obtain ⟨hjl, ha3, hd⟩ := h j hj
  obtain ⟨a, hae⟩ : ∃ a, a = fk.getD j 9 := ⟨_, rfl⟩
  have ha : fk[j]? = some a := by rw [hae, List.getD_eq_getElem?_getD, List.getElem?_eq_getElem hjl]; rfl
  rw [← hae] at ha3 hd
  rw [hd]
  unfold vp_V
  rw [List.getD_eq_getElem?_getD, e_fs_at ha]
  match a, ha3 with
  | 0, _ => simp [dvk, e_fv, h1]
  | 1, _ => simp [dvk, e_fv, h2]
  | 2, _ => simp [dvk, e_fv]
theorem e_newo {X : Ctx} {kn : Nat × Nat} {pc : Nat} {lv : List (Nat × Value)} {st : List Value} {sh : List Sh} {M : Mm} {cc : ByteArray} {own : String} {nL : Nat} {R : Room} {i ci N q : Nat} {fk : List Nat} {sh2 : List Sh} {kn2 : Nat × Nat} (C : Cx X cc own nL R) (hd : decode cc pc = .ok (.new i, 3)) (hf : Nw own i ci fk N) (hq : sh.length = q) (hsh : sh ++ [.inr (ci, fk)] = sh2) (hk2 : (kn.1 + 1, kn.2 + N) = kn2) (hkn : kn2.1 ≤ R.cells ∧ kn2.2 ≤ R.slots) (k : Wd X kn2 (pc + 3) lv (.ref q :: st) sh2 (zr M q)) : Wd X kn pc lv st sh M := by
  obtain ⟨p, l, e, R0, s, m, args, below, meth, c, Q, D, ids, z, n0⟩ := X
  obtain ⟨hx, hb, hml, hown, hts, hK, hN, hlocks, rfl, hz⟩ := C
  intro H locs ls hln hP hS hl
  obtain ⟨Cn, T, ty0, h1, h2, h3, h4, h5, h6, h7⟩ := hf
  subst hq hsh hk2
  refine e_sz hz hln hP (fun hH => ?_)
  have hKn := hK.1 ci _ h1
  refine W.newcK hx hb hown (hts _ h4) (hts _ h5) (hts _ h6) rfl hd hkn.1 hkn.2 hKn.2.1 hH fun H1 kC hkC e1 z1 o1 => ?_
  have hk9 : ∀ (k : Nat) (x : Nat × va_E), (e_wl ids z M 0 sh)[k]? = some x → H1[x.1]? = H[x.1]? := fun k x hx9 => o1 x.1 (by have := (hP k x hx9).lt; omega)
  have hP1 : va_P D vwCl (e_wl ids z M 0 sh ++ [(z + sh.length, e_ce ids z (zr M sh.length) sh.length (.inr (ci, fk)))]) H1 := (hP.kept hk9).app (fun k x hx9 => by
    have hz9 : k < 1 := (List.getElem?_eq_some_iff.mp hx9).1
    rw [show k = 0 by omega] at hx9
    cases hx9
    exact ⟨_, h1, (u_born ty0 hts h2 hKn hkC e1 h3).to (e_fsD (zr_I M _) (zr_J M _) h7)⟩)
  rw [e_wl_app (fun j hj => zr_o M hj)] at hP1
  have hS1 : va_S (fun q => z ≤ q) s.heap H1 locs := ⟨by have := hS.1; omega, fun x h8 h9 => (o1 x (by have := hS.1; omega)).trans (hS.2.1 x h8 h9), hS.2.2⟩
  exact k H1 locs ls (by rw [List.length_append, hln]; simp; omega) hP1 hS1 hl
theorem e_newaI {X : Ctx} {kn : Nat × Nat} {pc : Nat} {lv : List (Nat × Value)} {st : List Value} {sh : List Sh} {M : Mm} {cc : ByteArray} {own : String} {nL : Nat} {R : Room} {n q : Nat} {sh2 : List Sh} {kn2 : Nat × Nat} (C : Cx X cc own nL R) (hd : decode cc pc = .ok (.newarray .int, 2)) (hw : Cond.arrayClass .int ∈ lw_g) (hn : n < 2 ^ 26) (hq : sh.length = q) (hsh : sh ++ [.inl (0, n)] = sh2) (hk2 : (kn.1 + 1, kn.2 + n) = kn2) (hkn : kn2.1 ≤ R.cells ∧ kn2.2 ≤ R.slots) (k : Wd X kn2 (pc + 2) lv (.ref q :: st) sh2 (zr M q)) : Wd X kn pc lv (.int (nI n) :: st) sh M := by
  obtain ⟨p, l, e, R0, s, m, args, below, meth, c, Q, D, ids, z, n0⟩ := X
  obtain ⟨hx, hb, hml, hown, hts, hK, hN, hlocks, rfl, hz⟩ := C
  intro H locs ls hln hP hS hl
  subst hq hsh hk2
  refine e_sz hz hln hP (fun hH => ?_)
  have hby : n * componentBytes (newarray.typeOf .int) ≤ 536870912 := by
    have h9 : componentBytes (newarray.typeOf .int) ≤ 8 := by decide
    exact Nat.le_trans (Nat.mul_le_mul_left n h9) (by omega)
  refine va_newaK (atype := .int) hx hb (hts _ hw) rfl hd rfl (nI_pos (by omega)) (nI_clamp (by omega)) hby hkn.1 hkn.2 hH fun H1 cA e1 z1 o1 hAr hNm => ?_
  have hcA : cA = ids.1 := by
    have h8 : s.vm.findClass ("[" ++ FieldType.toString .int) = some ids.1 := (hK.2 0 _ rfl).2
    have h9 : s.vm.findClass ("[" ++ FieldType.toString .int) = some cA := hNm
    rw [h9] at h8; cases h8; rfl
  subst hcA
  have hk9 : ∀ (k : Nat) (x : Nat × va_E), (e_wl ids z M 0 sh)[k]? = some x → H1[x.1]? = H[x.1]? := fun k x hx9 => o1 x.1 (by have := (hP k x hx9).lt; omega)
  have hP1 : va_P D vwCl (e_wl ids z M 0 sh ++ [(z + sh.length, e_ce ids z (zr M sh.length) sh.length (.inl (0, n)))]) H1 := (hP.kept hk9).app (fun k x hx9 => by
    have hz9 : k < 1 := (List.getElem?_eq_some_iff.mp hx9).1
    rw [show k = 0 by omega] at hx9
    cases hx9
    show H1[z + sh.length]? = some (vp_cell _ _)
    simp only [e_ce, zr_I]
    exact e1)
  rw [e_wl_app (fun j hj => zr_o M hj)] at hP1
  have hS1 : va_S (fun q => z ≤ q) s.heap H1 locs := ⟨by have := hS.1; omega, fun x h8 h9 => (o1 x (by have := hS.1; omega)).trans (hS.2.1 x h8 h9), hS.2.2⟩
  exact k H1 locs ls (by rw [List.length_append, hln]; simp; omega) hP1 hS1 hl
theorem e_newaJ {X : Ctx} {kn : Nat × Nat} {pc : Nat} {lv : List (Nat × Value)} {st : List Value} {sh : List Sh} {M : Mm} {cc : ByteArray} {own : String} {nL : Nat} {R : Room} {n q : Nat} {sh2 : List Sh} {kn2 : Nat × Nat} (C : Cx X cc own nL R) (hd : decode cc pc = .ok (.newarray .long, 2)) (hw : Cond.arrayClass .long ∈ lw_g) (hn : n < 2 ^ 26) (hq : sh.length = q) (hsh : sh ++ [.inl (1, n)] = sh2) (hk2 : (kn.1 + 1, kn.2 + n) = kn2) (hkn : kn2.1 ≤ R.cells ∧ kn2.2 ≤ R.slots) (k : Wd X kn2 (pc + 2) lv (.ref q :: st) sh2 (zr M q)) : Wd X kn pc lv (.int (nI n) :: st) sh M := by
  obtain ⟨p, l, e, R0, s, m, args, below, meth, c, Q, D, ids, z, n0⟩ := X
  obtain ⟨hx, hb, hml, hown, hts, hK, hN, hlocks, rfl, hz⟩ := C
  intro H locs ls hln hP hS hl
  subst hq hsh hk2
  refine e_sz hz hln hP (fun hH => ?_)
  have hby : n * componentBytes (newarray.typeOf .long) ≤ 536870912 := by
    have h9 : componentBytes (newarray.typeOf .long) ≤ 8 := by decide
    exact Nat.le_trans (Nat.mul_le_mul_left n h9) (by omega)
  refine va_newaK (atype := .long) hx hb (hts _ hw) rfl hd rfl (nI_pos (by omega)) (nI_clamp (by omega)) hby hkn.1 hkn.2 hH fun H1 cA e1 z1 o1 hAr hNm => ?_
  have hcA : cA = ids.2.1 := by
    have h8 : s.vm.findClass ("[" ++ FieldType.toString .long) = some ids.2.1 := (hK.2 1 _ rfl).2
    have h9 : s.vm.findClass ("[" ++ FieldType.toString .long) = some cA := hNm
    rw [h9] at h8; cases h8; rfl
  subst hcA
  have hk9 : ∀ (k : Nat) (x : Nat × va_E), (e_wl ids z M 0 sh)[k]? = some x → H1[x.1]? = H[x.1]? := fun k x hx9 => o1 x.1 (by have := (hP k x hx9).lt; omega)
  have hP1 : va_P D vwCl (e_wl ids z M 0 sh ++ [(z + sh.length, e_ce ids z (zr M sh.length) sh.length (.inl (1, n)))]) H1 := (hP.kept hk9).app (fun k x hx9 => by
    have hz9 : k < 1 := (List.getElem?_eq_some_iff.mp hx9).1
    rw [show k = 0 by omega] at hx9
    cases hx9
    show H1[z + sh.length]? = some (vp_cell _ _)
    simp only [e_ce, zr_J]
    exact e1)
  rw [e_wl_app (fun j hj => zr_o M hj)] at hP1
  have hS1 : va_S (fun q => z ≤ q) s.heap H1 locs := ⟨by have := hS.1; omega, fun x h8 h9 => (o1 x (by have := hS.1; omega)).trans (hS.2.1 x h8 h9), hS.2.2⟩
  exact k H1 locs ls (by rw [List.length_append, hln]; simp; omega) hP1 hS1 hl
theorem e_newaD {X : Ctx} {kn : Nat × Nat} {pc : Nat} {lv : List (Nat × Value)} {st : List Value} {sh : List Sh} {M : Mm} {cc : ByteArray} {own : String} {nL : Nat} {R : Room} {n q : Nat} {sh2 : List Sh} {kn2 : Nat × Nat} (C : Cx X cc own nL R) (hd : decode cc pc = .ok (.newarray .double, 2)) (hw : Cond.arrayClass .double ∈ lw_g) (hn : n < 2 ^ 26) (hq : sh.length = q) (hsh : sh ++ [.inl (2, n)] = sh2) (hk2 : (kn.1 + 1, kn.2 + n) = kn2) (hkn : kn2.1 ≤ R.cells ∧ kn2.2 ≤ R.slots) (k : Wd X kn2 (pc + 2) lv (.ref q :: st) sh2 (zr M q)) : Wd X kn pc lv (.int (nI n) :: st) sh M := by
  obtain ⟨p, l, e, R0, s, m, args, below, meth, c, Q, D, ids, z, n0⟩ := X
  obtain ⟨hx, hb, hml, hown, hts, hK, hN, hlocks, rfl, hz⟩ := C
  intro H locs ls hln hP hS hl
  subst hq hsh hk2
  refine e_sz hz hln hP (fun hH => ?_)
  have hby : n * componentBytes (newarray.typeOf .double) ≤ 536870912 := by
    have h9 : componentBytes (newarray.typeOf .double) ≤ 8 := by decide
    exact Nat.le_trans (Nat.mul_le_mul_left n h9) (by omega)
  refine va_newaK (atype := .double) hx hb (hts _ hw) rfl hd rfl (nI_pos (by omega)) (nI_clamp (by omega)) hby hkn.1 hkn.2 hH fun H1 cA e1 z1 o1 hAr hNm => ?_
  have hcA : cA = ids.2.2 := by
    have h8 : s.vm.findClass ("[" ++ FieldType.toString .double) = some ids.2.2 := (hK.2 2 _ rfl).2
    have h9 : s.vm.findClass ("[" ++ FieldType.toString .double) = some cA := hNm
    rw [h9] at h8; cases h8; rfl
  subst hcA
  have hk9 : ∀ (k : Nat) (x : Nat × va_E), (e_wl ids z M 0 sh)[k]? = some x → H1[x.1]? = H[x.1]? := fun k x hx9 => o1 x.1 (by have := (hP k x hx9).lt; omega)
  have hP1 : va_P D vwCl (e_wl ids z M 0 sh ++ [(z + sh.length, e_ce ids z (zr M sh.length) sh.length (.inl (2, n)))]) H1 := (hP.kept hk9).app (fun k x hx9 => by
    have hz9 : k < 1 := (List.getElem?_eq_some_iff.mp hx9).1
    rw [show k = 0 by omega] at hx9
    cases hx9
    show H1[z + sh.length]? = some (vp_cell _ _)
    simp only [e_ce, zr_D]
    exact e1)
  rw [e_wl_app (fun j hj => zr_o M hj)] at hP1
  have hS1 : va_S (fun q => z ≤ q) s.heap H1 locs := ⟨by have := hS.1; omega, fun x h8 h9 => (o1 x (by have := hS.1; omega)).trans (hS.2.1 x h8 h9), hS.2.2⟩
  exact k H1 locs ls (by rw [List.length_append, hln]; simp; omega) hP1 hS1 hl
theorem e_oini {X : Ctx} {kn : Nat × Nat} {pc : Nat} {lv : List (Nat × Value)} {st : List Value} {sh : List Sh} {M : Mm} {cc : ByteArray} {own : String} {nL : Nat} {R : Room} {i q : Nat} (C : Cx X cc own nL R) (hd : decode cc pc = .ok (.invokespecial i, 3)) (hw : Cond.methodLink own i Lib.objectInit ∈ lw_g) (hw2 : Cond.instanceMethod Lib.objectInit ∈ lw_g) (hw3 : Cond.code Lib.objectInit ⟨#[0xb1]⟩ 1 none ∈ lw_g) (hrest : (st.map (fun v => v.category)).sum ≤ 8) (hR : 1 ≤ R.frames ∧ 20 ≤ R.locals) (k : Wd X kn (pc + 3) lv st sh M) : Wd X kn pc lv (.ref q :: st) sh M := by
  obtain ⟨p, l, e, R0, s, m, args, below, meth, c, Q, D, ids, z, n0⟩ := X
  obtain ⟨hx, hb, hml, hown, hts, hK, hN, hlocks, rfl, hz⟩ := C
  intro H locs ls hln hP hS hl
  have h9 : 2 * (F0 m pc ls ((.ref q :: st).map (tr z))).monitorRoom + ((st.map (tr z)).map fun v => v.category).sum ≤ 8 := lv_room (by rw [e_cats]; exact hrest)
  refine W.objInit hx hb hown (hts _ hw) (hts _ hw2) (hts _ hw3) rfl hl.1 rfl hd hR.1 (by omega) ?_
  exact k H locs ls hln hP hS hl
theorem e_callI {X : Ctx} {kn : Nat × Nat} {pc : Nat} {lv : List (Nat × Value)} {st : List Value} {sh : List Sh} {M : Mm} {cc : ByteArray} {own : String} {nL : Nat} {R : Room} {mi : Mi} {i b : Nat} {F : Mm → Prop} {sh2 : List Sh} {kn2 : Nat × Nat} (C : Cx X cc own nL R) (hd : decode cc pc = .ok (.invokespecial i, 3)) (hM : CT mi [.ref b] sh M (Qv sh2 F)) (hok : Ok mi 0) (hlk : Li own i mi.1) (hy1 : mi.1.name = "<init>") (hr1 : mi.2.2.2.1 = none) (hroom : mi.2.2.2.2.frames + 1 ≤ R.frames ∧ 8 + (mi.2.2.1 + 11) + mi.2.2.2.2.locals ≤ R.locals) (hrest : (st.map (fun v => v.category)).sum ≤ 8) (hk2 : (kn.1 + mi.2.2.2.2.cells, kn.2 + mi.2.2.2.2.slots) = kn2) (hkn : kn2.1 ≤ R.cells ∧ kn2.2 ≤ R.slots) (hlen : sh2.length = sh.length + mi.2.2.2.2.cells) (k : ∀ M2, F M2 → Wd X kn2 (pc + 3) lv st sh2 M2) : Wd X kn pc lv (.ref b :: st) sh M := by
  subst hk2
  refine e_callI_gen (As := []) (rest := st) C hd hM hok hlk hy1 hr1 hroom hrest hkn ?_ ?_
  · rintro v sh3 M3 ⟨rfl, rfl, hF⟩; exact hlen
  · rintro v sh3 M3 ⟨rfl, rfl, hF⟩; exact k M3 hF
/-- a constructor's contract out of a walk -/
theorem CT.mkI {y : MethodName} {cc : ByteArray} {nL : Nat} {ret : Option FieldType} {rm : Room} {av : List Value} {sh : List Sh} {M : Mm} {post : Option Value → List Sh → Mm → Prop} {lv : List (Nat × Value)}
    (hlv : lv_args 0 av = lv) (hy : plainName y.cls = true) (hi : y.name = "<init>") (hn : (av.map (fun v => v.category)).sum ≤ nL) (h : ∀ X : Ctx, Cx X cc y.cls nL rm → Rt X ret rm post → e_ini X → Wd X (0, 0) 0 lv [] sh M) : CT (y, cc, nL, ret, rm) av sh M post := by
  intro l D ids z
  refine Met.ofW (cc := cc) (maxL := nL) (ret := ret) hy rfl ?_
  intro p e s m args below meth c s₁ B hml hv
  obtain ⟨rfl, hsz, hP, hK, hN⟩ := hv
  have hts := atoms_spec (ws := Cond.code y cc nL ret :: lw_g) B.pre
  have hts2 : ∀ w ∈ lw_g, w.before _ s = true := fun w h => hts w (List.mem_cons_of_mem _ h)
  have hown : s.vm.findClass y.cls = some m.cls := findClass_of_methodNamed B.named
  have hin : meth.name = "<init>" := ((name_of_methodNamed B.named B.method).1).trans hi
  have hl := lv_entry (av.map (tr z)) (n := nL) (by rw [e_sl]; exact hn)
  rw [lg_entry_eq]
  rw [e_args, hlv] at hl
  have K := h (p, l, e, rm, s, m, (av.map (tr z)).toArray, below, meth, c, MQ below (e_Qc D ids z post) (av.map (tr z)).toArray s rm.cells rm.slots (fun q => z ≤ q), D, ids, z, sh.length) ⟨B.exec, B.bytes, hml, hown, hts2, hK, hN, B.notSynchronized, rfl, hsz⟩ ⟨B.returns, rfl⟩ hin
  exact K s.heap [] _ rfl hP va_S.rf (by rw [hml]; exact hl)
