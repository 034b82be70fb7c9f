/-! THE MEMORY AS NUMBERS. All cells of the run lie one behind the other from the address z on: place k at z + k. -/
abbrev Mm : Type := (Nat → Nat → Int32) × (Nat → Nat → Int64) × (Nat → Nat → UInt64)
def gI (M : Mm) (k : Nat) : Nat → Int32 := M.1 k
def gJ (M : Mm) (k : Nat) : Nat → Int64 := M.2.1 k
def gD (M : Mm) (k : Nat) : Nat → UInt64 := M.2.2 k
def sI (M : Mm) (k : Nat) (f : Nat → Int32) : Mm := (va_up M.1 k f, M.2.1, M.2.2)
def sJ (M : Mm) (k : Nat) (f : Nat → Int64) : Mm := (M.1, va_up M.2.1 k f, M.2.2)
def sD (M : Mm) (k : Nat) (f : Nat → UInt64) : Mm := (M.1, M.2.1, va_up M.2.2 k f)
theorem gI_sI (M : Mm) (k : Nat) (f : Nat → Int32) : gI (sI M k f) k = f := by simp [gI, sI, va_up]
theorem gI_sI_ne (M : Mm) {k j : Nat} (f : Nat → Int32) (h : j ≠ k) : gI (sI M k f) j = gI M j := by simp [gI, sI, va_up, h]
theorem gJ_sJ (M : Mm) (k : Nat) (f : Nat → Int64) : gJ (sJ M k f) k = f := by simp [gJ, sJ, va_up]
theorem gJ_sJ_ne (M : Mm) {k j : Nat} (f : Nat → Int64) (h : j ≠ k) : gJ (sJ M k f) j = gJ M j := by simp [gJ, sJ, va_up, h]
theorem gD_sD (M : Mm) (k : Nat) (f : Nat → UInt64) : gD (sD M k f) k = f := by simp [gD, sD, va_up]
theorem gD_sD_ne (M : Mm) {k j : Nat} (f : Nat → UInt64) (h : j ≠ k) : gD (sD M k f) j = gD M j := by simp [gD, sD, va_up, h]
theorem gI_sJ (M : Mm) (k : Nat) (f : Nat → Int64) (j : Nat) : gI (sJ M k f) j = gI M j := rfl
theorem gI_sD (M : Mm) (k : Nat) (f : Nat → UInt64) (j : Nat) : gI (sD M k f) j = gI M j := rfl
theorem gJ_sI (M : Mm) (k : Nat) (f : Nat → Int32) (j : Nat) : gJ (sI M k f) j = gJ M j := rfl
theorem gJ_sD (M : Mm) (k : Nat) (f : Nat → UInt64) (j : Nat) : gJ (sD M k f) j = gJ M j := rfl
theorem gD_sI (M : Mm) (k : Nat) (f : Nat → Int32) (j : Nat) : gD (sI M k f) j = gD M j := rfl
theorem gD_sJ (M : Mm) (k : Nat) (f : Nat → Int64) (j : Nat) : gD (sJ M k f) j = gD M j := rfl
/-- a place: an array (0 int, 1 long, 2 double; its length), or an object (the number of its kind, what its fields are: 0 int, 1 long, 2 null, q + 3 the place q) -/
abbrev Sh : Type := (Nat × Nat) ⊕ (Nat × List Nat)
abbrev Id3 : Type := ClassId × ClassId × ClassId
def e_fv (z : Nat) (M : Mm) (k j : Nat) : Nat → Value
  | 0 => .int (gI M k j)
  | 1 => .long (gJ M k j)
  | 2 => .null
  | q + 3 => .ref (z + q)
def e_fs (z : Nat) (M : Mm) (k : Nat) : Nat → List Nat → List Value
  | _, [] => []
  | j, a :: r => e_fv z M k j a :: e_fs z M k (j + 1) r
def e_ce (ids : Id3) (z : Nat) (M : Mm) (k : Nat) : Sh → va_E
  | .inl (0, n) => .inl (ids.1, n, .inl (gI M k))
  | .inl (1, n) => .inl (ids.2.1, n, .inr (.inl (gJ M k)))
  | .inl (_, n) => .inl (ids.2.2, n, .inr (.inr (.inr (.inl (gD M k)))))
  | .inr (ci, fk) => .inr (ci, e_fs z M k 0 fk)
def e_wl (ids : Id3) (z : Nat) (M : Mm) : Nat → List Sh → va_W
  | _, [] => []
  | k, a :: r => (z + k, e_ce ids z M k a) :: e_wl ids z M (k + 1) r
theorem e_wl_len (ids : Id3) (z : Nat) (M : Mm) : ∀ (sh : List Sh) (b : Nat), (e_wl ids z M b sh).length = sh.length
  | [], _ => rfl
  | _ :: r, b => by simp [e_wl, e_wl_len ids z M r (b + 1)]
theorem e_wl_get (ids : Id3) (z : Nat) (M : Mm) : ∀ (sh : List Sh) (b k : Nat), (e_wl ids z M b sh)[k]? = (sh[k]?).map (fun a => (z + (b + k), e_ce ids z M (b + k) a))
  | [], _, _ => by simp [e_wl]
  | a :: r, b, 0 => by simp [e_wl]
  | a :: r, b, k + 1 => by
    simp only [e_wl, List.getElem?_cons_succ]
    rw [e_wl_get ids z M r (b + 1) k, show b + 1 + k = b + (k + 1) by omega]
theorem e_wl_at {ids : Id3} {z : Nat} {M : Mm} {sh : List Sh} {k : Nat} {a : Sh} (h : sh[k]? = some a) : (e_wl ids z M 0 sh)[k]? = some (z + k, e_ce ids z M k a) := by
  rw [e_wl_get, h, Nat.zero_add]; rfl
theorem e_fs_eq {z : Nat} {M M' : Mm} {k : Nat} (h1 : gI M' k = gI M k) (h2 : gJ M' k = gJ M k) : ∀ (fk : List Nat) (j : Nat), e_fs z M' k j fk = e_fs z M k j fk
  | [], _ => rfl
  | a :: r, j => by
    have h3 : e_fv z M' k j a = e_fv z M k j a := by
      match a with
      | 0 => simp only [e_fv, h1]
      | 1 => simp only [e_fv, h2]
      | 2 => rfl
      | q + 3 => rfl
    simp only [e_fs, h3, e_fs_eq h1 h2 r (j + 1)]
theorem e_ce_eq {ids : Id3} {z : Nat} {M M' : Mm} {k : Nat} (h1 : gI M' k = gI M k) (h2 : gJ M' k = gJ M k) (h3 : gD M' k = gD M k) (a : Sh) : e_ce ids z M' k a = e_ce ids z M k a := by
  match a with
  | .inl (0, n) => simp only [e_ce, h1]
  | .inl (1, n) => simp only [e_ce, h2]
  | .inl (n + 2, m) => simp only [e_ce, h3]
  | .inr (ci, fk) => simp only [e_ce, e_fs_eq h1 h2]
theorem e_wl_ext {ids : Id3} {z : Nat} {M : Mm} {sh : List Sh} {w : va_W} (h : ∀ k, w[k]? = (sh[k]?).map (fun a => (z + k, e_ce ids z M k a))) : w = e_wl ids z M 0 sh := by
  apply List.ext_getElem?
  intro k
  rw [h k, e_wl_get]
  simp
theorem e_wl_set {ids : Id3} {z : Nat} {M M' : Mm} {sh : List Sh} {k : Nat} {a' : Sh} (ho : ∀ j, j ≠ k → gI M' j = gI M j ∧ gJ M' j = gJ M j ∧ gD M' j = gD M j) : (e_wl ids z M 0 sh).set k (z + k, e_ce ids z M' k a') = e_wl ids z M' 0 (sh.set k a') := by
  apply e_wl_ext
  intro j
  by_cases hj : j = k
  · subst hj
    by_cases hl : j < sh.length
    · rw [List.getElem?_set_self (by rw [e_wl_len]; exact hl), List.getElem?_set_self hl]; rfl
    · rw [List.getElem?_eq_none (by rw [List.length_set, e_wl_len]; omega), List.getElem?_eq_none (by rw [List.length_set]; omega)]; rfl
  · rw [List.getElem?_set_ne (Ne.symm hj), List.getElem?_set_ne (Ne.symm hj), e_wl_get, Nat.zero_add]
    cases sh[j]? with
    | none => rfl
    | some a => simp only [Option.map_some]; rw [e_ce_eq (ho j hj).1 (ho j hj).2.1 (ho j hj).2.2]
theorem e_set_same {sh : List Sh} {k : Nat} {a : Sh} (h : sh[k]? = some a) : sh.set k a = sh := by
  apply List.ext_getElem?
  intro j
  by_cases hj : j = k
  · subst hj
    rw [List.getElem?_set_self (List.getElem?_eq_some_iff.mp h).1, h]
  · rw [List.getElem?_set_ne (Ne.symm hj)]
theorem e_D (ids : Id3) (z : Nat) (M : Mm) (sh : List Sh) : va_D (fun q => z ≤ q) (e_wl ids z M 0 sh) := by
  refine ⟨fun i j p q hi hj h => ?_, fun k q hk => ?_⟩
  · rw [e_wl_get] at hi hj
    cases h1 : sh[i]? with
    | none => rw [h1] at hi; cases hi
    | some a =>
      cases h2 : sh[j]? with
      | none => rw [h2] at hj; cases hj
      | some b =>
        rw [h1] at hi; rw [h2] at hj
        simp only [Option.map_some, Option.some.injEq] at hi hj
        rw [← hi, ← hj] at h
        simp only at h
        omega
  · rw [e_wl_get] at hk
    cases h1 : sh[k]? with
    | none => rw [h1] at hk; cases hk
    | some a =>
      rw [h1] at hk
      simp only [Option.map_some, Option.some.injEq] at hk
      rw [← hk]
      show z ≤ z + (0 + k)
      omega
def tr (z : Nat) : Value → Value
  | .ref q => .ref (z + q)
  | v => v
theorem tr_cat (z : Nat) (v : Value) : (tr z v).category = v.category := by cases v <;> rfl
def trL (z : Nat) (lv : List (Nat × Value)) : List (Nat × Value) := lv.map (fun q => (q.1, tr z q.2))
def lk : List (Nat × Value) → Nat → Option Value
  | [], _ => none
  | q :: r, i => bif q.1 == i then some q.2 else lk r i
theorem lk_mem {i : Nat} {v : Value} : ∀ {lv : List (Nat × Value)}, lk lv i = some v → (i, v) ∈ lv
  | [], h => by cases h
  | q :: r, h => by
    unfold lk at h
    cases hq : q.1 == i with
    | true =>
      rw [hq] at h
      simp only [cond_true, Option.some.injEq] at h
      have h1 : q.1 = i := by simpa using hq
      rw [← h, ← h1]; exact List.mem_cons_self
    | false => rw [hq] at h; exact List.mem_cons_of_mem _ (lk_mem h)
theorem lk_at {z : Nat} {ls : Array Slot} {n i : Nat} {lv : List (Nat × Value)} {v : Value} (hl : lv_has ls n (trL z lv)) (h : lk lv i = some v) : ls[i]? = some (.val (tr z v)) := hl.2.2 (i, tr z v) (List.mem_map.mpr ⟨(i, v), lk_mem h, rfl⟩)
theorem lk_pos {z : Nat} {i : Nat} {lv : List (Nat × Value)} {v : Value} (h : lk lv i = some v) : ∃ k : Nat, (trL z lv)[k]? = some (i, tr z v) := List.mem_iff_getElem?.mp (List.mem_map.mpr ⟨(i, v), lk_mem h, rfl⟩)
def st1 (lv : List (Nat × Value)) (i : Nat) (v : Value) : List (Nat × Value) := (i, v) :: lv.filter (fun q => !(q.1 == i) && !(q.1 + 1 == i && q.2.category == 2))
def st2 (lv : List (Nat × Value)) (i : Nat) (v : Value) : List (Nat × Value) := (i, v) :: lv.filter (fun q => !(q.1 == i) && (!(q.1 == i + 1) && !(q.1 + 1 == i && q.2.category == 2)))
theorem st1_tr (z : Nat) (lv : List (Nat × Value)) (i : Nat) (v : Value) : (i, tr z v) :: (trL z lv).filter (fun q => !(q.1 == i) && !(q.1 + 1 == i && q.2.category == 2)) = trL z (st1 lv i v) := by
  simp only [trL, st1, List.map_cons, List.filter_map]
  congr 3
  funext q
  simp only [Function.comp, tr_cat]
theorem st2_tr (z : Nat) (lv : List (Nat × Value)) (i : Nat) (v : Value) : (i, tr z v) :: (trL z lv).filter (fun q => !(q.1 == i) && (!(q.1 == i + 1) && !(q.1 + 1 == i && q.2.category == 2))) = trL z (st2 lv i v) := by
  simp only [trL, st2, List.map_cons, List.filter_map]
  congr 3
  funext q
  simp only [Function.comp, tr_cat]
def isNest : Cond → Bool
  | .fieldLinkNest .. => true
  | .methodLinkNest .. => true
  | _ => false
/-- the tables' words that every state keeps, and those of nest mates, which are handed on -/
def lw_g : List Cond := lw_tbl.filter goodWord
def lw_n : List Cond := lw_tbl.filter isNest
def Nst (U : State) : Prop := ∀ w ∈ lw_n, va_Nw w U
theorem isNest_tab {w : Cond} (h : isNest w = true) : w.onTables = true := by
  cases w <;> first | rfl | (simp [isNest] at h)
theorem Nst.warm {s U : State} (hW : s.WarmedH U.vm) (h : Nst s) : Nst U := fun w hw => by
  have h1 := h w hw
  have h2 : isNest w = true := (List.mem_filter.mp hw).2
  cases w <;> first | exact va_Nw.warmF hW h1 | exact va_Nw.warmM hW h1 | (simp [isNest] at h2)
theorem Nst.same {s U : State} (hv : s.vm = U.vm) (h : Nst s) : Nst U := fun w hw => va_Nw.same (isNest_tab (List.mem_filter.mp hw).2) hv (h w hw)
theorem e_memg {w : Cond} (i : Nat) (h : lw_tbl[i]? = some w) (hg : goodWord w = true) : w ∈ lw_g := List.mem_filter.mpr ⟨List.mem_of_getElem? h, hg⟩
theorem e_memn {w : Cond} (i : Nat) (h : lw_tbl[i]? = some w) (hg : isNest w = true) : w ∈ lw_n := List.mem_filter.mpr ⟨List.mem_of_getElem? h, hg⟩
abbrev e_ty (ids : Id3) : List (ClassId × FieldType) := [(ids.1, .int), (ids.2.1, .long), (ids.2.2, .double)]
abbrev Ctx : Type := Program × Launch × Env × Room × State × MethodId × Array Value × List Frame × Method × Code × (State → Prop) × va_G × Id3 × Nat × Nat
/-- the judgement: at pc, with these locals, this stack, these places and this memory the machine comes to its end as the context asks -/
def Wd (X : Ctx) (kn : Nat × Nat) (pc : Nat) (lv : List (Nat × Value)) (st : List Value) (sh : List Sh) (M : Mm) : Prop :=
  match X with
  | (p, l, e, R, s, m, args, below, meth, c, Q, D, ids, z, n0) => ∀ (H : Heap) (locs : List Loc) (ls : Array Slot), sh.length = n0 + kn.1 → va_P D vwCl (e_wl ids z M 0 sh) H → va_S (fun q => z ≤ q) s.heap H locs → lv_has ls c.maxLocals (trL z lv) → W p l e R s m args below meth c H locs kn.1 kn.2 Q (F0 m pc ls (st.map (tr z)))
/-- what stands of a context: its code, its own class, how many locals, its room -/
def Cx (X : Ctx) (cc : ByteArray) (own : String) (nL : Nat) (R0 : Room) : Prop :=
  match X with
  | (p, l, e, R, s, m, args, below, meth, c, Q, D, ids, z, n0) => p.tables.exec = Jvm.exec ∧ c.code = cc ∧ c.maxLocals = nL ∧ s.vm.findClass own = some m.cls ∧ (∀ w ∈ lw_g, w.before args s = true) ∧ va_K D vwCl (e_ty ids) s ∧ Nst s ∧ meth.locks = false ∧ R = R0 ∧ s.heap.size = z + n0
def e_Qc (D : va_G) (ids : Id3) (z : Nat) (post : Option Value → List Sh → Mm → Prop) : Array Value → State → Outcome → State → Prop := fun _ st oc t =>
  (∃ (v : Option Value) (sh : List Sh) (M : Mm), oc = .returned (v.map (tr z)) ∧ post v sh M ∧ t.heap.size = z + sh.length ∧ va_P D vwCl (e_wl ids z M 0 sh) t.heap) ∧ va_F (fun q => z ≤ q) st t
/-- how a context's method returns -/
def Rt (X : Ctx) (ret : Option FieldType) (rm : Room) (post : Option Value → List Sh → Mm → Prop) : Prop :=
  match X with
  | (p, l, e, R, s, m, args, below, meth, c, Q, D, ids, z, n0) => meth.sig.returnType = ret ∧ Q = MQ below (e_Qc D ids z post) args s rm.cells rm.slots (fun q => z ≤ q)
abbrev Mi : Type := MethodName × ByteArray × Nat × Option FieldType × Room
/-- a method's contract -/
def CT (mi : Mi) (av : List Value) (sh : List Sh) (M : Mm) (post : Option Value → List Sh → Mm → Prop) : Prop :=
  ∀ (l : Launch) (D : va_G) (ids : Id3) (z : Nat), Met l mi.1 (.code mi.1 mi.2.1 mi.2.2.1 mi.2.2.2.1 :: lw_g) mi.2.2.2.2 (va_Pc (av.map (tr z)) (fun U => U.heap.size = z + sh.length ∧ va_P D vwCl (e_wl ids z M 0 sh) U.heap ∧ va_K D vwCl (e_ty ids) U ∧ Nst U)) (e_Qc D ids z post) mi.2.2.2.2.cells mi.2.2.2.2.slots (fun q => z ≤ q)
theorem e_args (z : Nat) : ∀ (vs : List Value) (i : Nat), lv_args i (vs.map (tr z)) = trL z (lv_args i vs)
  | [], _ => rfl
  | v :: vs, i => by
    simp only [List.map_cons, lv_args, trL, tr_cat]
    rw [e_args z vs]; rfl
theorem e_sl (z : Nat) : ∀ (vs : List Value), (lg_sl (vs.map (tr z))).length = (vs.map (fun v => v.category)).sum
  | [] => rfl
  | v :: vs => by
    have h := e_sl z vs
    simp only [lg_sl, List.map_cons, List.flatMap_cons, List.length_append, List.sum_cons] at h ⊢
    rw [h]
    cases v <;> simp [tr, Value.category]
/-- a contract out of a walk -/
theorem CT.mk {y : MethodName} {cc : ByteArray} {nL : Nat} {ret : Option FieldType} {rm : Room} {av : List Value} {sh : List Sh} {M : Mm} {post : Option Value → List Sh → Mm → Prop} {lv : List (Nat × Value)}
    (hlv : lv_args 0 av = lv) (hy : plainName y.cls = true) (hn : (av.map (fun v => v.category)).sum ≤ nL) (h : ∀ X : Ctx, Cx X cc y.cls nL rm → Rt X ret rm post → Wd X (0, 0) 0 lv [] sh M) : CT (y, cc, nL, ret, rm) av sh M post := by
  intro l D ids z
  refine Met.ofW (cc := cc) (maxL := nL) (ret := ret) hy rfl ?_
  intro p e s m args below meth c s₁ B hml hv
  obtain ⟨rfl, hsz, hP, hK, hN⟩ := hv
  have hts := atoms_spec (ws := Cond.code y cc nL ret :: lw_g) B.pre
  have hts2 : ∀ w ∈ lw_g, w.before _ s = true := fun w h => hts w (List.mem_cons_of_mem _ h)
  have hown : s.vm.findClass y.cls = some m.cls := findClass_of_methodNamed B.named
  have hl := lv_entry (av.map (tr z)) (n := nL) (by rw [e_sl]; exact hn)
  rw [lg_entry_eq]
  rw [e_args, hlv] at hl
  have K := h (p, l, e, rm, s, m, (av.map (tr z)).toArray, below, meth, c, MQ below (e_Qc D ids z post) (av.map (tr z)).toArray s rm.cells rm.slots (fun q => z ≤ q), D, ids, z, sh.length) ⟨B.exec, B.bytes, hml, hown, hts2, hK, hN, B.notSynchronized, rfl, hsz⟩ ⟨B.returns, rfl⟩
  exact K s.heap [] _ rfl hP va_S.rf (by rw [hml]; exact hl)
theorem CT.weaken {mi : Mi} {av : List Value} {sh : List Sh} {M : Mm} {post post' : Option Value → List Sh → Mm → Prop} (h : CT mi av sh M post) (hp : ∀ v sh' M', post v sh' M' → post' v sh' M') : CT mi av sh M post' := by
  intro l D ids z p e ha hc hk s m args below hf hb hP hT
  obtain ⟨k, o, h1, h2, h3, h4, h5⟩ := h l D ids z p e ha hc hk s m args below hf hb hP hT
  obtain ⟨⟨v, sh', M', e1, e2, e3⟩, e4⟩ := h4
  exact ⟨k, o, h1, h2, h3, ⟨⟨v, sh', M', e1, hp _ _ _ e2, e3⟩, e4⟩, h5⟩

theorem e_aload_n {X : Ctx} {kn : Nat × Nat} {pc : Nat} {lv : List (Nat × Value)} {st : List Value} {sh : List Sh} {M : Mm} {cc : ByteArray} {own : String} {nL : Nat} {R : Room} {j : Fin 4} {i : Nat} {x : Nat} (C : Cx X cc own nL R) (hd : decode cc pc = .ok (.aload_n j, 1)) (hi : (j : Nat) = i) (hv : lk lv i = some (.ref x)) (k : Wd X kn (pc + 1) lv (.ref x :: st) sh (M)) : Wd X kn pc lv (st) sh M := by
  obtain ⟨p, l, e, R0, s, m, args, below, meth, c, Q, D, ids, z, n0⟩ := X
  obtain ⟨hx, hb, hml, hown, hts, hK, hN, hlocks, rfl, hz⟩ := C
  intro H locs ls hln hP hS hl
  exact lv_aload_n hx hb hd hi (lk_at hl hv) (k H locs ls hln hP hS hl)
theorem e_aload {X : Ctx} {kn : Nat × Nat} {pc : Nat} {lv : List (Nat × Value)} {st : List Value} {sh : List Sh} {M : Mm} {cc : ByteArray} {own : String} {nL : Nat} {R : Room} {i : Nat} {x : Nat} (C : Cx X cc own nL R) (hd : decode cc pc = .ok (.aload i, 2)) (hv : lk lv i = some (.ref x)) (k : Wd X kn (pc + 2) lv (.ref x :: st) sh (M)) : Wd X kn pc lv (st) sh M := by
  obtain ⟨p, l, e, R0, s, m, args, below, meth, c, Q, D, ids, z, n0⟩ := X
  obtain ⟨hx, hb, hml, hown, hts, hK, hN, hlocks, rfl, hz⟩ := C
  intro H locs ls hln hP hS hl
  exact lv_aload hx hb hd (lk_at hl hv) (k H locs ls hln hP hS hl)
theorem e_astore_n {X : Ctx} {kn : Nat × Nat} {pc : Nat} {lv : List (Nat × Value)} {st : List Value} {sh : List Sh} {M : Mm} {cc : ByteArray} {own : String} {nL : Nat} {R : Room} {j : Fin 4} {i : Nat} {x : Nat} {lv2 : List (Nat × Value)} (C : Cx X cc own nL R) (hd : decode cc pc = .ok (.astore_n j, 1)) (hi : (j : Nat) = i) (hn : i < nL) (hl2 : st1 lv i (.ref x) = lv2) (k : Wd X kn (pc + 1) lv2 (st) sh (M)) : Wd X kn pc lv (.ref x :: st) sh M := by
  obtain ⟨p, l, e, R0, s, m, args, below, meth, c, Q, D, ids, z, n0⟩ := X
  obtain ⟨hx, hb, hml, hown, hts, hK, hN, hlocks, rfl, hz⟩ := C
  intro H locs ls hln hP hS hl
  subst hi
  exact lv_astore_n (lv' := trL z lv2) hx hb hd rfl hl (by rw [hml]; exact hn) (by rw [← hl2]; exact st1_tr z lv _ (.ref x)) (fun ls2 hl3 => k H locs ls2 hln hP hS hl3)
theorem e_astore {X : Ctx} {kn : Nat × Nat} {pc : Nat} {lv : List (Nat × Value)} {st : List Value} {sh : List Sh} {M : Mm} {cc : ByteArray} {own : String} {nL : Nat} {R : Room} {i : Nat} {x : Nat} {lv2 : List (Nat × Value)} (C : Cx X cc own nL R) (hd : decode cc pc = .ok (.astore i, 2)) (hn : i < nL) (hl2 : st1 lv i (.ref x) = lv2) (k : Wd X kn (pc + 2) lv2 (st) sh (M)) : Wd X kn pc lv (.ref x :: st) sh M := by
  obtain ⟨p, l, e, R0, s, m, args, below, meth, c, Q, D, ids, z, n0⟩ := X
  obtain ⟨hx, hb, hml, hown, hts, hK, hN, hlocks, rfl, hz⟩ := C
  intro H locs ls hln hP hS hl
  exact lv_astore (lv' := trL z lv2) hx hb hd hl (by rw [hml]; exact hn) (by rw [← hl2]; exact st1_tr z lv _ (.ref x)) (fun ls2 hl3 => k H locs ls2 hln hP hS hl3)
theorem e_iload_n {X : Ctx} {kn : Nat × Nat} {pc : Nat} {lv : List (Nat × Value)} {st : List Value} {sh : List Sh} {M : Mm} {cc : ByteArray} {own : String} {nL : Nat} {R : Room} {j : Fin 4} {i : Nat} {x : Int32} (C : Cx X cc own nL R) (hd : decode cc pc = .ok (.iload_n j, 1)) (hi : (j : Nat) = i) (hv : lk lv i = some (.int x)) (k : Wd X kn (pc + 1) lv (.int x :: st) sh (M)) : Wd X kn pc lv (st) sh M := by
  obtain ⟨p, l, e, R0, s, m, args, below, meth, c, Q, D, ids, z, n0⟩ := X
  obtain ⟨hx, hb, hml, hown, hts, hK, hN, hlocks, rfl, hz⟩ := C
  intro H locs ls hln hP hS hl
  exact lv_iload_n hx hb hd hi (lk_at hl hv) (k H locs ls hln hP hS hl)
theorem e_iload {X : Ctx} {kn : Nat × Nat} {pc : Nat} {lv : List (Nat × Value)} {st : List Value} {sh : List Sh} {M : Mm} {cc : ByteArray} {own : String} {nL : Nat} {R : Room} {i : Nat} {x : Int32} (C : Cx X cc own nL R) (hd : decode cc pc = .ok (.iload i, 2)) (hv : lk lv i = some (.int x)) (k : Wd X kn (pc + 2) lv (.int x :: st) sh (M)) : Wd X kn pc lv (st) sh M := by
  obtain ⟨p, l, e, R0, s, m, args, below, meth, c, Q, D, ids, z, n0⟩ := X
  obtain ⟨hx, hb, hml, hown, hts, hK, hN, hlocks, rfl, hz⟩ := C
  intro H locs ls hln hP hS hl
  exact lv_iload hx hb hd (lk_at hl hv) (k H locs ls hln hP hS hl)
theorem e_istore_n {X : Ctx} {kn : Nat × Nat} {pc : Nat} {lv : List (Nat × Value)} {st : List Value} {sh : List Sh} {M : Mm} {cc : ByteArray} {own : String} {nL : Nat} {R : Room} {j : Fin 4} {i : Nat} {x : Int32} {lv2 : List (Nat × Value)} (C : Cx X cc own nL R) (hd : decode cc pc = .ok (.istore_n j, 1)) (hi : (j : Nat) = i) (hn : i < nL) (hl2 : st1 lv i (.int x) = lv2) (k : Wd X kn (pc + 1) lv2 (st) sh (M)) : Wd X kn pc lv (.int x :: st) sh M := by
  obtain ⟨p, l, e, R0, s, m, args, below, meth, c, Q, D, ids, z, n0⟩ := X
  obtain ⟨hx, hb, hml, hown, hts, hK, hN, hlocks, rfl, hz⟩ := C
  intro H locs ls hln hP hS hl
  subst hi
  exact lv_istore_n (lv' := trL z lv2) hx hb hd rfl hl (by rw [hml]; exact hn) (by rw [← hl2]; exact st1_tr z lv _ (.int x)) (fun ls2 hl3 => k H locs ls2 hln hP hS hl3)
theorem e_istore {X : Ctx} {kn : Nat × Nat} {pc : Nat} {lv : List (Nat × Value)} {st : List Value} {sh : List Sh} {M : Mm} {cc : ByteArray} {own : String} {nL : Nat} {R : Room} {i : Nat} {x : Int32} {lv2 : List (Nat × Value)} (C : Cx X cc own nL R) (hd : decode cc pc = .ok (.istore i, 2)) (hn : i < nL) (hl2 : st1 lv i (.int x) = lv2) (k : Wd X kn (pc + 2) lv2 (st) sh (M)) : Wd X kn pc lv (.int x :: st) sh M := by
  obtain ⟨p, l, e, R0, s, m, args, below, meth, c, Q, D, ids, z, n0⟩ := X
  obtain ⟨hx, hb, hml, hown, hts, hK, hN, hlocks, rfl, hz⟩ := C
  intro H locs ls hln hP hS hl
  exact lv_istore (lv' := trL z lv2) hx hb hd hl (by rw [hml]; exact hn) (by rw [← hl2]; exact st1_tr z lv _ (.int x)) (fun ls2 hl3 => k H locs ls2 hln hP hS hl3)
theorem e_lload_n {X : Ctx} {kn : Nat × Nat} {pc : Nat} {lv : List (Nat × Value)} {st : List Value} {sh : List Sh} {M : Mm} {cc : ByteArray} {own : String} {nL : Nat} {R : Room} {j : Fin 4} {i : Nat} {x : Int64} (C : Cx X cc own nL R) (hd : decode cc pc = .ok (.lload_n j, 1)) (hi : (j : Nat) = i) (hv : lk lv i = some (.long x)) (k : Wd X kn (pc + 1) lv (.long x :: st) sh (M)) : Wd X kn pc lv (st) sh M := by
  obtain ⟨p, l, e, R0, s, m, args, below, meth, c, Q, D, ids, z, n0⟩ := X
  obtain ⟨hx, hb, hml, hown, hts, hK, hN, hlocks, rfl, hz⟩ := C
  intro H locs ls hln hP hS hl
  exact lv_lload_n hx hb hd hi (lk_at hl hv) (k H locs ls hln hP hS hl)
theorem e_lload {X : Ctx} {kn : Nat × Nat} {pc : Nat} {lv : List (Nat × Value)} {st : List Value} {sh : List Sh} {M : Mm} {cc : ByteArray} {own : String} {nL : Nat} {R : Room} {i : Nat} {x : Int64} (C : Cx X cc own nL R) (hd : decode cc pc = .ok (.lload i, 2)) (hv : lk lv i = some (.long x)) (k : Wd X kn (pc + 2) lv (.long x :: st) sh (M)) : Wd X kn pc lv (st) sh M := by
  obtain ⟨p, l, e, R0, s, m, args, below, meth, c, Q, D, ids, z, n0⟩ := X
  obtain ⟨hx, hb, hml, hown, hts, hK, hN, hlocks, rfl, hz⟩ := C
  intro H locs ls hln hP hS hl
  exact lv_lload hx hb hd (lk_at hl hv) (k H locs ls hln hP hS hl)
theorem e_lstore_n {X : Ctx} {kn : Nat × Nat} {pc : Nat} {lv : List (Nat × Value)} {st : List Value} {sh : List Sh} {M : Mm} {cc : ByteArray} {own : String} {nL : Nat} {R : Room} {j : Fin 4} {i : Nat} {x : Int64} {lv2 : List (Nat × Value)} (C : Cx X cc own nL R) (hd : decode cc pc = .ok (.lstore_n j, 1)) (hi : (j : Nat) = i) (hn : i + 1 < nL) (hl2 : st2 lv i (.long x) = lv2) (k : Wd X kn (pc + 1) lv2 (st) sh (M)) : Wd X kn pc lv (.long x :: st) sh M := by
  obtain ⟨p, l, e, R0, s, m, args, below, meth, c, Q, D, ids, z, n0⟩ := X
  obtain ⟨hx, hb, hml, hown, hts, hK, hN, hlocks, rfl, hz⟩ := C
  intro H locs ls hln hP hS hl
  subst hi
  exact lv_lstore_n (lv' := trL z lv2) hx hb hd rfl hl (by rw [hml]; exact hn) (by rw [← hl2]; exact st2_tr z lv _ (.long x)) (fun ls2 hl3 => k H locs ls2 hln hP hS hl3)
theorem e_lstore {X : Ctx} {kn : Nat × Nat} {pc : Nat} {lv : List (Nat × Value)} {st : List Value} {sh : List Sh} {M : Mm} {cc : ByteArray} {own : String} {nL : Nat} {R : Room} {i : Nat} {x : Int64} {lv2 : List (Nat × Value)} (C : Cx X cc own nL R) (hd : decode cc pc = .ok (.lstore i, 2)) (hn : i + 1 < nL) (hl2 : st2 lv i (.long x) = lv2) (k : Wd X kn (pc + 2) lv2 (st) sh (M)) : Wd X kn pc lv (.long x :: st) sh M := by
  obtain ⟨p, l, e, R0, s, m, args, below, meth, c, Q, D, ids, z, n0⟩ := X
  obtain ⟨hx, hb, hml, hown, hts, hK, hN, hlocks, rfl, hz⟩ := C
  intro H locs ls hln hP hS hl
  exact lv_lstore (lv' := trL z lv2) hx hb hd hl (by rw [hml]; exact hn) (by rw [← hl2]; exact st2_tr z lv _ (.long x)) (fun ls2 hl3 => k H locs ls2 hln hP hS hl3)
theorem e_dload_n {X : Ctx} {kn : Nat × Nat} {pc : Nat} {lv : List (Nat × Value)} {st : List Value} {sh : List Sh} {M : Mm} {cc : ByteArray} {own : String} {nL : Nat} {R : Room} {j : Fin 4} {i : Nat} {x : UInt64} (C : Cx X cc own nL R) (hd : decode cc pc = .ok (.dload_n j, 1)) (hi : (j : Nat) = i) (hv : lk lv i = some (.double x)) (k : Wd X kn (pc + 1) lv (.double x :: st) sh (M)) : Wd X kn pc lv (st) sh M := by
  obtain ⟨p, l, e, R0, s, m, args, below, meth, c, Q, D, ids, z, n0⟩ := X
  obtain ⟨hx, hb, hml, hown, hts, hK, hN, hlocks, rfl, hz⟩ := C
  intro H locs ls hln hP hS hl
  exact lv_dload_n hx hb hd hi (lk_at hl hv) (k H locs ls hln hP hS hl)
theorem e_dload {X : Ctx} {kn : Nat × Nat} {pc : Nat} {lv : List (Nat × Value)} {st : List Value} {sh : List Sh} {M : Mm} {cc : ByteArray} {own : String} {nL : Nat} {R : Room} {i : Nat} {x : UInt64} (C : Cx X cc own nL R) (hd : decode cc pc = .ok (.dload i, 2)) (hv : lk lv i = some (.double x)) (k : Wd X kn (pc + 2) lv (.double x :: st) sh (M)) : Wd X kn pc lv (st) sh M := by
  obtain ⟨p, l, e, R0, s, m, args, below, meth, c, Q, D, ids, z, n0⟩ := X
  obtain ⟨hx, hb, hml, hown, hts, hK, hN, hlocks, rfl, hz⟩ := C
  intro H locs ls hln hP hS hl
  exact lv_dload hx hb hd (lk_at hl hv) (k H locs ls hln hP hS hl)
theorem e_dstore_n {X : Ctx} {kn : Nat × Nat} {pc : Nat} {lv : List (Nat × Value)} {st : List Value} {sh : List Sh} {M : Mm} {cc : ByteArray} {own : String} {nL : Nat} {R : Room} {j : Fin 4} {i : Nat} {x : UInt64} {lv2 : List (Nat × Value)} (C : Cx X cc own nL R) (hd : decode cc pc = .ok (.dstore_n j, 1)) (hi : (j : Nat) = i) (hn : i + 1 < nL) (hl2 : st2 lv i (.double x) = lv2) (k : Wd X kn (pc + 1) lv2 (st) sh (M)) : Wd X kn pc lv (.double x :: st) sh M := by
  obtain ⟨p, l, e, R0, s, m, args, below, meth, c, Q, D, ids, z, n0⟩ := X
  obtain ⟨hx, hb, hml, hown, hts, hK, hN, hlocks, rfl, hz⟩ := C
  intro H locs ls hln hP hS hl
  subst hi
  exact lv_dstore_n (lv' := trL z lv2) hx hb hd rfl hl (by rw [hml]; exact hn) (by rw [← hl2]; exact st2_tr z lv _ (.double x)) (fun ls2 hl3 => k H locs ls2 hln hP hS hl3)
theorem e_dstore {X : Ctx} {kn : Nat × Nat} {pc : Nat} {lv : List (Nat × Value)} {st : List Value} {sh : List Sh} {M : Mm} {cc : ByteArray} {own : String} {nL : Nat} {R : Room} {i : Nat} {x : UInt64} {lv2 : List (Nat × Value)} (C : Cx X cc own nL R) (hd : decode cc pc = .ok (.dstore i, 2)) (hn : i + 1 < nL) (hl2 : st2 lv i (.double x) = lv2) (k : Wd X kn (pc + 2) lv2 (st) sh (M)) : Wd X kn pc lv (.double x :: st) sh M := by
  obtain ⟨p, l, e, R0, s, m, args, below, meth, c, Q, D, ids, z, n0⟩ := X
  obtain ⟨hx, hb, hml, hown, hts, hK, hN, hlocks, rfl, hz⟩ := C
  intro H locs ls hln hP hS hl
  exact lv_dstore (lv' := trL z lv2) hx hb hd hl (by rw [hml]; exact hn) (by rw [← hl2]; exact st2_tr z lv _ (.double x)) (fun ls2 hl3 => k H locs ls2 hln hP hS hl3)
theorem e_iinc {X : Ctx} {kn : Nat × Nat} {pc : Nat} {lv : List (Nat × Value)} {st : List Value} {sh : List Sh} {M : Mm} {cc : ByteArray} {own : String} {nL : Nat} {R : Room} {i : Nat} {n : Int} {x v : Int32} {lv2 : List (Nat × Value)} (C : Cx X cc own nL R) (hd : decode cc pc = .ok (.iinc i n, 3)) (hv : lk lv i = some (.int x)) (hn : i < nL) (hx2 : x + Int32.ofInt n = v) (hl2 : st1 lv i (.int v) = lv2) (k : Wd X kn (pc + 3) lv2 (st) sh (M)) : Wd X kn pc lv (st) sh M := by
  obtain ⟨p, l, e, R0, s, m, args, below, meth, c, Q, D, ids, z, n0⟩ := X
  obtain ⟨hx, hb, hml, hown, hts, hK, hN, hlocks, rfl, hz⟩ := C
  intro H locs ls hln hP hS hl
  obtain ⟨k9, hk9⟩ := lk_pos (z := z) hv
  exact lv_iinc (k := k9) (v := v) (lv' := trL z lv2) hx hb hd hl hk9 hx2 (by rw [hml]; exact hn) (by rw [← hl2]; exact st1_tr z lv _ (.int v)) (fun ls2 hl3 => k H locs ls2 hln hP hS hl3)
theorem e_iconst {X : Ctx} {kn : Nat × Nat} {pc : Nat} {lv : List (Nat × Value)} {st : List Value} {sh : List Sh} {M : Mm} {cc : ByteArray} {own : String} {nL : Nat} {R : Room} {n : Int} {v : Int32} (C : Cx X cc own nL R) (hd : decode cc pc = .ok (.iconst n, 1)) (hv : Int32.ofInt n = v) (k : Wd X kn (pc + 1) lv (.int v :: st) sh (M)) : Wd X kn pc lv (st) sh M := by
  obtain ⟨p, l, e, R0, s, m, args, below, meth, c, Q, D, ids, z, n0⟩ := X
  obtain ⟨hx, hb, hml, hown, hts, hK, hN, hlocks, rfl, hz⟩ := C
  intro H locs ls hln hP hS hl
  exact lv_iconst hx hb hd hv (k H locs ls hln hP hS hl)
theorem e_bipush {X : Ctx} {kn : Nat × Nat} {pc : Nat} {lv : List (Nat × Value)} {st : List Value} {sh : List Sh} {M : Mm} {cc : ByteArray} {own : String} {nL : Nat} {R : Room} {n : Int} {v : Int32} (C : Cx X cc own nL R) (hd : decode cc pc = .ok (.bipush n, 2)) (hv : (Int8.ofInt n).toInt32 = v) (k : Wd X kn (pc + 2) lv (.int v :: st) sh (M)) : Wd X kn pc lv (st) sh M := by
  obtain ⟨p, l, e, R0, s, m, args, below, meth, c, Q, D, ids, z, n0⟩ := X
  obtain ⟨hx, hb, hml, hown, hts, hK, hN, hlocks, rfl, hz⟩ := C
  intro H locs ls hln hP hS hl
  exact lv_bipush hx hb hd hv (k H locs ls hln hP hS hl)
theorem e_sipush {X : Ctx} {kn : Nat × Nat} {pc : Nat} {lv : List (Nat × Value)} {st : List Value} {sh : List Sh} {M : Mm} {cc : ByteArray} {own : String} {nL : Nat} {R : Room} {n : Int} {v : Int32} (C : Cx X cc own nL R) (hd : decode cc pc = .ok (.sipush n, 3)) (hv : (Int16.ofInt n).toInt32 = v) (k : Wd X kn (pc + 3) lv (.int v :: st) sh (M)) : Wd X kn pc lv (st) sh M := by
  obtain ⟨p, l, e, R0, s, m, args, below, meth, c, Q, D, ids, z, n0⟩ := X
  obtain ⟨hx, hb, hml, hown, hts, hK, hN, hlocks, rfl, hz⟩ := C
  intro H locs ls hln hP hS hl
  exact lv_sipush hx hb hd hv (k H locs ls hln hP hS hl)
theorem e_lconst {X : Ctx} {kn : Nat × Nat} {pc : Nat} {lv : List (Nat × Value)} {st : List Value} {sh : List Sh} {M : Mm} {cc : ByteArray} {own : String} {nL : Nat} {R : Room} {n : Fin 2} {v : Int64} (C : Cx X cc own nL R) (hd : decode cc pc = .ok (.lconst n, 1)) (hv : Int64.ofNat (n : Nat) = v) (k : Wd X kn (pc + 1) lv (.long v :: st) sh (M)) : Wd X kn pc lv (st) sh M := by
  obtain ⟨p, l, e, R0, s, m, args, below, meth, c, Q, D, ids, z, n0⟩ := X
  obtain ⟨hx, hb, hml, hown, hts, hK, hN, hlocks, rfl, hz⟩ := C
  intro H locs ls hln hP hS hl
  exact lv_lconst hx hb hd hv (k H locs ls hln hP hS hl)
theorem e_dconst0 {X : Ctx} {kn : Nat × Nat} {pc : Nat} {lv : List (Nat × Value)} {st : List Value} {sh : List Sh} {M : Mm} {cc : ByteArray} {own : String} {nL : Nat} {R : Room} (C : Cx X cc own nL R) (hd : decode cc pc = .ok (.dconst 0, 1)) (k : Wd X kn (pc + 1) lv (.double FP.dconst0 :: st) sh (M)) : Wd X kn pc lv (st) sh M := by
  obtain ⟨p, l, e, R0, s, m, args, below, meth, c, Q, D, ids, z, n0⟩ := X
  obtain ⟨hx, hb, hml, hown, hts, hK, hN, hlocks, rfl, hz⟩ := C
  intro H locs ls hln hP hS hl
  exact lv_dconst0 hx hb hd (k H locs ls hln hP hS hl)
theorem e_dconst1 {X : Ctx} {kn : Nat × Nat} {pc : Nat} {lv : List (Nat × Value)} {st : List Value} {sh : List Sh} {M : Mm} {cc : ByteArray} {own : String} {nL : Nat} {R : Room} (C : Cx X cc own nL R) (hd : decode cc pc = .ok (.dconst 1, 1)) (k : Wd X kn (pc + 1) lv (.double FP.dconst1 :: st) sh (M)) : Wd X kn pc lv (st) sh M := by
  obtain ⟨p, l, e, R0, s, m, args, below, meth, c, Q, D, ids, z, n0⟩ := X
  obtain ⟨hx, hb, hml, hown, hts, hK, hN, hlocks, rfl, hz⟩ := C
  intro H locs ls hln hP hS hl
  exact lv_dconst1 hx hb hd (k H locs ls hln hP hS hl)
theorem e_ldc {X : Ctx} {kn : Nat × Nat} {pc : Nat} {lv : List (Nat × Value)} {st : List Value} {sh : List Sh} {M : Mm} {cc : ByteArray} {own : String} {nL : Nat} {R : Room} {i : Nat} {v : Int32} (C : Cx X cc own nL R) (hd : decode cc pc = .ok (.ldc i, 2)) (hc : Cond.constant own i v ∈ lw_g) (k : Wd X kn (pc + 2) lv (.int v :: st) sh (M)) : Wd X kn pc lv (st) sh M := by
  obtain ⟨p, l, e, R0, s, m, args, below, meth, c, Q, D, ids, z, n0⟩ := X
  obtain ⟨hx, hb, hml, hown, hts, hK, hN, hlocks, rfl, hz⟩ := C
  intro H locs ls hln hP hS hl
  exact lv_ldc hx hb hown (hts _ hc) hd (k H locs ls hln hP hS hl)
theorem e_ldc2 {X : Ctx} {kn : Nat × Nat} {pc : Nat} {lv : List (Nat × Value)} {st : List Value} {sh : List Sh} {M : Mm} {cc : ByteArray} {own : String} {nL : Nat} {R : Room} {i : Nat} {v : Int64} (C : Cx X cc own nL R) (hd : decode cc pc = .ok (.ldc2_w i, 3)) (hc : Cond.constantLong own i v ∈ lw_g) (k : Wd X kn (pc + 3) lv (.long v :: st) sh (M)) : Wd X kn pc lv (st) sh M := by
  obtain ⟨p, l, e, R0, s, m, args, below, meth, c, Q, D, ids, z, n0⟩ := X
  obtain ⟨hx, hb, hml, hown, hts, hK, hN, hlocks, rfl, hz⟩ := C
  intro H locs ls hln hP hS hl
  exact lv_ldc2 hx hb hown (hts _ hc) hd (k H locs ls hln hP hS hl)
theorem e_ldc2d {X : Ctx} {kn : Nat × Nat} {pc : Nat} {lv : List (Nat × Value)} {st : List Value} {sh : List Sh} {M : Mm} {cc : ByteArray} {own : String} {nL : Nat} {R : Room} {i : Nat} {v : UInt64} (C : Cx X cc own nL R) (hd : decode cc pc = .ok (.ldc2_w i, 3)) (hc : Cond.constantDouble own i v ∈ lw_g) (k : Wd X kn (pc + 3) lv (.double v :: st) sh (M)) : Wd X kn pc lv (st) sh M := by
  obtain ⟨p, l, e, R0, s, m, args, below, meth, c, Q, D, ids, z, n0⟩ := X
  obtain ⟨hx, hb, hml, hown, hts, hK, hN, hlocks, rfl, hz⟩ := C
  intro H locs ls hln hP hS hl
  exact lv_ldc2d hx hb hown (hts _ hc) hd (k H locs ls hln hP hS hl)
theorem e_iadd {X : Ctx} {kn : Nat × Nat} {pc : Nat} {lv : List (Nat × Value)} {st : List Value} {sh : List Sh} {M : Mm} {cc : ByteArray} {own : String} {nL : Nat} {R : Room} {x y : Int32} (C : Cx X cc own nL R) (hd : decode cc pc = .ok (.iadd, 1)) (k : Wd X kn (pc + 1) lv (.int (x + y) :: st) sh (M)) : Wd X kn pc lv (.int y :: .int x :: st) sh M := by
  obtain ⟨p, l, e, R0, s, m, args, below, meth, c, Q, D, ids, z, n0⟩ := X
  obtain ⟨hx, hb, hml, hown, hts, hK, hN, hlocks, rfl, hz⟩ := C
  intro H locs ls hln hP hS hl
  exact lv_iadd hx hb hd (k H locs ls hln hP hS hl)
theorem e_isub {X : Ctx} {kn : Nat × Nat} {pc : Nat} {lv : List (Nat × Value)} {st : List Value} {sh : List Sh} {M : Mm} {cc : ByteArray} {own : String} {nL : Nat} {R : Room} {x y : Int32} (C : Cx X cc own nL R) (hd : decode cc pc = .ok (.isub, 1)) (k : Wd X kn (pc + 1) lv (.int (x - y) :: st) sh (M)) : Wd X kn pc lv (.int y :: .int x :: st) sh M := by
  obtain ⟨p, l, e, R0, s, m, args, below, meth, c, Q, D, ids, z, n0⟩ := X
  obtain ⟨hx, hb, hml, hown, hts, hK, hN, hlocks, rfl, hz⟩ := C
  intro H locs ls hln hP hS hl
  exact lv_isub hx hb hd (k H locs ls hln hP hS hl)
theorem e_imul {X : Ctx} {kn : Nat × Nat} {pc : Nat} {lv : List (Nat × Value)} {st : List Value} {sh : List Sh} {M : Mm} {cc : ByteArray} {own : String} {nL : Nat} {R : Room} {x y : Int32} (C : Cx X cc own nL R) (hd : decode cc pc = .ok (.imul, 1)) (k : Wd X kn (pc + 1) lv (.int (x * y) :: st) sh (M)) : Wd X kn pc lv (.int y :: .int x :: st) sh M := by
  obtain ⟨p, l, e, R0, s, m, args, below, meth, c, Q, D, ids, z, n0⟩ := X
  obtain ⟨hx, hb, hml, hown, hts, hK, hN, hlocks, rfl, hz⟩ := C
  intro H locs ls hln hP hS hl
  exact lv_imul hx hb hd (k H locs ls hln hP hS hl)
theorem e_iand {X : Ctx} {kn : Nat × Nat} {pc : Nat} {lv : List (Nat × Value)} {st : List Value} {sh : List Sh} {M : Mm} {cc : ByteArray} {own : String} {nL : Nat} {R : Room} {x y : Int32} (C : Cx X cc own nL R) (hd : decode cc pc = .ok (.iand, 1)) (k : Wd X kn (pc + 1) lv (.int (x &&& y) :: st) sh (M)) : Wd X kn pc lv (.int y :: .int x :: st) sh M := by
  obtain ⟨p, l, e, R0, s, m, args, below, meth, c, Q, D, ids, z, n0⟩ := X
  obtain ⟨hx, hb, hml, hown, hts, hK, hN, hlocks, rfl, hz⟩ := C
  intro H locs ls hln hP hS hl
  exact lv_iand hx hb hd (k H locs ls hln hP hS hl)
theorem e_ishr {X : Ctx} {kn : Nat × Nat} {pc : Nat} {lv : List (Nat × Value)} {st : List Value} {sh : List Sh} {M : Mm} {cc : ByteArray} {own : String} {nL : Nat} {R : Room} {x y : Int32} (C : Cx X cc own nL R) (hd : decode cc pc = .ok (.ishr, 1)) (k : Wd X kn (pc + 1) lv (.int (x >>> (y &&& 31)) :: st) sh (M)) : Wd X kn pc lv (.int y :: .int x :: st) sh M := by
  obtain ⟨p, l, e, R0, s, m, args, below, meth, c, Q, D, ids, z, n0⟩ := X
  obtain ⟨hx, hb, hml, hown, hts, hK, hN, hlocks, rfl, hz⟩ := C
  intro H locs ls hln hP hS hl
  exact lv_ishr hx hb hd (k H locs ls hln hP hS hl)
theorem e_idiv {X : Ctx} {kn : Nat × Nat} {pc : Nat} {lv : List (Nat × Value)} {st : List Value} {sh : List Sh} {M : Mm} {cc : ByteArray} {own : String} {nL : Nat} {R : Room} {x y : Int32} (C : Cx X cc own nL R) (hd : decode cc pc = .ok (.idiv, 1)) (hne : ¬ y = 0) (k : Wd X kn (pc + 1) lv (.int (x / y) :: st) sh (M)) : Wd X kn pc lv (.int y :: .int x :: st) sh M := by
  obtain ⟨p, l, e, R0, s, m, args, below, meth, c, Q, D, ids, z, n0⟩ := X
  obtain ⟨hx, hb, hml, hown, hts, hK, hN, hlocks, rfl, hz⟩ := C
  intro H locs ls hln hP hS hl
  exact lv_idiv hx hb hd hne (k H locs ls hln hP hS hl)
theorem e_irem {X : Ctx} {kn : Nat × Nat} {pc : Nat} {lv : List (Nat × Value)} {st : List Value} {sh : List Sh} {M : Mm} {cc : ByteArray} {own : String} {nL : Nat} {R : Room} {x y : Int32} (C : Cx X cc own nL R) (hd : decode cc pc = .ok (.irem, 1)) (hne : ¬ y = 0) (k : Wd X kn (pc + 1) lv (.int (x - x / y * y) :: st) sh (M)) : Wd X kn pc lv (.int y :: .int x :: st) sh M := by
  obtain ⟨p, l, e, R0, s, m, args, below, meth, c, Q, D, ids, z, n0⟩ := X
  obtain ⟨hx, hb, hml, hown, hts, hK, hN, hlocks, rfl, hz⟩ := C
  intro H locs ls hln hP hS hl
  exact lv_irem hx hb hd hne (k H locs ls hln hP hS hl)
theorem e_ladd {X : Ctx} {kn : Nat × Nat} {pc : Nat} {lv : List (Nat × Value)} {st : List Value} {sh : List Sh} {M : Mm} {cc : ByteArray} {own : String} {nL : Nat} {R : Room} {x y : Int64} (C : Cx X cc own nL R) (hd : decode cc pc = .ok (.ladd, 1)) (k : Wd X kn (pc + 1) lv (.long (x + y) :: st) sh (M)) : Wd X kn pc lv (.long y :: .long x :: st) sh M := by
  obtain ⟨p, l, e, R0, s, m, args, below, meth, c, Q, D, ids, z, n0⟩ := X
  obtain ⟨hx, hb, hml, hown, hts, hK, hN, hlocks, rfl, hz⟩ := C
  intro H locs ls hln hP hS hl
  exact lv_ladd hx hb hd (k H locs ls hln hP hS hl)
theorem e_lsub {X : Ctx} {kn : Nat × Nat} {pc : Nat} {lv : List (Nat × Value)} {st : List Value} {sh : List Sh} {M : Mm} {cc : ByteArray} {own : String} {nL : Nat} {R : Room} {x y : Int64} (C : Cx X cc own nL R) (hd : decode cc pc = .ok (.lsub, 1)) (k : Wd X kn (pc + 1) lv (.long (x - y) :: st) sh (M)) : Wd X kn pc lv (.long y :: .long x :: st) sh M := by
  obtain ⟨p, l, e, R0, s, m, args, below, meth, c, Q, D, ids, z, n0⟩ := X
  obtain ⟨hx, hb, hml, hown, hts, hK, hN, hlocks, rfl, hz⟩ := C
  intro H locs ls hln hP hS hl
  exact lv_lsub hx hb hd (k H locs ls hln hP hS hl)
theorem e_lmul {X : Ctx} {kn : Nat × Nat} {pc : Nat} {lv : List (Nat × Value)} {st : List Value} {sh : List Sh} {M : Mm} {cc : ByteArray} {own : String} {nL : Nat} {R : Room} {x y : Int64} (C : Cx X cc own nL R) (hd : decode cc pc = .ok (.lmul, 1)) (k : Wd X kn (pc + 1) lv (.long (x * y) :: st) sh (M)) : Wd X kn pc lv (.long y :: .long x :: st) sh M := by
  obtain ⟨p, l, e, R0, s, m, args, below, meth, c, Q, D, ids, z, n0⟩ := X
  obtain ⟨hx, hb, hml, hown, hts, hK, hN, hlocks, rfl, hz⟩ := C
  intro H locs ls hln hP hS hl
  exact lv_lmul hx hb hd (k H locs ls hln hP hS hl)
theorem e_land {X : Ctx} {kn : Nat × Nat} {pc : Nat} {lv : List (Nat × Value)} {st : List Value} {sh : List Sh} {M : Mm} {cc : ByteArray} {own : String} {nL : Nat} {R : Room} {x y : Int64} (C : Cx X cc own nL R) (hd : decode cc pc = .ok (.land, 1)) (k : Wd X kn (pc + 1) lv (.long (x &&& y) :: st) sh (M)) : Wd X kn pc lv (.long y :: .long x :: st) sh M := by
  obtain ⟨p, l, e, R0, s, m, args, below, meth, c, Q, D, ids, z, n0⟩ := X
  obtain ⟨hx, hb, hml, hown, hts, hK, hN, hlocks, rfl, hz⟩ := C
  intro H locs ls hln hP hS hl
  exact lv_land hx hb hd (k H locs ls hln hP hS hl)
theorem e_lor {X : Ctx} {kn : Nat × Nat} {pc : Nat} {lv : List (Nat × Value)} {st : List Value} {sh : List Sh} {M : Mm} {cc : ByteArray} {own : String} {nL : Nat} {R : Room} {x y : Int64} (C : Cx X cc own nL R) (hd : decode cc pc = .ok (.lor, 1)) (k : Wd X kn (pc + 1) lv (.long (x ||| y) :: st) sh (M)) : Wd X kn pc lv (.long y :: .long x :: st) sh M := by
  obtain ⟨p, l, e, R0, s, m, args, below, meth, c, Q, D, ids, z, n0⟩ := X
  obtain ⟨hx, hb, hml, hown, hts, hK, hN, hlocks, rfl, hz⟩ := C
  intro H locs ls hln hP hS hl
  exact lv_lor hx hb hd (k H locs ls hln hP hS hl)
theorem e_ldiv {X : Ctx} {kn : Nat × Nat} {pc : Nat} {lv : List (Nat × Value)} {st : List Value} {sh : List Sh} {M : Mm} {cc : ByteArray} {own : String} {nL : Nat} {R : Room} {x y : Int64} (C : Cx X cc own nL R) (hd : decode cc pc = .ok (.ldiv, 1)) (hne : ¬ y = 0) (k : Wd X kn (pc + 1) lv (.long (x / y) :: st) sh (M)) : Wd X kn pc lv (.long y :: .long x :: st) sh M := by
  obtain ⟨p, l, e, R0, s, m, args, below, meth, c, Q, D, ids, z, n0⟩ := X
  obtain ⟨hx, hb, hml, hown, hts, hK, hN, hlocks, rfl, hz⟩ := C
  intro H locs ls hln hP hS hl
  exact lv_ldiv hx hb hd hne (k H locs ls hln hP hS hl)
theorem e_lshl {X : Ctx} {kn : Nat × Nat} {pc : Nat} {lv : List (Nat × Value)} {st : List Value} {sh : List Sh} {M : Mm} {cc : ByteArray} {own : String} {nL : Nat} {R : Room} {x : Int64} {y : Int32} (C : Cx X cc own nL R) (hd : decode cc pc = .ok (.lshl, 1)) (k : Wd X kn (pc + 1) lv (.long (x <<< (y.toInt64 &&& 63)) :: st) sh (M)) : Wd X kn pc lv (.int y :: .long x :: st) sh M := by
  obtain ⟨p, l, e, R0, s, m, args, below, meth, c, Q, D, ids, z, n0⟩ := X
  obtain ⟨hx, hb, hml, hown, hts, hK, hN, hlocks, rfl, hz⟩ := C
  intro H locs ls hln hP hS hl
  exact lv_lshl hx hb hd rfl (k H locs ls hln hP hS hl)
theorem e_i2l {X : Ctx} {kn : Nat × Nat} {pc : Nat} {lv : List (Nat × Value)} {st : List Value} {sh : List Sh} {M : Mm} {cc : ByteArray} {own : String} {nL : Nat} {R : Room} {x : Int32} (C : Cx X cc own nL R) (hd : decode cc pc = .ok (.i2l, 1)) (k : Wd X kn (pc + 1) lv (.long x.toInt64 :: st) sh (M)) : Wd X kn pc lv (.int x :: st) sh M := by
  obtain ⟨p, l, e, R0, s, m, args, below, meth, c, Q, D, ids, z, n0⟩ := X
  obtain ⟨hx, hb, hml, hown, hts, hK, hN, hlocks, rfl, hz⟩ := C
  intro H locs ls hln hP hS hl
  exact lv_i2l hx hb hd rfl (k H locs ls hln hP hS hl)
theorem e_i2d {X : Ctx} {kn : Nat × Nat} {pc : Nat} {lv : List (Nat × Value)} {st : List Value} {sh : List Sh} {M : Mm} {cc : ByteArray} {own : String} {nL : Nat} {R : Room} {x : Int32} (C : Cx X cc own nL R) (hd : decode cc pc = .ok (.i2d, 1)) (k : Wd X kn (pc + 1) lv (.double (FP.i2d x) :: st) sh (M)) : Wd X kn pc lv (.int x :: st) sh M := by
  obtain ⟨p, l, e, R0, s, m, args, below, meth, c, Q, D, ids, z, n0⟩ := X
  obtain ⟨hx, hb, hml, hown, hts, hK, hN, hlocks, rfl, hz⟩ := C
  intro H locs ls hln hP hS hl
  exact lv_i2d hx hb hd (k H locs ls hln hP hS hl)
theorem e_d2l {X : Ctx} {kn : Nat × Nat} {pc : Nat} {lv : List (Nat × Value)} {st : List Value} {sh : List Sh} {M : Mm} {cc : ByteArray} {own : String} {nL : Nat} {R : Room} {x : UInt64} (C : Cx X cc own nL R) (hd : decode cc pc = .ok (.d2l, 1)) (k : Wd X kn (pc + 1) lv (.long (FP.d2l x) :: st) sh (M)) : Wd X kn pc lv (.double x :: st) sh M := by
  obtain ⟨p, l, e, R0, s, m, args, below, meth, c, Q, D, ids, z, n0⟩ := X
  obtain ⟨hx, hb, hml, hown, hts, hK, hN, hlocks, rfl, hz⟩ := C
  intro H locs ls hln hP hS hl
  exact lv_d2l hx hb hd (k H locs ls hln hP hS hl)
theorem e_dadd {X : Ctx} {kn : Nat × Nat} {pc : Nat} {lv : List (Nat × Value)} {st : List Value} {sh : List Sh} {M : Mm} {cc : ByteArray} {own : String} {nL : Nat} {R : Room} {x y : UInt64} (C : Cx X cc own nL R) (hd : decode cc pc = .ok (.dadd, 1)) (hne : vf_n64 (FP.dadd x y)) (k : Wd X kn (pc + 1) lv (.double (FP.dadd x y) :: st) sh (M)) : Wd X kn pc lv (.double y :: .double x :: st) sh M := by
  obtain ⟨p, l, e, R0, s, m, args, below, meth, c, Q, D, ids, z, n0⟩ := X
  obtain ⟨hx, hb, hml, hown, hts, hK, hN, hlocks, rfl, hz⟩ := C
  intro H locs ls hln hP hS hl
  exact lv_dadd hx hb hd hne (k H locs ls hln hP hS hl)
theorem e_dsub {X : Ctx} {kn : Nat × Nat} {pc : Nat} {lv : List (Nat × Value)} {st : List Value} {sh : List Sh} {M : Mm} {cc : ByteArray} {own : String} {nL : Nat} {R : Room} {x y : UInt64} (C : Cx X cc own nL R) (hd : decode cc pc = .ok (.dsub, 1)) (hne : vf_n64 (FP.dsub x y)) (k : Wd X kn (pc + 1) lv (.double (FP.dsub x y) :: st) sh (M)) : Wd X kn pc lv (.double y :: .double x :: st) sh M := by
  obtain ⟨p, l, e, R0, s, m, args, below, meth, c, Q, D, ids, z, n0⟩ := X
  obtain ⟨hx, hb, hml, hown, hts, hK, hN, hlocks, rfl, hz⟩ := C
  intro H locs ls hln hP hS hl
  exact lv_dsub hx hb hd hne (k H locs ls hln hP hS hl)
theorem e_dmul {X : Ctx} {kn : Nat × Nat} {pc : Nat} {lv : List (Nat × Value)} {st : List Value} {sh : List Sh} {M : Mm} {cc : ByteArray} {own : String} {nL : Nat} {R : Room} {x y : UInt64} (C : Cx X cc own nL R) (hd : decode cc pc = .ok (.dmul, 1)) (hne : vf_n64 (FP.dmul x y)) (k : Wd X kn (pc + 1) lv (.double (FP.dmul x y) :: st) sh (M)) : Wd X kn pc lv (.double y :: .double x :: st) sh M := by
  obtain ⟨p, l, e, R0, s, m, args, below, meth, c, Q, D, ids, z, n0⟩ := X
  obtain ⟨hx, hb, hml, hown, hts, hK, hN, hlocks, rfl, hz⟩ := C
  intro H locs ls hln hP hS hl
  exact lv_dmul hx hb hd hne (k H locs ls hln hP hS hl)
theorem e_ddiv {X : Ctx} {kn : Nat × Nat} {pc : Nat} {lv : List (Nat × Value)} {st : List Value} {sh : List Sh} {M : Mm} {cc : ByteArray} {own : String} {nL : Nat} {R : Room} {x y : UInt64} (C : Cx X cc own nL R) (hd : decode cc pc = .ok (.ddiv, 1)) (hne : vf_n64 (FP.ddiv x y)) (k : Wd X kn (pc + 1) lv (.double (FP.ddiv x y) :: st) sh (M)) : Wd X kn pc lv (.double y :: .double x :: st) sh M := by
  obtain ⟨p, l, e, R0, s, m, args, below, meth, c, Q, D, ids, z, n0⟩ := X
  obtain ⟨hx, hb, hml, hown, hts, hK, hN, hlocks, rfl, hz⟩ := C
  intro H locs ls hln hP hS hl
  exact lv_ddiv hx hb hd hne (k H locs ls hln hP hS hl)
theorem e_lcmp {X : Ctx} {kn : Nat × Nat} {pc : Nat} {lv : List (Nat × Value)} {st : List Value} {sh : List Sh} {M : Mm} {cc : ByteArray} {own : String} {nL : Nat} {R : Room} {x y : Int64} (C : Cx X cc own nL R) (hd : decode cc pc = .ok (.lcmp, 1)) (k : Wd X kn (pc + 1) lv (.int (lg_cmp x y) :: st) sh (M)) : Wd X kn pc lv (.long y :: .long x :: st) sh M := by
  obtain ⟨p, l, e, R0, s, m, args, below, meth, c, Q, D, ids, z, n0⟩ := X
  obtain ⟨hx, hb, hml, hown, hts, hK, hN, hlocks, rfl, hz⟩ := C
  intro H locs ls hln hP hS hl
  exact W.lcmp hx hb hd (k H locs ls hln hP hS hl)
theorem e_dcmp {X : Ctx} {kn : Nat × Nat} {pc : Nat} {lv : List (Nat × Value)} {st : List Value} {sh : List Sh} {M : Mm} {cc : ByteArray} {own : String} {nL : Nat} {R : Room} {x y : UInt64} {op : CmpOp} (C : Cx X cc own nL R) (hd : decode cc pc = .ok (.dcmp op, 1)) (k : Wd X kn (pc + 1) lv (.int (Op.cmpValue (FP.dcmp x y) op) :: st) sh (M)) : Wd X kn pc lv (.double y :: .double x :: st) sh M := by
  obtain ⟨p, l, e, R0, s, m, args, below, meth, c, Q, D, ids, z, n0⟩ := X
  obtain ⟨hx, hb, hml, hown, hts, hK, hN, hlocks, rfl, hz⟩ := C
  intro H locs ls hln hP hS hl
  exact lv_dcmp hx hb hd (k H locs ls hln hP hS hl)
theorem e_dup {X : Ctx} {kn : Nat × Nat} {pc : Nat} {lv : List (Nat × Value)} {st : List Value} {sh : List Sh} {M : Mm} {cc : ByteArray} {own : String} {nL : Nat} {R : Room} {v : Value} (C : Cx X cc own nL R) (hd : decode cc pc = .ok (.dup, 1)) (hv : v.category = 1) (k : Wd X kn (pc + 1) lv (v :: v :: st) sh (M)) : Wd X kn pc lv (v :: st) sh M := by
  obtain ⟨p, l, e, R0, s, m, args, below, meth, c, Q, D, ids, z, n0⟩ := X
  obtain ⟨hx, hb, hml, hown, hts, hK, hN, hlocks, rfl, hz⟩ := C
  intro H locs ls hln hP hS hl
  exact lv_dup hx hb hd ((tr_cat z v).trans hv) (k H locs ls hln hP hS hl)
theorem e_dup2 {X : Ctx} {kn : Nat × Nat} {pc : Nat} {lv : List (Nat × Value)} {st : List Value} {sh : List Sh} {M : Mm} {cc : ByteArray} {own : String} {nL : Nat} {R : Room} {v u : Value} (C : Cx X cc own nL R) (hd : decode cc pc = .ok (.dup2, 1)) (hv : v.category = 1) (hu : u.category = 1) (k : Wd X kn (pc + 1) lv (v :: u :: v :: u :: st) sh (M)) : Wd X kn pc lv (v :: u :: st) sh M := by
  obtain ⟨p, l, e, R0, s, m, args, below, meth, c, Q, D, ids, z, n0⟩ := X
  obtain ⟨hx, hb, hml, hown, hts, hK, hN, hlocks, rfl, hz⟩ := C
  intro H locs ls hln hP hS hl
  exact lv_dup2_11 hx hb hd ((tr_cat z v).trans hv) ((tr_cat z u).trans hu) (k H locs ls hln hP hS hl)
theorem e_goto {X : Ctx} {kn : Nat × Nat} {pc : Nat} {lv : List (Nat × Value)} {st : List Value} {sh : List Sh} {M : Mm} {cc : ByteArray} {own : String} {nL : Nat} {R : Room} {off : Int} {tgt : Nat} (C : Cx X cc own nL R) (hd : decode cc pc = .ok (.goto off, 3)) (ht : (pc : Int) + off = (tgt : Int)) (k : Wd X kn tgt lv st sh M) : Wd X kn pc lv st sh M := by
  obtain ⟨p, l, e, R0, s, m, args, below, meth, c, Q, D, ids, z, n0⟩ := X
  obtain ⟨hx, hb, hml, hown, hts, hK, hN, hlocks, rfl, hz⟩ := C
  intro H locs ls hln hP hS hl
  exact lv_goto hx hb hd ht (k H locs ls hln hP hS hl)
theorem e_icmp_lt {X : Ctx} {kn : Nat × Nat} {pc : Nat} {lv : List (Nat × Value)} {st : List Value} {sh : List Sh} {M : Mm} {cc : ByteArray} {own : String} {nL : Nat} {R : Room} {x y : Int32} {off : Int} {tgt : Nat} (C : Cx X cc own nL R) (hd : decode cc pc = .ok (.if_icmp .lt off, 3)) (ht : (pc : Int) + off = (tgt : Int)) (kt : x < y → Wd X kn tgt lv st sh M) (kf : ¬ x < y → Wd X kn (pc + 3) lv st sh M) : Wd X kn pc lv (.int y :: .int x :: st) sh M := by
  obtain ⟨p, l, e, R0, s, m, args, below, meth, c, Q, D, ids, z, n0⟩ := X
  obtain ⟨hx, hb, hml, hown, hts, hK, hN, hlocks, rfl, hz⟩ := C
  intro H locs ls hln hP hS hl
  exact lv_icmp_lt hx hb hd ht (fun h => kt h H locs ls hln hP hS hl) (fun h => kf h H locs ls hln hP hS hl)
theorem e_if_lt {X : Ctx} {kn : Nat × Nat} {pc : Nat} {lv : List (Nat × Value)} {st : List Value} {sh : List Sh} {M : Mm} {cc : ByteArray} {own : String} {nL : Nat} {R : Room} {x : Int32} {off : Int} {tgt : Nat} (C : Cx X cc own nL R) (hd : decode cc pc = .ok (.ifCond .lt off, 3)) (ht : (pc : Int) + off = (tgt : Int)) (kt : x < 0 → Wd X kn tgt lv st sh M) (kf : ¬ x < 0 → Wd X kn (pc + 3) lv st sh M) : Wd X kn pc lv (.int x :: st) sh M := by
  obtain ⟨p, l, e, R0, s, m, args, below, meth, c, Q, D, ids, z, n0⟩ := X
  obtain ⟨hx, hb, hml, hown, hts, hK, hN, hlocks, rfl, hz⟩ := C
  intro H locs ls hln hP hS hl
  exact lv_if_lt hx hb hd ht (fun h => kt h H locs ls hln hP hS hl) (fun h => kf h H locs ls hln hP hS hl)
theorem e_icmp_ge {X : Ctx} {kn : Nat × Nat} {pc : Nat} {lv : List (Nat × Value)} {st : List Value} {sh : List Sh} {M : Mm} {cc : ByteArray} {own : String} {nL : Nat} {R : Room} {x y : Int32} {off : Int} {tgt : Nat} (C : Cx X cc own nL R) (hd : decode cc pc = .ok (.if_icmp .ge off, 3)) (ht : (pc : Int) + off = (tgt : Int)) (kt : y ≤ x → Wd X kn tgt lv st sh M) (kf : ¬ y ≤ x → Wd X kn (pc + 3) lv st sh M) : Wd X kn pc lv (.int y :: .int x :: st) sh M := by
  obtain ⟨p, l, e, R0, s, m, args, below, meth, c, Q, D, ids, z, n0⟩ := X
  obtain ⟨hx, hb, hml, hown, hts, hK, hN, hlocks, rfl, hz⟩ := C
  intro H locs ls hln hP hS hl
  exact lv_icmp_ge hx hb hd ht (fun h => kt h H locs ls hln hP hS hl) (fun h => kf h H locs ls hln hP hS hl)
theorem e_if_ge {X : Ctx} {kn : Nat × Nat} {pc : Nat} {lv : List (Nat × Value)} {st : List Value} {sh : List Sh} {M : Mm} {cc : ByteArray} {own : String} {nL : Nat} {R : Room} {x : Int32} {off : Int} {tgt : Nat} (C : Cx X cc own nL R) (hd : decode cc pc = .ok (.ifCond .ge off, 3)) (ht : (pc : Int) + off = (tgt : Int)) (kt : 0 ≤ x → Wd X kn tgt lv st sh M) (kf : ¬ 0 ≤ x → Wd X kn (pc + 3) lv st sh M) : Wd X kn pc lv (.int x :: st) sh M := by
  obtain ⟨p, l, e, R0, s, m, args, below, meth, c, Q, D, ids, z, n0⟩ := X
  obtain ⟨hx, hb, hml, hown, hts, hK, hN, hlocks, rfl, hz⟩ := C
  intro H locs ls hln hP hS hl
  exact lv_if_ge hx hb hd ht (fun h => kt h H locs ls hln hP hS hl) (fun h => kf h H locs ls hln hP hS hl)
theorem e_icmp_gt {X : Ctx} {kn : Nat × Nat} {pc : Nat} {lv : List (Nat × Value)} {st : List Value} {sh : List Sh} {M : Mm} {cc : ByteArray} {own : String} {nL : Nat} {R : Room} {x y : Int32} {off : Int} {tgt : Nat} (C : Cx X cc own nL R) (hd : decode cc pc = .ok (.if_icmp .gt off, 3)) (ht : (pc : Int) + off = (tgt : Int)) (kt : y < x → Wd X kn tgt lv st sh M) (kf : ¬ y < x → Wd X kn (pc + 3) lv st sh M) : Wd X kn pc lv (.int y :: .int x :: st) sh M := by
  obtain ⟨p, l, e, R0, s, m, args, below, meth, c, Q, D, ids, z, n0⟩ := X
  obtain ⟨hx, hb, hml, hown, hts, hK, hN, hlocks, rfl, hz⟩ := C
  intro H locs ls hln hP hS hl
  exact lv_icmp_gt hx hb hd ht (fun h => kt h H locs ls hln hP hS hl) (fun h => kf h H locs ls hln hP hS hl)
theorem e_if_gt {X : Ctx} {kn : Nat × Nat} {pc : Nat} {lv : List (Nat × Value)} {st : List Value} {sh : List Sh} {M : Mm} {cc : ByteArray} {own : String} {nL : Nat} {R : Room} {x : Int32} {off : Int} {tgt : Nat} (C : Cx X cc own nL R) (hd : decode cc pc = .ok (.ifCond .gt off, 3)) (ht : (pc : Int) + off = (tgt : Int)) (kt : 0 < x → Wd X kn tgt lv st sh M) (kf : ¬ 0 < x → Wd X kn (pc + 3) lv st sh M) : Wd X kn pc lv (.int x :: st) sh M := by
  obtain ⟨p, l, e, R0, s, m, args, below, meth, c, Q, D, ids, z, n0⟩ := X
  obtain ⟨hx, hb, hml, hown, hts, hK, hN, hlocks, rfl, hz⟩ := C
  intro H locs ls hln hP hS hl
  exact lv_if_gt hx hb hd ht (fun h => kt h H locs ls hln hP hS hl) (fun h => kf h H locs ls hln hP hS hl)
theorem e_icmp_le {X : Ctx} {kn : Nat × Nat} {pc : Nat} {lv : List (Nat × Value)} {st : List Value} {sh : List Sh} {M : Mm} {cc : ByteArray} {own : String} {nL : Nat} {R : Room} {x y : Int32} {off : Int} {tgt : Nat} (C : Cx X cc own nL R) (hd : decode cc pc = .ok (.if_icmp .le off, 3)) (ht : (pc : Int) + off = (tgt : Int)) (kt : x ≤ y → Wd X kn tgt lv st sh M) (kf : ¬ x ≤ y → Wd X kn (pc + 3) lv st sh M) : Wd X kn pc lv (.int y :: .int x :: st) sh M := by
  obtain ⟨p, l, e, R0, s, m, args, below, meth, c, Q, D, ids, z, n0⟩ := X
  obtain ⟨hx, hb, hml, hown, hts, hK, hN, hlocks, rfl, hz⟩ := C
  intro H locs ls hln hP hS hl
  exact lv_icmp_le hx hb hd ht (fun h => kt h H locs ls hln hP hS hl) (fun h => kf h H locs ls hln hP hS hl)
theorem e_if_le {X : Ctx} {kn : Nat × Nat} {pc : Nat} {lv : List (Nat × Value)} {st : List Value} {sh : List Sh} {M : Mm} {cc : ByteArray} {own : String} {nL : Nat} {R : Room} {x : Int32} {off : Int} {tgt : Nat} (C : Cx X cc own nL R) (hd : decode cc pc = .ok (.ifCond .le off, 3)) (ht : (pc : Int) + off = (tgt : Int)) (kt : x ≤ 0 → Wd X kn tgt lv st sh M) (kf : ¬ x ≤ 0 → Wd X kn (pc + 3) lv st sh M) : Wd X kn pc lv (.int x :: st) sh M := by
  obtain ⟨p, l, e, R0, s, m, args, below, meth, c, Q, D, ids, z, n0⟩ := X
  obtain ⟨hx, hb, hml, hown, hts, hK, hN, hlocks, rfl, hz⟩ := C
  intro H locs ls hln hP hS hl
  exact lv_if_le hx hb hd ht (fun h => kt h H locs ls hln hP hS hl) (fun h => kf h H locs ls hln hP hS hl)
theorem e_icmp_eq {X : Ctx} {kn : Nat × Nat} {pc : Nat} {lv : List (Nat × Value)} {st : List Value} {sh : List Sh} {M : Mm} {cc : ByteArray} {own : String} {nL : Nat} {R : Room} {x y : Int32} {off : Int} {tgt : Nat} (C : Cx X cc own nL R) (hd : decode cc pc = .ok (.if_icmp .eq off, 3)) (ht : (pc : Int) + off = (tgt : Int)) (kt : x = y → Wd X kn tgt lv st sh M) (kf : ¬ x = y → Wd X kn (pc + 3) lv st sh M) : Wd X kn pc lv (.int y :: .int x :: st) sh M := by
  obtain ⟨p, l, e, R0, s, m, args, below, meth, c, Q, D, ids, z, n0⟩ := X
  obtain ⟨hx, hb, hml, hown, hts, hK, hN, hlocks, rfl, hz⟩ := C
  intro H locs ls hln hP hS hl
  exact lv_icmp_eq hx hb hd ht (fun h => kt h H locs ls hln hP hS hl) (fun h => kf h H locs ls hln hP hS hl)
theorem e_if_eq {X : Ctx} {kn : Nat × Nat} {pc : Nat} {lv : List (Nat × Value)} {st : List Value} {sh : List Sh} {M : Mm} {cc : ByteArray} {own : String} {nL : Nat} {R : Room} {x : Int32} {off : Int} {tgt : Nat} (C : Cx X cc own nL R) (hd : decode cc pc = .ok (.ifCond .eq off, 3)) (ht : (pc : Int) + off = (tgt : Int)) (kt : x = 0 → Wd X kn tgt lv st sh M) (kf : ¬ x = 0 → Wd X kn (pc + 3) lv st sh M) : Wd X kn pc lv (.int x :: st) sh M := by
  obtain ⟨p, l, e, R0, s, m, args, below, meth, c, Q, D, ids, z, n0⟩ := X
  obtain ⟨hx, hb, hml, hown, hts, hK, hN, hlocks, rfl, hz⟩ := C
  intro H locs ls hln hP hS hl
  exact lv_if_eq hx hb hd ht (fun h => kt h H locs ls hln hP hS hl) (fun h => kf h H locs ls hln hP hS hl)
theorem e_icmp_ne {X : Ctx} {kn : Nat × Nat} {pc : Nat} {lv : List (Nat × Value)} {st : List Value} {sh : List Sh} {M : Mm} {cc : ByteArray} {own : String} {nL : Nat} {R : Room} {x y : Int32} {off : Int} {tgt : Nat} (C : Cx X cc own nL R) (hd : decode cc pc = .ok (.if_icmp .ne off, 3)) (ht : (pc : Int) + off = (tgt : Int)) (kt : ¬ x = y → Wd X kn tgt lv st sh M) (kf : x = y → Wd X kn (pc + 3) lv st sh M) : Wd X kn pc lv (.int y :: .int x :: st) sh M := by
  obtain ⟨p, l, e, R0, s, m, args, below, meth, c, Q, D, ids, z, n0⟩ := X
  obtain ⟨hx, hb, hml, hown, hts, hK, hN, hlocks, rfl, hz⟩ := C
  intro H locs ls hln hP hS hl
  exact lv_icmp_ne hx hb hd ht (fun h => kt h H locs ls hln hP hS hl) (fun h => kf h H locs ls hln hP hS hl)
theorem e_if_ne {X : Ctx} {kn : Nat × Nat} {pc : Nat} {lv : List (Nat × Value)} {st : List Value} {sh : List Sh} {M : Mm} {cc : ByteArray} {own : String} {nL : Nat} {R : Room} {x : Int32} {off : Int} {tgt : Nat} (C : Cx X cc own nL R) (hd : decode cc pc = .ok (.ifCond .ne off, 3)) (ht : (pc : Int) + off = (tgt : Int)) (kt : ¬ x = 0 → Wd X kn tgt lv st sh M) (kf : x = 0 → Wd X kn (pc + 3) lv st sh M) : Wd X kn pc lv (.int x :: st) sh M := by
  obtain ⟨p, l, e, R0, s, m, args, below, meth, c, Q, D, ids, z, n0⟩ := X
  obtain ⟨hx, hb, hml, hown, hts, hK, hN, hlocks, rfl, hz⟩ := C
  intro H locs ls hln hP hS hl
  exact lv_if_ne hx hb hd ht (fun h => kt h H locs ls hln hP hS hl) (fun h => kf h H locs ls hln hP hS hl)
theorem e_tableIn {X : Ctx} {kn : Nat × Nat} {pc : Nat} {lv : List (Nat × Value)} {st : List Value} {sh : List Sh} {M : Mm} {cc : ByteArray} {own : String} {nL : Nat} {R : Room} {dflt lo hi : Int} {offs : Array Int} {len : Nat} {x : Int32} {off : Int} {tgt : Nat} (C : Cx X cc own nL R) (hd : decode cc pc = .ok (.tableswitch dflt lo hi offs, len)) (h1 : ¬ x.toInt < lo) (h2 : ¬ hi < x.toInt) (ho : offs[(x.toInt - lo).toNat]? = some off) (ht : (pc : Int) + off = (tgt : Int)) (k : Wd X kn tgt lv st sh M) : Wd X kn pc lv (.int x :: st) sh M := by
  obtain ⟨p, l, e, R0, s, m, args, below, meth, c, Q, D, ids, z, n0⟩ := X
  obtain ⟨hx, hb, hml, hown, hts, hK, hN, hlocks, rfl, hz⟩ := C
  intro H locs ls hln hP hS hl
  exact lv_tableIn hx hb hd h1 h2 ho ht (k H locs ls hln hP hS hl)
theorem e_tableOut {X : Ctx} {kn : Nat × Nat} {pc : Nat} {lv : List (Nat × Value)} {st : List Value} {sh : List Sh} {M : Mm} {cc : ByteArray} {own : String} {nL : Nat} {R : Room} {dflt lo hi : Int} {offs : Array Int} {len : Nat} {x : Int32} {tgt : Nat} (C : Cx X cc own nL R) (hd : decode cc pc = .ok (.tableswitch dflt lo hi offs, len)) (h : x.toInt < lo ∨ hi < x.toInt) (ht : (pc : Int) + dflt = (tgt : Int)) (k : Wd X kn tgt lv st sh M) : Wd X kn pc lv (.int x :: st) sh M := by
  obtain ⟨p, l, e, R0, s, m, args, below, meth, c, Q, D, ids, z, n0⟩ := X
  obtain ⟨hx, hb, hml, hown, hts, hK, hN, hlocks, rfl, hz⟩ := C
  intro H locs ls hln hP hS hl
  exact lv_tableOut hx hb hd h ht (k H locs ls hln hP hS hl)
theorem e_loc {X : Ctx} {kn : Nat × Nat} {pc : Nat} {lv lv2 : List (Nat × Value)} {st : List Value} {sh : List Sh} {M : Mm} (ks : List Nat) (h : ks.filterMap (fun k => lv[k]?) = lv2) (k : Wd X kn pc lv2 st sh M) : Wd X kn pc lv st sh M := by
  obtain ⟨p, l, e, R0, s, m, args, below, meth, c, Q, D, ids, z, n0⟩ := X
  intro H locs ls hln hP hS hl
  refine k H locs ls hln hP hS ⟨hl.1, hl.2.1, fun q hq => ?_⟩
  obtain ⟨q0, h0, rfl⟩ := List.mem_map.mp hq
  rw [← h] at h0
  obtain ⟨j, -, hj⟩ := List.mem_filterMap.mp h0
  exact hl.2.2 _ (List.mem_map.mpr ⟨q0, List.mem_of_getElem? hj, rfl⟩)
theorem e_nm {X : Ctx} {kn : Nat × Nat} {pc : Nat} {lv : List (Nat × Value)} {st : List Value} {sh : List Sh} {M : Mm} (k : ∀ M2, M2 = M → Wd X kn pc lv st sh M2) : Wd X kn pc lv st sh M := k M rfl
theorem e_nmi {X : Ctx} {kn : Nat × Nat} {pc : Nat} {lv : List (Nat × Value)} {st : List Value} {sh : List Sh} {M : Mm} {v : Int32} (k : ∀ x, x = v → Wd X kn pc lv (.int x :: st) sh M) : Wd X kn pc lv (.int v :: st) sh M := k v rfl
theorem e_nml {X : Ctx} {kn : Nat × Nat} {pc : Nat} {lv : List (Nat × Value)} {st : List Value} {sh : List Sh} {M : Mm} {v : Int64} (k : ∀ x, x = v → Wd X kn pc lv (.long x :: st) sh M) : Wd X kn pc lv (.long v :: st) sh M := k v rfl
theorem e_nmd {X : Ctx} {kn : Nat × Nat} {pc : Nat} {lv : List (Nat × Value)} {st : List Value} {sh : List Sh} {M : Mm} {v : UInt64} (k : ∀ x, x = v → Wd X kn pc lv (.double x :: st) sh M) : Wd X kn pc lv (.double v :: st) sh M := k v rfl
theorem e_topi {X : Ctx} {kn : Nat × Nat} {pc : Nat} {lv : List (Nat × Value)} {st : List Value} {sh : List Sh} {M : Mm} {v : Int32} (v2 : Int32) (h : v = v2) (k : Wd X kn pc lv (.int v2 :: st) sh M) : Wd X kn pc lv (.int v :: st) sh M := h ▸ k
theorem e_topl {X : Ctx} {kn : Nat × Nat} {pc : Nat} {lv : List (Nat × Value)} {st : List Value} {sh : List Sh} {M : Mm} {v : Int64} (v2 : Int64) (h : v = v2) (k : Wd X kn pc lv (.long v2 :: st) sh M) : Wd X kn pc lv (.long v :: st) sh M := h ▸ k
theorem e_topd {X : Ctx} {kn : Nat × Nat} {pc : Nat} {lv : List (Nat × Value)} {st : List Value} {sh : List Sh} {M : Mm} {v : UInt64} (v2 : UInt64) (h : v = v2) (k : Wd X kn pc lv (.double v2 :: st) sh M) : Wd X kn pc lv (.double v :: st) sh M := h ▸ k
theorem e_mem {X : Ctx} {kn : Nat × Nat} {pc : Nat} {lv : List (Nat × Value)} {st : List Value} {sh : List Sh} {M : Mm} (M2 : Mm) (h : M = M2) (k : Wd X kn pc lv st sh M2) : Wd X kn pc lv st sh M := h ▸ k
theorem e_iaload {X : Ctx} {kn : Nat × Nat} {pc : Nat} {lv : List (Nat × Value)} {st : List Value} {sh : List Sh} {M : Mm} {cc : ByteArray} {own : String} {nL : Nat} {R : Room} {a n : Nat} {i : Int32} (C : Cx X cc own nL R) (hd : decode cc pc = .ok (.iaload, 1)) (ha : sh[a]? = some (.inl (0, n))) (hin : vp_in i n) (k : Wd X kn (pc + 1) lv (.int (gI M a i.toNatClampNeg) :: st) sh M) : Wd X kn pc lv (.int i :: .ref a :: st) sh M := by
  obtain ⟨p, l, e, R0, s, m, args, below, meth, c, Q, D, ids, z, n0⟩ := X
  obtain ⟨hx, hb, hml, hown, hts, hK, hN, hlocks, rfl, hz⟩ := C
  intro H locs ls hln hP hS hl
  exact va_iald hx hb hK hP a 0 (e_wl_at ha) rfl hin hd (k H locs ls hln hP hS hl)
theorem e_iastore {X : Ctx} {kn : Nat × Nat} {pc : Nat} {lv : List (Nat × Value)} {st : List Value} {sh : List Sh} {M : Mm} {cc : ByteArray} {own : String} {nL : Nat} {R : Room} {a n : Nat} {i : Int32} {x : Int32} (C : Cx X cc own nL R) (hd : decode cc pc = .ok (.iastore, 1)) (ha : sh[a]? = some (.inl (0, n))) (hin : vp_in i n) (k : Wd X kn (pc + 1) lv st sh (sI M a (upd (gI M a) i.toNatClampNeg x))) : Wd X kn pc lv (.int x :: .int i :: .ref a :: st) sh M := by
  obtain ⟨p, l, e, R0, s, m, args, below, meth, c, Q, D, ids, z, n0⟩ := X
  obtain ⟨hx, hb, hml, hown, hts, hK, hN, hlocks, rfl, hz⟩ := C
  intro H locs ls hln hP hS hl
  refine va_iast hx hb hK hP (e_D ids z M sh) hS a 0 (e_wl_at ha) rfl hin hd (fun H1 locs1 hP1 hD1 hS1 => ?_)
  have he := e_wl_set (ids := ids) (z := z) (M := M) (M' := sI M a (upd (gI M a) i.toNatClampNeg x)) (sh := sh) (k := a) (a' := .inl (0, n)) (fun j hj => ⟨gI_sI_ne M _ hj, rfl, rfl⟩)
  rw [e_set_same ha] at he
  simp only [e_ce, gI_sI] at he
  rw [he] at hP1
  exact k H1 locs1 ls hln hP1 hS1 hl
theorem e_laload {X : Ctx} {kn : Nat × Nat} {pc : Nat} {lv : List (Nat × Value)} {st : List Value} {sh : List Sh} {M : Mm} {cc : ByteArray} {own : String} {nL : Nat} {R : Room} {a n : Nat} {i : Int32} (C : Cx X cc own nL R) (hd : decode cc pc = .ok (.laload, 1)) (ha : sh[a]? = some (.inl (1, n))) (hin : vp_in i n) (k : Wd X kn (pc + 1) lv (.long (gJ M a i.toNatClampNeg) :: st) sh M) : Wd X kn pc lv (.int i :: .ref a :: st) sh M := by
  obtain ⟨p, l, e, R0, s, m, args, below, meth, c, Q, D, ids, z, n0⟩ := X
  obtain ⟨hx, hb, hml, hown, hts, hK, hN, hlocks, rfl, hz⟩ := C
  intro H locs ls hln hP hS hl
  exact va_lald hx hb hK hP a 1 (e_wl_at ha) rfl hin hd (k H locs ls hln hP hS hl)
theorem e_lastore {X : Ctx} {kn : Nat × Nat} {pc : Nat} {lv : List (Nat × Value)} {st : List Value} {sh : List Sh} {M : Mm} {cc : ByteArray} {own : String} {nL : Nat} {R : Room} {a n : Nat} {i : Int32} {x : Int64} (C : Cx X cc own nL R) (hd : decode cc pc = .ok (.lastore, 1)) (ha : sh[a]? = some (.inl (1, n))) (hin : vp_in i n) (k : Wd X kn (pc + 1) lv st sh (sJ M a (vp_updL (gJ M a) i.toNatClampNeg x))) : Wd X kn pc lv (.long x :: .int i :: .ref a :: st) sh M := by
  obtain ⟨p, l, e, R0, s, m, args, below, meth, c, Q, D, ids, z, n0⟩ := X
  obtain ⟨hx, hb, hml, hown, hts, hK, hN, hlocks, rfl, hz⟩ := C
  intro H locs ls hln hP hS hl
  refine va_last hx hb hK hP (e_D ids z M sh) hS a 1 (e_wl_at ha) rfl hin hd (fun H1 locs1 hP1 hD1 hS1 => ?_)
  have he := e_wl_set (ids := ids) (z := z) (M := M) (M' := sJ M a (vp_updL (gJ M a) i.toNatClampNeg x)) (sh := sh) (k := a) (a' := .inl (1, n)) (fun j hj => ⟨rfl, gJ_sJ_ne M _ hj, rfl⟩)
  rw [e_set_same ha] at he
  simp only [e_ce, gJ_sJ] at he
  rw [he] at hP1
  exact k H1 locs1 ls hln hP1 hS1 hl
theorem e_daload {X : Ctx} {kn : Nat × Nat} {pc : Nat} {lv : List (Nat × Value)} {st : List Value} {sh : List Sh} {M : Mm} {cc : ByteArray} {own : String} {nL : Nat} {R : Room} {a n : Nat} {i : Int32} (C : Cx X cc own nL R) (hd : decode cc pc = .ok (.daload, 1)) (ha : sh[a]? = some (.inl (2, n))) (hin : vp_in i n) (k : Wd X kn (pc + 1) lv (.double (gD M a i.toNatClampNeg) :: st) sh M) : Wd X kn pc lv (.int i :: .ref a :: st) sh M := by
  obtain ⟨p, l, e, R0, s, m, args, below, meth, c, Q, D, ids, z, n0⟩ := X
  obtain ⟨hx, hb, hml, hown, hts, hK, hN, hlocks, rfl, hz⟩ := C
  intro H locs ls hln hP hS hl
  exact va_dald hx hb hK hP a 2 (e_wl_at ha) rfl hin hd (k H locs ls hln hP hS hl)
theorem e_dastore {X : Ctx} {kn : Nat × Nat} {pc : Nat} {lv : List (Nat × Value)} {st : List Value} {sh : List Sh} {M : Mm} {cc : ByteArray} {own : String} {nL : Nat} {R : Room} {a n : Nat} {i : Int32} {x : UInt64} (C : Cx X cc own nL R) (hd : decode cc pc = .ok (.dastore, 1)) (ha : sh[a]? = some (.inl (2, n))) (hin : vp_in i n) (k : Wd X kn (pc + 1) lv st sh (sD M a (vf_upd (gD M a) i.toNatClampNeg x))) : Wd X kn pc lv (.double x :: .int i :: .ref a :: st) sh M := by
  obtain ⟨p, l, e, R0, s, m, args, below, meth, c, Q, D, ids, z, n0⟩ := X
  obtain ⟨hx, hb, hml, hown, hts, hK, hN, hlocks, rfl, hz⟩ := C
  intro H locs ls hln hP hS hl
  refine va_dast hx hb hK hP (e_D ids z M sh) hS a 2 (e_wl_at ha) rfl hin hd (fun H1 locs1 hP1 hD1 hS1 => ?_)
  have he := e_wl_set (ids := ids) (z := z) (M := M) (M' := sD M a (vf_upd (gD M a) i.toNatClampNeg x)) (sh := sh) (k := a) (a' := .inl (2, n)) (fun j hj => ⟨rfl, rfl, gD_sD_ne M _ hj⟩)
  rw [e_set_same ha] at he
  simp only [e_ce, gD_sD] at he
  rw [he] at hP1
  exact k H1 locs1 ls hln hP1 hS1 hl
theorem e_sz {p : Program} {l : Launch} {e : Env} {R : Room} {s : State} {m : MethodId} {args : Array Value} {below : List Frame} {meth : Method} {c : Code} {H : Heap} {locs : List Loc} {k1 k2 : Nat} {Q : State → Prop} {g : JFrame} {D : va_G} {ids : Id3} {z n0 : Nat} {sh : List Sh} {M : Mm} (hz : s.heap.size = z + n0) (hln : sh.length = n0 + k1) (hP : va_P D vwCl (e_wl ids z M 0 sh) H) (k : H.size = z + sh.length → W p l e R s m args below meth c H locs k1 k2 Q g) : W p l e R s m args below meth c H locs k1 k2 Q g := by
  intro T hT X
  have h1 : s.heap.size ≤ T.heap.size := X.same.2.1
  have h2 : T.heap.size ≤ s.heap.size + k1 := X.same.2.2.1
  rw [hT] at h1 h2
  refine k ?_ T hT X
  rcases Nat.eq_zero_or_pos sh.length with h0 | h0
  · omega
  · have h3 : ∃ a, sh[sh.length - 1]? = some a := ⟨_, List.getElem?_eq_getElem (by omega)⟩
    obtain ⟨a, h3⟩ := h3
    have h4 : z + (sh.length - 1) < H.size := (hP _ _ (e_wl_at h3)).lt
    omega
theorem e_fs_get (z : Nat) (M : Mm) (k : Nat) : ∀ (fk : List Nat) (j i : Nat), (e_fs z M k j fk)[i]? = (fk[i]?).map (fun a => e_fv z M k (j + i) a)
  | [], _, _ => by simp [e_fs]
  | a :: r, j, 0 => by simp [e_fs]
  | a :: r, j, i + 1 => by
    simp only [e_fs, List.getElem?_cons_succ]
    rw [e_fs_get z M k r (j + 1) i, show j + 1 + i = j + (i + 1) by omega]
theorem e_fs_len (z : Nat) (M : Mm) (k : Nat) : ∀ (fk : List Nat) (j : Nat), (e_fs z M k j fk).length = fk.length
  | [], _ => rfl
  | _ :: r, j => by simp [e_fs, e_fs_len z M k r (j + 1)]
theorem e_fs_at {z : Nat} {M : Mm} {k : Nat} {fk : List Nat} {i a : Nat} (h : fk[i]? = some a) : (e_fs z M k 0 fk)[i]? = some (e_fv z M k i a) := by
  rw [e_fs_get, h, Nat.zero_add]; rfl
theorem e_fs_set {z : Nat} {M M2 : Mm} {k : Nat} {fk fk2 : List Nat} {i : Nat} {v : Value} (hl : fk2.length = fk.length) (hi : ∀ a, fk2[i]? = some a → e_fv z M2 k i a = v) (ho : ∀ j, j ≠ i → fk2[j]? = fk[j]? ∧ ∀ a, fk[j]? = some a → e_fv z M2 k j a = e_fv z M k j a) : (e_fs z M k 0 fk).set i v = e_fs z M2 k 0 fk2 := by
  apply List.ext_getElem?
  intro j
  rw [e_fs_get, Nat.zero_add]
  by_cases hj : j = i
  · subst hj
    by_cases hlt : j < fk.length
    · rw [List.getElem?_set_self (by rw [e_fs_len]; exact hlt)]
      cases h2 : fk2[j]? with
      | none => rw [List.getElem?_eq_none_iff] at h2; omega
      | some a => simp only [Option.map_some]; rw [hi a h2]
    · rw [List.getElem?_eq_none (by rw [List.length_set, e_fs_len]; omega), List.getElem?_eq_none (by omega)]; rfl
  · rw [List.getElem?_set_ne (Ne.symm hj), e_fs_get, Nat.zero_add, (ho j hj).1]
    cases h2 : fk[j]? with
    | none => rfl
    | some a => simp only [Option.map_some]; rw [(ho j hj).2 a h2]
def Flk (own : String) (index : Nat) (f : String × String × String × Bool) : Prop := Cond.fieldLink own index f.1 f.2.1 f.2.2.1 ∈ lw_g ∨ ∃ host, Cond.fieldLinkNest own index f.1 f.2.1 f.2.2.1 host ∈ lw_n
/-- the constant index of the class own is the field k of the kind ci -/
def Fl (own : String) (index ci k : Nat) : Prop := ∃ (C : String) (T : u_T) (N : Nat), vwCl[ci]? = some (C, T, N) ∧ k < N ∧ (∀ w ∈ u_ws C T N, w ∈ lw_g) ∧ Flk own index (T k)
def Fp (own : String) (index ci k : Nat) (ty : FieldType) (fin : Bool) : Prop := ∃ (C : String) (T : u_T) (N : Nat) (ty0 : Nat → FieldType), vwCl[ci]? = some (C, T, N) ∧ k < N ∧ (∀ w ∈ u_ws C T N, w ∈ lw_g) ∧ (∀ k, k < N → parseFieldDescriptor (T k).2.2.1 = some (ty0 k)) ∧ (∀ a, a < N → ∀ b, b < N → a ≠ b → (T a).2.1 ≠ (T b).2.1) ∧ Flk own index (T k) ∧ (T k).2.2.2 = fin ∧ parseFieldDescriptor (T k).2.2.1 = some ty ∧ (fin = true → (T k).1 = own ∧ Cond.fieldLink own index (T k).1 (T k).2.1 (T k).2.2.1 ∈ lw_g)
theorem e_getI {X : Ctx} {kn : Nat × Nat} {pc : Nat} {lv : List (Nat × Value)} {st : List Value} {sh : List Sh} {M : Mm} {cc : ByteArray} {own : String} {nL : Nat} {R : Room} {a ci f i : Nat} {fk : List Nat} (C : Cx X cc own nL R) (hd : decode cc pc = .ok (.getfield i, 3)) (hf : Fl own i ci f) (ha : sh[a]? = some (.inr (ci, fk))) (hk : fk[f]? = some (0)) (k : Wd X kn (pc + 3) lv (.int (gI M a f) :: st) sh M) : Wd X kn pc lv (.ref a :: st) sh M := by
  obtain ⟨p, l, e, R0, s, m, args, below, meth, c, Q, D, ids, z, n0⟩ := X
  obtain ⟨hx, hb, hml, hown, hts, hK, hN, hlocks, rfl, hz⟩ := C
  intro H locs ls hln hP hS hl
  obtain ⟨Cn, T, N, h1, h2, h3, h4⟩ := hf
  rcases h4 with h4 | ⟨host, h4⟩
  · exact va_get hx hb hts h3 hown hK hP a (e_wl_at ha) h1 f h2 (hts _ h4) (fun _ h9 => h9) (e_fs_at hk) hd (k H locs ls hln hP hS hl)
  · exact va_getN hx hb hts h3 hown hK hP a (e_wl_at ha) h1 f h2 (va_Nw.use rfl (hN _ h4)) (fun _ h9 => h9) (e_fs_at hk) hd (k H locs ls hln hP hS hl)
theorem e_getJ {X : Ctx} {kn : Nat × Nat} {pc : Nat} {lv : List (Nat × Value)} {st : List Value} {sh : List Sh} {M : Mm} {cc : ByteArray} {own : String} {nL : Nat} {R : Room} {a ci f i : Nat} {fk : List Nat} (C : Cx X cc own nL R) (hd : decode cc pc = .ok (.getfield i, 3)) (hf : Fl own i ci f) (ha : sh[a]? = some (.inr (ci, fk))) (hk : fk[f]? = some (1)) (k : Wd X kn (pc + 3) lv (.long (gJ M a f) :: st) sh M) : Wd X kn pc lv (.ref a :: st) sh M := by
  obtain ⟨p, l, e, R0, s, m, args, below, meth, c, Q, D, ids, z, n0⟩ := X
  obtain ⟨hx, hb, hml, hown, hts, hK, hN, hlocks, rfl, hz⟩ := C
  intro H locs ls hln hP hS hl
  obtain ⟨Cn, T, N, h1, h2, h3, h4⟩ := hf
  rcases h4 with h4 | ⟨host, h4⟩
  · exact va_get hx hb hts h3 hown hK hP a (e_wl_at ha) h1 f h2 (hts _ h4) (fun _ h9 => h9) (e_fs_at hk) hd (k H locs ls hln hP hS hl)
  · exact va_getN hx hb hts h3 hown hK hP a (e_wl_at ha) h1 f h2 (va_Nw.use rfl (hN _ h4)) (fun _ h9 => h9) (e_fs_at hk) hd (k H locs ls hln hP hS hl)
theorem e_getR {X : Ctx} {kn : Nat × Nat} {pc : Nat} {lv : List (Nat × Value)} {st : List Value} {sh : List Sh} {M : Mm} {cc : ByteArray} {own : String} {nL : Nat} {R : Room} {a ci f i : Nat} {fk : List Nat} {q : Nat} (C : Cx X cc own nL R) (hd : decode cc pc = .ok (.getfield i, 3)) (hf : Fl own i ci f) (ha : sh[a]? = some (.inr (ci, fk))) (hk : fk[f]? = some (q + 3)) (k : Wd X kn (pc + 3) lv (.ref q :: st) sh M) : Wd X kn pc lv (.ref a :: st) sh M := by
  obtain ⟨p, l, e, R0, s, m, args, below, meth, c, Q, D, ids, z, n0⟩ := X
  obtain ⟨hx, hb, hml, hown, hts, hK, hN, hlocks, rfl, hz⟩ := C
  intro H locs ls hln hP hS hl
  obtain ⟨Cn, T, N, h1, h2, h3, h4⟩ := hf
  rcases h4 with h4 | ⟨host, h4⟩
  · exact va_get hx hb hts h3 hown hK hP a (e_wl_at ha) h1 f h2 (hts _ h4) (fun _ h9 => h9) (e_fs_at hk) hd (k H locs ls hln hP hS hl)
  · exact va_getN hx hb hts h3 hown hK hP a (e_wl_at ha) h1 f h2 (va_Nw.use rfl (hN _ h4)) (fun _ h9 => h9) (e_fs_at hk) hd (k H locs ls hln hP hS hl)
def e_ini (X : Ctx) : Prop :=
  match X with
  | (p, l, e, R, s, m, args, below, meth, c, Q, D, ids, z, n0) => meth.name = "<init>"
theorem e_putI {X : Ctx} {kn : Nat × Nat} {pc : Nat} {lv : List (Nat × Value)} {st : List Value} {sh : List Sh} {M : Mm} {cc : ByteArray} {own : String} {nL : Nat} {R : Room} {a ci f i : Nat} {fk : List Nat} {ty : FieldType} {x : Int32} (C : Cx X cc own nL R) (hd : decode cc pc = .ok (.putfield i, 3)) (hf : Fp own i ci f ty false) (ha : sh[a]? = some (.inr (ci, fk))) (hk : fk[f]? = some 0) (hn : narrow ty (.int x) = .int x) (hfit : fits ty (.int x) = true) (k : Wd X kn (pc + 3) lv st (sh) (sI M a (upd (gI M a) f x))) : Wd X kn pc lv (.int x :: .ref a :: st) sh M := by
  obtain ⟨p, l, e, R0, s, m, args, below, meth, c, Q, D, ids, z, n0⟩ := X
  obtain ⟨hx, hb, hml, hown, hts, hK, hN, hlocks, rfl, hz⟩ := C
  intro H locs ls hln hP hS hl
  obtain ⟨Cn, T, N, ty0, h1, h2, h3, h5, h6, h4, h7, h8, h9⟩ := hf
  have hfs : (e_fs z M a 0 fk).set f (.int x) = e_fs z (sI M a (upd (gI M a) f x)) a 0 fk := by
    refine e_fs_set rfl (fun b hb2 => ?_) (fun j hj => ⟨rfl, fun b hb2 => ?_⟩)
    · rw [hk] at hb2; cases hb2; simp [e_fv, gI_sI, upd]
    · match b with
      | 0 => simp [e_fv, gI_sI, upd, hj]
      | 1 => rfl
      | 2 => rfl
      | q + 3 => rfl
  have he := e_wl_set (ids := ids) (z := z) (M := M) (M' := sI M a (upd (gI M a) f x)) (sh := sh) (k := a) (a' := .inr (ci, fk)) (fun j hj => ⟨gI_sI_ne M _ hj, rfl, rfl⟩)
  rw [e_set_same ha] at he
  simp only [e_ce] at he
  rw [← hfs] at he

  rcases h4 with h4 | ⟨host, h4⟩
  · refine va_put hx hb hts h3 ty0 h5 h6 hown hK hP (e_D ids z M sh) hS a (e_wl_at ha) h1 f h2 (hts _ h4) (fun _ h9 => h9) h7 h8 (hn) (hfit) (by rw [e_fs_len]; exact (List.getElem?_eq_some_iff.mp hk).1) hd (fun H1 locs1 hP1 hD1 hS1 => ?_)
    have hP1 : va_P D vwCl _ H1 := he ▸ hP1
    exact k H1 locs1 ls hln hP1 hS1 hl
  · refine va_putN hx hb hts h3 ty0 h5 h6 hown hK hP (e_D ids z M sh) hS a (e_wl_at ha) h1 f h2 (va_Nw.use rfl (hN _ h4)) (fun _ h9 => h9) h7 h8 (hn) (hfit) (by rw [e_fs_len]; exact (List.getElem?_eq_some_iff.mp hk).1) hd (fun H1 locs1 hP1 hD1 hS1 => ?_)
    have hP1 : va_P D vwCl _ H1 := he ▸ hP1
    exact k H1 locs1 ls hln hP1 hS1 hl
theorem e_putJ {X : Ctx} {kn : Nat × Nat} {pc : Nat} {lv : List (Nat × Value)} {st : List Value} {sh : List Sh} {M : Mm} {cc : ByteArray} {own : String} {nL : Nat} {R : Room} {a ci f i : Nat} {fk : List Nat} {ty : FieldType} {x : Int64} (C : Cx X cc own nL R) (hd : decode cc pc = .ok (.putfield i, 3)) (hf : Fp own i ci f ty false) (ha : sh[a]? = some (.inr (ci, fk))) (hk : fk[f]? = some 1) (hn : narrow ty (.long x) = .long x) (hfit : fits ty (.long x) = true) (k : Wd X kn (pc + 3) lv st (sh) (sJ M a (vp_updL (gJ M a) f x))) : Wd X kn pc lv (.long x :: .ref a :: st) sh M := by
  obtain ⟨p, l, e, R0, s, m, args, below, meth, c, Q, D, ids, z, n0⟩ := X
  obtain ⟨hx, hb, hml, hown, hts, hK, hN, hlocks, rfl, hz⟩ := C
  intro H locs ls hln hP hS hl
  obtain ⟨Cn, T, N, ty0, h1, h2, h3, h5, h6, h4, h7, h8, h9⟩ := hf
  have hfs : (e_fs z M a 0 fk).set f (.long x) = e_fs z (sJ M a (vp_updL (gJ M a) f x)) a 0 fk := by
    refine e_fs_set rfl (fun b hb2 => ?_) (fun j hj => ⟨rfl, fun b hb2 => ?_⟩)
    · rw [hk] at hb2; cases hb2; simp [e_fv, gJ_sJ, vp_updL]
    · match b with
      | 0 => rfl
      | 1 => simp [e_fv, gJ_sJ, vp_updL, hj]
      | 2 => rfl
      | q + 3 => rfl
  have he := e_wl_set (ids := ids) (z := z) (M := M) (M' := sJ M a (vp_updL (gJ M a) f x)) (sh := sh) (k := a) (a' := .inr (ci, fk)) (fun j hj => ⟨rfl, gJ_sJ_ne M _ hj, rfl⟩)
  rw [e_set_same ha] at he
  simp only [e_ce] at he
  rw [← hfs] at he

  rcases h4 with h4 | ⟨host, h4⟩
  · refine va_put hx hb hts h3 ty0 h5 h6 hown hK hP (e_D ids z M sh) hS a (e_wl_at ha) h1 f h2 (hts _ h4) (fun _ h9 => h9) h7 h8 (hn) (hfit) (by rw [e_fs_len]; exact (List.getElem?_eq_some_iff.mp hk).1) hd (fun H1 locs1 hP1 hD1 hS1 => ?_)
    have hP1 : va_P D vwCl _ H1 := he ▸ hP1
    exact k H1 locs1 ls hln hP1 hS1 hl
  · refine va_putN hx hb hts h3 ty0 h5 h6 hown hK hP (e_D ids z M sh) hS a (e_wl_at ha) h1 f h2 (va_Nw.use rfl (hN _ h4)) (fun _ h9 => h9) h7 h8 (hn) (hfit) (by rw [e_fs_len]; exact (List.getElem?_eq_some_iff.mp hk).1) hd (fun H1 locs1 hP1 hD1 hS1 => ?_)
    have hP1 : va_P D vwCl _ H1 := he ▸ hP1
    exact k H1 locs1 ls hln hP1 hS1 hl
theorem e_putR {X : Ctx} {kn : Nat × Nat} {pc : Nat} {lv : List (Nat × Value)} {st : List Value} {sh : List Sh} {M : Mm} {cc : ByteArray} {own : String} {nL : Nat} {R : Room} {a ci f i : Nat} {fk : List Nat} {ty : FieldType} {q q0 : Nat} {fk2 : List Nat} {sh2 : List Sh} (C : Cx X cc own nL R) (hd : decode cc pc = .ok (.putfield i, 3)) (hf : Fp own i ci f ty false) (ha : sh[a]? = some (.inr (ci, fk))) (hk : fk[f]? = some (q0 + 2)) (hfk2 : fk.set f (q + 3) = fk2) (hsh2 : sh.set a (.inr (ci, fk2)) = sh2) (hn : ∀ z, narrow ty (.ref (z + q)) = .ref (z + q)) (hfit : ∀ z, fits ty (.ref (z + q)) = true) (k : Wd X kn (pc + 3) lv st (sh2) (M)) : Wd X kn pc lv (.ref q :: .ref a :: st) sh M := by
  obtain ⟨p, l, e, R0, s, m, args, below, meth, c, Q, D, ids, z, n0⟩ := X
  obtain ⟨hx, hb, hml, hown, hts, hK, hN, hlocks, rfl, hz⟩ := C
  intro H locs ls hln hP hS hl
  obtain ⟨Cn, T, N, ty0, h1, h2, h3, h5, h6, h4, h7, h8, h9⟩ := hf
  have hfs : (e_fs z M a 0 fk).set f (.ref (z + q)) = e_fs z M a 0 fk2 := by
    subst hfk2
    refine e_fs_set (by rw [List.length_set]) (fun b hb2 => ?_) (fun j hj => ⟨by rw [List.getElem?_set_ne (Ne.symm hj)], fun b hb2 => rfl⟩)
    rw [List.getElem?_set_self (List.getElem?_eq_some_iff.mp hk).1] at hb2; cases hb2; rfl
  have he := e_wl_set (ids := ids) (z := z) (M := M) (M' := M) (sh := sh) (k := a) (a' := .inr (ci, fk2)) (fun j hj => ⟨rfl, rfl, rfl⟩)
  simp only [e_ce] at he
  rw [← hfs, hsh2] at he
  have hln2 : sh2.length = n0 + kn.1 := by rw [← hsh2, List.length_set]; exact hln

  rcases h4 with h4 | ⟨host, h4⟩
  · refine va_put hx hb hts h3 ty0 h5 h6 hown hK hP (e_D ids z M sh) hS a (e_wl_at ha) h1 f h2 (hts _ h4) (fun _ h9 => h9) h7 h8 (hn z) (hfit z) (by rw [e_fs_len]; exact (List.getElem?_eq_some_iff.mp hk).1) hd (fun H1 locs1 hP1 hD1 hS1 => ?_)
    have hP1 : va_P D vwCl _ H1 := he ▸ hP1
    exact k H1 locs1 ls hln2 hP1 hS1 hl
  · refine va_putN hx hb hts h3 ty0 h5 h6 hown hK hP (e_D ids z M sh) hS a (e_wl_at ha) h1 f h2 (va_Nw.use rfl (hN _ h4)) (fun _ h9 => h9) h7 h8 (hn z) (hfit z) (by rw [e_fs_len]; exact (List.getElem?_eq_some_iff.mp hk).1) hd (fun H1 locs1 hP1 hD1 hS1 => ?_)
    have hP1 : va_P D vwCl _ H1 := he ▸ hP1
    exact k H1 locs1 ls hln2 hP1 hS1 hl
theorem e_putIF {X : Ctx} {kn : Nat × Nat} {pc : Nat} {lv : List (Nat × Value)} {st : List Value} {sh : List Sh} {M : Mm} {cc : ByteArray} {own : String} {nL : Nat} {R : Room} {a ci f i : Nat} {fk : List Nat} {ty : FieldType} {x : Int32} (C : Cx X cc own nL R) (hd : decode cc pc = .ok (.putfield i, 3)) (hf : Fp own i ci f ty true) (ha : sh[a]? = some (.inr (ci, fk))) (hk : fk[f]? = some 0) (hn : narrow ty (.int x) = .int x) (hfit : fits ty (.int x) = true) (hin : e_ini X) (k : Wd X kn (pc + 3) lv st (sh) (sI M a (upd (gI M a) f x))) : Wd X kn pc lv (.int x :: .ref a :: st) sh M := by
  obtain ⟨p, l, e, R0, s, m, args, below, meth, c, Q, D, ids, z, n0⟩ := X
  obtain ⟨hx, hb, hml, hown, hts, hK, hN, hlocks, rfl, hz⟩ := C
  intro H locs ls hln hP hS hl
  obtain ⟨Cn, T, N, ty0, h1, h2, h3, h5, h6, h4, h7, h8, h9⟩ := hf
  have hfs : (e_fs z M a 0 fk).set f (.int x) = e_fs z (sI M a (upd (gI M a) f x)) a 0 fk := by
    refine e_fs_set rfl (fun b hb2 => ?_) (fun j hj => ⟨rfl, fun b hb2 => ?_⟩)
    · rw [hk] at hb2; cases hb2; simp [e_fv, gI_sI, upd]
    · match b with
      | 0 => simp [e_fv, gI_sI, upd, hj]
      | 1 => rfl
      | 2 => rfl
      | q + 3 => rfl
  have he := e_wl_set (ids := ids) (z := z) (M := M) (M' := sI M a (upd (gI M a) f x)) (sh := sh) (k := a) (a' := .inr (ci, fk)) (fun j hj => ⟨gI_sI_ne M _ hj, rfl, rfl⟩)
  rw [e_set_same ha] at he
  simp only [e_ce] at he
  rw [← hfs] at he

  refine va_putF hx hb hts h3 ty0 h5 h6 hown hK hP (e_D ids z M sh) hS a (e_wl_at ha) h1 f h2 (hts _ (h9 rfl).2) (fun _ h9 => h9) h7 hin (h9 rfl).1 h8 (hn) (hfit) (by rw [e_fs_len]; exact (List.getElem?_eq_some_iff.mp hk).1) hd (fun H1 locs1 hP1 hD1 hS1 => ?_)
  have hP1 : va_P D vwCl _ H1 := he ▸ hP1
  exact k H1 locs1 ls hln hP1 hS1 hl
theorem e_putJF {X : Ctx} {kn : Nat × Nat} {pc : Nat} {lv : List (Nat × Value)} {st : List Value} {sh : List Sh} {M : Mm} {cc : ByteArray} {own : String} {nL : Nat} {R : Room} {a ci f i : Nat} {fk : List Nat} {ty : FieldType} {x : Int64} (C : Cx X cc own nL R) (hd : decode cc pc = .ok (.putfield i, 3)) (hf : Fp own i ci f ty true) (ha : sh[a]? = some (.inr (ci, fk))) (hk : fk[f]? = some 1) (hn : narrow ty (.long x) = .long x) (hfit : fits ty (.long x) = true) (hin : e_ini X) (k : Wd X kn (pc + 3) lv st (sh) (sJ M a (vp_updL (gJ M a) f x))) : Wd X kn pc lv (.long x :: .ref a :: st) sh M := by
  obtain ⟨p, l, e, R0, s, m, args, below, meth, c, Q, D, ids, z, n0⟩ := X
  obtain ⟨hx, hb, hml, hown, hts, hK, hN, hlocks, rfl, hz⟩ := C
  intro H locs ls hln hP hS hl
  obtain ⟨Cn, T, N, ty0, h1, h2, h3, h5, h6, h4, h7, h8, h9⟩ := hf
  have hfs : (e_fs z M a 0 fk).set f (.long x) = e_fs z (sJ M a (vp_updL (gJ M a) f x)) a 0 fk := by
    refine e_fs_set rfl (fun b hb2 => ?_) (fun j hj => ⟨rfl, fun b hb2 => ?_⟩)
    · rw [hk] at hb2; cases hb2; simp [e_fv, gJ_sJ, vp_updL]
    · match b with
      | 0 => rfl
      | 1 => simp [e_fv, gJ_sJ, vp_updL, hj]
      | 2 => rfl
      | q + 3 => rfl
  have he := e_wl_set (ids := ids) (z := z) (M := M) (M' := sJ M a (vp_updL (gJ M a) f x)) (sh := sh) (k := a) (a' := .inr (ci, fk)) (fun j hj => ⟨rfl, gJ_sJ_ne M _ hj, rfl⟩)
  rw [e_set_same ha] at he
  simp only [e_ce] at he
  rw [← hfs] at he

  refine va_putF hx hb hts h3 ty0 h5 h6 hown hK hP (e_D ids z M sh) hS a (e_wl_at ha) h1 f h2 (hts _ (h9 rfl).2) (fun _ h9 => h9) h7 hin (h9 rfl).1 h8 (hn) (hfit) (by rw [e_fs_len]; exact (List.getElem?_eq_some_iff.mp hk).1) hd (fun H1 locs1 hP1 hD1 hS1 => ?_)
  have hP1 : va_P D vwCl _ H1 := he ▸ hP1
  exact k H1 locs1 ls hln hP1 hS1 hl
theorem e_putRF {X : Ctx} {kn : Nat × Nat} {pc : Nat} {lv : List (Nat × Value)} {st : List Value} {sh : List Sh} {M : Mm} {cc : ByteArray} {own : String} {nL : Nat} {R : Room} {a ci f i : Nat} {fk : List Nat} {ty : FieldType} {q q0 : Nat} {fk2 : List Nat} {sh2 : List Sh} (C : Cx X cc own nL R) (hd : decode cc pc = .ok (.putfield i, 3)) (hf : Fp own i ci f ty true) (ha : sh[a]? = some (.inr (ci, fk))) (hk : fk[f]? = some (q0 + 2)) (hfk2 : fk.set f (q + 3) = fk2) (hsh2 : sh.set a (.inr (ci, fk2)) = sh2) (hn : ∀ z, narrow ty (.ref (z + q)) = .ref (z + q)) (hfit : ∀ z, fits ty (.ref (z + q)) = true) (hin : e_ini X) (k : Wd X kn (pc + 3) lv st (sh2) (M)) : Wd X kn pc lv (.ref q :: .ref a :: st) sh M := by
  obtain ⟨p, l, e, R0, s, m, args, below, meth, c, Q, D, ids, z, n0⟩ := X
  obtain ⟨hx, hb, hml, hown, hts, hK, hN, hlocks, rfl, hz⟩ := C
  intro H locs ls hln hP hS hl
  obtain ⟨Cn, T, N, ty0, h1, h2, h3, h5, h6, h4, h7, h8, h9⟩ := hf
  have hfs : (e_fs z M a 0 fk).set f (.ref (z + q)) = e_fs z M a 0 fk2 := by
    subst hfk2
    refine e_fs_set (by rw [List.length_set]) (fun b hb2 => ?_) (fun j hj => ⟨by rw [List.getElem?_set_ne (Ne.symm hj)], fun b hb2 => rfl⟩)
    rw [List.getElem?_set_self (List.getElem?_eq_some_iff.mp hk).1] at hb2; cases hb2; rfl
  have he := e_wl_set (ids := ids) (z := z) (M := M) (M' := M) (sh := sh) (k := a) (a' := .inr (ci, fk2)) (fun j hj => ⟨rfl, rfl, rfl⟩)
  simp only [e_ce] at he
  rw [← hfs, hsh2] at he
  have hln2 : sh2.length = n0 + kn.1 := by rw [← hsh2, List.length_set]; exact hln

  refine va_putF hx hb hts h3 ty0 h5 h6 hown hK hP (e_D ids z M sh) hS a (e_wl_at ha) h1 f h2 (hts _ (h9 rfl).2) (fun _ h9 => h9) h7 hin (h9 rfl).1 h8 (hn z) (hfit z) (by rw [e_fs_len]; exact (List.getElem?_eq_some_iff.mp hk).1) hd (fun H1 locs1 hP1 hD1 hS1 => ?_)
  have hP1 : va_P D vwCl _ H1 := he ▸ hP1
  exact k H1 locs1 ls hln2 hP1 hS1 hl
def Lm (own : String) (index : Nat) (y : MethodName) : Prop := Cond.methodLink own index y ∈ lw_g ∨ ∃ host, Cond.methodLinkNest own index y host ∈ lw_n
def Lv (own Cn : String) (index : Nat) (y : MethodName) : Prop := Lm own index y ∧ Cond.instanceMethod y ∈ lw_g ∧ Cond.selects Cn y y ∈ lw_g ∧ Cond.initialized y.cls ∈ lw_g
def Ls (own : String) (index : Nat) (y : MethodName) : Prop := Lm own index y ∧ Cond.static y ∈ lw_g ∧ Cond.initialized y.cls ∈ lw_g
def Li (own : String) (index : Nat) (y : MethodName) : Prop := Lm own index y ∧ Cond.instanceMethod y ∈ lw_g ∧ Cond.initialized y.cls ∈ lw_g
def Ok (mi : Mi) (n : Nat) : Prop := Cond.code mi.1 mi.2.1 mi.2.2.1 mi.2.2.2.1 ∈ lw_g ∧ mi.1.cls ≠ "java/lang/invoke/MethodHandle" ∧ mi.1.cls ≠ "java/lang/invoke/VarHandle" ∧ (parseMethodDescriptor mi.1.desc).map (fun d => d.parameters.length) = some n
theorem e_goodIn {w0 : Cond} (hc : w0 ∈ lw_g) : GoodIn lw_g (w0 :: lw_g) := fun w hw =>
  have hm : w ∈ lw_g := (List.mem_cons.mp hw).elim (fun e => e ▸ hc) id
  ⟨hm, good_of_word (List.mem_filter.mp hm).2⟩
abbrev e_Pc (D : va_G) (ids : Id3) (z : Nat) (av : List Value) (sh : List Sh) (M : Mm) : Array Value → State → Prop := va_Pc (av.map (tr z)) (fun U => U.heap.size = z + sh.length ∧ va_P D vwCl (e_wl ids z M 0 sh) U.heap ∧ va_K D vwCl (e_ty ids) U ∧ Nst U)
theorem e_blind (D : va_G) (ids : Id3) (z : Nat) (av : List Value) (sh : List Sh) (M : Mm) : FrameBlind (e_Pc D ids z av sh M) := fun a U g mk q => by
  obtain ⟨q0, q1, qP, qK, qN⟩ := q
  exact ⟨q0, q1, qP, va_K.moved (u := U) (U := U.calling g mk a) (Vm.Alike.refl U.vm) qK, Nst.same (s := U) (U := U.calling g mk a) rfl qN⟩
theorem e_pre {D : va_G} {ids : Id3} {z : Nat} {av : List Value} {sh : List Sh} {M : Mm} {s : State} {H : Heap} (hH : H.size = z + sh.length) (hP : va_P D vwCl (e_wl ids z M 0 sh) H) (hK : va_K D vwCl (e_ty ids) s) (hN : Nst s) : ∀ U : State, U.heap = H → s.WarmedH U.vm → e_Pc D ids z av sh M (av.map (tr z)).toArray U := fun U hU hW => ⟨rfl, by rw [hU]; exact hH, by rw [hU]; exact hP, va_K.moved hW.alike hK, hN.warm hW⟩
/-- behind a call -/
theorem e_back {p : Program} {l : Launch} {e : Env} {R : Room} {s : State} {m : MethodId} {args : Array Value} {below : List Frame} {meth : Method} {c : Code} {H : Heap} {locs : List Loc} {k1 k2 mc ms pc : Nat} {Q : State → Prop} {ls : Array Slot} {st0 rest : List Value} {a : Array Value} {D : va_G} {ids : Id3} {z : Nat} {post : Option Value → List Sh → Mm → Prop}
    (hr : va_Run p l e R s m args below meth c H locs k1 k2 mc ms (F0 m pc ls st0) (rest.map (tr z)) (e_Qc D ids z post a) (fun q => z ≤ q)) (hS : va_S (fun q => z ≤ q) s.heap H locs)
    (kk : ∀ (v : Option Value) (sh2 : List Sh) (M2 : Mm) (H1 : Heap) (locs1 : List Loc), post v sh2 M2 → H1.size = z + sh2.length → va_P D vwCl (e_wl ids z M2 0 sh2) H1 → va_S (fun q => z ≤ q) s.heap H1 locs1 → W p l e R s m args below meth c H1 locs1 (k1 + mc) (k2 + ms) Q (F0 m (pc + 3) ls ((v.toList ++ rest).map (tr z)))) : W p l e R s m args below meth c H locs k1 k2 Q (F0 m pc ls st0) := by
  intro T hT X
  obtain ⟨v, st₀, t, T', L, h0, X', hL, e1, e2, ⟨⟨v', sh2, M2, hv, hp, hz2, hP2⟩, hz, hk⟩, st⟩ := hr T hT X
  cases hv
  rw [h0] at hz hk
  obtain ⟨t2, a1, b1⟩ := kk v' sh2 M2 T'.heap (locs ++ L) hp (by rw [e1]; exact hz2) (by rw [e1]; exact hP2)
    ⟨Nat.le_trans hS.1 (by rw [e1]; exact hz), fun q h1 h2 => by rw [e1, hk q (Nat.lt_of_lt_of_le h1 hS.1) h2]; exact hS.2.1 q h1 h2, fun q hq => by
      rcases List.mem_append.mp hq with h | h
      · exact hS.2.2 q h
      · exact hL q h⟩ T' rfl X'
  refine ⟨t2, st t2 ?_, b1⟩
  have he : (Option.map (tr z) v').toList ++ rest.map (tr z) = (v'.toList ++ rest).map (tr z) := by cases v' <;> simp
  rw [he]
  exact a1
theorem e_cats (z : Nat) (rest : List Value) : (rest.map (tr z)).map (fun v => v.category) = rest.map (fun v => v.category) := by
  rw [List.map_map]; congr 1; funext v; exact tr_cat z v
theorem e_callV_gen {X : Ctx} {kn : Nat × Nat} {pc : Nat} {lv : List (Nat × Value)} {sh : List Sh} {M : Mm} {cc : ByteArray} {own : String} {nL : Nat} {R : Room} {mi : Mi} {i : Nat} {As rest : List Value} {post : Option Value → List Sh → Mm → Prop} {b : Nat} {Cn : String} {ci : Nat} {fk : List Nat} (C : Cx X cc own nL R) (hd : decode cc pc = .ok (.invokevirtual i, 3)) (hM : CT mi (.ref b :: As) sh M post) (hok : Ok mi As.length) (hlk : Lv own Cn i mi.1) (hb2 : sh[b]? = some (.inr (ci, fk))) (hc : (vwCl[ci]?).map (fun q => q.1) = some Cn) (hroom : mi.2.2.2.2.frames + 1 ≤ R.frames ∧ 8 + (mi.2.2.1 + 11) + mi.2.2.2.2.locals ≤ R.locals) (hrest : (rest.map (fun v => v.category)).sum ≤ 8) (hkn : kn.1 + mi.2.2.2.2.cells ≤ R.cells ∧ kn.2 + mi.2.2.2.2.slots ≤ R.slots) (hlen : ∀ v sh2 M2, post v sh2 M2 → sh2.length = sh.length + mi.2.2.2.2.cells) (k : ∀ v sh2 M2, post v sh2 M2 → Wd X (kn.1 + mi.2.2.2.2.cells, kn.2 + mi.2.2.2.2.slots) (pc + 3) lv (v.toList ++ rest) sh2 M2) : Wd X kn pc lv (As.reverse ++ Value.ref b :: rest) sh M := by
  obtain ⟨p, l, e, R0, s, m, args, below, meth, c, Q, D, ids, z, n0⟩ := X
  obtain ⟨hx, hb, hml, hown, hts, hK, hN, hlocks, rfl, hz⟩ := C
  intro H locs ls hln hP hS hl
  refine e_sz hz hln hP (fun hH => ?_)
  obtain ⟨y, cc2, nL2, ret2, rm⟩ := mi
  have hKK : ∀ (v : Option Value) (sh2 : List Sh) (M2 : Mm) (H1 : Heap) (locs1 : List Loc), post v sh2 M2 → H1.size = z + sh2.length → va_P D vwCl (e_wl ids z M2 0 sh2) H1 → va_S (fun q => z ≤ q) s.heap H1 locs1 → W p l e R0 s m args below meth c H1 locs1 (kn.1 + rm.cells) (kn.2 + rm.slots) Q (F0 m (pc + 3) ls ((v.toList ++ rest).map (tr z))) := fun v sh2 M2 H1 locs1 hp hz1 hP1 hS1 => k v sh2 M2 hp H1 locs1 ls (by have h7 := hlen v sh2 M2 hp; show sh2.length = n0 + (kn.1 + rm.cells); simp only at h7; omega) hP1 hS1 hl
  have hstk : ((As.reverse ++ Value.ref b :: rest).map (tr z)) = ((As.map (tr z)).reverse ++ Value.ref (z + b) :: rest.map (tr z)) := by simp [tr]
  have hroom2 : 2 * (F0 m pc ls ((As.reverse ++ Value.ref b :: rest).map (tr z))).monitorRoom + ((rest.map (tr z)).map fun v => v.category).sum ≤ 8 := lv_room (by rw [e_cats]; exact hrest)
  obtain ⟨hl1, hl2, hl3, hl4⟩ := hlk
  obtain ⟨q, hq, rfl⟩ := Option.map_eq_some_iff.mp hc
  have hrecv := va_recv hK hP hq (e_wl_at hb2)
  rcases hl1 with hl1 | ⟨host, hl1⟩
  · exact e_back (va_runV (As := As.map (tr z)) (rest := rest.map (tr z)) (b := z + b) ⟨hx, hb, hml, hown, hts⟩ (hM l D ids z) ⟨callB_of As.length hts (e_goodIn hok.1) rfl rfl rfl (hts _ hl4) (hts _ hl1) hok.2 hroom, hts _ hl2, hts _ hl3⟩ ⟨e_blind D ids z _ sh M, hrecv, e_pre (av := .ref b :: As) hH hP hK hN⟩ rfl (by simp) (hl.1.trans hml) hstk hroom2 hd hkn) hS hKK
  · exact e_back (va_runVN (As := As.map (tr z)) (rest := rest.map (tr z)) (b := z + b) ⟨hx, hb, hml, hown, hts⟩ (hM l D ids z) ⟨va_cnB As.length hts (e_goodIn hok.1) rfl rfl rfl (hN _ hl1) (hts _ hl4) hok.2 hroom, hts _ hl2, hts _ hl3⟩ ⟨e_blind D ids z _ sh M, hrecv, e_pre (av := .ref b :: As) hH hP hK hN⟩ rfl (by simp) (hl.1.trans hml) hstk hroom2 hd hkn) hS hKK
theorem e_callS_gen {X : Ctx} {kn : Nat × Nat} {pc : Nat} {lv : List (Nat × Value)} {sh : List Sh} {M : Mm} {cc : ByteArray} {own : String} {nL : Nat} {R : Room} {mi : Mi} {i : Nat} {As rest : List Value} {post : Option Value → List Sh → Mm → Prop} (C : Cx X cc own nL R) (hd : decode cc pc = .ok (.invokestatic i, 3)) (hM : CT mi (As) sh M post) (hok : Ok mi As.length) (hlk : Ls own i mi.1) (hroom : mi.2.2.2.2.frames + 1 ≤ R.frames ∧ 8 + (mi.2.2.1 + 11) + mi.2.2.2.2.locals ≤ R.locals) (hrest : (rest.map (fun v => v.category)).sum ≤ 8) (hkn : kn.1 + mi.2.2.2.2.cells ≤ R.cells ∧ kn.2 + mi.2.2.2.2.slots ≤ R.slots) (hlen : ∀ v sh2 M2, post v sh2 M2 → sh2.length = sh.length + mi.2.2.2.2.cells) (k : ∀ v sh2 M2, post v sh2 M2 → Wd X (kn.1 + mi.2.2.2.2.cells, kn.2 + mi.2.2.2.2.slots) (pc + 3) lv (v.toList ++ rest) sh2 M2) : Wd X kn pc lv (As.reverse ++ rest) sh M := by
  obtain ⟨p, l, e, R0, s, m, args, below, meth, c, Q, D, ids, z, n0⟩ := X
  obtain ⟨hx, hb, hml, hown, hts, hK, hN, hlocks, rfl, hz⟩ := C
  intro H locs ls hln hP hS hl
  refine e_sz hz hln hP (fun hH => ?_)
  obtain ⟨y, cc2, nL2, ret2, rm⟩ := mi
  have hKK : ∀ (v : Option Value) (sh2 : List Sh) (M2 : Mm) (H1 : Heap) (locs1 : List Loc), post v sh2 M2 → H1.size = z + sh2.length → va_P D vwCl (e_wl ids z M2 0 sh2) H1 → va_S (fun q => z ≤ q) s.heap H1 locs1 → W p l e R0 s m args below meth c H1 locs1 (kn.1 + rm.cells) (kn.2 + rm.slots) Q (F0 m (pc + 3) ls ((v.toList ++ rest).map (tr z))) := fun v sh2 M2 H1 locs1 hp hz1 hP1 hS1 => k v sh2 M2 hp H1 locs1 ls (by have h7 := hlen v sh2 M2 hp; show sh2.length = n0 + (kn.1 + rm.cells); simp only at h7; omega) hP1 hS1 hl
  have hstk : ((As.reverse ++ rest).map (tr z)) = ((As.map (tr z)).reverse ++ rest.map (tr z)) := by simp [tr]
  have hroom2 : 2 * (F0 m pc ls ((As.reverse ++ rest).map (tr z))).monitorRoom + ((rest.map (tr z)).map fun v => v.category).sum ≤ 8 := lv_room (by rw [e_cats]; exact hrest)
  obtain ⟨hl1, hl2, hl4⟩ := hlk
  rcases hl1 with hl1 | ⟨host, hl1⟩
  · exact e_back (va_runS (As := As.map (tr z)) (rest := rest.map (tr z)) ⟨hx, hb, hml, hown, hts⟩ (hM l D ids z) ⟨callB_of As.length hts (e_goodIn hok.1) rfl rfl rfl (hts _ hl4) (hts _ hl1) hok.2 hroom, hts _ hl2⟩ ⟨e_blind D ids z _ sh M, e_pre (av := As) hH hP hK hN⟩ rfl (by simp) (hl.1.trans hml) hstk hroom2 hd hkn) hS hKK
  · exact e_back (va_runSN (As := As.map (tr z)) (rest := rest.map (tr z)) ⟨hx, hb, hml, hown, hts⟩ (hM l D ids z) ⟨va_cnB As.length hts (e_goodIn hok.1) rfl rfl rfl (hN _ hl1) (hts _ hl4) hok.2 hroom, hts _ hl2, trivial⟩ ⟨e_blind D ids z _ sh M, e_pre (av := As) hH hP hK hN⟩ rfl (by simp) (hl.1.trans hml) hstk hroom2 hd hkn) hS hKK
theorem e_callI_gen {X : Ctx} {kn : Nat × Nat} {pc : Nat} {lv : List (Nat × Value)} {sh : List Sh} {M : Mm} {cc : ByteArray} {own : String} {nL : Nat} {R : Room} {mi : Mi} {i : Nat} {As rest : List Value} {post : Option Value → List Sh → Mm → Prop} {b : Nat} (C : Cx X cc own nL R) (hd : decode cc pc = .ok (.invokespecial i, 3)) (hM : CT mi (.ref b :: As) sh M post) (hok : Ok mi As.length) (hlk : Li own i mi.1) (hy1 : mi.1.name = "<init>") (hr1 : mi.2.2.2.1 = none) (hroom : mi.2.2.2.2.frames + 1 ≤ R.frames ∧ 8 + (mi.2.2.1 + 11) + mi.2.2.2.2.locals ≤ R.locals) (hrest : (rest.map (fun v => v.category)).sum ≤ 8) (hkn : kn.1 + mi.2.2.2.2.cells ≤ R.cells ∧ kn.2 + mi.2.2.2.2.slots ≤ R.slots) (hlen : ∀ v sh2 M2, post v sh2 M2 → sh2.length = sh.length + mi.2.2.2.2.cells) (k : ∀ v sh2 M2, post v sh2 M2 → Wd X (kn.1 + mi.2.2.2.2.cells, kn.2 + mi.2.2.2.2.slots) (pc + 3) lv (v.toList ++ rest) sh2 M2) : Wd X kn pc lv (As.reverse ++ Value.ref b :: rest) sh M := by
  obtain ⟨p, l, e, R0, s, m, args, below, meth, c, Q, D, ids, z, n0⟩ := X
  obtain ⟨hx, hb, hml, hown, hts, hK, hN, hlocks, rfl, hz⟩ := C
  intro H locs ls hln hP hS hl
  refine e_sz hz hln hP (fun hH => ?_)
  obtain ⟨y, cc2, nL2, ret2, rm⟩ := mi
  have hKK : ∀ (v : Option Value) (sh2 : List Sh) (M2 : Mm) (H1 : Heap) (locs1 : List Loc), post v sh2 M2 → H1.size = z + sh2.length → va_P D vwCl (e_wl ids z M2 0 sh2) H1 → va_S (fun q => z ≤ q) s.heap H1 locs1 → W p l e R0 s m args below meth c H1 locs1 (kn.1 + rm.cells) (kn.2 + rm.slots) Q (F0 m (pc + 3) ls ((v.toList ++ rest).map (tr z))) := fun v sh2 M2 H1 locs1 hp hz1 hP1 hS1 => k v sh2 M2 hp H1 locs1 ls (by have h7 := hlen v sh2 M2 hp; show sh2.length = n0 + (kn.1 + rm.cells); simp only at h7; omega) hP1 hS1 hl
  have hstk : ((As.reverse ++ Value.ref b :: rest).map (tr z)) = ((As.map (tr z)).reverse ++ Value.ref (z + b) :: rest.map (tr z)) := by simp [tr]
  have hroom2 : 2 * (F0 m pc ls ((As.reverse ++ Value.ref b :: rest).map (tr z))).monitorRoom + ((rest.map (tr z)).map fun v => v.category).sum ≤ 8 := lv_room (by rw [e_cats]; exact hrest)
  obtain ⟨hl1, hl2, hl4⟩ := hlk
  simp only at hr1
  subst hr1
  rcases hl1 with hl1 | ⟨host, hl1⟩
  · exact e_back (va_runI (As := As.map (tr z)) (rest := rest.map (tr z)) (b := z + b) ⟨hx, hb, hml, hown, hts⟩ (hM l D ids z) ⟨callB_of As.length hts (e_goodIn hok.1) rfl rfl rfl (hts _ hl4) (hts _ hl1) hok.2 hroom, hy1, hts _ hl2⟩ ⟨e_blind D ids z _ sh M, e_pre (av := .ref b :: As) hH hP hK hN⟩ rfl (by simp) (hl.1.trans hml) hstk hroom2 hd hkn) hS hKK
  · exact e_back (va_runIN (As := As.map (tr z)) (rest := rest.map (tr z)) (b := z + b) ⟨hx, hb, hml, hown, hts⟩ (hM l D ids z) ⟨va_cnB As.length hts (e_goodIn hok.1) rfl rfl rfl (hN _ hl1) (hts _ hl4) hok.2 hroom, hy1, hts _ hl2⟩ ⟨e_blind D ids z _ sh M, e_pre (av := .ref b :: As) hH hP hK hN⟩ rfl (by simp) (hl.1.trans hml) hstk hroom2 hd hkn) hS hKK
/-- posts that are one answer and one memory -/
def Pi (r : Int32) (sh : List Sh) (M : Mm) : Option Value → List Sh → Mm → Prop := fun v s m => v = some (.int r) ∧ s = sh ∧ m = M
def Pl (r : Int64) (sh : List Sh) (M : Mm) : Option Value → List Sh → Mm → Prop := fun v s m => v = some (.long r) ∧ s = sh ∧ m = M
def Pd (r : UInt64) (sh : List Sh) (M : Mm) : Option Value → List Sh → Mm → Prop := fun v s m => v = some (.double r) ∧ s = sh ∧ m = M
def Pv (sh : List Sh) (M : Mm) : Option Value → List Sh → Mm → Prop := fun v s m => v = none ∧ s = sh ∧ m = M
theorem e_callVi {X : Ctx} {kn : Nat × Nat} {pc : Nat} {lv : List (Nat × Value)} {st : List Value} {sh : List Sh} {M : Mm} {cc : ByteArray} {own : String} {nL : Nat} {R : Room} {mi : Mi} {i : Nat} {rest : List Value} {r : Int32} {M2 : Mm} {b : Nat} {Cn : String} {ci : Nat} {fk : List Nat} (C : Cx X cc own nL R) (hd : decode cc pc = .ok (.invokevirtual i, 3)) (As : List Value) (hM : CT mi (.ref b :: As) sh M (Pi r sh M2)) (hok : Ok mi As.length) (hlk : Lv own Cn i mi.1) (hb2 : sh[b]? = some (.inr (ci, fk))) (hc : (vwCl[ci]?).map (fun q => q.1) = some Cn) (hst : As.reverse ++ Value.ref b :: rest = st) (hmc : mi.2.2.2.2.cells = 0 ∧ mi.2.2.2.2.slots = 0) (hroom : mi.2.2.2.2.frames + 1 ≤ R.frames ∧ 8 + (mi.2.2.1 + 11) + mi.2.2.2.2.locals ≤ R.locals) (hrest : (rest.map (fun v => v.category)).sum ≤ 8) (hkn : kn.1 ≤ R.cells ∧ kn.2 ≤ R.slots) (k : Wd X kn (pc + 3) lv (.int r :: rest) sh M2) : Wd X kn pc lv st sh M := by
  subst hst
  refine e_callV_gen C hd hM hok hlk hb2 hc hroom hrest (by rw [hmc.1, hmc.2]; exact hkn) ?_ ?_
  · rintro v sh3 M3 ⟨rfl, rfl, rfl⟩
    rw [hmc.1]; rfl
  · rintro v sh3 M3 ⟨rfl, rfl, rfl⟩
    rw [hmc.1, hmc.2]
    exact k
theorem e_callVl {X : Ctx} {kn : Nat × Nat} {pc : Nat} {lv : List (Nat × Value)} {st : List Value} {sh : List Sh} {M : Mm} {cc : ByteArray} {own : String} {nL : Nat} {R : Room} {mi : Mi} {i : Nat} {rest : List Value} {r : Int64} {M2 : Mm} {b : Nat} {Cn : String} {ci : Nat} {fk : List Nat} (C : Cx X cc own nL R) (hd : decode cc pc = .ok (.invokevirtual i, 3)) (As : List Value) (hM : CT mi (.ref b :: As) sh M (Pl r sh M2)) (hok : Ok mi As.length) (hlk : Lv own Cn i mi.1) (hb2 : sh[b]? = some (.inr (ci, fk))) (hc : (vwCl[ci]?).map (fun q => q.1) = some Cn) (hst : As.reverse ++ Value.ref b :: rest = st) (hmc : mi.2.2.2.2.cells = 0 ∧ mi.2.2.2.2.slots = 0) (hroom : mi.2.2.2.2.frames + 1 ≤ R.frames ∧ 8 + (mi.2.2.1 + 11) + mi.2.2.2.2.locals ≤ R.locals) (hrest : (rest.map (fun v => v.category)).sum ≤ 8) (hkn : kn.1 ≤ R.cells ∧ kn.2 ≤ R.slots) (k : Wd X kn (pc + 3) lv (.long r :: rest) sh M2) : Wd X kn pc lv st sh M := by
  subst hst
  refine e_callV_gen C hd hM hok hlk hb2 hc hroom hrest (by rw [hmc.1, hmc.2]; exact hkn) ?_ ?_
  · rintro v sh3 M3 ⟨rfl, rfl, rfl⟩
    rw [hmc.1]; rfl
  · rintro v sh3 M3 ⟨rfl, rfl, rfl⟩
    rw [hmc.1, hmc.2]
    exact k
theorem e_callVd {X : Ctx} {kn : Nat × Nat} {pc : Nat} {lv : List (Nat × Value)} {st : List Value} {sh : List Sh} {M : Mm} {cc : ByteArray} {own : String} {nL : Nat} {R : Room} {mi : Mi} {i : Nat} {rest : List Value} {r : UInt64} {M2 : Mm} {b : Nat} {Cn : String} {ci : Nat} {fk : List Nat} (C : Cx X cc own nL R) (hd : decode cc pc = .ok (.invokevirtual i, 3)) (As : List Value) (hM : CT mi (.ref b :: As) sh M (Pd r sh M2)) (hok : Ok mi As.length) (hlk : Lv own Cn i mi.1) (hb2 : sh[b]? = some (.inr (ci, fk))) (hc : (vwCl[ci]?).map (fun q => q.1) = some Cn) (hst : As.reverse ++ Value.ref b :: rest = st) (hmc : mi.2.2.2.2.cells = 0 ∧ mi.2.2.2.2.slots = 0) (hroom : mi.2.2.2.2.frames + 1 ≤ R.frames ∧ 8 + (mi.2.2.1 + 11) + mi.2.2.2.2.locals ≤ R.locals) (hrest : (rest.map (fun v => v.category)).sum ≤ 8) (hkn : kn.1 ≤ R.cells ∧ kn.2 ≤ R.slots) (k : Wd X kn (pc + 3) lv (.double r :: rest) sh M2) : Wd X kn pc lv st sh M := by
  subst hst
  refine e_callV_gen C hd hM hok hlk hb2 hc hroom hrest (by rw [hmc.1, hmc.2]; exact hkn) ?_ ?_
  · rintro v sh3 M3 ⟨rfl, rfl, rfl⟩
    rw [hmc.1]; rfl
  · rintro v sh3 M3 ⟨rfl, rfl, rfl⟩
    rw [hmc.1, hmc.2]
    exact k
theorem e_callVv {X : Ctx} {kn : Nat × Nat} {pc : Nat} {lv : List (Nat × Value)} {st : List Value} {sh : List Sh} {M : Mm} {cc : ByteArray} {own : String} {nL : Nat} {R : Room} {mi : Mi} {i : Nat} {rest : List Value} {M2 : Mm} {sh2 : List Sh} {b : Nat} {Cn : String} {ci : Nat} {fk : List Nat} (C : Cx X cc own nL R) (hd : decode cc pc = .ok (.invokevirtual i, 3)) (As : List Value) (hM : CT mi (.ref b :: As) sh M (Pv sh2 M2)) (hok : Ok mi As.length) (hlk : Lv own Cn i mi.1) (hb2 : sh[b]? = some (.inr (ci, fk))) (hc : (vwCl[ci]?).map (fun q => q.1) = some Cn) (hst : As.reverse ++ Value.ref b :: rest = st) (hl9 : sh2.length = sh.length) (hmc : mi.2.2.2.2.cells = 0 ∧ mi.2.2.2.2.slots = 0) (hroom : mi.2.2.2.2.frames + 1 ≤ R.frames ∧ 8 + (mi.2.2.1 + 11) + mi.2.2.2.2.locals ≤ R.locals) (hrest : (rest.map (fun v => v.category)).sum ≤ 8) (hkn : kn.1 ≤ R.cells ∧ kn.2 ≤ R.slots) (k : Wd X kn (pc + 3) lv (rest) sh2 M2) : Wd X kn pc lv st sh M := by
  subst hst
  refine e_callV_gen C hd hM hok hlk hb2 hc hroom hrest (by rw [hmc.1, hmc.2]; exact hkn) ?_ ?_
  · rintro v sh3 M3 ⟨rfl, rfl, rfl⟩
    rw [hmc.1]; exact hl9
  · rintro v sh3 M3 ⟨rfl, rfl, rfl⟩
    rw [hmc.1, hmc.2]
    exact k
theorem e_callSi {X : Ctx} {kn : Nat × Nat} {pc : Nat} {lv : List (Nat × Value)} {st : List Value} {sh : List Sh} {M : Mm} {cc : ByteArray} {own : String} {nL : Nat} {R : Room} {mi : Mi} {i : Nat} {rest : List Value} {r : Int32} {M2 : Mm} (C : Cx X cc own nL R) (hd : decode cc pc = .ok (.invokestatic i, 3)) (As : List Value) (hM : CT mi (As) sh M (Pi r sh M2)) (hok : Ok mi As.length) (hlk : Ls own i mi.1) (hst : As.reverse ++ rest = st) (hmc : mi.2.2.2.2.cells = 0 ∧ mi.2.2.2.2.slots = 0) (hroom : mi.2.2.2.2.frames + 1 ≤ R.frames ∧ 8 + (mi.2.2.1 + 11) + mi.2.2.2.2.locals ≤ R.locals) (hrest : (rest.map (fun v => v.category)).sum ≤ 8) (hkn : kn.1 ≤ R.cells ∧ kn.2 ≤ R.slots) (k : Wd X kn (pc + 3) lv (.int r :: rest) sh M2) : Wd X kn pc lv st sh M := by
  subst hst
  refine e_callS_gen C hd hM hok hlk hroom hrest (by rw [hmc.1, hmc.2]; exact hkn) ?_ ?_
  · rintro v sh3 M3 ⟨rfl, rfl, rfl⟩
    rw [hmc.1]; rfl
  · rintro v sh3 M3 ⟨rfl, rfl, rfl⟩
    rw [hmc.1, hmc.2]
    exact k
theorem e_callSl {X : Ctx} {kn : Nat × Nat} {pc : Nat} {lv : List (Nat × Value)} {st : List Value} {sh : List Sh} {M : Mm} {cc : ByteArray} {own : String} {nL : Nat} {R : Room} {mi : Mi} {i : Nat} {rest : List Value} {r : Int64} {M2 : Mm} (C : Cx X cc own nL R) (hd : decode cc pc = .ok (.invokestatic i, 3)) (As : List Value) (hM : CT mi (As) sh M (Pl r sh M2)) (hok : Ok mi As.length) (hlk : Ls own i mi.1) (hst : As.reverse ++ rest = st) (hmc : mi.2.2.2.2.cells = 0 ∧ mi.2.2.2.2.slots = 0) (hroom : mi.2.2.2.2.frames + 1 ≤ R.frames ∧ 8 + (mi.2.2.1 + 11) + mi.2.2.2.2.locals ≤ R.locals) (hrest : (rest.map (fun v => v.category)).sum ≤ 8) (hkn : kn.1 ≤ R.cells ∧ kn.2 ≤ R.slots) (k : Wd X kn (pc + 3) lv (.long r :: rest) sh M2) : Wd X kn pc lv st sh M := by
  subst hst
  refine e_callS_gen C hd hM hok hlk hroom hrest (by rw [hmc.1, hmc.2]; exact hkn) ?_ ?_
  · rintro v sh3 M3 ⟨rfl, rfl, rfl⟩
    rw [hmc.1]; rfl
  · rintro v sh3 M3 ⟨rfl, rfl, rfl⟩
    rw [hmc.1, hmc.2]
    exact k
theorem e_callSd {X : Ctx} {kn : Nat × Nat} {pc : Nat} {lv : List (Nat × Value)} {st : List Value} {sh : List Sh} {M : Mm} {cc : ByteArray} {own : String} {nL : Nat} {R : Room} {mi : Mi} {i : Nat} {rest : List Value} {r : UInt64} {M2 : Mm} (C : Cx X cc own nL R) (hd : decode cc pc = .ok (.invokestatic i, 3)) (As : List Value) (hM : CT mi (As) sh M (Pd r sh M2)) (hok : Ok mi As.length) (hlk : Ls own i mi.1) (hst : As.reverse ++ rest = st) (hmc : mi.2.2.2.2.cells = 0 ∧ mi.2.2.2.2.slots = 0) (hroom : mi.2.2.2.2.frames + 1 ≤ R.frames ∧ 8 + (mi.2.2.1 + 11) + mi.2.2.2.2.locals ≤ R.locals) (hrest : (rest.map (fun v => v.category)).sum ≤ 8) (hkn : kn.1 ≤ R.cells ∧ kn.2 ≤ R.slots) (k : Wd X kn (pc + 3) lv (.double r :: rest) sh M2) : Wd X kn pc lv st sh M := by
  subst hst
  refine e_callS_gen C hd hM hok hlk hroom hrest (by rw [hmc.1, hmc.2]; exact hkn) ?_ ?_
  · rintro v sh3 M3 ⟨rfl, rfl, rfl⟩
    rw [hmc.1]; rfl
  · rintro v sh3 M3 ⟨rfl, rfl, rfl⟩
    rw [hmc.1, hmc.2]
    exact k
theorem e_callSv {X : Ctx} {kn : Nat × Nat} {pc : Nat} {lv : List (Nat × Value)} {st : List Value} {sh : List Sh} {M : Mm} {cc : ByteArray} {own : String} {nL : Nat} {R : Room} {mi : Mi} {i : Nat} {rest : List Value} {M2 : Mm} {sh2 : List Sh} (C : Cx X cc own nL R) (hd : decode cc pc = .ok (.invokestatic i, 3)) (As : List Value) (hM : CT mi (As) sh M (Pv sh2 M2)) (hok : Ok mi As.length) (hlk : Ls own i mi.1) (hst : As.reverse ++ rest = st) (hl9 : sh2.length = sh.length) (hmc : mi.2.2.2.2.cells = 0 ∧ mi.2.2.2.2.slots = 0) (hroom : mi.2.2.2.2.frames + 1 ≤ R.frames ∧ 8 + (mi.2.2.1 + 11) + mi.2.2.2.2.locals ≤ R.locals) (hrest : (rest.map (fun v => v.category)).sum ≤ 8) (hkn : kn.1 ≤ R.cells ∧ kn.2 ≤ R.slots) (k : Wd X kn (pc + 3) lv (rest) sh2 M2) : Wd X kn pc lv st sh M := by
  subst hst
  refine e_callS_gen C hd hM hok hlk hroom hrest (by rw [hmc.1, hmc.2]; exact hkn) ?_ ?_
  · rintro v sh3 M3 ⟨rfl, rfl, rfl⟩
    rw [hmc.1]; exact hl9
  · rintro v sh3 M3 ⟨rfl, rfl, rfl⟩
    rw [hmc.1, hmc.2]
    exact k
theorem e_lret {X : Ctx} {kn : Nat × Nat} {pc : Nat} {lv : List (Nat × Value)} {sh : List Sh} {M : Mm} {cc : ByteArray} {own : String} {nL : Nat} {R : Room} {v : Int64} {post : Option Value → List Sh → Mm → Prop} (C : Cx X cc own nL R) (hd : decode cc pc = .ok (.lreturn, 1)) (RT : Rt X (some .long) R post) (hkn : kn.1 ≤ R.cells ∧ kn.2 ≤ R.slots) (hp : post (some (.long v)) sh M) : Wd X kn pc lv [.long v] sh M := by
  obtain ⟨p, l, e, R0, s, m, args, below, meth, c, Q, D, ids, z, n0⟩ := X
  obtain ⟨hx, hb, hml, hown, hts, hK, hN, hlocks, rfl, hz⟩ := C
  intro H locs ls hln hP hS hl
  obtain ⟨hr, hQ⟩ := RT
  subst hQ
  refine e_sz hz hln hP (fun hH => ?_)
  refine W.widen (k := R0.cells) (n := R0.slots) hkn.1 hkn.2 ?_
  exact W.lret hx hb hr (fun t ht hW => ⟨⟨some (.long v), sh, M, rfl, hp, by rw [ht]; exact hH, by rw [ht]; exact hP⟩, hS.F ht⟩) hS.2.2 hd
theorem e_dret {X : Ctx} {kn : Nat × Nat} {pc : Nat} {lv : List (Nat × Value)} {sh : List Sh} {M : Mm} {cc : ByteArray} {own : String} {nL : Nat} {R : Room} {v : UInt64} {post : Option Value → List Sh → Mm → Prop} (C : Cx X cc own nL R) (hd : decode cc pc = .ok (.dreturn, 1)) (RT : Rt X (some .double) R post) (hkn : kn.1 ≤ R.cells ∧ kn.2 ≤ R.slots) (hp : post (some (.double v)) sh M) : Wd X kn pc lv [.double v] sh M := by
  obtain ⟨p, l, e, R0, s, m, args, below, meth, c, Q, D, ids, z, n0⟩ := X
  obtain ⟨hx, hb, hml, hown, hts, hK, hN, hlocks, rfl, hz⟩ := C
  intro H locs ls hln hP hS hl
  obtain ⟨hr, hQ⟩ := RT
  subst hQ
  refine e_sz hz hln hP (fun hH => ?_)
  refine W.widen (k := R0.cells) (n := R0.slots) hkn.1 hkn.2 ?_
  exact W.dret hx hb hr (fun t ht hW => ⟨⟨some (.double v), sh, M, rfl, hp, by rw [ht]; exact hH, by rw [ht]; exact hP⟩, hS.F ht⟩) hS.2.2 hd
theorem e_zret {X : Ctx} {kn : Nat × Nat} {pc : Nat} {lv : List (Nat × Value)} {sh : List Sh} {M : Mm} {cc : ByteArray} {own : String} {nL : Nat} {R : Room} {v : Int32} {ty : FieldType} {post : Option Value → List Sh → Mm → Prop} (C : Cx X cc own nL R) (hd : decode cc pc = .ok (.ireturn, 1)) (RT : Rt X (some ty) R post) (hn : narrow ty (.int v) = .int v) (hkn : kn.1 ≤ R.cells ∧ kn.2 ≤ R.slots) (hp : post (some (.int v)) sh M) : Wd X kn pc lv [.int v] sh M := by
  obtain ⟨p, l, e, R0, s, m, args, below, meth, c, Q, D, ids, z, n0⟩ := X
  obtain ⟨hx, hb, hml, hown, hts, hK, hN, hlocks, rfl, hz⟩ := C
  intro H locs ls hln hP hS hl
  obtain ⟨hr, hQ⟩ := RT
  subst hQ
  refine e_sz hz hln hP (fun hH => ?_)
  refine W.widen (k := R0.cells) (n := R0.slots) hkn.1 hkn.2 ?_
  exact W.zret hx hb hr hn (fun t ht hW => ⟨⟨some (.int v), sh, M, rfl, hp, by rw [ht]; exact hH, by rw [ht]; exact hP⟩, hS.F ht⟩) hS.2.2 hd
theorem e_vret {X : Ctx} {kn : Nat × Nat} {pc : Nat} {lv : List (Nat × Value)} {sh : List Sh} {M : Mm} {cc : ByteArray} {own : String} {nL : Nat} {R : Room} {post : Option Value → List Sh → Mm → Prop} (C : Cx X cc own nL R) (hd : decode cc pc = .ok (.return_, 1)) (RT : Rt X none R post) (hkn : kn.1 ≤ R.cells ∧ kn.2 ≤ R.slots) (hp : post none sh M) : Wd X kn pc lv [] sh M := by
  obtain ⟨p, l, e, R0, s, m, args, below, meth, c, Q, D, ids, z, n0⟩ := X
  obtain ⟨hx, hb, hml, hown, hts, hK, hN, hlocks, rfl, hz⟩ := C
  intro H locs ls hln hP hS hl
  obtain ⟨hr, hQ⟩ := RT
  subst hQ
  refine e_sz hz hln hP (fun hH => ?_)
  refine W.widen (k := R0.cells) (n := R0.slots) hkn.1 hkn.2 ?_
  exact W.vret hx hb hr (fun t ht hW => ⟨⟨none, sh, M, rfl, hp, by rw [ht]; exact hH, by rw [ht]; exact hP⟩, hS.F ht⟩) hS.2.2 hd
