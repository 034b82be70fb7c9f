/-- posts that are one answer and a relation of the memory -/
def Qi (r : Int32) (sh : List Sh) (F : Mm → Prop) : Option Value → List Sh → Mm → Prop := fun v s m => v = some (.int r) ∧ s = sh ∧ F m
def Ql (r : Int64) (sh : List Sh) (F : Mm → Prop) : Option Value → List Sh → Mm → Prop := fun v s m => v = some (.long r) ∧ s = sh ∧ F m
def Qv (sh : List Sh) (F : Mm → Prop) : Option Value → List Sh → Mm → Prop := fun v s m => v = none ∧ s = sh ∧ F m
theorem qi_ {v r : Int32} {sh : List Sh} {M : Mm} {F : Mm → Prop} (h : v = r) (hF : F M) : Qi r sh F (some (.int v)) sh M := ⟨by rw [h], rfl, hF⟩
theorem ql_ {v r : Int64} {sh : List Sh} {M : Mm} {F : Mm → Prop} (h : v = r) (hF : F M) : Ql r sh F (some (.long v)) sh M := ⟨by rw [h], rfl, hF⟩
theorem qv_ {sh : List Sh} {M : Mm} {F : Mm → Prop} (hF : F M) : Qv sh F none sh M := ⟨rfl, rfl, hF⟩
theorem e_callViQ {X : Ctx} {kn : Nat × Nat} {pc : Nat} {lv : List (Nat × Value)} {st : List Value} {sh : List Sh} {M : Mm} {cc : ByteArray} {own : String} {nL : Nat} {R : Room} {mi : Mi} {i : Nat} {rest : List Value} {r : Int32} {F : Mm → Prop} {b : Nat} {Cn : String} {ci : Nat} {fk : List Nat} (C : Cx X cc own nL R) (hd : decode cc pc = .ok (.invokevirtual i, 3)) (As : List Value) (hM : CT mi (.ref b :: As) sh M (Qi r sh F)) (hok : Ok mi As.length) (hlk : Lv own Cn i mi.1) (hb2 : sh[b]? = some (.inr (ci, fk))) (hc : (vwCl[ci]?).map (fun q => q.1) = some Cn) (hst : As.reverse ++ Value.ref b :: rest = st) (hmc : mi.2.2.2.2.cells = 0 ∧ mi.2.2.2.2.slots = 0) (hroom : mi.2.2.2.2.frames + 1 ≤ R.frames ∧ 8 + (mi.2.2.1 + 11) + mi.2.2.2.2.locals ≤ R.locals) (hrest : (rest.map (fun v => v.category)).sum ≤ 8) (hkn : kn.1 ≤ R.cells ∧ kn.2 ≤ R.slots) (k : ∀ M2, F M2 → Wd X kn (pc + 3) lv (.int r :: rest) sh M2) : Wd X kn pc lv st sh M := by
  subst hst
  refine e_callV_gen C hd hM hok hlk hb2 hc hroom hrest (by rw [hmc.1, hmc.2]; exact hkn) ?_ ?_
  · rintro v sh3 M3 ⟨rfl, rfl, hF⟩
    rw [hmc.1]; rfl
  · rintro v sh3 M3 ⟨rfl, rfl, hF⟩
    rw [hmc.1, hmc.2]
    exact k M3 hF
theorem e_callVlQ {X : Ctx} {kn : Nat × Nat} {pc : Nat} {lv : List (Nat × Value)} {st : List Value} {sh : List Sh} {M : Mm} {cc : ByteArray} {own : String} {nL : Nat} {R : Room} {mi : Mi} {i : Nat} {rest : List Value} {r : Int64} {F : Mm → Prop} {b : Nat} {Cn : String} {ci : Nat} {fk : List Nat} (C : Cx X cc own nL R) (hd : decode cc pc = .ok (.invokevirtual i, 3)) (As : List Value) (hM : CT mi (.ref b :: As) sh M (Ql r sh F)) (hok : Ok mi As.length) (hlk : Lv own Cn i mi.1) (hb2 : sh[b]? = some (.inr (ci, fk))) (hc : (vwCl[ci]?).map (fun q => q.1) = some Cn) (hst : As.reverse ++ Value.ref b :: rest = st) (hmc : mi.2.2.2.2.cells = 0 ∧ mi.2.2.2.2.slots = 0) (hroom : mi.2.2.2.2.frames + 1 ≤ R.frames ∧ 8 + (mi.2.2.1 + 11) + mi.2.2.2.2.locals ≤ R.locals) (hrest : (rest.map (fun v => v.category)).sum ≤ 8) (hkn : kn.1 ≤ R.cells ∧ kn.2 ≤ R.slots) (k : ∀ M2, F M2 → Wd X kn (pc + 3) lv (.long r :: rest) sh M2) : Wd X kn pc lv st sh M := by
  subst hst
  refine e_callV_gen C hd hM hok hlk hb2 hc hroom hrest (by rw [hmc.1, hmc.2]; exact hkn) ?_ ?_
  · rintro v sh3 M3 ⟨rfl, rfl, hF⟩
    rw [hmc.1]; rfl
  · rintro v sh3 M3 ⟨rfl, rfl, hF⟩
    rw [hmc.1, hmc.2]
    exact k M3 hF
theorem e_callVvQ {X : Ctx} {kn : Nat × Nat} {pc : Nat} {lv : List (Nat × Value)} {st : List Value} {sh : List Sh} {M : Mm} {cc : ByteArray} {own : String} {nL : Nat} {R : Room} {mi : Mi} {i : Nat} {rest : List Value} {F : Mm → Prop} {b : Nat} {Cn : String} {ci : Nat} {fk : List Nat} (C : Cx X cc own nL R) (hd : decode cc pc = .ok (.invokevirtual i, 3)) (As : List Value) (hM : CT mi (.ref b :: As) sh M (Qv sh F)) (hok : Ok mi As.length) (hlk : Lv own Cn i mi.1) (hb2 : sh[b]? = some (.inr (ci, fk))) (hc : (vwCl[ci]?).map (fun q => q.1) = some Cn) (hst : As.reverse ++ Value.ref b :: rest = st) (hmc : mi.2.2.2.2.cells = 0 ∧ mi.2.2.2.2.slots = 0) (hroom : mi.2.2.2.2.frames + 1 ≤ R.frames ∧ 8 + (mi.2.2.1 + 11) + mi.2.2.2.2.locals ≤ R.locals) (hrest : (rest.map (fun v => v.category)).sum ≤ 8) (hkn : kn.1 ≤ R.cells ∧ kn.2 ≤ R.slots) (k : ∀ M2, F M2 → Wd X kn (pc + 3) lv (rest) sh M2) : Wd X kn pc lv st sh M := by
  subst hst
  refine e_callV_gen C hd hM hok hlk hb2 hc hroom hrest (by rw [hmc.1, hmc.2]; exact hkn) ?_ ?_
  · rintro v sh3 M3 ⟨rfl, rfl, hF⟩
    rw [hmc.1]; rfl
  · rintro v sh3 M3 ⟨rfl, rfl, hF⟩
    rw [hmc.1, hmc.2]
    exact k M3 hF
theorem e_callSiQ {X : Ctx} {kn : Nat × Nat} {pc : Nat} {lv : List (Nat × Value)} {st : List Value} {sh : List Sh} {M : Mm} {cc : ByteArray} {own : String} {nL : Nat} {R : Room} {mi : Mi} {i : Nat} {rest : List Value} {r : Int32} {F : Mm → Prop} (C : Cx X cc own nL R) (hd : decode cc pc = .ok (.invokestatic i, 3)) (As : List Value) (hM : CT mi (As) sh M (Qi r sh F)) (hok : Ok mi As.length) (hlk : Ls own i mi.1) (hst : As.reverse ++ rest = st) (hmc : mi.2.2.2.2.cells = 0 ∧ mi.2.2.2.2.slots = 0) (hroom : mi.2.2.2.2.frames + 1 ≤ R.frames ∧ 8 + (mi.2.2.1 + 11) + mi.2.2.2.2.locals ≤ R.locals) (hrest : (rest.map (fun v => v.category)).sum ≤ 8) (hkn : kn.1 ≤ R.cells ∧ kn.2 ≤ R.slots) (k : ∀ M2, F M2 → Wd X kn (pc + 3) lv (.int r :: rest) sh M2) : Wd X kn pc lv st sh M := by
  subst hst
  refine e_callS_gen C hd hM hok hlk hroom hrest (by rw [hmc.1, hmc.2]; exact hkn) ?_ ?_
  · rintro v sh3 M3 ⟨rfl, rfl, hF⟩
    rw [hmc.1]; rfl
  · rintro v sh3 M3 ⟨rfl, rfl, hF⟩
    rw [hmc.1, hmc.2]
    exact k M3 hF
theorem e_callSlQ {X : Ctx} {kn : Nat × Nat} {pc : Nat} {lv : List (Nat × Value)} {st : List Value} {sh : List Sh} {M : Mm} {cc : ByteArray} {own : String} {nL : Nat} {R : Room} {mi : Mi} {i : Nat} {rest : List Value} {r : Int64} {F : Mm → Prop} (C : Cx X cc own nL R) (hd : decode cc pc = .ok (.invokestatic i, 3)) (As : List Value) (hM : CT mi (As) sh M (Ql r sh F)) (hok : Ok mi As.length) (hlk : Ls own i mi.1) (hst : As.reverse ++ rest = st) (hmc : mi.2.2.2.2.cells = 0 ∧ mi.2.2.2.2.slots = 0) (hroom : mi.2.2.2.2.frames + 1 ≤ R.frames ∧ 8 + (mi.2.2.1 + 11) + mi.2.2.2.2.locals ≤ R.locals) (hrest : (rest.map (fun v => v.category)).sum ≤ 8) (hkn : kn.1 ≤ R.cells ∧ kn.2 ≤ R.slots) (k : ∀ M2, F M2 → Wd X kn (pc + 3) lv (.long r :: rest) sh M2) : Wd X kn pc lv st sh M := by
  subst hst
  refine e_callS_gen C hd hM hok hlk hroom hrest (by rw [hmc.1, hmc.2]; exact hkn) ?_ ?_
  · rintro v sh3 M3 ⟨rfl, rfl, hF⟩
    rw [hmc.1]; rfl
  · rintro v sh3 M3 ⟨rfl, rfl, hF⟩
    rw [hmc.1, hmc.2]
    exact k M3 hF
theorem e_callSvQ {X : Ctx} {kn : Nat × Nat} {pc : Nat} {lv : List (Nat × Value)} {st : List Value} {sh : List Sh} {M : Mm} {cc : ByteArray} {own : String} {nL : Nat} {R : Room} {mi : Mi} {i : Nat} {rest : List Value} {F : Mm → Prop} (C : Cx X cc own nL R) (hd : decode cc pc = .ok (.invokestatic i, 3)) (As : List Value) (hM : CT mi (As) sh M (Qv sh F)) (hok : Ok mi As.length) (hlk : Ls own i mi.1) (hst : As.reverse ++ rest = st) (hmc : mi.2.2.2.2.cells = 0 ∧ mi.2.2.2.2.slots = 0) (hroom : mi.2.2.2.2.frames + 1 ≤ R.frames ∧ 8 + (mi.2.2.1 + 11) + mi.2.2.2.2.locals ≤ R.locals) (hrest : (rest.map (fun v => v.category)).sum ≤ 8) (hkn : kn.1 ≤ R.cells ∧ kn.2 ≤ R.slots) (k : ∀ M2, F M2 → Wd X kn (pc + 3) lv (rest) sh M2) : Wd X kn pc lv st sh M := by
  subst hst
  refine e_callS_gen C hd hM hok hlk hroom hrest (by rw [hmc.1, hmc.2]; exact hkn) ?_ ?_
  · rintro v sh3 M3 ⟨rfl, rfl, hF⟩
    rw [hmc.1]; rfl
  · rintro v sh3 M3 ⟨rfl, rfl, hF⟩
    rw [hmc.1, hmc.2]
    exact k M3 hF
/-- nothing but these places has changed -/
def Same (ks : List Nat) (M M2 : Mm) : Prop := ∀ k, k ∉ ks → gI M2 k = gI M k ∧ gJ M2 k = gJ M k ∧ gD M2 k = gD M k
theorem Same.rf (ks : List Nat) (M : Mm) : Same ks M M := fun _ _ => ⟨rfl, rfl, rfl⟩
theorem Same.tr {ks : List Nat} {M M1 M2 : Mm} (h1 : Same ks M M1) (h2 : Same ks M1 M2) : Same ks M M2 := fun k hk => ⟨(h2 k hk).1.trans (h1 k hk).1, (h2 k hk).2.1.trans (h1 k hk).2.1, (h2 k hk).2.2.trans (h1 k hk).2.2⟩
theorem Same.up {ks ks2 : List Nat} {M M1 : Mm} (h : Same ks M M1) (hs : ∀ k, k ∈ ks → k ∈ ks2) : Same ks2 M M1 := fun k hk => h k (fun h2 => hk (hs k h2))
theorem Same.I {ks : List Nat} {M M1 : Mm} {k : Nat} {f : Nat → Int32} (h : Same ks M M1) (hk : k ∈ ks) : Same ks M (sI M1 k f) := fun j hj => by
  have hne : j ≠ k := fun e => hj (e ▸ hk)
  exact ⟨(gI_sI_ne M1 f hne).trans (h j hj).1, (h j hj).2.1, (h j hj).2.2⟩
theorem Same.J {ks : List Nat} {M M1 : Mm} {k : Nat} {f : Nat → Int64} (h : Same ks M M1) (hk : k ∈ ks) : Same ks M (sJ M1 k f) := fun j hj => by
  have hne : j ≠ k := fun e => hj (e ▸ hk)
  exact ⟨(h j hj).1, (gJ_sJ_ne M1 f hne).trans (h j hj).2.1, (h j hj).2.2⟩
theorem Same.D {ks : List Nat} {M M1 : Mm} {k : Nat} {f : Nat → UInt64} (h : Same ks M M1) (hk : k ∈ ks) : Same ks M (sD M1 k f) := fun j hj => by
  have hne : j ≠ k := fun e => hj (e ▸ hk)
  exact ⟨(h j hj).1, (h j hj).2.1, (gD_sD_ne M1 f hne).trans (h j hj).2.2⟩
theorem Same.gI {ks : List Nat} {M M1 : Mm} (h : Same ks M M1) {k : Nat} (hk : k ∉ ks) : gI M1 k = gI M k := (h k hk).1
theorem Same.gJ {ks : List Nat} {M M1 : Mm} (h : Same ks M M1) {k : Nat} (hk : k ∉ ks) : gJ M1 k = gJ M k := (h k hk).2.1
theorem Same.gD {ks : List Nat} {M M1 : Mm} (h : Same ks M M1) {k : Nat} (hk : k ∉ ks) : gD M1 k = gD M k := (h k hk).2.2
theorem upd_s (f : Nat → Int32) (k : Nat) (x : Int32) : upd f k x k = x := by simp [upd]
theorem upd_n (f : Nat → Int32) {k j : Nat} (x : Int32) (h : j ≠ k) : upd f k x j = f j := by simp [upd, h]
theorem updL_s (f : Nat → Int64) (k : Nat) (x : Int64) : vp_updL f k x k = x := by simp [vp_updL]
theorem updL_n (f : Nat → Int64) {k j : Nat} (x : Int64) (h : j ≠ k) : vp_updL f k x j = f j := by simp [vp_updL, h]
theorem updD_s (f : Nat → UInt64) (k : Nat) (x : UInt64) : vf_upd f k x k = x := by simp [vf_upd]
theorem updD_n (f : Nat → UInt64) {k j : Nat} (x : UInt64) (h : j ≠ k) : vf_upd f k x j = f j := by simp [vf_upd, h]
/-- how many below k, the sum below k, the first below k -/
def cntb (f : Nat → Bool) : Nat → Nat
  | 0 => 0
  | k + 1 => cntb f k + (if f k then 1 else 0)
def sumN (f : Nat → Nat) : Nat → Nat
  | 0 => 0
  | k + 1 => sumN f k + f k
def fstb (f : Nat → Bool) : Nat → Option Nat
  | 0 => none
  | k + 1 => match fstb f k with
    | some i => some i
    | none => if f k then some k else none
def oI : Option Nat → Int32
  | some i => nI i
  | none => -1
def abv (n s : Nat) : Nat := if s = 0 then n - 1 else s - 1
def blw (n s : Nat) : Nat := if s = n - 1 then 0 else s + 1
def bitN (h r : Nat) : Nat := h / 2 ^ r % 2
theorem bitN_lt (h r : Nat) : bitN h r < 2 := Nat.mod_lt _ (by decide)
theorem bitN_eq : ∀ h, h < 8 → ∀ r, r < 3 → (nI h >>> (nI r &&& 31)) &&& nI 1 = nI (bitN h r) := by decide
/-- the stops of the held reels, multiplied, over the first r reels -/
def prd (n : Nat → Nat) (h : Nat) : Nat → Nat
  | 0 => 1
  | r + 1 => prd n h r * (if bitN h r = 1 then n r else 1)
def StOK (M : Mm) (n P : Nat → Nat) : Prop := (∀ r, r < 3 → gI M 2 r = nI (n r)) ∧ (∀ r, r < 3 → 4 ≤ n r ∧ n r ≤ 20) ∧ (∀ j, j < 60 → gI M 3 j = nI (P j)) ∧ (∀ j, P j < 8) ∧ (∀ h, h < 8 → gI M 5 h = nI (prd n h 3))
theorem StOK.same {M M2 : Mm} {n P : Nat → Nat} (h : StOK M n P) (h2 : gI M2 2 = gI M 2) (h3 : gI M2 3 = gI M 3) (h5 : gI M2 5 = gI M 5) : StOK M2 n P := ⟨by rw [h2]; exact h.1, h.2.1, by rw [h3]; exact h.2.2.1, h.2.2.2.1, by rw [h5]; exact h.2.2.2.2⟩
theorem abv_lt {n s : Nat} (h : s < n) : abv n s < n := by unfold abv; split <;> omega
theorem blw_lt {n s : Nat} (h : s < n) : blw n s < n := by unfold blw; split <;> omega
def hasSt (n : Nat → Nat) (r s : Int32) : Bool := decide (0 ≤ r.toInt) && decide (r.toInt < 3) && decide (0 ≤ s.toInt) && decide (s.toInt < n r.toInt.toNat)
def hasEnd (n : Nat → Nat) (a b c : Int32) : Bool := decide (0 ≤ a.toInt) && decide (a.toInt < n 0) && decide (0 ≤ b.toInt) && decide (b.toInt < n 1) && decide (0 ≤ c.toInt) && decide (c.toInt < n 2)
theorem nI_of3 {x : Int32} (h : 0 ≤ x.toInt) : x = nI x.toInt.toNat := by
  obtain ⟨j, hj, rfl⟩ := nI_of (x := x) (fun h2 => by have := Int32.lt_iff_toInt_lt.mp h2; simp at this; omega)
  rw [nI_toInt hj]; simp
