/-- a number between two -/
abbrev inn (v : Int32) (a b : Int) : Prop := a ≤ v.toInt ∧ v.toInt ≤ b
abbrev tn (v : Int32) : Nat := v.toInt.toNat
theorem tn_nI {q : Nat} (h : q < 2 ^ 31) : tn (nI q) = q := by unfold tn; rw [nI_toInt h]; simp
theorem inn_nI {q : Nat} {a b : Int} (h : q < 2 ^ 31) (ha : a ≤ (q : Int)) (hb : (q : Int) ≤ b) : inn (nI q) a b := by unfold inn; rw [nI_toInt h]; exact ⟨ha, hb⟩
theorem inn_N {x : Int32} {b : Nat} {a : Int} (h : inn x a b) (ha : 0 ≤ a) : ∃ q : Nat, (a ≤ (q : Int)) ∧ q ≤ b ∧ x = nI q := by
  unfold inn at h
  exact ⟨x.toInt.toNat, by omega, by omega, nI_of3 (by omega)⟩
theorem dec_t {p : Prop} [Decidable p] (h : decide p = true) : p := of_decide_eq_true h
theorem dec_f {p : Prop} [Decidable p] (h : decide p = false) : ¬ p := of_decide_eq_false h
theorem wi_inn {v a b : Int32} : (decide (a ≤ v) && decide (v ≤ b)) = decide (inn v a.toInt b.toInt) := by
  rw [Bool.eq_iff_iff]
  simp only [inn, Bool.and_eq_true, decide_eq_true_eq, Int32.le_iff_toInt_le]
theorem wi_nn {v : Int32} {a b : Nat} (ha : a < 2 ^ 31) (hb : b < 2 ^ 31) : (decide (nI a ≤ v) && decide (v ≤ nI b)) = decide (inn v a b) := by
  rw [wi_inn, nI_toInt ha, nI_toInt hb]
theorem k_withinN {sh : List Sh} {M : Mm} (v : Int32) (a b : Nat) (ha : a < 2 ^ 31) (hb : b < 2 ^ 31) : CT mX7_within [.int v, .int (nI a), .int (nI b)] sh M (Pi (bI (decide (inn v a b))) sh M) := by
  have h := k_within (sh := sh) (M := M) v (nI a) (nI b); rw [wi_nn ha hb] at h; exact h
theorem k_withinI {sh : List Sh} {M : Mm} (v a b : Int32) : CT mX7_within [.int v, .int a, .int b] sh M (Pi (bI (decide (inn v a.toInt b.toInt))) sh M) := by
  have h := k_within (sh := sh) (M := M) v a b; rw [wi_inn] at h; exact h
theorem k_isReelN {sh : List Sh} {M : Mm} (v : Int32) : CT mX7_isReel [.int v] sh M (Pi (bI (decide (inn v 0 2))) sh M) := by
  have h := k_isReel (sh := sh) (M := M) v; rw [wi_inn] at h; exact h
theorem k_isPictureN {sh : List Sh} {M : Mm} (v : Int32) : CT mX7_isPicture [.int v] sh M (Pi (bI (decide (inn v 0 7))) sh M) := by
  have h := k_isPicture (sh := sh) (M := M) v; rw [wi_inn] at h; exact h
theorem wa_inn {v : Int32} : (decide (v = -1) || (decide (0 ≤ v) && decide (v ≤ 7))) = decide (inn v (-1) 7) := by
  rw [Bool.eq_iff_iff]
  have e1 : (-1 : Int32).toInt = -1 := rfl
  have e2 : (0 : Int32).toInt = 0 := rfl
  have e3 : (7 : Int32).toInt = 7 := rfl
  simp only [inn, Bool.and_eq_true, Bool.or_eq_true, decide_eq_true_eq, Int32.le_iff_toInt_le, ← Int32.toInt_inj, e1, e2, e3]
  omega
theorem k_isWantedN {sh : List Sh} {M : Mm} (v : Int32) : CT mX7_isWanted [.int v] sh M (Pi (bI (decide (inn v (-1) 7))) sh M) := by
  have h := k_isWanted (sh := sh) (M := M) v; rw [wa_inn] at h; exact h
theorem inn_W {v : Int32} (h : inn v (-1) 7) : okW v := by
  unfold inn at h; unfold okW
  have e1 : (-1 : Int32).toInt = -1 := rfl
  by_cases h2 : v.toInt = -1
  · exact .inl (Int32.toInt_inj.mp (by rw [h2, e1]))
  · exact .inr ⟨by omega, h.2⟩
theorem hasEnd_N {n : Nat → Nat} {a b c : Int32} (h : hasEnd n a b c = true) : ∃ x y t, x < n 0 ∧ y < n 1 ∧ t < n 2 ∧ a = nI x ∧ b = nI y ∧ c = nI t := by
  simp only [hasEnd, Bool.and_eq_true, decide_eq_true_eq] at h
  exact ⟨a.toInt.toNat, b.toInt.toNat, c.toInt.toNat, by omega, by omega, by omega, nI_of3 (by omega), nI_of3 (by omega), nI_of3 (by omega)⟩
theorem hasSt_N {n : Nat → Nat} {r s : Int32} (h : hasSt n r s = true) : ∃ x y, x < 3 ∧ y < n x ∧ r = nI x ∧ s = nI y := by
  simp only [hasSt, Bool.and_eq_true, decide_eq_true_eq] at h
  exact ⟨r.toInt.toNat, s.toInt.toNat, by omega, by omega, nI_of3 (by omega), nI_of3 (by omega)⟩
/-- the state: stops, pictures, counts, rows, what they want, what they pay, lines, room, hopper, the other coins, games, what they ended at -/
abbrev St := (Nat → Nat) × (Nat → Nat) × (Nat → Nat) × Nat × (Nat → Nat → Int32) × (Nat → Nat) × Nat × Nat × Nat × (Nat → Int32) × Nat × (Nat → Nat → Nat)
def spReel : St → Int32 → Int32 → Int32 × St := fun ⟨n, P, cnt, k, W, pv, L, R, H, z, g, q⟩ r x =>
  if inn r 0 2 ∧ inn x 4 20 then (1, (va_up n (tn r) (tn x), blkP P (tn r), cnt, k, W, pv, L, R, H, z, 0, q)) else (-2, (n, P, cnt, k, W, pv, L, R, H, z, g, q))
def spPicture : St → Int32 → Int32 → Int32 → Int32 × St := fun ⟨n, P, cnt, k, W, pv, L, R, H, z, g, q⟩ r s p =>
  if hasSt n r s = true ∧ inn p 0 7 then (nI (P (tn r * 20 + tn s)), (n, va_up P (tn r * 20 + tn s) (tn p), cnt, k, W, pv, L, R, H, z, g, q)) else (-2, (n, P, cnt, k, W, pv, L, R, H, z, g, q))
def spAt : St → Int32 → Int32 → Int32 × St := fun ⟨n, P, cnt, k, W, pv, L, R, H, z, g, q⟩ r s =>
  if hasSt n r s = true then (nI (P (tn r * 20 + tn s)), (n, P, cnt, k, W, pv, L, R, H, z, g, q)) else (-2, (n, P, cnt, k, W, pv, L, R, H, z, g, q))
def spCount : St → Int32 → Int32 → Int32 × St := fun ⟨n, P, cnt, k, W, pv, L, R, H, z, g, q⟩ p m =>
  if inn p 0 7 ∧ inn m 0 20 then (nI (cnt (tn p)), (n, P, va_up cnt (tn p) (tn m), k, W, pv, L, R, H, z, g, q)) else (-2, (n, P, cnt, k, W, pv, L, R, H, z, g, q))
def spLay : St → Int32 → Int32 × St := fun ⟨n, P, cnt, k, W, pv, L, R, H, z, g, q⟩ r =>
  if inn r 0 2 then (if 4 ≤ sumN cnt 8 ∧ sumN cnt 8 ≤ 20 then (nI (sumN cnt 8), (va_up n (tn r) (sumN cnt 8), layP P cnt (tn r) (sumN cnt 8), cnt, k, W, pv, L, R, H, z, 0, q)) else (-3, (n, P, cnt, k, W, pv, L, R, H, z, g, q))) else (-2, (n, P, cnt, k, W, pv, L, R, H, z, g, q))
def spPay : St → Int32 → Int32 → Int32 → Int32 → Int32 × St := fun ⟨n, P, cnt, k, W, pv, L, R, H, z, g, q⟩ a b c v =>
  if inn a (-1) 7 ∧ inn b (-1) 7 ∧ inn c (-1) 7 ∧ inn v 0 10000 then (if k < 12 then (nI k, (n, P, cnt, k + 1, va_up W k (wsh a b c), va_up pv k (tn v), L, R, H, z, g, q)) else (-4, (n, P, cnt, k, W, pv, L, R, H, z, g, q))) else (-2, (n, P, cnt, k, W, pv, L, R, H, z, g, q))
def spClear : St → Int32 × St := fun ⟨n, P, cnt, k, W, pv, L, R, H, z, g, q⟩ =>
  (nI k, (n, P, cnt, 0, W, pv, L, R, H, z, g, q))
def spLines : St → Int32 → Int32 × St := fun ⟨n, P, cnt, k, W, pv, L, R, H, z, g, q⟩ v =>
  if inn v 1 3 then (nI L, (n, P, cnt, k, W, pv, tn v, R, H, z, g, q)) else (-2, (n, P, cnt, k, W, pv, L, R, H, z, g, q))
def spEnding : St → Int32 → Int32 → Int32 → Int32 × St := fun ⟨n, P, cnt, k, W, pv, L, R, H, z, g, q⟩ a b c =>
  if hasEnd n a b c = true then (nI (EE n P k W pv L (tn a) (tn b) (tn c)), (n, P, cnt, k, W, pv, L, R, H, z, g, q)) else (-2, (n, P, cnt, k, W, pv, L, R, H, z, g, q))
def spAll : St → Int32 → Int64 × St := fun ⟨n, P, cnt, k, W, pv, L, R, H, z, g, q⟩ x =>
  (if x = 0 then lN (prd n 7 3) else if x = 1 then lN (tot n (EE n P k W pv L)) else if x = 2 then lN (tot n (fun a b c => hit1 (EE n P k W pv L a b c))) else if x = 3 then lN (tot n (EE n P k W pv L) * 1000 / (prd n 7 3 * L)) else if x = 4 then lN (tot n (plB n (EE n P k W pv L))) else -2, (n, P, cnt, k, W, pv, L, R, H, z, g, q))
def spRows : St → Int32 → Int32 × St := fun ⟨n, P, cnt, k, W, pv, L, R, H, z, g, q⟩ i =>
  if inn i 0 ((k : Int) - 1) then (nI (tot n (fun a b c => iw (fstR W k (lin P a b c) = some (tn i)) 1)), (n, P, cnt, k, W, pv, L, R, H, z, g, q)) else (-2, (n, P, cnt, k, W, pv, L, R, H, z, g, q))
def mid (n P : Nat → Nat) (r p : Nat) : Nat := cntb (fun s => decide (P (r * 20 + s) = p)) (n r)
def nea (n P : Nat → Nat) (r p : Nat) : Nat := cntb (fun s => bes n P r p s) (n r)
def spMisses : St → Int32 → Int32 × St := fun ⟨n, P, cnt, k, W, pv, L, R, H, z, g, q⟩ p =>
  if inn p 0 7 then (nI (nea n P 0 (tn p) * mid n P 1 (tn p) * mid n P 2 (tn p) + nea n P 1 (tn p) * mid n P 0 (tn p) * mid n P 2 (tn p) + nea n P 2 (tn p) * mid n P 0 (tn p) * mid n P 1 (tn p)), (n, P, cnt, k, W, pv, L, R, H, z, g, q)) else (-2, (n, P, cnt, k, W, pv, L, R, H, z, g, q))
def spWorth : St → Int32 → Int32 → Int32 → Int32 → Int64 × St := fun ⟨n, P, cnt, k, W, pv, L, R, H, z, g, q⟩ a b c h =>
  if hasEnd n a b c = true ∧ inn h 0 7 then (lN (wrt n (EE n P k W pv L) (tn a) (tn b) (tn c) (tn h)), (n, P, cnt, k, W, pv, L, R, H, z, g, q)) else (-2, (n, P, cnt, k, W, pv, L, R, H, z, g, q))
def spHold : St → Int32 → Int32 → Int32 → Int32 × St := fun ⟨n, P, cnt, k, W, pv, L, R, H, z, g, q⟩ a b c =>
  if hasEnd n a b c = true then (nI (bstH (wrt n (EE n P k W pv L) (tn a) (tn b) (tn c)) 7), (n, P, cnt, k, W, pv, L, R, H, z, g, q)) else (-2, (n, P, cnt, k, W, pv, L, R, H, z, g, q))
/-- an ending, nudged -/
def ndg (n : Nat → Nat) (E : Nat → Nat → Nat → Nat) (a b c x y t : Nat) : Nat := E ((a + x) % n 0) ((b + y) % n 1) ((c + t) % n 2)
/-- no nudge is better than (x, y, t) -/
def Bst (f : Nat → Nat → Nat → Nat) (K : Nat) (d : Nat × Nat × Nat) : Prop := d.1 + d.2.1 + d.2.2 ≤ K ∧ ∀ x y t, x + y + t ≤ K → f x y t < f d.1 d.2.1 d.2.2 ∨ (f x y t = f d.1 d.2.1 d.2.2 ∧ (d.1 + d.2.1 + d.2.2 < x + y + t ∨ (d.1 + d.2.1 + d.2.2 = x + y + t ∧ (d.1 < x ∨ (d.1 = x ∧ d.2.1 ≤ y)))))
theorem Bst.uniq {f : Nat → Nat → Nat → Nat} {K : Nat} {d e : Nat × Nat × Nat} (h1 : Bst f K d) (h2 : Bst f K e) : d = e := by
  obtain ⟨x, y, t⟩ := d
  obtain ⟨x2, y2, t2⟩ := e
  have a1 := h1.2 x2 y2 t2 h2.1
  have a2 := h2.2 x y t h1.1
  dsimp only at a1 a2
  have : x = x2 ∧ y = y2 ∧ t = t2 := by omega
  obtain ⟨rfl, rfl, rfl⟩ := this
  rfl
def spNudge (d : Nat × Nat × Nat) : St → Int32 → Int32 → Int32 → Int32 → Int32 → Int32 × St := fun ⟨n, P, cnt, k, W, pv, L, R, H, z, g, q⟩ a b c x v =>
  if hasEnd n a b c = true ∧ inn x 0 6 ∧ inn v 0 1 then (if v = 0 then nI (ndg n (EE n P k W pv L) (tn a) (tn b) (tn c) d.1 d.2.1 d.2.2) else nI (100 * d.1 + 10 * d.2.1 + d.2.2), (n, P, cnt, k, W, pv, L, R, H, z, g, q)) else (-2, (n, P, cnt, k, W, pv, L, R, H, z, g, q))
/-- what goes back, of a thousand, with the picture p at the stop s of the reel r -/
def bck (n P : Nat → Nat) (A : Nat → Nat) (r s p : Nat) : Nat := (sumN (fun i => wgt n P A r (P (r * 20 + i))) (n r) - wgt n P A r (P (r * 20 + s)) + wgt n P A r p) * 1000 / prd n 7 3
def chg (n P : Nat → Nat) (A : Nat → Nat) (r lo hi j : Nat) : Bool := decide (j % 8 ≠ P (r * 20 + j / 8) ∧ lo ≤ bck n P A r (j / 8) (j % 8) ∧ bck n P A r (j / 8) (j % 8) ≤ hi)
def chA (o : Option Nat) : Int32 := match o with
  | some j => nI (10 * (j / 8) + j % 8)
  | none => -1
def spChange : St → Int32 → Int32 → Int32 → Int32 × St := fun ⟨n, P, cnt, k, W, pv, L, R, H, z, g, q⟩ r lo hi =>
  if inn r 0 2 ∧ inn lo 0 10000000 ∧ inn hi lo.toInt 10000000 then (chA (fstb (chg n P (amt W pv k) (tn r) (tn lo) (tn hi)) (n (tn r) * 8)), (n, P, cnt, k, W, pv, L, R, H, z, g, q)) else (-2, (n, P, cnt, k, W, pv, L, R, H, z, g, q))
def spRoom : St → Int32 → Int32 × St := fun ⟨n, P, cnt, k, W, pv, L, R, H, z, g, q⟩ v =>
  if inn v 1 200 then (if H ≤ tn v then (nI R, (n, P, cnt, k, W, pv, L, tn v, H, z, g, q)) else (-3, (n, P, cnt, k, W, pv, L, R, H, z, g, q))) else (-2, (n, P, cnt, k, W, pv, L, R, H, z, g, q))
def spFill : St → Int32 → Int32 × St := fun ⟨n, P, cnt, k, W, pv, L, R, H, z, g, q⟩ x =>
  if inn x 0 200 then (if H + tn x ≤ R then (nI (H + tn x), (n, P, cnt, k, W, pv, L, R, H + tn x, upd z 6 (z 6 + x), g, q)) else (-3, (n, P, cnt, k, W, pv, L, R, H, z, g, q))) else (-2, (n, P, cnt, k, W, pv, L, R, H, z, g, q))
def plG (g : Nat) : Nat := if g < 200 then g + 1 else g
def plQ (g : Nat) (q : Nat → Nat → Nat) (a b c : Nat) : Nat → Nat → Nat := if g < 200 then va_up q g (wsh3 a b c) else q
def spPlay : St → Int32 → Int32 → Int32 → Int32 × St := fun ⟨n, P, cnt, k, W, pv, L, R, H, z, g, q⟩ a b c =>
  if hasEnd n a b c = true then (nI (EE n P k W pv L (tn a) (tn b) (tn c)), (n, P, cnt, k, W, pv, L, R, takeH R H L - min (EE n P k W pv L (tn a) (tn b) (tn c)) (takeH R H L), outZ (takeZ z R H L) (takeH R H L) (EE n P k W pv L (tn a) (tn b) (tn c)), plG g, plQ g q (tn a) (tn b) (tn c))) else (-2, (n, P, cnt, k, W, pv, L, R, H, z, g, q))
def coi (R H : Nat) (z : Nat → Int32) (g : Nat) (x : Int32) : Int32 := if x = 0 then nI H else if x = 1 then z 2 else if x = 2 then z 3 else if x = 3 then z 4 else if x = 4 then z 5 else if x = 5 then z 6 else if x = 6 then nI g else if x = 7 then nI R else -2
def spCoins : St → Int32 → Int32 × St := fun ⟨n, P, cnt, k, W, pv, L, R, H, z, g, q⟩ x =>
  (coi R H z g x, (n, P, cnt, k, W, pv, L, R, H, z, g, q))
def spDry (sz : Nat) (f : Nat → Nat) : St → Int32 → Int32 → Int64 × St := fun ⟨n, P, cnt, k, W, pv, L, R, H, z, g, q⟩ h t =>
  if inn h 0 R ∧ inn t 0 50 then (lN (dryL (cT n (EE n P k W pv L)) f sz (prd n 7 3) L R (tn t) (tn h)).toNat, (n, P, cnt, k, W, pv, L, R, H, z, g, q)) else (-2, (n, P, cnt, k, W, pv, L, R, H, z, g, q))
def seC (g : Nat) (q : Nat → Nat → Nat) (r s : Nat) : Nat := cntb (fun i => decide (q i r = s)) g
def spFavoured : St → Int32 → Int32 × St := fun ⟨n, P, cnt, k, W, pv, L, R, H, z, g, q⟩ r =>
  if inn r 0 2 then (if g = 0 then -1 else nI (bstH (seC g q (tn r)) 19), (n, P, cnt, k, W, pv, L, R, H, z, g, q)) else (-2, (n, P, cnt, k, W, pv, L, R, H, z, g, q))
def oddN (n : Nat → Nat) (g : Nat) (q : Nat → Nat → Nat) (r : Nat) : UInt64 := oddS (prb (hitN (n r)) (misN (n r)) g) (seC g q r (bstH (seC g q r) 19)) (g + 1 - seC g q r (bstH (seC g q r) 19))
def spOdd : St → Int32 → Int64 × St := fun ⟨n, P, cnt, k, W, pv, L, R, H, z, g, q⟩ r =>
  if inn r 0 2 then (if g = 0 then -1 else lN (oddN n g q (tn r)).toNat, (n, P, cnt, k, W, pv, L, R, H, z, g, q)) else (-2, (n, P, cnt, k, W, pv, L, R, H, z, g, q))
def mixA (f : Nat → Int64) (h : Int64) : Nat → Int64
  | 0 => h
  | i + 1 => lN 31 * mixA f h i + f i
def spDigest : St → Int64 × St := fun ⟨n, P, cnt, k, W, pv, L, R, H, z, g, q⟩ =>
  (mixA (fun i => (coi R H z g (nI i)).toInt64) (lN 31 * mixT W pv (mixA (fun i => lN (cnt i)) (mixS n P (mixA (fun i => (spAll (n, P, cnt, k, W, pv, L, R, H, z, g, q) (nI i)).1) (lN 251) 4) 3) 8) k + lN L) 8, (n, P, cnt, k, W, pv, L, R, H, z, g, q))
/-- what the class remembers of a state -/
def CtOK (M : Mm) (cnt : Nat → Nat) : Prop := ∀ p, p < 8 → gI M 6 p = nI (cnt p) ∧ cnt p ≤ 20
def QOK (n : Nat → Nat) (g : Nat) (q : Nat → Nat → Nat) : Prop := ∀ i, i < g → ∀ r, r < 3 → q i r < n r
def CInv (M : Mm) : St → Prop := fun ⟨n, P, cnt, k, W, pv, L, R, H, z, g, q⟩ => Bs M n P k W pv L ∧ CtOK M cnt ∧ SvF M n (EE n P k W pv L) ∧ CpF M n (EE n P k W pv L) ∧ TlOK M R H z ∧ SgOK M g q ∧ QOK n g q
abbrev FrC (M M2 : Mm) : Prop := Same (List.range 25) M M2
theorem CtOK.same {M M2 : Mm} {cnt : Nat → Nat} (h : CtOK M cnt) (e : gI M2 6 = gI M 6) : CtOK M2 cnt := fun p hp => by rw [e]; exact h p hp
theorem CInv.fresh {M : Mm} {n P cnt : Nat → Nat} {k : Nat} {W : Nat → Nat → Int32} {pv : Nat → Nat} {L R H : Nat} {z : Nat → Int32} {g : Nat} {q : Nat → Nat → Nat} (hB : Bs M n P k W pv L) (hc : CtOK M cnt) (h1 : gI M 0 10 = nI 0) (h2 : gI M 0 11 = nI 0) (ht : TlOK M R H z) (hg : SgOK M g q) (hq : QOK n g q) : CInv M (n, P, cnt, k, W, pv, L, R, H, z, g, q) := ⟨hB, hc, .inl h1, .inl h2, ht, hg, hq⟩
theorem SvF.same {M M2 : Mm} {n : Nat → Nat} {E : Nat → Nat → Nat → Nat} (h : SvF M n E) (h0 : gI M2 0 10 = gI M 0 10) (h1 : gJ M2 11 = gJ M 11) (h2 : gI M2 11 = gI M 11) (h3 : gJ M2 12 = gJ M 12) (h4 : gJ M2 13 = gJ M 13) : SvF M2 n E := by
  rcases h with h | ⟨h, h5⟩
  · exact .inl (by rw [h0]; exact h)
  · exact .inr ⟨by rw [h0]; exact h, h5.same h1 h2 h3 h4⟩
theorem CpF.same {M M2 : Mm} {n : Nat → Nat} {E : Nat → Nat → Nat → Nat} (h : CpF M n E) (h0 : gI M2 0 11 = gI M 0 11) (h1 : gI M2 14 = gI M 14) (h2 : gI M2 15 = gI M 15) (h3 : gI M2 16 = gI M 16) : CpF M2 n E := by
  rcases h with h | ⟨h, sz, f, h5⟩
  · exact .inl (by rw [h0]; exact h)
  · exact .inr ⟨by rw [h0]; exact h, sz, f, h5.same h1 h2 h3⟩
theorem rqi {M M2 : Mm} {sh : List Sh} {p : Int32 × St} {v : Int32} {s : St} (e : p = (v, s)) (h : CInv M2 s) (hf : FrC M M2) : Qi p.1 sh (fun m => CInv m p.2 ∧ FrC M m) (some (.int v)) sh M2 := by subst e; exact ⟨rfl, rfl, h, hf⟩
theorem rql {M M2 : Mm} {sh : List Sh} {p : Int64 × St} {v : Int64} {s : St} (e : p = (v, s)) (h : CInv M2 s) (hf : FrC M M2) : Ql p.1 sh (fun m => CInv m p.2 ∧ FrC M m) (some (.long v)) sh M2 := by subst e; exact ⟨rfl, rfl, h, hf⟩
/-- places that no state is kept in -/
theorem CInv.sm {ks : List Nat} {M M2 : Mm} {s : St} (h : CInv M s) (hs : Same ks M M2) (hk : (0 ∉ ks ∧ 2 ∉ ks ∧ 3 ∉ ks ∧ 5 ∉ ks) ∧ (7 ∉ ks ∧ 8 ∉ ks ∧ 9 ∉ ks ∧ 10 ∉ ks) ∧ (6 ∉ ks ∧ 11 ∉ ks ∧ 12 ∉ ks ∧ 13 ∉ ks) ∧ (14 ∉ ks ∧ 15 ∉ ks ∧ 16 ∉ ks) ∧ 17 ∉ ks ∧ 18 ∉ ks ∧ 19 ∉ ks) : CInv M2 s := by
  obtain ⟨n, P, cnt, k, W, pv, L, R, H, z, g, q⟩ := s
  obtain ⟨a1, a2, a3, a4, a5, a6, a7⟩ := h
  exact ⟨a1.sm hs ⟨hk.1, hk.2.1⟩, a2.same (hs.gI hk.2.2.1.1), a3.same (congrFun (hs.gI hk.1.1) _) (hs.gJ hk.2.2.1.2.1) (hs.gI hk.2.2.1.2.1) (hs.gJ hk.2.2.1.2.2.1) (hs.gJ hk.2.2.1.2.2.2), a4.same (congrFun (hs.gI hk.1.1) _) (hs.gI hk.2.2.2.1.1) (hs.gI hk.2.2.2.1.2.1) (hs.gI hk.2.2.2.1.2.2), a5.same (hs.gI hk.2.2.2.2.1), a6.same (hs.gI hk.2.2.2.2.2.1) (hs.gI hk.2.2.2.2.2.2), a7⟩
