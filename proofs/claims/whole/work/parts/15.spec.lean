/-! the values: a row of an object's fields, an object or none, a state -/
abbrev Rw : Type := Nat → Int64
abbrev Ro : Type := Option Rw
abbrev St : Type := Nat → Ro
theorem va_rf_cat (o : Option Nat) : (va_rf o).category = 1 := by cases o <;> rfl
def bI (b : Bool) : Int32 := if b then 1 else 0
def rwEq (f g : Rw) : Bool := (List.range 6).all (fun j => decide (f j = g j))
theorem rwEq_iff {f g : Rw} : rwEq f g = true ↔ ∀ j, j < 6 → f j = g j := by
  simp [rwEq, List.all_eq_true]
theorem rwEq_congr {f g f' g' : Rw} (hf : ∀ j, j < 6 → f j = f' j) (hg : ∀ j, j < 6 → g j = g' j) : rwEq f g = rwEq f' g' := by
  rw [Bool.eq_iff_iff, rwEq_iff, rwEq_iff]
  constructor
  · intro h j hj
    rw [← hf j hj, ← hg j hj]; exact h j hj
  · intro h j hj
    rw [hf j hj, hg j hj]; exact h j hj
def alikeO (a b : Ro) : Bool := match a, b with
  | none, none => true
  | some f, some g => rwEq f g
  | _, _ => false
def differO (a b : Ro) (k : Nat) : Bool := match a, b with
  | some f, some g => decide (k < 6) && decide (f k ≠ g k)
  | none, none => false
  | _, _ => decide (k = 6)
/-- the row at an address: its values, as far as fields go -/
def pRow (h : FH) (a : Nat) (f : Rw) : Prop := ∃ b g, h a = some (oRow b) ∧ h b = some (aL 0 6 g) ∧ ∀ j, j < 6 → g j = f j
def pRo (h : FH) (r : Option Nat) (o : Ro) : Prop := match r, o with
  | none, none => True
  | some a, some f => pRow h a f
  | _, _ => False
theorem pRo_none {h : FH} {o : Ro} (hp : pRo h none o) : o = none := by
  cases o with
  | none => rfl
  | some f => exact hp.elim
theorem pRo_some {h : FH} {a : Nat} {o : Ro} (hp : pRo h (some a) o) : ∃ f, o = some f ∧ pRow h a f := by
  cases o with
  | none => exact hp.elim
  | some f => exact ⟨f, rfl, hp⟩
theorem bI_1 {b : Bool} (h : b = true) : (nI 1 : Int32) = bI b := by rw [h]; rfl
theorem bI_0 {b : Bool} (h : ¬ b = true) : (nI 0 : Int32) = bI b := by
  cases b with
  | true => exact absurd rfl h
  | false => rfl
theorem bI_n (b : Bool) : narrow .boolean (.int (bI b)) = .int (bI b) := by cases b <;> rfl
theorem bI_eq {b : Bool} : bI b = 0 ↔ b = false := by cases b <;> decide
def rwSet (f : Rw) (j : Nat) (x : Int64) : Rw := fun k => if k = j then x else f k
theorem rwSet_s {f : Rw} {j : Nat} {x : Int64} : rwSet f j x j = x := by simp [rwSet]
theorem rwSet_n {f : Rw} {j k : Nat} {x : Int64} (h : k ≠ j) : rwSet f j x k = f k := by simp [rwSet, h]
def arHolds (x0 y0 x1 y1 x y : Int64) : Bool := decide (x0 ≤ x) && decide (x ≤ x1) && decide (y0 ≤ y) && decide (y ≤ y1)
def arMeets (x0 y0 x1 y1 x2 y2 x3 y3 : Int64) : Bool := decide (x0 ≤ x3) && decide (x2 ≤ x1) && decide (y0 ≤ y3) && decide (y2 ≤ y1)
theorem fh_upup (h : FH) (a : Nat) (e e' : fe) : fh_up (fh_up h a e) a e' = fh_up h a e' := by
  funext j
  by_cases hj : j = a <;> simp [fh_up, hj]
theorem fh_upcomm (h : FH) {a b : Nat} (e e' : fe) (hn : a ≠ b) : fh_up (fh_up h a e) b e' = fh_up (fh_up h b e') a e := by
  funext j
  by_cases hj : j = a
  · subst hj
    simp [fh_up, hn]
  · by_cases hk : j = b
    · subst hk
      simp [fh_up, Ne.symm hn]
    · simp [fh_up, hj, hk]
abbrev Ar : Type := Int32 × Int64 × Int64 × Int64 × Int64
abbrev oAr (a : Ar) : fe := oArea a.1 a.2.1 a.2.2.1 a.2.2.2.1 a.2.2.2.2
def lkHit (o : Option Ar) (sn : Int32) (x y : Int64) : Bool := match o with
  | none => false
  | some a => decide (a.1 ≠ sn) && arHolds a.2.1 a.2.2.1 a.2.2.2.1 a.2.2.2.2 x y
def lkBar (ar : Nat → Option Ar) (sn : Int32) (x y : Int64) : Bool := (List.range 10).any (fun i => lkHit (ar i) sn x y)
def lkMeet (o : Option Ar) (b : Ar) : Bool := match o with
  | none => false
  | some a => decide (a.1 ≠ b.1) && arMeets a.2.1 a.2.2.1 a.2.2.2.1 a.2.2.2.2 b.2.1 b.2.2.1 b.2.2.2.1 b.2.2.2.2
def lkClash (ar : Nat → Option Ar) (b : Ar) : Bool := (List.range 10).any (fun i => lkMeet (ar i) b)
def pAr (h : FH) (r : Option Nat) (o : Option Ar) : Prop := match r, o with
  | none, none => True
  | some a, some x => h a = some (oAr x)
  | _, _ => False
theorem pAr_none {h : FH} {o : Option Ar} (hp : pAr h none o) : o = none := by
  cases o with
  | none => rfl
  | some f => exact hp.elim
theorem pAr_some {h : FH} {a : Nat} {o : Option Ar} (hp : pAr h (some a) o) : ∃ f, o = some f ∧ h a = some (oAr f) := by
  cases o with
  | none => exact hp.elim
  | some f => exact ⟨f, rfl, hp⟩
theorem any10_t {p : Nat → Bool} {i : Nat} (hi : i < 10) (h : p i = true) : (List.range 10).any p = true := List.any_eq_true.mpr ⟨i, List.mem_range.mpr hi, h⟩
theorem any10_f {p : Nat → Bool} (h : ∀ i, i < 10 → p i = false) : ¬ (List.range 10).any p = true := fun q => by
  obtain ⟨i, hi, h1⟩ := List.any_eq_true.mp q
  rw [h i (List.mem_range.mp hi)] at h1
  cases h1
theorem fh_up_same {h : FH} {a : Nat} {e : fe} (ha : h a = some e) : fh_up h a e = h := by
  funext j
  by_cases hj : j = a
  · subst hj
    rw [fh_up_self, ha]
  · rw [fh_up_ne _ _ hj]
def lkOwn (o : Option Ar) (sn : Int32) : Bool := match o with
  | none => false
  | some a => decide (a.1 = sn)
def gapL (a b : Int64) : Int64 := if (if b < a then a else b) - (if b < a then b else a) < 0 then 1000000000 else if 1000000000 < (if b < a then a else b) - (if b < a then b else a) then 1000000000 else (if b < a then a else b) - (if b < a then b else a)
def rlBroken (a b : Ro) (d : Int64) : Bool := match a, b with
  | some f, some g => decide (gapL (f 0) (g 0) + gapL (f 1) (g 1) < d)
  | _, _ => false
def dr33 (x : Int64) : Int64 := (x.toUInt64 >>> ((nI 33).toInt64.toUInt64 &&& Int64.toUInt64 63)).toInt64
def drNext (x : Int64) : Int64 := x * 6364136223846793005 + 1442695040888963407
def drMod (x : Int64) (n : Int32) : Int32 := (dr33 x - dr33 x / n.toInt64 * n.toInt64).toInt32
theorem min40 {c : Nat} (h : c ≤ 40) : (if nI 40 < nI (c + 1) then nI 40 else nI (c + 1)) = nI (if c < 40 then c + 1 else 40) := by
  by_cases hc : c < 40
  · rw [if_neg (nI_nlt (by omega) (by decide)), if_pos hc]
  · rw [if_pos (nI_lt (by omega) (by omega)), if_neg hc]
theorem bI_nz {b : Bool} (h : ¬ bI b = 0) : b = true := by
  cases b with
  | true => rfl
  | false => exact absurd rfl h
def pSt (h : FH) (a b : Nat) (S : St) : Prop := h a = some (oSt b) ∧ ∃ f, h b = some (aQ 1 60 f) ∧ ∀ i, i < 60 → pRo h (f i) (S i)
def seClash (was mine theirs : Ro) (k : Nat) : Bool := match was with
  | none => false
  | some _ => if k = 6 then (match mine with
      | none => theirs.isSome && !alikeO theirs was
      | some _ => theirs.isNone) else differO mine was k && differO theirs was k && differO theirs mine k
theorem bI_n1 {b : Bool} (h : bI b = 0) : (nI 1 : Int32) = bI (!b) := by cases b <;> first | rfl | exact absurd h (by decide)
theorem bI_n0 {b : Bool} (h : ¬ bI b = 0) : (nI 0 : Int32) = bI (!b) := by cases b <;> first | rfl | exact absurd rfl h
theorem nar12 {x : Nat} (h : x < 2) : vp_nar .byte (nI (x + 1)).toInt8.toInt32 = nI (x + 1) := by
  rcases (show x = 0 ∨ x = 1 by omega) with rfl | rfl <;> decide
theorem catsum (l : List Value) : (l.map fun v => v.category).sum ≤ 2 * l.length := by
  induction l with
  | nil => exact Nat.le_refl _
  | cons v l ih =>
    have h2 : v.category ≤ 2 := by rcases lv_cat v with h | h <;> omega
    simp only [List.map_cons, List.sum_cons, List.length_cons]
    omega
def seTakes (was mine theirs : Ro) (k : Nat) (side : Int32) : Bool := differO mine was k && differO mine theirs k && (!seClash was mine theirs k || decide (side = nI 1))
def seMerged (was mine theirs : Ro) (side : Nat → Int32) : Ro :=
  if alikeO was mine = true then theirs
  else if seClash was mine theirs 6 = true then (if side 6 = nI 1 then mine else theirs)
  else match mine, theirs with
    | some m, some t => if alikeO theirs was = true then mine else some (fun k => if seTakes was mine theirs k (side k) = true then m k else t k)
    | _, _ => mine
theorem pRow_ext {sz : Nat} {h u : FH} {a : Nat} {f : Rw} (he : fh_ext sz h u) (hl : ∀ a e, h a = some e → a < sz) (hp : pRow h a f) : pRow u a f := by
  obtain ⟨b, g, h1, h2, h3⟩ := hp
  exact ⟨b, g, he.at h1 (hl _ _ h1), he.at h2 (hl _ _ h2), h3⟩
theorem pRo_ext {sz : Nat} {h u : FH} {r : Option Nat} {o : Ro} (he : fh_ext sz h u) (hl : ∀ a e, h a = some e → a < sz) (hp : pRo h r o) : pRo u r o := by
  cases r with
  | none => cases o with
    | none => trivial
    | some f => exact hp.elim
  | some a => cases o with
    | none => exact hp.elim
    | some f => exact pRow_ext he hl hp
theorem pSt_ext {sz : Nat} {h u : FH} {a b : Nat} {S : St} (he : fh_ext sz h u) (hl : ∀ a e, h a = some e → a < sz) (hp : pSt h a b S) : pSt u a b S := by
  obtain ⟨h1, f, h2, h3⟩ := hp
  exact ⟨he.at h1 (hl _ _ h1), f, he.at h2 (hl _ _ h2), fun i hi => pRo_ext he hl (h3 i hi)⟩
theorem pRow_eq {h : FH} {a : Nat} {f g : Rw} (hp : pRow h a f) (e : ∀ j, j < 6 → f j = g j) : pRow h a g := by
  obtain ⟨b, k, h1, h2, h3⟩ := hp
  exact ⟨b, k, h1, h2, fun j hj => (h3 j hj).trans (e j hj)⟩
theorem seM1 {w m t : Ro} {s : Nat → Int32} (e1 : alikeO w m = true) : seMerged w m t s = t := by unfold seMerged; rw [if_pos e1]
theorem seM2 {w m t : Ro} {s : Nat → Int32} (e1 : ¬ alikeO w m = true) (e2 : seClash w m t 6 = true) (c : s 6 = nI 1) : seMerged w m t s = m := by unfold seMerged; rw [if_neg e1, if_pos e2, if_pos c]
theorem seM3 {w m t : Ro} {s : Nat → Int32} (e1 : ¬ alikeO w m = true) (e2 : seClash w m t 6 = true) (c : ¬ s 6 = nI 1) : seMerged w m t s = t := by unfold seMerged; rw [if_neg e1, if_pos e2, if_neg c]
theorem seM4 {w m t : Ro} {s : Nat → Int32} (e1 : ¬ alikeO w m = true) (e2 : ¬ seClash w m t 6 = true) (e4 : m = none ∨ t = none) : seMerged w m t s = m := by
  unfold seMerged
  rw [if_neg e1, if_neg e2]
  rcases e4 with rfl | rfl
  · rfl
  · cases m <;> rfl
theorem seM6 {w : Ro} {m t : Rw} {s : Nat → Int32} (e1 : ¬ alikeO w (some m) = true) (e2 : ¬ seClash w (some m) (some t) 6 = true) (e6 : alikeO (some t) w = true) : seMerged w (some m) (some t) s = some m := by
  unfold seMerged
  rw [if_neg e1, if_neg e2]
  simp only [e6, if_true]
theorem seM7 {w : Ro} {m t : Rw} {s : Nat → Int32} (e1 : ¬ alikeO w (some m) = true) (e2 : ¬ seClash w (some m) (some t) 6 = true) (e6 : ¬ alikeO (some t) w = true) : seMerged w (some m) (some t) s = some (fun k => if seTakes w (some m) (some t) k (s k) = true then m k else t k) := by
  unfold seMerged
  rw [if_neg e1, if_neg e2]
  simp only [if_neg e6]
