def sameB (T' T : St) (o : Nat) : Bool := match T' o, T o with
  | some f, some g => rwEq f g
  | _, _ => false
theorem sameB_iff (T' T : St) (o : Nat) : sameB T' T o = true ↔ ∃ f g, T' o = some f ∧ T o = some g ∧ rwEq f g = true := by
  unfold sameB
  constructor
  · intro h
    cases e1 : T' o with
    | none => rw [e1] at h; cases h
    | some f => cases e2 : T o with
      | none => rw [e1, e2] at h; cases h
      | some g => rw [e1, e2] at h; exact ⟨f, g, rfl, rfl, h⟩
  · rintro ⟨f, g, h1, h2, h3⟩
    rw [h1, h2]
    exact h3
/-- four places copied -/
def cpA (n l t : Nat) (h : Nat → Int64) : Nat → Int64 := fun x => if 4 * n ≤ x ∧ x < 4 * n + t then h (4 * l + (x - 4 * n)) else h x
theorem cpA_0 (n l : Nat) (h : Nat → Int64) : cpA n l 0 h = h := by
  funext x
  unfold cpA
  rw [if_neg (by omega)]
theorem cpA_s {n l t : Nat} (h : Nat → Int64) (hn : n ≤ l) (ht : t < 4) : vp_updL (cpA n l t h) (4 * n + t) (cpA n l t h (4 * l + t)) = cpA n l (t + 1) h := by
  funext x
  have e : cpA n l t h (4 * l + t) = h (4 * l + t) := by
    unfold cpA
    rw [if_neg (by omega)]
  rw [e]
  by_cases c : x = 4 * n + t
  · subst c
    rw [pk_uLs]
    unfold cpA
    rw [if_pos (by omega), show 4 * n + t - 4 * n = t by omega]
  · rw [pk_uLn c]
    unfold cpA
    by_cases d : 4 * n ≤ x ∧ x < 4 * n + t
    · rw [if_pos d, if_pos (by omega)]
    · rw [if_neg d, if_neg (by omega)]
def mLf (lO : Nat → Int32) (lA : Nat → Int64) (LK : List Ar) (l : Nat) : Prop := ∀ k, l ≤ k → ∀ a, LK[k]? = some a → lO k = a.1 ∧ lA (4 * k) = a.2.1 ∧ lA (4 * k + 1) = a.2.2.1 ∧ lA (4 * k + 2) = a.2.2.2.1 ∧ lA (4 * k + 3) = a.2.2.2.2
theorem mL_cp {lO : Nat → Int32} {lA : Nat → Int64} {F : List Ar} {a : Ar} {n l : Nat} (hF : mL lO lA F) (hn : n = F.length) (hl : n ≤ l) (ha : lO l = a.1 ∧ lA (4 * l) = a.2.1 ∧ lA (4 * l + 1) = a.2.2.1 ∧ lA (4 * l + 2) = a.2.2.2.1 ∧ lA (4 * l + 3) = a.2.2.2.2) : mL (upd lO n (lO l)) (cpA n l 4 lA) (F ++ [a]) := by
  intro k b hk
  obtain ⟨a1, a2, a3, a4, a5⟩ := ha
  have hin : ∀ s, s < 4 → cpA n l 4 lA (4 * n + s) = lA (4 * l + s) := fun s hs => by
    unfold cpA
    rw [if_pos (by omega), show 4 * n + s - 4 * n = s by omega]
  have hout : ∀ x, (x < 4 * n ∨ 4 * n + 4 ≤ x) → cpA n l 4 lA x = lA x := fun x hx => by
    unfold cpA
    rw [if_neg (by omega)]
  rcases Nat.lt_trichotomy k n with z | z | z
  · rw [List.getElem?_append_left (by omega)] at hk
    obtain ⟨h1, h2, h3, h4, h5⟩ := hF k b hk
    exact ⟨by rw [← h1]; simp [upd, Nat.ne_of_lt z], (hout _ (by omega)).trans h2, (hout _ (by omega)).trans h3, (hout _ (by omega)).trans h4, (hout _ (by omega)).trans h5⟩
  · rw [z, hn, List.getElem?_append_right (Nat.le_refl _), Nat.sub_self] at hk
    cases hk
    rw [z]
    exact ⟨by rw [← a1]; simp [upd], (hin 0 (by omega)).trans a2, (hin 1 (by omega)).trans a3, (hin 2 (by omega)).trans a4, (hin 3 (by omega)).trans a5⟩
  · rw [List.getElem?_eq_none (by rw [List.length_append]; simp; omega)] at hk
    cases hk
theorem mLf_cp {lO : Nat → Int32} {lA : Nat → Int64} {LK : List Ar} {n l : Nat} (h : mLf lO lA LK l) (hl : n ≤ l) (x : Int32) : mLf (upd lO n x) (cpA n l 4 lA) LK (l + 1) := by
  intro k hk a ha
  obtain ⟨h1, h2, h3, h4, h5⟩ := h k (by omega) a ha
  have hout : ∀ x, 4 * n + 4 ≤ x → cpA n l 4 lA x = lA x := fun x hx => by
    unfold cpA
    rw [if_neg (by omega)]
  exact ⟨by rw [← h1]; simp [upd, show k ≠ n by omega], (hout _ (by omega)).trans h2, (hout _ (by omega)).trans h3, (hout _ (by omega)).trans h4, (hout _ (by omega)).trans h5⟩
