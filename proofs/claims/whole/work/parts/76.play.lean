theorem ptN_0 (LK : List Ar) (i : Nat) (s : Ses) (x : Int64) (n : Nat) : ptN 0 LK i s x n = (0, s, x) := by
  induction n with
  | zero => rfl
  | succ n ih =>
    rw [ptN, ih]
    rfl
theorem ptStep_none {no : Nat} {LK : List Ar} {i : Nat} {s : Ses} {x : Int64} (h : ∀ o, no ≤ o → s.2.1 o = none) : ∀ o, no ≤ o → (ptStep no LK i s x).2.1.2.1 o = none := by
  intro o ho
  unfold ptStep
  split
  · exact h o ho
  · rename_i hn
    have hlt : drI (drNext x) no < no := drI_lt (Nat.pos_of_ne_zero hn)
    split
    · exact h o ho
    · dsimp only
      split
      · show upN s.2.1 _ _ o = none
        rw [upN_n _ _ (by omega)]
        exact h o ho
      · exact h o ho
theorem ptN_none {no : Nat} {LK : List Ar} {i : Nat} {s : Ses} {x : Int64} (h : ∀ o, no ≤ o → s.2.1 o = none) (n : Nat) : ∀ o, no ≤ o → (ptN no LK i s x n).2.1.2.1 o = none := by
  induction n with
  | zero => exact h
  | succ n ih => rw [ptN]; exact ptStep_none ih
theorem drL_eq (x : Int64) : dr33 x - dr33 x / 100 * 100 = lN (drI x 100) := by
  have h2 := dr33_lt x
  unfold drI
  rw [dr33_eq]
  exact pk_lRem (b := 100) (by omega) (by decide) (by decide)
theorem dr6_eq (x : Int64) : (dr33 x - dr33 x / 6 * 6).toInt32 = nI (drI x 6) := drMod_eq (x := x) (b := 6) (by decide) (by decide)
theorem ptN_f {no : Nat} {LK : List Ar} {i : Nat} {s : Ses} {x : Int64} {k : Nat} {s2 : Ses} {x2 : Int64} (h : ptStep no LK i (ptN no LK i s x k).2.1 (ptN no LK i s x k).2.2 = (false, s2, x2)) : ptN no LK i s x (k + 1) = ((ptN no LK i s x k).1, s2, x2) := by
  rw [ptN, h]
  simp
theorem ptN_t {no : Nat} {LK : List Ar} {i : Nat} {s : Ses} {x : Int64} {k : Nat} {s2 : Ses} {x2 : Int64} (h : ptStep no LK i (ptN no LK i s x k).2.1 (ptN no LK i s x k).2.2 = (true, s2, x2)) : ptN no LK i s x (k + 1) = ((ptN no LK i s x k).1 + 1, s2, x2) := by
  rw [ptN, h]
  simp
theorem ptA (no : Nat) (LK : List Ar) (i : Nat) (s : Ses) (x : Int64) (n : Nat) : ∃ PT : Nat → Nat × Ses × Int64, PT 0 = (0, s, x) ∧ (∀ k s2 x2, ptStep no LK i (PT k).2.1 (PT k).2.2 = (false, s2, x2) → PT (k + 1) = ((PT k).1, s2, x2)) ∧ (∀ k s2 x2, ptStep no LK i (PT k).2.1 (PT k).2.2 = (true, s2, x2) → PT (k + 1) = ((PT k).1 + 1, s2, x2)) ∧ PT n = ptN no LK i s x n ∧ ∀ k, (PT k).1 ≤ k :=
  ⟨ptN no LK i s x, rfl, fun _ _ _ h => ptN_f h, fun _ _ _ h => ptN_t h, rfl, fun k => ptN_le no LK i s x k⟩
