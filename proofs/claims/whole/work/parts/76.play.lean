theorem ptN_0 (LK : List Ar) (i : Nat) (s : Ses) (x : Int64) (n : Nat) : ptN 0 LK i s x n = (0, s, x) := by
  induction n with
  | zero => rfl
  | succ n ih =>
    rw [ptN, ih]
    rfl
theorem ptStep_none {no : Nat} {LK : List Ar} {i : Nat} {s : Ses} {x : Int64} (h : ∀ o, no ≤ o → s.2.1 o = none) : ∀ o, no ≤ o → (ptStep no LK i s x).2.1.2.1 o = none := by
  intro o ho
  unfold ptStep
  split
  · exact h o ho
  · rename_i hn
    have hlt : drI (drNext x) no < no := drI_lt (Nat.pos_of_ne_zero hn)
    split
    · exact h o ho
    · dsimp only
      split
      · show upN s.2.1 _ _ o = none
        rw [upN_n _ _ (by omega)]
        exact h o ho
      · exact h o ho
theorem ptN_none {no : Nat} {LK : List Ar} {i : Nat} {s : Ses} {x : Int64} (h : ∀ o, no ≤ o → s.2.1 o = none) (n : Nat) : ∀ o, no ≤ o → (ptN no LK i s x n).2.1.2.1 o = none := by
  induction n with
  | zero => exact h
  | succ n ih => rw [ptN]; exact ptStep_none ih
theorem drL_eq (x : Int64) : dr33 x - dr33 x / 100 * 100 = lN (drI x 100) := by
  have h2 := dr33_lt x
  unfold drI
  rw [dr33_eq]
  exact pk_lRem (b := 100) (by omega) (by decide) (by decide)
theorem dr6_eq (x : Int64) : (dr33 x - dr33 x / 6 * 6).toInt32 = nI (drI x 6) := drMod_eq (x := x) (b := 6) (by decide) (by decide)
