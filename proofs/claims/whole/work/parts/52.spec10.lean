/-! lists that are read by counting -/
theorem ix_no {x : Int32} {n : Nat} (hn : n < 2 ^ 31) (h : ∀ j, j < n → x ≠ nI j) : ix x n = none := (pk_ix x hn).elim (fun q => ix_none (Or.inl q)) (fun q => q.elim (fun q => ix_none (Or.inr q)) (fun ⟨j, hj, ej⟩ => absurd ej (h j hj)))
theorem filt_s {α : Type} {L : List α} {P : α → Bool} {i : Nat} {q : α} (h : L[i]? = some q) : (L.take (i + 1)).filter P = (L.take i).filter P ++ if P q = true then [q] else [] := by
  rw [List.take_add_one, h, List.filter_append]
  congr 1
  by_cases hp : P q = true
  · simp [hp]
  · simp [hp]
theorem filt_at {α : Type} {L : List α} {P : α → Bool} {i : Nat} {q : α} (h : L[i]? = some q) (hp : P q = true) : (L.filter P)[((L.take i).filter P).length]? = some q := by
  have e : L.filter P = (L.take (i + 1)).filter P ++ (L.drop (i + 1)).filter P := by
    rw [← List.filter_append, List.take_append_drop]
  rw [e, filt_s h, if_pos hp, List.append_assoc, List.getElem?_append_right (Nat.le_refl _), Nat.sub_self]
  rfl
theorem diffO_s (a b : Ro) (o j : Nat) : diffO a b o (j + 1) = diffO a b o j ++ if differO a b j = true then [(o, j)] else [] := by
  unfold diffO
  rw [List.range_succ, List.filter_append, List.map_append]
  congr 1
  by_cases h : differO a b j = true
  · simp [h]
  · simp [h]
theorem diffO_pre (a b : Ro) (o : Nat) {j n : Nat} (h : j ≤ n) : ∃ t, diffO a b o n = diffO a b o j ++ t := by
  induction n with
  | zero => exact ⟨[], by rw [show j = 0 by omega, List.append_nil]⟩
  | succ n ih =>
    by_cases q : j = n + 1
    · exact ⟨[], by rw [q, List.append_nil]⟩
    · obtain ⟨t, ht⟩ := ih (by omega)
      exact ⟨t ++ _, by rw [diffO_s, ht, List.append_assoc]⟩
theorem diffL_pre (A B : St) {i n : Nat} (h : i ≤ n) : ∃ t, diffL A B n = diffL A B i ++ t := by
  induction n with
  | zero => exact ⟨[], by rw [show i = 0 by omega, List.append_nil]⟩
  | succ n ih =>
    by_cases q : i = n + 1
    · exact ⟨[], by rw [q, List.append_nil]⟩
    · obtain ⟨t, ht⟩ := ih (by omega)
      exact ⟨t ++ _, by rw [diffL, ht, List.append_assoc]⟩
theorem diffL_at {A B : St} {o j : Nat} (ho : o < 60) (hj : j < 7) (hd : differO (A o) (B o) j = true) : (diffL A B 60)[(diffL A B o ++ diffO (A o) (B o) o j).length]? = some (o, j) := by
  obtain ⟨t, ht⟩ := diffL_pre A B (show o + 1 ≤ 60 by omega)
  obtain ⟨t2, ht2⟩ := diffO_pre (A o) (B o) o (show j + 1 ≤ 7 by omega)
  rw [ht, diffL, ht2, diffO_s, if_pos hd]
  have e : diffL A B o ++ (diffO (A o) (B o) o j ++ [(o, j)] ++ t2) ++ t = (diffL A B o ++ diffO (A o) (B o) o j) ++ ([(o, j)] ++ (t2 ++ t)) := by simp [List.append_assoc]
  rw [e, List.getElem?_append_right (Nat.le_refl _), Nat.sub_self]
  rfl
theorem diffO_len (a b : Ro) (o j : Nat) : (diffO a b o j).length ≤ j := by
  unfold diffO
  rw [List.length_map]
  exact Nat.le_trans (List.length_filter_le _ _) (by rw [List.length_range]; exact Nat.le_refl j)
theorem diffL_len (A B : St) (i : Nat) : (diffL A B i).length ≤ 7 * i := by
  induction i with
  | zero => exact Nat.le_refl 0
  | succ i ih =>
    rw [diffL, List.length_append]
    have := diffO_len (A i) (B i) i 7
    omega
theorem upN_up {β : Type} (f : Nat → β) (i : Nat) (x y : β) : upN (upN f i x) i y = upN f i y := by
  funext j
  by_cases h : j = i <;> simp [upN, h]
theorem ptStep_base (no : Nat) (LK : List Ar) (i : Nat) (s : Ses) (x : Int64) : (ptStep no LK i s x).2.1.1 = s.1 := by
  unfold ptStep
  split
  · rfl
  · split
    · rfl
    · dsimp only
      split <;> rfl
theorem ptN_base (no : Nat) (LK : List Ar) (i : Nat) (s : Ses) (x : Int64) (n : Nat) : (ptN no LK i s x n).2.1.1 = s.1 := by
  induction n with
  | zero => rfl
  | succ n ih => rw [ptN]; exact (ptStep_base _ _ _ _ _).trans ih
theorem ptN_le (no : Nat) (LK : List Ar) (i : Nat) (s : Ses) (x : Int64) (n : Nat) : (ptN no LK i s x n).1 ≤ n := by
  induction n with
  | zero => exact Nat.le_refl 0
  | succ n ih =>
    rw [ptN]
    dsimp only
    split <;> omega
