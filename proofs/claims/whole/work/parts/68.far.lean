/-! distances: cut at 1,000,000,000 or at 2,000,000,000 -/
def wdF (a b : Int64) : Int64 := (if a < b then b else a) - (if a < b then a else b)
def cutF (w : Int64) : Int64 := if w < 0 ∨ 2000000000 < w then 2000000000 else w
def cutG (w : Int64) : Int64 := if w < 0 then 1000000000 else if 1000000000 < w then 1000000000 else w
theorem gap_cut (a b : Int64) : gapL a b = cutG (wdF a b) := by
  unfold gapL cutG wdF
  by_cases h : b < a
  · have h2 : ¬ a < b := by rw [Int64.lt_iff_toInt_lt] at *; omega
    simp only [h, h2, if_true, if_false]
  · by_cases h2 : a < b
    · simp only [h, h2, if_true, if_false]
    · have e : a = b := Int64.toInt_inj.mp (by rw [Int64.lt_iff_toInt_lt] at *; omega)
      subst e
      simp only [h, if_false]
theorem cut_fg (w : Int64) : ∃ f g : Nat, cutF w = lN f ∧ cutG w = lN g ∧ f ≤ 2000000000 ∧ g ≤ 1000000000 ∧ (g = f ∨ (g = 1000000000 ∧ 1000000000 ≤ f)) := by
  by_cases h : w < 0
  · refine ⟨2000000000, 1000000000, ?_, ?_, by omega, by omega, by omega⟩
    · unfold cutF; rw [if_pos (Or.inl h)]; rfl
    · unfold cutG; rw [if_pos h]; rfl
  · obtain ⟨k, hk, rfl⟩ := pk_lOf h
    have h2 : (2000000000 : Int64) < lN k ↔ 2000000000 < k := pk_lLT (a := 2000000000) (by decide) hk
    have h1 : (1000000000 : Int64) < lN k ↔ 1000000000 < k := pk_lLT (a := 1000000000) (by decide) hk
    unfold cutF cutG
    rw [if_neg h]
    by_cases c2 : 2000000000 < k
    · rw [if_pos (Or.inr (h2.mpr c2)), if_pos (h1.mpr (by omega))]
      exact ⟨2000000000, 1000000000, rfl, rfl, by omega, by omega, by omega⟩
    · rw [if_neg (fun q => q.elim h (fun z => c2 (h2.mp z)))]
      by_cases c1 : 1000000000 < k
      · rw [if_pos (h1.mpr c1)]
        exact ⟨k, 1000000000, rfl, rfl, by omega, by omega, by omega⟩
      · rw [if_neg (fun z => c1 (h1.mp z))]
        exact ⟨k, k, rfl, rfl, by omega, by omega, by omega⟩
theorem far_gap {w1 w2 d : Int64} (h0 : ¬ d < 0) (h1 : ¬ 1000000000 < d) : cutF w1 + cutF w2 < d ↔ cutG w1 + cutG w2 < d := by
  obtain ⟨m, hm, rfl⟩ := pk_lOf h0
  have h2 : (1000000000 : Int64) < lN m ↔ 1000000000 < m := pk_lLT (a := 1000000000) (by decide) hm
  have h3 : m ≤ 1000000000 := by
    rcases Nat.lt_or_ge 1000000000 m with z | z
    · exact absurd (h2.mpr z) h1
    · exact z
  obtain ⟨f1, g1, a1, a2, a3, a4, a5⟩ := cut_fg w1
  obtain ⟨f2, g2, b1, b2, b3, b4, b5⟩ := cut_fg w2
  rw [a1, a2, b1, b2, lN_add, lN_add, pk_lLT (by omega) hm, pk_lLT (by omega) hm]
  omega
theorem bI_inj {x y : Bool} : bI x = bI y ↔ x = y := by cases x <;> cases y <;> decide
theorem differO_6 (a b : Ro) : differO a b 6 = decide (a.isSome ≠ b.isSome) := by
  cases a <;> cases b <;> simp [differO]
theorem diffO_nn (o j : Nat) : diffO none none o j = [] := by
  unfold diffO
  rw [show ((List.range j).filter (fun k => differO none none k)) = [] from List.filter_eq_nil_iff.mpr (fun k _ q => by simp [differO] at q)]
  rfl
theorem diffL_no {A B : St} {no n : Nat} (h1 : ∀ o, no ≤ o → A o = none) (h2 : ∀ o, no ≤ o → B o = none) (hn : no ≤ n) : diffL A B n = diffL A B no := by
  induction n with
  | zero => rw [show no = 0 by omega]
  | succ n ih =>
    by_cases q : no = n + 1
    · rw [q]
    · rw [diffL, h1 n (by omega), h2 n (by omega), diffO_nn, List.append_nil]
      exact ih (by omega)
theorem pk_neg {x : Int32} (h : ¬ x < 0) : ∃ j : Nat, j < 2 ^ 31 ∧ x = nI j := nI_of h
