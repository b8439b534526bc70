/-! conflicts and merging, field by field -/
theorem rwEq_comm (f g : Rw) : rwEq f g = rwEq g f := by
  rw [Bool.eq_iff_iff, rwEq_iff, rwEq_iff]
  constructor <;> intro h j hj <;> exact (h j hj).symm
theorem mC_add {fC : Nat → Int32} {L : CL} (h : mC fC L) (p : Nat × Nat) : mC (upd fC L.length (nI (7 * p.1 + p.2))) (L ++ [p]) := by
  intro k q hk
  rcases Nat.lt_trichotomy k L.length with h1 | h1 | h1
  · rw [List.getElem?_append_left h1] at hk
    rw [← h k q hk]
    simp [upd, Nat.ne_of_lt h1]
  · subst h1
    rw [List.getElem?_append_right (Nat.le_refl _), Nat.sub_self] at hk
    cases hk
    simp [upd]
  · rw [List.getElem?_eq_none (by rw [List.length_append]; simp; omega)] at hk
    cases hk
theorem seClash_3 {w m t : Rw} {k : Nat} (hk : k < 6) : seClash (some w) (some m) (some t) k = (decide (m k ≠ w k) && decide (t k ≠ w k) && decide (t k ≠ m k)) := by
  have k6 : ¬ k = 6 := by omega
  simp [seClash, k6, differO, hk]
theorem gath_none (m t : Ro) (o j : Nat) : gathO none m t o j = [] := by
  unfold gathO seGath
  rw [show ((List.range j).filter (fun k => seClash none m t k)) = [] from List.filter_eq_nil_iff.mpr (fun k _ q => by simp [seClash] at q)]
  rfl
theorem gath_6 {w m t : Ro} {o : Nat} (h : ∀ k, k < 6 → seClash w m t k = false) : gathO w m t o 6 = [] := by
  unfold gathO seGath
  rw [show ((List.range 6).filter (fun k => seClash w m t k)) = [] from List.filter_eq_nil_iff.mpr (fun k hk q => by rw [h k (List.mem_range.mp hk)] at q; cases q)]
  rfl
theorem gath_7 {w m t : Ro} {o : Nat} (h : ∀ k, k < 6 → seClash w m t k = false) : gathO w m t o 7 = if seClash w m t 6 = true then [(o, 6)] else [] := by
  rw [gathO_s, gath_6 h, List.nil_append]
theorem clash_mn {w : Rw} {t : Ro} {k : Nat} (hk : k < 6) : seClash (some w) none t k = false := by
  have k6 : ¬ k = 6 := by omega
  simp [seClash, k6, differO]
theorem clash_tn {w m : Rw} {k : Nat} (hk : k < 6) : seClash (some w) (some m) none k = false := by
  have k6 : ¬ k = 6 := by omega
  simp [seClash, k6, differO]
theorem gath_ff (w m t : Rw) (o : Nat) : gathO (some w) (some m) (some t) o 7 = gathO (some w) (some m) (some t) o 6 := by
  rw [gathO_s, show seClash (some w) (some m) (some t) 6 = false from rfl]
  simp
theorem gathO_mem {w m t : Ro} {i j o k : Nat} : (o, k) ∈ gathO w m t i j ↔ o = i ∧ k < j ∧ seClash w m t k = true := by
  unfold gathO seGath
  rw [List.mem_map]
  constructor
  · rintro ⟨k', hk', e⟩
    cases e
    exact ⟨rfl, List.mem_range.mp (List.mem_filter.mp hk').1, (List.mem_filter.mp hk').2⟩
  · rintro ⟨rfl, h1, h2⟩
    exact ⟨k, List.mem_filter.mpr ⟨List.mem_range.mpr h1, h2⟩, rfl⟩
theorem gathL_iff {B N T : St} {n o k : Nat} : (o, k) ∈ gathL B N T n ↔ o < n ∧ k < 7 ∧ ¬ alikeO (B o) (N o) = true ∧ seClash (B o) (N o) (T o) k = true := by
  induction n with
  | zero => simp [gathL]
  | succ n ih =>
    rw [gathL, List.mem_append, ih]
    by_cases h : alikeO (B n) (N n) = true
    · rw [if_pos h]
      constructor
      · rintro (⟨h1, h2⟩ | h1)
        · exact ⟨by omega, h2⟩
        · cases h1
      · rintro ⟨h1, h2, h3, h4⟩
        refine Or.inl ⟨?_, h2, h3, h4⟩
        rcases Nat.lt_or_ge o n with z | z
        · exact z
        · exact absurd h (by rw [show n = o by omega]; exact h3)
    · rw [if_neg h, gathO_mem]
      constructor
      · rintro (⟨h1, h2⟩ | ⟨rfl, h2, h3⟩)
        · exact ⟨by omega, h2⟩
        · exact ⟨by omega, h2, h, h3⟩
      · rintro ⟨h1, h2, h3, h4⟩
        rcases Nat.lt_or_ge o n with z | z
        · exact Or.inl ⟨z, h2, h3, h4⟩
        · have e : o = n := by omega
          subst e
          exact Or.inr ⟨rfl, h2, h4⟩
theorem gathL_no {B N T : St} {no n : Nat} (h1 : ∀ o, no ≤ o → B o = none) (h2 : ∀ o, no ≤ o → N o = none) (hn : no ≤ n) : gathL B N T n = gathL B N T no := by
  induction n with
  | zero => rw [show no = 0 by omega]
  | succ n ih =>
    by_cases q : no = n + 1
    · rw [q]
    · rw [gathL, h1 n (by omega), h2 n (by omega), if_pos (show alikeO none none = true from rfl), List.append_nil]
      exact ih (by omega)
/-- which value a field has in the end -/
def mTk (w m t : Rw) (sd : Nat → Int32) (k : Nat) : Bool := if seClash (some w) (some m) (some t) k = true then decide (sd k = nI 1) else decide (m k ≠ w k)
def mVal (w m t : Rw) (sd : Nat → Int32) (k : Nat) : Int64 := if mTk w m t sd k = true then m k else t k
theorem seMerged_3 {w m t : Rw} {sd : Nat → Int32} (ha : ¬ alikeO (some w) (some m) = true) : ∃ r, seMerged (some w) (some m) (some t) sd = some r ∧ ∀ k, k < 6 → r k = mVal w m t sd k := by
  have e2 : ¬ seClash (some w) (some m) (some t) 6 = true := by simp [seClash]
  by_cases e6 : alikeO (some t) (some w) = true
  · refine ⟨m, seM6 ha e2 e6, fun k hk => ?_⟩
    have h1 := rwEq_iff.mp e6 k hk
    have e3 : ¬ seClash (some w) (some m) (some t) k = true := by rw [seClash_3 hk]; simp [h1]
    have e4 : mTk w m t sd k = decide (m k ≠ w k) := by unfold mTk; rw [if_neg e3]
    unfold mVal
    rw [e4]
    by_cases c : m k = w k
    · rw [if_neg (by simp [c]), c, h1]
    · rw [if_pos (by simp [c])]
  · refine ⟨_, seM7 ha e2 e6, fun k hk => ?_⟩
    show (if seTakes (some w) (some m) (some t) k (sd k) = true then m k else t k) = mVal w m t sd k
    unfold mVal
    by_cases c : seClash (some w) (some m) (some t) k = true
    · have e4 : mTk w m t sd k = decide (sd k = nI 1) := by unfold mTk; rw [if_pos c]
      rw [e4]
      have c2 := c
      rw [seClash_3 hk] at c2
      simp only [Bool.and_eq_true, decide_eq_true_eq] at c2
      have hs : seTakes (some w) (some m) (some t) k (sd k) = true ↔ sd k = nI 1 := by
        have c3 : ¬ m k = t k := fun q => c2.2 q.symm
        simp [seTakes, c, differO, hk, c2.1.1, c3]
      by_cases d : sd k = nI 1
      · rw [if_pos (hs.mpr d), if_pos (by simp [d])]
      · rw [if_neg (fun q => d (hs.mp q)), if_neg (by simp [d])]
    · have e4 : mTk w m t sd k = decide (m k ≠ w k) := by unfold mTk; rw [if_neg c]
      rw [e4]
      by_cases d : m k = w k
      · rw [if_neg (by simp [seTakes, differO, d]), if_neg (by simp [d])]
      · rw [if_pos (show decide (m k ≠ w k) = true by simp [d])]
        by_cases f : m k = t k
        · rw [f, ite_self]
        · rw [if_pos (by simp [seTakes, differO, hk, d, f, c])]
theorem mkM_eq {T' T : St} {M : Nat → Int32} {o : Nat} (h : T o = none → M o = 0) {c : Bool} (hc : c = true ↔ ∃ f g, T' o = some f ∧ T o = some g ∧ rwEq f g = true) : (if c = true then M o else 0) = mkM T' T M o := by
  unfold mkM
  by_cases q : c = true
  · rw [if_pos q]
    obtain ⟨f, g, h1, h2, h3⟩ := hc.mp q
    rw [h1, h2, if_pos (show alikeO (some f) (some g) = true from h3)]
  · rw [if_neg q]
    cases e1 : T' o with
    | none => cases e2 : T o with
      | none => rw [if_pos (show alikeO none none = true from rfl), h e2]
      | some g => rw [if_neg (show ¬ alikeO none (some g) = true from fun z => by cases z)]
    | some f => cases e2 : T o with
      | none => rw [if_neg (show ¬ alikeO (some f) none = true from fun z => by cases z)]
      | some g => rw [if_neg (show ¬ alikeO (some f) (some g) = true from fun z => q (hc.mpr ⟨f, g, e1, e2, z⟩))]
theorem cod7_eq {o f o2 f2 : Nat} (h : o < 60) (hf : f < 7) (h2 : o2 < 60) (hf2 : f2 < 7) : nI (7 * o + f) = nI (7 * o2 + f2) ↔ (o, f) = (o2, f2) := by
  rw [nI_eq (by omega) (by omega)]
  constructor
  · intro e
    have : o = o2 := by omega
    subst this
    have : f = f2 := by omega
    subst this
    rfl
  · intro e
    cases e
    rfl
