/-- the first j entries moved down by one -/
def shJ {β : Type} (i j : Nat) (c : Nat → β) : Nat → β := fun y => if 40 * i ≤ y ∧ y < 40 * i + j then c (y + 1) else c y
theorem shJ_0 {β : Type} (i : Nat) (c : Nat → β) : shJ i 0 c = c := by
  funext y
  unfold shJ
  rw [if_neg (by omega)]
theorem shJ_s {β : Type} (i j : Nat) (c : Nat → β) (y : Nat) : shJ i (j + 1) c y = if y = 40 * i + j then c (40 * i + 1 + j) else shJ i j c y := by
  unfold shJ
  by_cases h : y = 40 * i + j
  · rw [if_pos (by omega), if_pos h, show y + 1 = 40 * i + 1 + j by omega]
  · rw [if_neg h]
    by_cases h2 : 40 * i ≤ y ∧ y < 40 * i + j
    · rw [if_pos (by omega), if_pos h2]
    · rw [if_neg (by omega), if_neg h2]
theorem shJ_at {β : Type} (i j : Nat) (c : Nat → β) : shJ i j c (40 * i + 1 + j) = c (40 * i + 1 + j) := by
  unfold shJ
  rw [if_neg (by omega)]
theorem shJ_u (i j : Nat) (c : Nat → Int32) : upd (shJ i j c) (40 * i + j) (shJ i j c (40 * i + 1 + j)) = shJ i (j + 1) c := by
  funext y
  rw [shJ_s, shJ_at]
  simp [upd]
theorem shJ_b (i j : Nat) {c : Nat → Int32} (h : bz c) : upd (shJ i j c) (40 * i + j) (vp_nar .boolean (shJ i j c (40 * i + 1 + j))) = shJ i (j + 1) c := by
  rw [shJ_at, h, ← shJ_at i j c, shJ_u]
theorem shJ_l (i j : Nat) (c : Nat → Int64) : vp_updL (shJ i j c) (40 * i + j) (shJ i j c (40 * i + 1 + j)) = shJ i (j + 1) c := by
  funext y
  rw [shJ_s, shJ_at]
  simp [vp_updL]
theorem shJ_N {β : Type} (i : Nat) {n : Nat} (hn : n = 40) (c : Nat → β) : shJ i 39 c = shN i n c := by
  funext y
  unfold shJ shN
  by_cases h : 40 * i ≤ y ∧ y < 40 * i + 39
  · rw [if_pos h, if_pos ⟨hn, h⟩]
  · rw [if_neg h, if_neg (fun q => h q.2)]
theorem shN_n {β : Type} (i : Nat) {n : Nat} (hn : n ≠ 40) (c : Nat → β) : shN i n c = c := by
  funext y
  unfold shN
  rw [if_neg (fun q => hn q.1)]
theorem shJ_bz {i j : Nat} {c : Nat → Int32} (h : bz c) : bz (shJ i j c) := fun y => by
  unfold shJ
  split <;> exact h _
def NT {β : Type} (i n : Nat) (c c2 : Nat → β) (x : β) : Prop := c2 (40 * i + nxt40 n) = x ∧ ∀ y, y ≠ 40 * i + nxt40 n → c2 y = shN i n c y
/-- what note leaves -/
def NP (i n o f : Nat) (fW : Nat → Int32) (fV : Nat → Int64) (fN cO cF cH : Nat → Int32) (cV : Nat → Int64) (fN2 cO2 cF2 cH2 : Nat → Int32) (cV2 : Nat → Int64) : Prop := bz cH2 ∧ (∀ j, j ≠ i → fN2 j = fN j) ∧ fN2 i = nI (nxt40 n + 1) ∧ NT i n cO cO2 (nI o) ∧ NT i n cF cF2 (nI f) ∧ NT i n cH cH2 (fW (60 * i + o)) ∧ NT i n cV cV2 (if f = 6 then 0 else fV (360 * i + 6 * o + f))
theorem NT_u {i n n1 : Nat} {c d : Nat → Int32} {x : Int32} (hn : n1 = nxt40 n) (hd : d = shN i n c) : NT i n c (upd d (40 * i + n1) x) x := by
  subst hn
  subst hd
  exact ⟨by simp [upd], fun y hy => by simp [upd, hy]⟩
theorem NT_l {i n n1 : Nat} {c d : Nat → Int64} {x : Int64} (hn : n1 = nxt40 n) (hd : d = shN i n c) : NT i n c (vp_updL d (40 * i + n1) x) x := by
  subst hn
  subst hd
  exact ⟨by simp [vp_updL], fun y hy => by simp [vp_updL, hy]⟩
