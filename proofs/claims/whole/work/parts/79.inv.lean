/-! THE INVARIANT of the abstract state, kept by every call -/
/-- an object stands in the session's state or in one that an undo would bring back -/
def supp (s : Ses) (o : Nat) : Prop := s.2.1 o ≠ none ∨ ∃ X ∈ s.2.2.2.1, X o ≠ none
def Inv (no nv ns : Nat) (V : Vs) (S : Ss) (LK : List Ar) (RL : Rl) (J : Nat) (C : CL) (M : Nat → Int32) : Prop := (Bd no nv ns S RL J C) ∧ (LK.length ≤ 10) ∧ (∀ q ∈ RL, ¬ q.2.2 < 0 ∧ ¬ 1000000000 < q.2.2) ∧ (∀ v, v < nv → ∀ o, no ≤ o → V v o = none) ∧ (∀ i, i < ns → ∀ o, no ≤ o → ¬ supp (S i) o) ∧ (∀ i, i < ns → (S i).2.2.1 = true → ∀ o, V (S i).1 o = none → supp (S i) o → (∀ v, v < nv → V v o = none) ∧ ∀ j, j < ns → j ≠ i → ¬ supp (S j) o) ∧ (∀ o, V (nv - 1) o = none → M o = 0)
theorem Inv.bd {no nv ns : Nat} {V : Vs} {S : Ss} {LK : List Ar} {RL : Rl} {J : Nat} {C : CL} {M : Nat → Int32} (h : Inv no nv ns V S LK RL J C M) : Bd no nv ns S RL J C := h.1
theorem Inv.lk {no nv ns : Nat} {V : Vs} {S : Ss} {LK : List Ar} {RL : Rl} {J : Nat} {C : CL} {M : Nat → Int32} (h : Inv no nv ns V S LK RL J C M) : LK.length ≤ 10 := h.2.1
theorem Inv.rl {no nv ns : Nat} {V : Vs} {S : Ss} {LK : List Ar} {RL : Rl} {J : Nat} {C : CL} {M : Nat → Int32} (h : Inv no nv ns V S LK RL J C M) : ∀ q ∈ RL, ¬ q.2.2 < 0 ∧ ¬ 1000000000 < q.2.2 := h.2.2.1
theorem Inv.vn {no nv ns : Nat} {V : Vs} {S : Ss} {LK : List Ar} {RL : Rl} {J : Nat} {C : CL} {M : Nat → Int32} (h : Inv no nv ns V S LK RL J C M) : ∀ v, v < nv → ∀ o, no ≤ o → V v o = none := h.2.2.2.1
theorem Inv.sn {no nv ns : Nat} {V : Vs} {S : Ss} {LK : List Ar} {RL : Rl} {J : Nat} {C : CL} {M : Nat → Int32} (h : Inv no nv ns V S LK RL J C M) : ∀ i, i < ns → ∀ o, no ≤ o → ¬ supp (S i) o := h.2.2.2.2.1
theorem Inv.md {no nv ns : Nat} {V : Vs} {S : Ss} {LK : List Ar} {RL : Rl} {J : Nat} {C : CL} {M : Nat → Int32} (h : Inv no nv ns V S LK RL J C M) : ∀ i, i < ns → (S i).2.2.1 = true → ∀ o, V (S i).1 o = none → supp (S i) o → (∀ v, v < nv → V v o = none) ∧ ∀ j, j < ns → j ≠ i → ¬ supp (S j) o := h.2.2.2.2.2.1
theorem Inv.mz {no nv ns : Nat} {V : Vs} {S : Ss} {LK : List Ar} {RL : Rl} {J : Nat} {C : CL} {M : Nat → Int32} (h : Inv no nv ns V S LK RL J C M) : ∀ o, V (nv - 1) o = none → M o = 0 := h.2.2.2.2.2.2
theorem supp_n {s : Ses} {o : Nat} (h : ¬ supp s o) : s.2.1 o = none := Classical.byContradiction fun q => h (Or.inl q)
theorem supp_chg {s : Ses} {o : Nat} {x : Ro} {q : Nat} (h : supp (sChg s o x) q) (hx : q = o → s.2.1 o ≠ none) : supp s q := by
  rcases h with h | ⟨X, hX, h⟩
  · have h : upN s.2.1 o x q ≠ none := h
    by_cases c : q = o
    · exact Or.inl (by rw [c]; exact hx c)
    · rw [upN_n _ _ c] at h
      exact Or.inl h
  · have hX : X ∈ (s.2.1 :: s.2.2.2.1).take 40 := hX
    rcases List.mem_cons.mp (List.mem_of_mem_take hX) with rfl | hX
    · exact Or.inl h
    · exact Or.inr ⟨X, hX, h⟩
theorem supp_chg2 {s : Ses} {o : Nat} {x : Ro} {q : Nat} (h : supp (sChg s o x) q) (hx : q ≠ o) : supp s q := supp_chg h (fun z => absurd z hx)
theorem supp_back {s : Ses} {q : Nat} (h : supp (sBack s) q) : supp s q := by
  obtain ⟨s1, s2, s3, s4, s5⟩ := s
  cases s4 with
  | nil => exact h
  | cons X Xs =>
    rcases h with h | ⟨Y, hY, h⟩
    · exact Or.inr ⟨X, List.mem_cons_self .., h⟩
    · exact Or.inr ⟨Y, List.mem_cons_of_mem _ hY, h⟩
theorem seMerged_none {w m t : Ro} {sd : Nat → Int32} (hm : m = none) (ht : t = none) : seMerged w m t sd = none := by
  subst hm ht
  unfold seMerged
  split
  · rfl
  · split
    · split <;> rfl
    · rfl
section
variable {no nv ns : Nat} {V : Vs} {S : Ss} {LK : List Ar} {RL : Rl} {J : Nat} {C : CL} {M : Nat → Int32}
theorem Inv.ses (h : Inv no nv ns V S LK RL J C M) {i : Nat} (hi : i < ns) {s : Ses} (e1 : s.1 = (S i).1) (e2 : s.2.2.1 = true → (S i).2.2.1 = true) (e3 : ∀ o, supp s o → supp (S i) o) : Inv no nv ns V (upN S i s) LK RL J C M := by
  obtain ⟨hno, hnv, hnv0, hns, hbs, hCl, hCb, hJ, hRn, hRb⟩ := h.bd
  have hs : ∀ j o, supp (upN S i s j) o → supp (S j) o := fun j o q => by
    by_cases c : j = i
    · subst c; rw [upN_s] at q; exact e3 o q
    · rw [upN_n _ _ c] at q; exact q
  have hb : ∀ j, (upN S i s j).1 = (S j).1 := fun j => by
    by_cases c : j = i
    · subst c; rw [upN_s]; exact e1
    · rw [upN_n _ _ c]
  have hop : ∀ j, (upN S i s j).2.2.1 = true → (S j).2.2.1 = true := fun j q => by
    by_cases c : j = i
    · subst c; rw [upN_s] at q; exact e2 q
    · rw [upN_n _ _ c] at q; exact q
  refine ⟨⟨hno, hnv, hnv0, hns, fun j hj => by rw [hb]; exact hbs j hj, hCl, hCb, hJ, hRn, hRb⟩, h.lk, h.rl, h.vn, fun j hj o ho q => h.sn j hj o ho (hs j o q), fun j hj oj o hv q => ?_, h.mz⟩
  rw [hb] at hv
  have z := h.md j hj (hop j oj) o hv (hs j o q)
  exact ⟨z.1, fun k hk hkj q2 => z.2 k hk hkj (hs k o q2)⟩
theorem Inv.set (h : Inv no nv ns V S LK RL J C M) (x y z : Int32) (v : Int64) : Inv no nv ns V (oSet no ns S LK x y z v).2.2 LK RL J C M := by
  have hb := h.bd
  unfold oSet
  split
  · rename_i i o f e1 e2 e3
    have hi := (ix_of (by have := hb.2.2.2.1; omega) e1).1
    split
    · split
      · exact h
      · rename_i r er
        dsimp only
        split
        · exact h.ses hi rfl (fun q => q) (fun q hq => supp_chg hq (fun _ => by rw [er]; exact fun z => by cases z))
        · exact h
    · exact h
  · exact h
theorem Inv.drop (h : Inv no nv ns V S LK RL J C M) (x y : Int32) : Inv no nv ns V (oDrop no ns S LK x y).2.2 LK RL J C M := by
  have hb := h.bd
  unfold oDrop
  split
  · rename_i i o e1 e2
    have hi := (ix_of (by have := hb.2.2.2.1; omega) e1).1
    split
    · split
      · exact h
      · rename_i r er
        split
        · exact h
        · exact h.ses hi rfl (fun q => q) (fun q hq => supp_chg hq (fun _ => by rw [er]; exact fun z => by cases z))
    · exact h
  · exact h
theorem Inv.undo (h : Inv no nv ns V S LK RL J C M) (x : Int32) : Inv no nv ns V (oUndo ns S x).2.2 LK RL J C M := by
  have hb := h.bd
  unfold oUndo
  split
  · exact h
  · rename_i i e1
    have hi := (ix_of (by have := hb.2.2.2.1; omega) e1).1
    split
    · have a1 : (sBack (S i)).1 = (S i).1 := by unfold sBack; split <;> rfl
      have a2 : (sBack (S i)).2.2.1 = (S i).2.2.1 := by unfold sBack; split <;> rfl
      exact h.ses hi a1 (fun q => by rw [← a2]; exact q) (fun q hq => supp_back hq)
    · exact h
theorem Inv.settle (h : Inv no nv ns V S LK RL J C M) (k w : Int32) : Inv no nv ns V (oSettle S J C k w).2.2 LK RL J C M := by
  have hb := h.bd
  unfold oSettle
  split
  · exact h
  · rename_i j e1
    have hj := (ix_of (by have := hb.2.2.2.2.2.1; omega) e1).1
    split
    · split
      · exact h
      · exact h.ses (hb.2.2.2.2.2.2.2.1 (fun q => by rw [q] at hj; exact absurd hj (Nat.not_lt_zero _))) rfl (fun q => q) (fun q hq => hq)
    · exact h
theorem Inv.make (h : Inv no nv ns V S LK RL J C M) (x k : Int32) : Inv (oMake no ns S x k).2.2.1 nv ns V (oMake no ns S x k).2.2.2 LK RL J C M := by
  obtain ⟨hno, hnv, hnv0, hns, hbs, hCl, hCb, hJ, hRn, hRb⟩ := h.bd
  unfold oMake
  split
  · exact h
  · rename_i i e1
    have hi := (ix_of (by omega) e1).1
    split
    · rename_i ho
      split
      · exact h
      · split
        · exact h
        · rename_i h6
          have hs : ∀ j o, o ≠ no → supp (upN S i (sChg (S i) no (some (fun _ => 0))) j) o → supp (S j) o := fun j o h1 q => by
            by_cases c : j = i
            · subst c; rw [upN_s] at q; exact supp_chg2 q h1
            · rw [upN_n _ _ c] at q; exact q
          have hbb : ∀ j, (upN S i (sChg (S i) no (some (fun _ => 0))) j).1 = (S j).1 := fun j => by
            by_cases c : j = i
            · subst c; rw [upN_s]; rfl
            · rw [upN_n _ _ c]
          have hop : ∀ j, (upN S i (sChg (S i) no (some (fun _ => 0))) j).2.2.1 = (S j).2.2.1 := fun j => by
            by_cases c : j = i
            · subst c; rw [upN_s]; rfl
            · rw [upN_n _ _ c]
          refine ⟨⟨(show no + 1 ≤ 60 by omega), hnv, hnv0, hns, fun j hj => by rw [hbb]; exact hbs j hj, hCl, hCb, hJ, hRn, hRb⟩, h.lk, h.rl, fun v hv o h9 => h.vn v hv o (Nat.le_of_succ_le h9), fun j hj o h9 q => h.sn j hj o (Nat.le_of_succ_le h9) (hs j o (by have h9 : no + 1 ≤ o := h9; omega) q), fun j hj oj o hv q => ?_, h.mz⟩
          rw [hbb] at hv
          rw [hop] at oj
          by_cases c : o = no
          · subst c
            refine ⟨fun v hv => h.vn v hv o (Nat.le_refl o), fun k hk hkj q2 => ?_⟩
            by_cases c1 : j = i
            · subst c1
              have q2 : supp (upN S j (sChg (S j) o (some (fun _ => 0))) k) o := q2
              rw [upN_n _ _ hkj] at q2
              exact h.sn k hk o (Nat.le_refl o) q2
            · have q : supp (upN S i (sChg (S i) o (some (fun _ => 0))) j) o := q
              rw [upN_n _ _ c1] at q
              exact absurd q (h.sn j hj o (Nat.le_refl o))
          · have z := h.md j hj oj o hv (hs j o c q)
            exact ⟨z.1, fun k hk hkj q2 => z.2 k hk hkj (hs k o c q2)⟩
    · exact h
theorem Inv.object (h : Inv no nv ns V S LK RL J C M) (k : Int32) : Inv (oObj no nv V k).2.2.1 (oObj no nv V k).2.2.2.1 ns (oObj no nv V k).2.2.2.2 S LK RL J C M := by
  obtain ⟨hno, hnv, hnv0, hns, hbs, hCl, hCb, hJ, hRn, hRb⟩ := h.bd
  unfold oObj
  split
  · exact h
  · split
    · exact h
    · rename_i h6
      have hV : ∀ v, v < nv → upN V nv (upN (V (nv - 1)) no (some (fun _ => 0))) v = V v := fun v hv => upN_n _ _ (by omega)
      have hN : ∀ o, o ≠ no → upN V nv (upN (V (nv - 1)) no (some (fun _ => 0))) nv o = V (nv - 1) o := fun o ho => by rw [upN_s, upN_n _ _ ho]
      have hA : ∀ v, v < nv + 1 → ∀ o, o ≠ no → (∀ w, w < nv → V w o = none) → upN V nv (upN (V (nv - 1)) no (some (fun _ => 0))) v o = none := fun v hv o ho hw => by
        by_cases c : v = nv
        · rw [c, hN o ho]; exact hw _ (by omega)
        · rw [hV v (by omega)]; exact hw _ (by omega)
      refine ⟨⟨(show no + 1 ≤ 60 by omega), (show nv + 1 ≤ 40 by omega), Nat.succ_pos nv, hns, fun j hj => Nat.lt_succ_of_lt (hbs j hj), hCl, hCb, hJ, hRn, hRb⟩, h.lk, h.rl, fun v hv o h9 => ?_, fun j hj o h9 q => h.sn j hj o (Nat.le_of_succ_le h9) q, fun j hj oj o hv q => ?_, fun o ho => ?_⟩
      · have h9 : no + 1 ≤ o := h9
        exact hA v hv o (by omega) (fun w hw => h.vn w hw o (by omega))
      · have hv : upN V nv (upN (V (nv - 1)) no (some (fun _ => 0))) (S j).1 o = none := hv
        rw [hV _ (hbs j hj)] at hv
        have z := h.md j hj oj o hv q
        have hne : o ≠ no := fun c => h.sn j hj o (by omega) q
        exact ⟨fun v hv => hA v hv o hne z.1, z.2⟩
      · have ho : upN V nv (upN (V (nv - 1)) no (some (fun _ => 0))) (nv + 1 - 1) o = none := ho
        rw [Nat.add_sub_cancel] at ho
        by_cases c : o = no
        · rw [c, upN_s, upN_s] at ho; cases ho
        · rw [hN o c] at ho; exact h.mz o ho
theorem Inv.begin (h : Inv no nv ns V S LK RL J C M) {b : Nat} (hb : b < nv) : Inv no nv (oBegin ns V S b).2.1 V (oBegin ns V S b).2.2 LK RL J C M := by
  obtain ⟨hno, hnv, hnv0, hns, hbs, hCl, hCb, hJ, hRn, hRb⟩ := h.bd
  unfold oBegin
  split
  · exact h
  · rename_i h6
    have hs : ∀ o, supp (b, V b, true, [], fun _ => 0) o → V b o ≠ none := fun o q => by
      rcases q with q | ⟨X, hX, _⟩
      · exact q
      · cases hX
    refine ⟨⟨hno, hnv, hnv0, (show ns + 1 ≤ 20 by omega), fun j hj => ?_, hCl, hCb, fun q => Nat.lt_succ_of_lt (hJ q), hRn, hRb⟩, h.lk, h.rl, h.vn, fun j hj o h9 q => ?_, fun j hj oj o hv q => ?_, h.mz⟩
    · show (upN S ns (b, V b, true, [], fun _ => 0) j).1 < nv
      by_cases c : j = ns
      · subst c; rw [upN_s]; exact hb
      · rw [upN_n _ _ c]; exact hbs j (by have hj : j < ns + 1 := hj; omega)
    · have q : supp (upN S ns (b, V b, true, [], fun _ => 0) j) o := q
      by_cases c : j = ns
      · subst c; rw [upN_s] at q; exact hs o q (h.vn b hb o h9)
      · rw [upN_n _ _ c] at q; exact h.sn j (by have hj : j < ns + 1 := hj; omega) o h9 q
    · have hj : j < ns + 1 := hj
      have q : supp (upN S ns (b, V b, true, [], fun _ => 0) j) o := q
      have hv : V (upN S ns (b, V b, true, [], fun _ => 0) j).1 o = none := hv
      have oj : (upN S ns (b, V b, true, [], fun _ => 0) j).2.2.1 = true := oj
      by_cases c : j = ns
      · subst c; rw [upN_s] at q hv; exact absurd hv (hs o q)
      · rw [upN_n _ _ c] at q hv oj
        have z := h.md j (by omega) oj o hv q
        refine ⟨z.1, fun k hk hkj q2 => ?_⟩
        have hk : k < ns + 1 := hk
        have q2 : supp (upN S ns (b, V b, true, [], fun _ => 0) k) o := q2
        by_cases c2 : k = ns
        · subst c2; rw [upN_s] at q2; exact hs o q2 (z.1 b hb)
        · rw [upN_n _ _ c2] at q2; exact z.2 k (by omega) hkj q2
theorem Inv.branch (h : Inv no nv ns V S LK RL J C M) (x : Int32) : Inv no nv (oBranch nv ns V S x).2.2.1 V (oBranch nv ns V S x).2.2.2 LK RL J C M := by
  unfold oBranch
  split
  · exact h
  · rename_i b e1
    exact h.begin (ix_of (by have := h.bd.2.1; omega) e1).1
theorem Inv.lock (h : Inv no nv ns V S LK RL J C M) (x : Int32) (x0 y0 x1 y1 : Int64) : Inv no nv ns V S (oLock ns S LK x x0 y0 x1 y1).2.2 RL J C M := by
  have hl := h.lk
  have key : (oLock ns S LK x x0 y0 x1 y1).2.2.length ≤ 10 := by
    unfold oLock
    split
    · exact hl
    · split
      · split
        · exact hl
        · rename_i q
          have : LK.length ≠ 10 := fun z => q (Or.inr (Or.inr (Or.inl z)))
          show (LK ++ [_]).length ≤ 10
          rw [List.length_append]
          show LK.length + 1 ≤ 10
          omega
      · exact hl
  exact ⟨h.bd, key, h.rl, h.vn, h.sn, h.md, h.mz⟩
theorem Inv.apart (h : Inv no nv ns V S LK RL J C M) (x y : Int32) (d : Int64) : Inv no nv ns V S LK (oApart no RL x y d).2.2 J C M := by
  obtain ⟨hno, hnv, hnv0, hns, hbs, hCl, hCb, hJ, hRn, hRb⟩ := id h.bd
  unfold oApart
  split
  · rename_i a b e1 e2
    have ha := (ix_of (by omega) e1).1
    have hb := (ix_of (by omega) e2).1
    split
    · exact h
    · rename_i hd
      split
      · exact h
      · rename_i q
        have hl : RL.length ≠ 20 := fun z => q (Or.inr z)
        refine ⟨⟨hno, hnv, hnv0, hns, hbs, hCl, hCb, hJ, ?_, ?_⟩, h.lk, ?_, h.vn, h.sn, h.md, h.mz⟩
        · show (RL ++ [_]).length ≤ 20
          rw [List.length_append]
          show RL.length + 1 ≤ 20
          omega
        · intro q hq
          rcases List.mem_append.mp hq with hq | hq
          · exact hRb q hq
          · rw [List.mem_singleton.mp hq]; exact ⟨by show a < 60; omega, by show b < 60; omega⟩
        · intro q hq
          rcases List.mem_append.mp hq with hq | hq
          · exact h.rl q hq
          · rw [List.mem_singleton.mp hq]; exact ⟨fun z => hd (Or.inl z), fun z => hd (Or.inr z)⟩
  · exact h
theorem Inv.mark (h : Inv no nv ns V S LK RL J C M) (y p : Int32) : Inv no nv ns V S LK RL J C (oMark no nv V M y p).2.2 := by
  refine ⟨h.bd, h.lk, h.rl, h.vn, h.sn, h.md, ?_⟩
  unfold oMark
  split
  · exact h.mz
  · split
    · rename_i o _ ho
      split
      · exact h.mz
      · intro q hq
        show upN M o _ q = 0
        by_cases c : q = o
        · subst c; rw [hq] at ho; cases ho
        · rw [upN_n _ _ c]; exact h.mz q hq
    · exact h.mz
theorem Inv.tryj (h : Inv no nv ns V S LK RL J C M) {i : Nat} (hi : i < ns) (ho : (S i).2.2.1 = true) (h4 : nv < 40) : Inv no (oTry nv V S LK M i).2.1 ns (oTry nv V S LK M i).2.2.1 (oTry nv V S LK M i).2.2.2.1 (oTry nv V S LK M i).2.2.2.2.1 RL i (oTry nv V S LK M i).2.2.2.2.2.1 (oTry nv V S LK M i).2.2.2.2.2.2 := by
  obtain ⟨hno, hnv, hnv0, hns, hbs, hCl, hCb, hJ, hRn, hRb⟩ := id h.bd
  have gl := gathL_len (V (S i).1) (S i).2.1 (V (nv - 1)) 60
  have gm : ∀ q ∈ gathL (V (S i).1) (S i).2.1 (V (nv - 1)) 60, q.1 < 60 ∧ q.2 < 7 := fun q hq => gathL_mem hq
  unfold oTry
  generalize gathL (V (S i).1) (S i).2.1 (V (nv - 1)) 60 = g at gl gm ⊢
  split
  · have h1 : Inv no nv ns V (upN S i (sClose (S i))) LK RL J C M := h.ses hi rfl (fun q => by cases q) (fun q hq => hq)
    have hV : ∀ v, v < nv → upN V nv (mrg (V (S i).1) (S i) (V (nv - 1))) v = V v := fun v hv => upN_n _ _ (by omega)
    have hmn : ∀ o, (S i).2.1 o = none → V (nv - 1) o = none → mrg (V (S i).1) (S i) (V (nv - 1)) o = none := fun o a1 a2 => seMerged_none a1 a2
    have hA : ∀ v, v < nv + 1 → ∀ o, ¬ supp (S i) o → (∀ w, w < nv → V w o = none) → upN V nv (mrg (V (S i).1) (S i) (V (nv - 1))) v o = none := fun v hv o ho hw => by
      by_cases c : v = nv
      · rw [c, upN_s]; exact hmn o (supp_n ho) (hw _ (by omega))
      · rw [hV v (by omega)]; exact hw _ (by omega)
    have hsc : ∀ j o, supp (upN S i (sClose (S i)) j) o → supp (S j) o := fun j o q => by
      by_cases c : j = i
      · subst c; rw [upN_s] at q; exact q
      · rw [upN_n _ _ c] at q; exact q
    refine ⟨⟨hno, (show nv + 1 ≤ 40 by omega), Nat.succ_pos nv, hns, fun j hj => Nat.lt_succ_of_lt (h1.bd.2.2.2.2.1 j hj), gl, gm, fun _ => hi, hRn, hRb⟩, Nat.le_trans (List.length_filter_le _ _) h.lk, h.rl, fun v hv o h9 => hA v hv o (h.sn i hi o h9) (fun w hw => h.vn w hw o h9), h1.sn, fun j hj oj o hv q => ?_, fun o ho => ?_⟩
    · have hbj := h1.bd.2.2.2.2.1 j hj
      have hv : upN V nv (mrg (V (S i).1) (S i) (V (nv - 1))) (upN S i (sClose (S i)) j).1 o = none := hv
      rw [hV _ hbj] at hv
      have z := h1.md j hj oj o hv q
      have hji : i ≠ j := fun c => by
        subst c
        have oj : (upN S i (sClose (S i)) i).2.2.1 = true := oj
        rw [upN_s] at oj
        cases oj
      refine ⟨fun v hv => hA v hv o (fun q2 => z.2 i hi hji (by rw [upN_s]; exact q2)) z.1, z.2⟩
    · have ho : upN V nv (mrg (V (S i).1) (S i) (V (nv - 1))) (nv + 1 - 1) o = none := ho
      rw [Nat.add_sub_cancel, upN_s] at ho
      show (if alikeO (mrg (V (S i).1) (S i) (V (nv - 1)) o) (V (nv - 1) o) = true then M o else 0) = 0
      rw [ho]
      cases hT : V (nv - 1) o with
      | none => rw [h.mz o hT]; split <;> rfl
      | some r => exact if_neg (fun q => by cases q)
  · exact ⟨⟨hno, hnv, hnv0, hns, hbs, gl, gm, fun _ => hi, hRn, hRb⟩, h.lk, h.rl, h.vn, h.sn, h.md, h.mz⟩
theorem Inv.join (h : Inv no nv ns V S LK RL J C M) (x : Int32) : Inv no (oJoin nv ns V S LK J C M x).2.2.1 ns (oJoin nv ns V S LK J C M x).2.2.2.1 (oJoin nv ns V S LK J C M x).2.2.2.2.1 (oJoin nv ns V S LK J C M x).2.2.2.2.2.1 RL (oJoin nv ns V S LK J C M x).2.2.2.2.2.2.1 (oJoin nv ns V S LK J C M x).2.2.2.2.2.2.2.1 (oJoin nv ns V S LK J C M x).2.2.2.2.2.2.2.2 := by
  unfold oJoin
  split
  · exact h
  · rename_i i e1
    have hi := (ix_of (by have := h.bd.2.2.2.1; omega) e1).1
    split
    · rename_i ho
      split
      · exact h
      · rename_i h4
        have z := h.tryj hi ho (by have := h.bd.2.1; omega)
        revert z
        generalize oTry nv V S LK M i = jr
        exact fun z => z
    · exact h
theorem ptStep_supp (no : Nat) (LK : List Ar) (i : Nat) (s : Ses) (x : Int64) : (∀ o, supp (ptStep no LK i s x).2.1 o → supp s o) ∧ (ptStep no LK i s x).2.1.2.2.1 = s.2.2.1 := by
  unfold ptStep
  split
  · exact ⟨fun _ q => q, rfl⟩
  · split
    · exact ⟨fun _ q => q, rfl⟩
    · rename_i r er
      generalize opWr LK i (drI (drNext (drNext x)) 6) (lN (drI (drNext (drNext (drNext x))) 100)) r = bb
      cases bb
      · exact ⟨fun _ q => q, rfl⟩
      · exact ⟨fun o q => supp_chg q (fun _ => by rw [er]; exact fun z => by cases z), rfl⟩
theorem ptN_supp (no : Nat) (LK : List Ar) (i : Nat) (s : Ses) (x : Int64) (n : Nat) : (∀ o, supp (ptN no LK i s x n).2.1 o → supp s o) ∧ (ptN no LK i s x n).2.1.2.2.1 = s.2.2.1 := by
  induction n with
  | zero => exact ⟨fun _ q => q, rfl⟩
  | succ n ih =>
    rw [ptN]
    generalize ptN no LK i s x n = y at ih ⊢
    have z := ptStep_supp no LK i y.2.1 y.2.2
    generalize ptStep no LK i y.2.1 y.2.2 = w at z ⊢
    exact ⟨fun o q => ih.1 o (z.1 o q), z.2.trans ih.2⟩
theorem Inv.pt (h : Inv no nv ns V S LK RL J C M) {i : Nat} (hi : i < ns) {s : Ses} (es : s = S i) (x : Int64) (n : Nat) : Inv no nv ns V (upN S i (ptN no LK i s x n).2.1) LK RL J C M ∧ ((ptN no LK i s x n).2.1.2.2.1 = s.2.2.1) := by
  have key := ptN_supp no LK i s x n
  have eb := ptN_base no LK i s x n
  generalize (ptN no LK i s x n).2.1 = y at key eb ⊢
  subst es
  exact ⟨h.ses hi eb (fun q => by rw [← key.2]; exact q) key.1, key.2⟩
theorem Inv.play (h : Inv no nv ns V S LK RL J C M) (x : Int64) (t : Int32) : Inv no (oPlay no nv ns V S LK J C M x t).2.2.1 (oPlay no nv ns V S LK J C M x t).2.2.2.1 (oPlay no nv ns V S LK J C M x t).2.2.2.2.1 (oPlay no nv ns V S LK J C M x t).2.2.2.2.2.1 (oPlay no nv ns V S LK J C M x t).2.2.2.2.2.2.1 RL (oPlay no nv ns V S LK J C M x t).2.2.2.2.2.2.2.1 (oPlay no nv ns V S LK J C M x t).2.2.2.2.2.2.2.2.1 (oPlay no nv ns V S LK J C M x t).2.2.2.2.2.2.2.2.2 := by
  have hb := h.bd
  unfold oPlay
  split
  · exact h
  · rename_i n e1
    split
    · exact h
    · rename_i hq
      have h20 : ns ≠ 20 := fun q => hq (Or.inl q)
      have h40 : nv ≠ 40 := fun q => hq (Or.inr q)
      have h1 := h.begin (b := nv - 1) (by have := hb.2.2.1; omega)
      have eB : oBegin ns V S (nv - 1) = (nI ns, ns + 1, upN S ns (nv - 1, V (nv - 1), true, [], fun _ => 0)) := if_neg h20
      rw [eB] at h1
      have h2 := h1.pt (i := ns) (Nat.lt_succ_self ns) (upN_s S ns _).symm x n
      generalize ptN no LK ns (nv - 1, V (nv - 1), true, [], fun _ => 0) x n = y at h2 ⊢
      have h3 : Inv no nv (ns + 1) V (upN S ns y.2.1) LK RL J C M := by rw [← upN_up S ns (nv - 1, V (nv - 1), true, [], fun _ => 0)]; exact h2.1
      have h4 := h3.tryj (i := ns) (Nat.lt_succ_self ns) (by rw [upN_s]; exact h2.2) (by have := hb.2.1; omega)
      revert h4
      generalize oTry nv V (upN S ns y.2.1) LK M ns = jr
      exact fun z => z
theorem Inv.zero : Inv 0 1 0 (fun _ _ => none) (fun _ => (0, fun _ => none, false, [], fun _ => 0)) [] [] 0 [] (fun _ => 0) :=
  ⟨⟨by decide, by decide, by decide, by decide, fun i hi => absurd hi (Nat.not_lt_zero i), by decide, fun _ h => (by cases h), fun h => absurd rfl h, by decide, fun _ h => (by cases h)⟩, by decide, fun _ h => (by cases h), fun _ _ _ _ => rfl, fun i hi => absurd hi (Nat.not_lt_zero i), fun i hi => absurd hi (Nat.not_lt_zero i), fun _ _ => rfl⟩
theorem Inv.hSn (h : Inv no nv ns V S LK RL J C M) : ∀ i, i < ns → ∀ o, no ≤ o → (S i).2.1 o = none := fun i hi o ho => supp_n (h.sn i hi o ho)
theorem Inv.hmd (h : Inv no nv ns V S LK RL J C M) : ∀ i, i < ns → (S i).2.2.1 = true → ∀ o, V (S i).1 o = none → (S i).2.1 o ≠ none → V (nv - 1) o = none := fun i hi ho o h1 h2 => (h.md i hi ho o h1 (Or.inl h2)).1 (nv - 1) (by have := h.bd.2.2.1; omega)
end
