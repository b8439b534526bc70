/-! what is kept by kinds: a cell whose kind is not in D is as it was -/
def kp (D : List Nat) (h u : FH) : Prop := ∀ a e, h a = some e → D.contains (fe_kd e) = false → u a = some e
theorem kp.rf {D : List Nat} {h : FH} : kp D h h := fun _ _ q _ => q
theorem kp.up {D : List Nat} {h u : FH} {w : Nat} {e0 e' : fe} (hk : kp D h u) (hw : h w = some e0) (hD : D.contains (fe_kd e0) = true) : kp D h (fh_up u w e') := fun a e ha hd => by
  rw [fh_up_ne u e' (fun q => by subst q; rw [ha] at hw; cases hw; rw [hD] at hd; cases hd)]
  exact hk a e ha hd
theorem kp.upn {D : List Nat} {h u : FH} {w sz : Nat} {e' : fe} (hk : kp D h u) (hl : ∀ a e, h a = some e → a < sz) (hw : sz ≤ w) : kp D h (fh_up u w e') := fun a e ha hd => by
  rw [fh_up_ne u e' (Nat.ne_of_lt (Nat.lt_of_lt_of_le (hl a e ha) hw))]
  exact hk a e ha hd
theorem kp.trans {D : List Nat} {h u w : FH} (h1 : kp D h u) (h2 : kp D u w) : kp D h w := fun a e ha hd => h2 a e (h1 a e ha hd) hd
theorem kp.mono {D D' : List Nat} {h u : FH} (h1 : kp D h u) (hs : ∀ k, D'.contains k = false → D.contains k = false) : kp D' h u := fun a e ha hd => h1 a e ha (hs _ hd)
theorem kp.ext {D : List Nat} {h u : FH} {sz : Nat} (he : fh_ext sz h u) (hl : ∀ a e, h a = some e → a < sz) : kp D h u := fun a e ha _ => he.at ha (hl a e ha)
def kp_rows (D : List Nat) : Bool := !D.contains 10 && !D.contains 1
def kp_sts (D : List Nat) : Bool := !D.contains 16 && !D.contains 3 && kp_rows D
theorem pRow_kp {D : List Nat} {h u : FH} {a : Nat} {f : Rw} (hk : kp D h u) (hD : kp_rows D = true) (hp : pRow h a f) : pRow u a f := by
  obtain ⟨b, g, h1, h2, h3⟩ := hp
  simp only [kp_rows, Bool.and_eq_true, Bool.not_eq_true'] at hD
  exact ⟨b, g, hk _ _ h1 hD.1, hk _ _ h2 hD.2, h3⟩
theorem pRo_kp {D : List Nat} {h u : FH} {r : Option Nat} {o : Ro} (hk : kp D h u) (hD : kp_rows D = true) (hp : pRo h r o) : pRo u r o := by
  cases r with
  | none => cases o with
    | none => trivial
    | some f => exact hp.elim
  | some a => cases o with
    | none => exact hp.elim
    | some f => exact pRow_kp hk hD hp
theorem pSt_kp {D : List Nat} {h u : FH} {a b : Nat} {S : St} (hk : kp D h u) (hD : kp_sts D = true) (hp : pSt h a b S) : pSt u a b S := by
  obtain ⟨h1, f, h2, h3⟩ := hp
  simp only [kp_sts, Bool.and_eq_true, Bool.not_eq_true'] at hD
  exact ⟨hk _ _ h1 hD.1.1, f, hk _ _ h2 hD.1.2, fun i hi => pRo_kp hk hD.2 (h3 i hi)⟩
/-- a state whose array is kept, though other arrays of its kind may change -/
theorem pSt_kp2 {D : List Nat} {h u : FH} {a b : Nat} {S : St} (hk : kp D h u) (hD : kp_rows D = true) (ha : u a = h a) (hb : u b = h b) (hp : pSt h a b S) : pSt u a b S := by
  obtain ⟨h1, f, h2, h3⟩ := hp
  exact ⟨ha.trans h1, f, hb.trans h2, fun i hi => pRo_kp hk hD (h3 i hi)⟩
/-! conflicts, as a list of object and matter -/
abbrev CL : Type := List (Nat × Nat)
def conL (fc : Nat → Int32) (L : CL) : Prop := ∀ k p, L[k]? = some p → fc k = nI (8 * p.1 + p.2)
def seGath (w m t : Ro) (j : Nat) : List Nat := (List.range j).filter (fun k => seClash w m t k)
def gathO (w m t : Ro) (i j : Nat) : CL := (seGath w m t j).map (fun k => (i, k))
def gathL (B N T : St) : Nat → CL
  | 0 => []
  | i + 1 => gathL B N T i ++ (if alikeO (B i) (N i) = true then [] else gathO (B i) (N i) (T i) i 7)
theorem seGath_s (w m t : Ro) (j : Nat) : seGath w m t (j + 1) = seGath w m t j ++ if seClash w m t j = true then [j] else [] := by
  unfold seGath
  rw [List.range_succ, List.filter_append]
  cases h : seClash w m t j <;> simp [List.filter, h]
theorem gathO_s (w m t : Ro) (i j : Nat) : gathO w m t i (j + 1) = gathO w m t i j ++ if seClash w m t j = true then [(i, j)] else [] := by
  unfold gathO
  rw [seGath_s, List.map_append]
  cases seClash w m t j <;> simp
theorem seClash6 {w m t : Ro} (h : seClash w m t 6 = true) {k : Nat} (hk : k < 6) : seClash w m t k = false := by
  have k6 : ¬ k = 6 := by omega
  cases w with
  | none => rfl
  | some w =>
    cases m with
    | none => simp [seClash, k6, differO]
    | some m =>
      cases t with
      | none => simp [seClash, k6, differO]
      | some t => simp [seClash] at h
theorem gathO_len (w m t : Ro) (i j : Nat) : (gathO w m t i j).length ≤ j := by
  unfold gathO seGath
  rw [List.length_map]
  exact Nat.le_trans (List.length_filter_le _ _) (by rw [List.length_range]; exact Nat.le_refl j)
theorem gathO_lt {w m t : Ro} {i j : Nat} (hj : j < 7) (h : seClash w m t j = true) : (gathO w m t i j).length < 6 := by
  by_cases h6 : j = 6
  · subst h6
    have e : seGath w m t 6 = [] := by
      unfold seGath
      rw [List.filter_eq_nil_iff]
      intro k hk q
      rw [seClash6 h (List.mem_range.mp hk)] at q
      cases q
    unfold gathO
    rw [e]
    exact Nat.zero_lt_succ 5
  · exact Nat.lt_of_le_of_lt (gathO_len w m t i j) (by omega)
theorem gathO_7 (w m t : Ro) (i : Nat) : (gathO w m t i 7).length ≤ 6 := by
  rw [gathO_s]
  have h6 := gathO_len w m t i 6
  by_cases h : seClash w m t 6 = true
  · have h1 := gathO_lt (i := i) (by decide) h
    rw [if_pos h, List.length_append]
    simp only [List.length_singleton]
    omega
  · rw [if_neg h, List.append_nil]
    exact h6
theorem gathL_len (B N T : St) (i : Nat) : (gathL B N T i).length ≤ 6 * i := by
  induction i with
  | zero => exact Nat.le_refl 0
  | succ i ih =>
    rw [gathL, List.length_append]
    have h7 := gathO_7 (B i) (N i) (T i) i
    split
    · simp only [List.length_nil]; omega
    · omega
theorem conL_app {fc : Nat → Int32} {L : CL} (h : conL fc L) (p : Nat × Nat) : conL (upd fc L.length (nI (8 * p.1 + p.2))) (L ++ [p]) := by
  intro k q hk
  rcases Nat.lt_trichotomy k L.length with h1 | h1 | h1
  · rw [List.getElem?_append_left h1] at hk
    have := h k q hk
    simpa [upd, Nat.ne_of_lt h1] using this
  · subst h1
    rw [List.getElem?_append_right (Nat.le_refl _), Nat.sub_self] at hk
    cases hk
    simp [upd]
  · rw [List.getElem?_eq_none (by rw [List.length_append]; simp; omega)] at hk
    cases hk
/-- how many of the conflicts are not settled -/
def unsN (sf : Nat → Int32) (L : CL) : Nat := (L.filter (fun q => decide (sf (q.1 * 7 + q.2) = nI 0))).length
theorem unsN_s {sf : Nat → Int32} {L : CL} {k : Nat} {o f : Nat} (h : L[k]? = some (o, f)) : unsN sf (L.take (k + 1)) = unsN sf (L.take k) + if sf (o * 7 + f) = nI 0 then 1 else 0 := by
  unfold unsN
  rw [List.take_add_one, h, List.filter_append, List.length_append]
  by_cases c : sf (o * 7 + f) = nI 0
  · rw [if_pos c]
    simp [List.filter, c]
  · rw [if_neg c]
    simp [List.filter, c]
theorem sub1_0 (x : Int32) : x - nI 1 = -1 ↔ x = nI 0 := by
  constructor
  · intro h
    have h2 : x - nI 1 + nI 1 = -1 + nI 1 := by rw [h]
    rw [Int32.sub_add_cancel] at h2
    exact h2
  · intro h
    rw [h]
    decide
theorem code_d {o f : Nat} (h : o < 60) (hf : f < 7) : nI (8 * o + f) / nI 8 = nI o := by
  rw [pk_div (by omega) (by decide) (by decide)]
  congr 1
  omega
theorem code_r {o f : Nat} (h : o < 60) (hf : f < 7) : nI (8 * o + f) - nI (8 * o + f) / nI 8 * nI 8 = nI f := by
  rw [pk_rem (by omega) (by decide) (by decide)]
  congr 1
  omega
