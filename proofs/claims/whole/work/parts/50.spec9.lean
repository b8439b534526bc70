/-! locks added, rules added, sides chosen -/
theorem lkClash_eq {ar : Nat → Option Ar} {LK : List Ar} (hp : ((List.range 10).filterMap ar).Perm LK) (b : Ar) : lkClash ar b = lkMeets LK b := by
  unfold lkMeets
  rw [← lk_any hp]
  unfold lkClash lkMeet
  rfl
theorem fm_len {ar : Nat → Option Ar} {n : Nat} (h : ∀ i, i < n → ar i ≠ none) : ((List.range n).filterMap ar).length = n := by
  induction n with
  | zero => rfl
  | succ n ih =>
    rw [List.range_succ, List.filterMap_append, List.length_append, ih (fun i hi => h i (by omega))]
    cases e : ar n with
    | none => exact absurd e (h n (by omega))
    | some a => simp [e]
theorem fm_le (ar : Nat → Option Ar) (n : Nat) : ((List.range n).filterMap ar).length ≤ n := by
  have := List.length_filterMap_le ar (List.range n)
  rw [List.length_range] at this
  exact this
theorem fm_lt {ar : Nat → Option Ar} {n k : Nat} (hk : k < n) (h : ar k = none) : ((List.range n).filterMap ar).length < n := by
  induction n with
  | zero => omega
  | succ n ih =>
    rw [List.range_succ, List.filterMap_append, List.length_append]
    by_cases q : k = n
    · subst q
      have := fm_le ar k
      simp [h]
      omega
    · have := ih (by omega)
      have h2 : (List.filterMap ar [n]).length ≤ 1 := List.length_filterMap_le _ _
      omega
theorem fm_congr {f g : Nat → Option Ar} {L : List Nat} (h : ∀ i ∈ L, f i = g i) : L.filterMap f = L.filterMap g := by
  induction L with
  | nil => rfl
  | cons a L ih =>
    rw [List.filterMap_cons, List.filterMap_cons, h a (List.mem_cons_self), ih (fun i hi => h i (List.mem_cons_of_mem _ hi))]
theorem fm_add {ar : Nat → Option Ar} {n k : Nat} {d : Ar} (hk : k < n) (h : ar k = none) : ((List.range n).filterMap (fun i => if i = k then some d else ar i)).Perm ((List.range n).filterMap ar ++ [d]) := by
  induction n with
  | zero => omega
  | succ n ih =>
    rw [List.range_succ, List.filterMap_append, List.filterMap_append]
    by_cases q : k = n
    · subst q
      have e1 : (List.range k).filterMap (fun i => if i = k then some d else ar i) = (List.range k).filterMap ar := by
        apply fm_congr
        intro i hi
        have := List.mem_range.mp hi
        rw [if_neg (by omega)]
      rw [e1]
      simp [h]
    · have e2 : List.filterMap (fun i => if i = k then some d else ar i) [n] = List.filterMap ar [n] := by
        apply fm_congr
        intro i hi
        rw [List.mem_singleton] at hi
        rw [if_neg (by omega)]
      rw [e2]
      refine ((ih (by omega)).append_right _).trans ?_
      rw [List.append_assoc, List.append_assoc]
      exact List.Perm.append_left _ List.perm_append_comm
theorem pcL_add {h u : FH} {ad : Ad} {LK : List Ar} {fa : Nat → Option Nat} {ar : Nat → Option Ar} {k d : Nat} {dv : Ar} (l1 : h (ad 0 2) = some (oLocks (ad 0 3))) (l2 : h (ad 0 3) = some (aQ 6 10 fa)) (l3 : ∀ i, i < 10 → pAr h (fa i) (ar i)) (l4 : ((List.range 10).filterMap ar).Perm LK) (hd : h d = some (oAr dv)) (hk9 : k < 10) (hn : ar k = none) (eu : u = fh_up h (ad 0 3) (aQ 6 10 (va_up fa k (some d)))) : pcL u ad (LK ++ [dv]) ∧ kp [13] h u := by
  have hk : kp [13] h u := by rw [eu]; exact kp.rf.up l2 rfl
  refine ⟨⟨_, fun i => if i = k then some dv else ar i, hk _ _ l1 rfl, by rw [eu]; exact fh_up_self _ _ _, fun i hi => ?_, (fm_add hk9 hn).trans (l4.append_right _)⟩, hk⟩
  by_cases q : i = k
  · subst q
    simp only [va_up, if_true]
    exact hk _ _ hd rfl
  · simp only [va_up, q, if_false]
    exact pAr_kp hk rfl (l3 i hi)
section RE
variable {h u : FH} {Kq xa : Nat} {ad : Ad} {no nv ns : Nat} {V : Nat → St} {S : Nat → Ses} {LK : List Ar} {RL : List (Nat × Nat × Int64)} {J : Nat} {C : CL} {M : Nat → Int32}
theorem RepC.rules (hp : RepC Kq h xa ad no nv ns V S LK RL J C M) (hk : kp [18, 19] h u) {RL' : Rl} (kx : u xa = some (oX ad no nv ns RL'.length)) (hr : pcR u ad RL') : RepC Kq u xa ad no nv ns V S LK RL' J C M := by
  obtain ⟨hX, hV, hS, hL, hR, hC, hM, hI⟩ := hp
  exact ⟨kx, hV.kpt hk rfl, hS.kpt hk rfl, hL.kpt hk rfl, hr, hC.kpt hk rfl, hM.kpt hk rfl, hI⟩
theorem RepC.side (hp : RepC Kq h xa ad no nv ns V S LK RL J C M) {i p n : Nat} (hi : i < ns) (eu : u = fh_up h (ad (3 + i) 6) (aI 4 420 (upd (S i).2.2.2.2 p (nI (n + 1))))) : RepC Kq u xa ad no nv ns V (upN S i (sSide (S i) p n)) LK RL J C M ∧ kp [9] h u := by
  obtain ⟨q0, q1, q6, nx, fo, fr, q3, q4, q5, q7, q8, q9⟩ := hp.2.2.1.2 i hi
  have hk : kp kdSo h u := by rw [eu]; exact kp.rf.up q6 rfl
  have hk2 : kp [9] h u := by rw [eu]; exact kp.rf.up q6 rfl
  have ho : sOnly (ad (3 + i)) h u := by rw [eu]; exact sOnly.rf.up (k := 6) (by decide)
  exact ⟨hp.ses (s' := sSide (S i) p n) hi hk (ho.oth hp.2.2.2.2.2.2.2 hi) rfl ⟨hk2 _ _ q0 rfl, pSt_kp hk2 rfl q1, by rw [eu]; exact fh_up_self _ _ _, nx, fo, fr, hk2 _ _ q3 rfl, hk2 _ _ q4 rfl, hk2 _ _ q5 rfl, q7, q8, q9.kpt hk2 rfl⟩, hk2⟩
end RE
theorem pcR_add {h u : FH} {ad : Ad} {RL : Rl} {fr : Nat → Option Nat} {a b q : Nat} {d : Int64} (r2 : ∀ i, i < 20 → pRl h (fr i) RL[i]?) (hk : kp [18, 19] h u) (hq : u q = some (oRule (nI a) (nI b) d)) (hn : RL.length < 20) (k1 : u (ad 0 4) = some (aQ 9 20 (va_up fr RL.length (some q)))) : pcR u ad (RL ++ [(a, b, d)]) := by
  refine ⟨_, k1, fun i hi => ?_⟩
  rcases Nat.lt_trichotomy i RL.length with z | z | z
  · rw [List.getElem?_append_left z, show va_up fr RL.length (some q) i = fr i by simp [va_up, Nat.ne_of_lt z]]
    exact pRl_kp hk rfl (r2 i hi)
  · subst z
    rw [List.getElem?_append_right (Nat.le_refl _), Nat.sub_self, show va_up fr RL.length (some q) RL.length = some q by simp [va_up]]
    exact hq
  · rw [List.getElem?_eq_none (by rw [List.length_append]; simp; omega), show va_up fr RL.length (some q) i = fr i by simp [va_up, show i ≠ RL.length by omega]]
    have := r2 i hi
    rw [List.getElem?_eq_none (by omega)] at this
    exact pRl_kp hk rfl this
theorem getD_of {α : Type} {L : List α} {j : Nat} {x d : α} (h : L[j]? = some x) : L.getD j d = x := by
  simp [List.getD, h]
theorem sub1_e (x : Int32) (n : Nat) : x - nI 1 = nI n ↔ x = nI (n + 1) := by
  constructor
  · intro h
    have h2 : x - nI 1 + nI 1 = nI n + nI 1 := by rw [h]
    rw [Int32.sub_add_cancel, nI_add] at h2
    exact h2
  · intro h
    rw [h, pk_sub (by omega)]
    congr 1
