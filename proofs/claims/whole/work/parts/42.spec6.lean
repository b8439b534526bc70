/-! one piece changes -/
section RD
variable {h u : FH} {Kq xa : Nat} {ad : Ad} {no nv ns : Nat} {V : Nat → St} {S : Nat → Ses} {LK : List Ar} {RL : List (Nat × Nat × Int64)} {J : Nat} {C : CL} {M : Nat → Int32}
theorem RepC.marks (hp : RepC Kq h xa ad no nv ns V S LK RL J C M) (hk : kp [21] h u) {M' : Nat → Int32} (hm : pcM u ad M') : RepC Kq u xa ad no nv ns V S LK RL J C M' := by
  obtain ⟨hX, hV, hS, hL, hR, hC, hM, hI⟩ := hp
  exact ⟨hk _ _ hX rfl, hV.kpt hk rfl, hS.kpt hk rfl, hL.kpt hk rfl, hR.kpt hk rfl, hC.kpt hk rfl, hm, hI⟩
theorem RepC.locks (hp : RepC Kq h xa ad no nv ns V S LK RL J C M) (hk : kp [13] h u) {LK' : List Ar} (hl : pcL u ad LK') : RepC Kq u xa ad no nv ns V S LK' RL J C M := by
  obtain ⟨hX, hV, hS, hL, hR, hC, hM, hI⟩ := hp
  exact ⟨hk _ _ hX rfl, hV.kpt hk rfl, hS.kpt hk rfl, hl, hR.kpt hk rfl, hC.kpt hk rfl, hM.kpt hk rfl, hI⟩
theorem RepC.con (hp : RepC Kq h xa ad no nv ns V S LK RL J C M) (hk : kp [4, 11] h u) {J' : Nat} {C' : CL} (hc : pcC u ad J' C') : RepC Kq u xa ad no nv ns V S LK RL J' C' M := by
  obtain ⟨hX, hV, hS, hL, hR, hC, hM, hI⟩ := hp
  exact ⟨hk _ _ hX rfl, hV.kpt hk rfl, hS.kpt hk rfl, hL.kpt hk rfl, hR.kpt hk rfl, hc, hM.kpt hk rfl, hI⟩
def sClose (s : Ses) : Ses := (s.1, s.2.1, false, s.2.2.2)
theorem RepC.close (hp : RepC Kq h xa ad no nv ns V S LK RL J C M) {i : Nat} (hi : i < ns) (eu : u = fh_up h (ad (3 + i) 0) (oSes (nI i) (ad 1 (S i).1) (ad (3 + i) 1) (nI 0) (ad (3 + i) 3) (ad (3 + i) 6))) : RepC Kq u xa ad no nv ns V (upN S i (sClose (S i))) LK RL J C M ∧ kp [14] h u := by
  obtain ⟨q0, q1, q6, nx, fo, fr, q3, q4, q5, q7, q8, q9⟩ := hp.2.2.1.2 i hi
  have hk : kp kdSo h u := by rw [eu]; exact kp.rf.up q0 rfl
  have hk2 : kp [14] h u := by rw [eu]; exact kp.rf.up q0 rfl
  have ho : sOnly (ad (3 + i)) h u := by rw [eu]; exact sOnly.rf.up (k := 0) (by decide)
  exact ⟨hp.ses hi hk (ho.oth hp.2.2.2.2.2.2.2 hi) rfl ⟨by rw [eu]; exact fh_up_self _ _ _, pSt_kp hk2 rfl q1, hk2 _ _ q6 rfl, nx, fo, fr, hk2 _ _ q3 rfl, hk2 _ _ q4 rfl, hk2 _ _ q5 rfl, q7, q8, q9.kpt hk2 rfl⟩, hk2⟩
end RD
theorem pcL_rel {h u : FH} {ad : Ad} {LK : List Ar} {fa : Nat → Option Nat} {ar : Nat → Option Ar} {gg : Nat → Option Nat} {i : Nat} (l1 : h (ad 0 2) = some (oLocks (ad 0 3))) (l2 : h (ad 0 3) = some (aQ 6 10 fa)) (l3 : ∀ i, i < 10 → pAr h (fa i) (ar i)) (l4 : ((List.range 10).filterMap ar).Perm LK) (eu : u = fh_up h (ad 0 3) (aQ 6 10 gg)) (hg : ∀ k, k < 10 → gg k = if lkOwn (ar k) (nI i) = true then none else fa k) : pcL u ad (LK.filter (fun a => decide (a.1 ≠ nI i))) ∧ kp [13] h u := by
  have hk : kp [13] h u := by rw [eu]; exact kp.rf.up l2 rfl
  refine ⟨⟨gg, fun k => if lkOwn (ar k) (nI i) = true then none else ar k, hk _ _ l1 rfl, by rw [eu]; exact fh_up_self _ _ _, fun k hk9 => ?_, ?_⟩, hk⟩
  · rw [hg k hk9]
    by_cases c : lkOwn (ar k) (nI i) = true
    · simp only [c, if_true]; trivial
    · simp only [c, if_false]; exact pAr_kp hk rfl (l3 k hk9)
  · refine List.Perm.trans (List.Perm.of_eq ?_) (l4.filter _)
    rw [List.filter_filterMap]
    congr 1
    funext k
    cases e : ar k with
    | none => simp [lkOwn]
    | some a =>
      by_cases c : a.1 = nI i
      · simp [lkOwn, c, Option.filter]
      · simp [lkOwn, c, Option.filter]
/-! joining -/
def mrg (B : St) (s : Ses) (T : St) : St := fun o => seMerged (B o) (s.2.1 o) (T o) (fun k => s.2.2.2.2 (o * 7 + k) - nI 1)
def mkM (T' T : St) (M : Nat → Int32) : Nat → Int32 := fun o => if alikeO (T' o) (T o) = true then M o else 0
