theorem RepC.kp0 {h u : FH} {Kq xa : Nat} {ad : Ad} {no nv ns : Nat} {V : Nat → St} {S : Nat → Ses} {LK : List Ar} {RL : List (Nat × Nat × Int64)} {J : Nat} {C : CL} {M : Nat → Int32} (hp : RepC Kq h xa ad no nv ns V S LK RL J C M) (hk : kp [] h u) : RepC Kq u xa ad no nv ns V S LK RL J C M := by
  obtain ⟨hX, hV, hS, hL, hR, hC, hM, hI⟩ := hp
  exact ⟨hk _ _ hX rfl, hV.kpt hk rfl, hS.kpt hk rfl, hL.kpt hk rfl, hR.kpt hk rfl, hC.kpt hk rfl, hM.kpt hk rfl, hI⟩
theorem RepC.kpN {h u : FH} {D : List Nat} {Kq xa : Nat} {ad : Ad} {no nv ns : Nat} {V : Nat → St} {S : Nat → Ses} {LK : List Ar} {RL : List (Nat × Nat × Int64)} {J : Nat} {C : CL} {M : Nat → Int32} (hp : RepC Kq h xa ad no nv ns V S LK RL J C M) (hk : kp D h u) (hD : av D kC = true) : RepC Kq u xa ad no nv ns V S LK RL J C M := by
  obtain ⟨hX, hV, hS, hL, hR, hC, hM, hI⟩ := hp
  have hm : ∀ K : List Nat, K.all (fun k => kC.contains k) = true → av D K = true := fun K hK => by
    unfold av
    rw [List.all_eq_true]
    intro k hk9
    rw [av_at hD (List.all_eq_true.mp hK k hk9)]
    rfl
  exact ⟨hk.at hD hX rfl, hV.kpt hk (hm _ rfl), hS.kpt hk (hm _ rfl), hL.kpt hk (hm _ rfl), hR.kpt hk (hm _ rfl), hC.kpt hk (hm _ rfl), hM.kpt hk (hm _ rfl), hI⟩
theorem pRo_cell {h : FH} {r : Nat} {o : Ro} (hp : pRo h (some r) o) : ∃ vs, h r = some (.inr (5, vs)) := by
  obtain ⟨f, -, b, g, h1, -⟩ := pRo_some hp
  exact ⟨_, h1⟩
theorem pRo_cell' {h : FH} {r : Option Nat} {o : Ro} (hp : pRo h r o) : ∀ a, r = some a → ∃ vs, h a = some (.inr (5, vs)) := fun a ea => pRo_cell (ea ▸ hp)
/-! locks, as a list -/
def barred (LK : List Ar) (i : Nat) (x y : Int64) : Bool := LK.any (fun a => decide (a.1 ≠ nI i) && arHolds a.2.1 a.2.2.1 a.2.2.2.1 a.2.2.2.2 x y)
theorem lk_any {ar : Nat → Option Ar} {LK : List Ar} (hp : ((List.range 10).filterMap ar).Perm LK) (P : Ar → Bool) : (List.range 10).any (fun i => match ar i with | none => false | some a => P a) = LK.any P := by
  rw [Bool.eq_iff_iff, List.any_eq_true, List.any_eq_true]
  constructor
  · rintro ⟨i, hi, h⟩
    cases e : ar i with
    | none => rw [e] at h; cases h
    | some a =>
      rw [e] at h
      exact ⟨a, hp.mem_iff.mp (List.mem_filterMap.mpr ⟨i, hi, e⟩), h⟩
  · rintro ⟨a, ha, h⟩
    obtain ⟨i, hi, e⟩ := List.mem_filterMap.mp (hp.mem_iff.mpr ha)
    exact ⟨i, hi, by rw [e]; exact h⟩
theorem lkBar_eq {ar : Nat → Option Ar} {LK : List Ar} (hp : ((List.range 10).filterMap ar).Perm LK) (i : Nat) (x y : Int64) : lkBar ar (nI i) x y = barred LK i x y := by
  unfold barred
  rw [← lk_any hp]
  unfold lkBar lkHit
  rfl
def opWr (LK : List Ar) (i f : Nat) (x : Int64) (rw0 : Rw) : Bool := !(decide (rw0 f = x) || barred LK i (rw0 0) (rw0 1))
theorem bI_tt {b : Bool} (h : b = true) : bI b = 1 := by rw [h]; rfl
theorem bI_ff {b : Bool} (h : b = false) : bI b = 0 := by rw [h]; rfl
def q7 (a0 a1 a2 a3 a4 a5 a6 : Nat) : Nat → Nat := fun k => match k with
  | 0 => a0
  | 1 => a1
  | 2 => a2
  | 3 => a3
  | 4 => a4
  | 5 => a5
  | _ => a6
theorem q7_le {z a0 a1 a2 a3 a4 a5 a6 : Nat} (h0 : z ≤ a0) (h1 : z ≤ a1) (h2 : z ≤ a2) (h3 : z ≤ a3) (h4 : z ≤ a4) (h5 : z ≤ a5) (h6 : z ≤ a6) : ∀ k, k < 7 → z ≤ q7 a0 a1 a2 a3 a4 a5 a6 k := fun k _ => by
  unfold q7
  split <;> assumption
