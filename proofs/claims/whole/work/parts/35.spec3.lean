/-! THE ABSTRACT STATE. A session: base, present state, open, states before (the latest first), sides. All: numbers of objects, versions, sessions; versions; sessions; locks; rules; the last join's session and conflicts; marks -/
abbrev Ses : Type := Nat × St × Bool × List St × (Nat → Int32)
abbrev Sg : Type := (Nat × Nat × Nat) × (Nat → St) × (Nat → Ses) × List Ar × List (Nat × Nat × Int64) × (Nat × CL) × (Nat → Int32)
def upN {β : Type} (f : Nat → β) (i : Nat) (x : β) : Nat → β := fun j => if j = i then x else f j
theorem upN_s {β : Type} (f : Nat → β) (i : Nat) (x : β) : upN f i x i = x := by simp [upN]
theorem upN_n {β : Type} (f : Nat → β) {i j : Nat} (x : β) (h : j ≠ i) : upN f i x j = f j := by simp [upN, h]
def ix (x : Int32) (n : Nat) : Option Nat := if x < 0 ∨ nI n ≤ x then none else some x.toNatClampNeg
theorem ix_none {x : Int32} {n : Nat} (h : x < 0 ∨ nI n ≤ x) : ix x n = none := if_pos h
theorem ix_some {j n : Nat} (h : j < n) (hn : n < 2 ^ 31) : ix (nI j) n = some j := by
  unfold ix
  rw [if_neg, nI_clamp (by omega)]
  rintro (q | q)
  · exact nI_pos (by omega) q
  · exact nI_ge h hn q
theorem ix_of {x : Int32} {n j : Nat} (hn : n < 2 ^ 31) (h : ix x n = some j) : j < n ∧ x = nI j := by
  rcases pk_ix x hn with q | q | ⟨i, hi, rfl⟩
  · rw [ix_none (Or.inl q)] at h; cases h
  · rw [ix_none (Or.inr q)] at h; cases h
  · rw [ix_some hi hn] at h; cases h; exact ⟨hi, rfl⟩
/-! THE CLASS'S CELLS -/
abbrev Ad : Type := Nat → Nat → Nat
abbrev oX (ad : Ad) (no nv ns nr : Nat) : fe := .inr (9, [.ref (ad 0 0), .int (nI nv), .ref (ad 1 (nv - 1)), .ref (ad 0 1), .int (nI ns), .int (nI no), .ref (ad 0 2), .ref (ad 0 4), .int (nI nr), .ref (ad 0 5), .ref (ad 0 7)])
def pcV (h : FH) (ad : Ad) (nv : Nat) (V : Nat → St) : Prop := (∃ fv, h (ad 0 0) = some (aQ 7 40 fv) ∧ ∀ k, k < nv → fv k = some (ad 1 k)) ∧ ∀ k, k < nv → pSt h (ad 1 k) (ad 2 k) (V k)
/-- the place of the latest of n changes -/
def pqm (n : Nat) : Nat := (n - 1) % 40
def chC (h : FH) (fo : Nat → Int32) (fr : Nat → Option Nat) (nx : Nat) (N : St) : List St → Prop
  | [] => True
  | S :: Ss => (∃ o, o < 60 ∧ fo (pqm nx) = nI o ∧ (∀ i, i ≠ o → S i = N i) ∧ pRo h (fr (pqm nx)) (S o)) ∧ chC h fo fr (nx - 1) S Ss
def pSes (Kq : Nat) (h : FH) (i ba : Nat) (ad : Nat → Nat) (s : Ses) : Prop :=
  h (ad 0) = some (oSes (nI i) ba (ad 1) (bI s.2.2.1) (ad 3) (ad 6)) ∧ pSt h (ad 1) (ad 2) s.2.1 ∧ h (ad 6) = some (aI 4 420 s.2.2.2.2) ∧ ∃ nx fo fr, h (ad 3) = some (oChg (ad 4) (ad 5) (nI nx) (nI s.2.2.2.1.length)) ∧ h (ad 4) = some (aI 2 40 fo) ∧ h (ad 5) = some (aQ 3 40 fr) ∧ (nx ≤ Kq ∧ s.2.2.2.1.length ≤ nx) ∧ s.2.2.2.1.length ≤ 40 ∧ chC h fo fr nx s.2.1 s.2.2.2.1
def pcS (Kq : Nat) (h : FH) (ad : Ad) (ns : Nat) (S : Nat → Ses) : Prop := (∃ fs, h (ad 0 1) = some (aQ 8 20 fs) ∧ ∀ i, i < ns → fs i = some (ad (3 + i) 0)) ∧ ∀ i, i < ns → pSes Kq h i (ad 1 (S i).1) (ad (3 + i)) (S i)
def pcL (h : FH) (ad : Ad) (LK : List Ar) : Prop := ∃ (fa : Nat → Option Nat) (ar : Nat → Option Ar), h (ad 0 2) = some (oLocks (ad 0 3)) ∧ h (ad 0 3) = some (aQ 6 10 fa) ∧ (∀ i, i < 10 → pAr h (fa i) (ar i)) ∧ ((List.range 10).filterMap ar).Perm LK
def pRl (h : FH) (r : Option Nat) (q : Option (Nat × Nat × Int64)) : Prop := match r, q with
  | none, none => True
  | some a, some q => h a = some (oRule (nI q.1) (nI q.2.1) q.2.2)
  | _, _ => False
def pcR (h : FH) (ad : Ad) (RL : List (Nat × Nat × Int64)) : Prop := ∃ fr, h (ad 0 4) = some (aQ 9 20 fr) ∧ ∀ i, i < 20 → pRl h (fr i) RL[i]?
def pcC (h : FH) (ad : Ad) (J : Nat) (C : CL) : Prop := ∃ ow fc, h (ad 0 5) = some (oCon ow (ad 0 6) (nI C.length)) ∧ h (ad 0 6) = some (aI 5 360 fc) ∧ conL fc C ∧ (C ≠ [] → ow = some (ad (3 + J) 0))
def pcM (h : FH) (ad : Ad) (M : Nat → Int32) : Prop := ∃ fm, h (ad 0 7) = some (aI 10 60 fm) ∧ ∀ i, i < 60 → fm i = M i
def pcI (ad : Ad) (nv ns : Nat) : Prop := (∀ i j, i < ns → j < ns → i ≠ j → ∀ k k', k < 7 → k' < 7 → ad (3 + i) k ≠ ad (3 + j) k') ∧ ∀ i k j, i < ns → k < nv → j < 7 → ad (3 + i) j ≠ ad 2 k
def RepC (Kq : Nat) (h : FH) (xa : Nat) (ad : Ad) (no nv ns : Nat) (V : Nat → St) (S : Nat → Ses) (LK : List Ar) (RL : List (Nat × Nat × Int64)) (J : Nat) (C : CL) (M : Nat → Int32) : Prop := h xa = some (oX ad no nv ns RL.length) ∧ pcV h ad nv V ∧ pcS Kq h ad ns S ∧ pcL h ad LK ∧ pcR h ad RL ∧ pcC h ad J C ∧ pcM h ad M ∧ pcI ad nv ns
/-! what is kept -/
def av (D K : List Nat) : Bool := K.all (fun k => !D.contains k)
theorem av_at {D K : List Nat} (h : av D K = true) {k : Nat} (hk : K.contains k = true) : D.contains k = false := by
  have := List.all_eq_true.mp h k (List.contains_iff_mem.mp hk)
  simpa using this
theorem kp.at {D K : List Nat} {h u : FH} {a : Nat} {e : fe} (hk : kp D h u) (hD : av D K = true) (ha : h a = some e) (hK : K.contains (fe_kd e) = true) : u a = some e := hk a e ha (av_at hD hK)
theorem kp_rows_av {D : List Nat} (h1 : D.contains 10 = false) (h2 : D.contains 1 = false) : kp_rows D = true := by
  unfold kp_rows
  rw [h1, h2]
  rfl
theorem kp_sts_av {D : List Nat} (h1 : D.contains 10 = false) (h2 : D.contains 1 = false) (h3 : D.contains 16 = false) (h4 : D.contains 3 = false) : kp_sts D = true := by
  unfold kp_sts
  rw [h3, h4, kp_rows_av h1 h2]
  rfl
abbrev kdV : List Nat := [15, 16, 3, 10, 1]
abbrev kdS : List Nat := [17, 14, 2, 5, 7, 9, 16, 3, 10, 1]
theorem pcV.kpt {D : List Nat} {h u : FH} {ad : Ad} {nv : Nat} {V : Nat → St} (hp : pcV h ad nv V) (hk : kp D h u) (hD : av D kdV = true) : pcV u ad nv V := by
  obtain ⟨⟨fv, h1, h2⟩, h3⟩ := hp
  exact ⟨⟨fv, hk.at hD h1 rfl, h2⟩, fun k hk9 => pSt_kp hk (kp_sts_av (av_at hD rfl) (av_at hD rfl) (av_at hD rfl) (av_at hD rfl)) (h3 k hk9)⟩
theorem chC.kpt {D : List Nat} {h u : FH} {fo : Nat → Int32} {fr : Nat → Option Nat} (hk : kp D h u) (hD : kp_rows D = true) {L : List St} : ∀ {nx : Nat} {N : St}, chC h fo fr nx N L → chC u fo fr nx N L := by
  induction L with
  | nil => intro _ _ _; trivial
  | cons S Ss ih =>
    intro nx N hp
    obtain ⟨⟨o, h1, h2, h3, h4⟩, h5⟩ := hp
    exact ⟨⟨o, h1, h2, h3, pRo_kp hk hD h4⟩, ih h5⟩
theorem pSes.kpt {D : List Nat} {h u : FH} {Kq i ba : Nat} {ad : Nat → Nat} {s : Ses} (hp : pSes Kq h i ba ad s) (hk : kp D h u) (hD : av D kdS = true) : pSes Kq u i ba ad s := by
  obtain ⟨h1, h2, h3, nx, fo, fr, h4, h5, h6, h7, h8, h9⟩ := hp
  exact ⟨hk.at hD h1 rfl, pSt_kp hk (kp_sts_av (av_at hD rfl) (av_at hD rfl) (av_at hD rfl) (av_at hD rfl)) h2, hk.at hD h3 rfl, nx, fo, fr, hk.at hD h4 rfl, hk.at hD h5 rfl, hk.at hD h6 rfl, h7, h8, h9.kpt hk (kp_rows_av (av_at hD rfl) (av_at hD rfl))⟩
/-- a session whose own cells are kept, whatever happens to others -/
theorem pSes.kp2 {D : List Nat} {h u : FH} {Kq i ba : Nat} {ad : Nat → Nat} {s : Ses} (hp : pSes Kq h i ba ad s) (hk : kp D h u) (hD : kp_rows D = true) (ho : ∀ k, k < 7 → u (ad k) = h (ad k)) : pSes Kq u i ba ad s := by
  obtain ⟨h1, h2, h3, nx, fo, fr, h4, h5, h6, h7, h8, h9⟩ := hp
  exact ⟨(ho 0 (by decide)).trans h1, pSt_kp2 hk hD (ho 1 (by decide)) (ho 2 (by decide)) h2, (ho 6 (by decide)).trans h3, nx, fo, fr, (ho 3 (by decide)).trans h4, (ho 4 (by decide)).trans h5, (ho 5 (by decide)).trans h6, h7, h8, h9.kpt hk hD⟩
theorem pcS.kpt {D : List Nat} {h u : FH} {ad : Ad} {Kq ns : Nat} {S : Nat → Ses} (hp : pcS Kq h ad ns S) (hk : kp D h u) (hD : av D kdS = true) : pcS Kq u ad ns S := by
  obtain ⟨⟨fs, h1, h2⟩, h3⟩ := hp
  exact ⟨⟨fs, hk.at hD h1 rfl, h2⟩, fun i hi => (h3 i hi).kpt hk hD⟩
theorem pAr_kp {D : List Nat} {h u : FH} {r : Option Nat} {o : Option Ar} (hk : kp D h u) (hD : D.contains 0 = false) (hp : pAr h r o) : pAr u r o := by
  cases r with
  | none => cases o with
    | none => trivial
    | some f => exact hp.elim
  | some a => cases o with
    | none => exact hp.elim
    | some f => exact hk a _ hp hD
theorem pcL.kpt {D : List Nat} {h u : FH} {ad : Ad} {LK : List Ar} (hp : pcL h ad LK) (hk : kp D h u) (hD : av D [8, 13, 0] = true) : pcL u ad LK := by
  obtain ⟨fa, ar, h1, h2, h3, h4⟩ := hp
  exact ⟨fa, ar, hk.at hD h1 rfl, hk.at hD h2 rfl, fun i hi => pAr_kp hk (av_at hD rfl) (h3 i hi), h4⟩
theorem pRl_kp {D : List Nat} {h u : FH} {r : Option Nat} {o : Option (Nat × Nat × Int64)} (hk : kp D h u) (hD : D.contains 12 = false) (hp : pRl h r o) : pRl u r o := by
  cases r with
  | none => cases o with
    | none => trivial
    | some f => exact hp.elim
  | some a => cases o with
    | none => exact hp.elim
    | some f => exact hk a _ hp hD
theorem pcR.kpt {D : List Nat} {h u : FH} {ad : Ad} {RL : List (Nat × Nat × Int64)} (hp : pcR h ad RL) (hk : kp D h u) (hD : av D [19, 12] = true) : pcR u ad RL := by
  obtain ⟨fr, h1, h2⟩ := hp
  exact ⟨fr, hk.at hD h1 rfl, fun i hi => pRl_kp hk (av_at hD rfl) (h2 i hi)⟩
theorem pcC.kpt {D : List Nat} {h u : FH} {ad : Ad} {J : Nat} {C : CL} (hp : pcC h ad J C) (hk : kp D h u) (hD : av D [4, 11] = true) : pcC u ad J C := by
  obtain ⟨ow, fc, h1, h2, h3⟩ := hp
  exact ⟨ow, fc, hk.at hD h1 rfl, hk.at hD h2 rfl, h3⟩
theorem pcM.kpt {D : List Nat} {h u : FH} {ad : Ad} {M : Nat → Int32} (hp : pcM h ad M) (hk : kp D h u) (hD : av D [21] = true) : pcM u ad M := by
  obtain ⟨fm, h1, h2⟩ := hp
  exact ⟨fm, hk.at hD h1 rfl, h2⟩
/-- all but one session, and the versions, are kept -/
def oth (ad : Ad) (i nv ns : Nat) (h u : FH) : Prop := (∀ j, j < ns → j ≠ i → ∀ k, k < 7 → u (ad (3 + j) k) = h (ad (3 + j) k)) ∧ ∀ k, k < nv → u (ad 2 k) = h (ad 2 k)
theorem oth.rf {ad : Ad} {i nv ns : Nat} {h : FH} : oth ad i nv ns h h := ⟨fun _ _ _ _ _ => rfl, fun _ _ => rfl⟩
theorem oth.up {ad : Ad} {i nv ns k : Nat} {h u : FH} {e : fe} (ho : oth ad i nv ns h u) (hI : pcI ad nv ns) (hi : i < ns) (hk : k < 7) : oth ad i nv ns h (fh_up u (ad (3 + i) k) e) :=
  ⟨fun j hj hn q hq => (fh_up_ne _ _ (hI.1 j i hj hi hn q k hq hk)).trans (ho.1 j hj hn q hq), fun q hq => (fh_up_ne _ _ (Ne.symm (hI.2 i q k hi hq hk))).trans (ho.2 q hq)⟩
theorem oth.ext {ad : Ad} {i nv ns sz : Nat} {h u w : FH} (ho : oth ad i nv ns h u) (he : fh_ext sz u w) (h1 : ∀ j, j < ns → ∀ k, k < 7 → ad (3 + j) k < sz) (h2 : ∀ k, k < nv → ad 2 k < sz) : oth ad i nv ns h w :=
  ⟨fun j hj hn q hq => (he _ (h1 j hj q hq)).trans (ho.1 j hj hn q hq), fun q hq => (he _ (h2 q hq)).trans (ho.2 q hq)⟩
theorem pSt.lt {h : FH} {sz a b : Nat} {S : St} (hp : pSt h a b S) (hl : ∀ a e, h a = some e → a < sz) : a < sz ∧ b < sz := by
  obtain ⟨h1, f, h2, -⟩ := hp
  exact ⟨hl _ _ h1, hl _ _ h2⟩
theorem pcS.lt {h : FH} {sz : Nat} {ad : Ad} {Kq ns : Nat} {S : Nat → Ses} (hp : pcS Kq h ad ns S) (hl : ∀ a e, h a = some e → a < sz) : ∀ j, j < ns → ∀ k, k < 7 → ad (3 + j) k < sz := by
  intro j hj k hk
  obtain ⟨h1, ⟨h2, f2, h2b, -⟩, h3, nx, fo, fr, h4, h5, h6, -⟩ := hp.2 j hj
  rcases (show k = 0 ∨ k = 1 ∨ k = 2 ∨ k = 3 ∨ k = 4 ∨ k = 5 ∨ k = 6 by omega) with rfl | rfl | rfl | rfl | rfl | rfl | rfl
  · exact hl _ _ h1
  · exact hl _ _ h2
  · exact hl _ _ h2b
  · exact hl _ _ h4
  · exact hl _ _ h5
  · exact hl _ _ h6
  · exact hl _ _ h3
theorem pcV.lt {h : FH} {sz : Nat} {ad : Ad} {nv : Nat} {V : Nat → St} (hp : pcV h ad nv V) (hl : ∀ a e, h a = some e → a < sz) : ∀ k, k < nv → ad 1 k < sz ∧ ad 2 k < sz := fun k hk => (hp.2 k hk).lt hl
abbrev kdSo : List Nat := [3, 14, 2, 5, 7, 9]
/-- one session changes: the rest is kept -/
theorem RepC.ses {h u : FH} {Kq xa : Nat} {ad : Ad} {no nv ns : Nat} {V : Nat → St} {S : Nat → Ses} {LK : List Ar} {RL : List (Nat × Nat × Int64)} {J : Nat} {C : CL} {M : Nat → Int32} {i : Nat} {s' : Ses} (hp : RepC Kq h xa ad no nv ns V S LK RL J C M) (hi : i < ns) (hk : kp kdSo h u) (ho : oth ad i nv ns h u) (hb : s'.1 = (S i).1) (hs : pSes Kq u i (ad 1 s'.1) (ad (3 + i)) s') :
    RepC Kq u xa ad no nv ns V (upN S i s') LK RL J C M := by
  obtain ⟨hX, hV, hSs, hL, hR, hC, hM, hI⟩ := hp
  refine ⟨hk _ _ hX rfl, ?_, ?_, hL.kpt hk rfl, hR.kpt hk rfl, hC.kpt hk rfl, hM.kpt hk rfl, hI⟩
  · obtain ⟨⟨fv, h1, h2⟩, h3⟩ := hV
    refine ⟨⟨fv, hk _ _ h1 rfl, h2⟩, fun k hk9 => ?_⟩
    have h4 := h3 k hk9
    exact pSt_kp2 hk rfl ((hk _ _ h4.1 rfl).trans h4.1.symm) (ho.2 k hk9) h4
  · obtain ⟨⟨fs, h1, h2⟩, h3⟩ := hSs
    refine ⟨⟨fs, hk _ _ h1 rfl, h2⟩, fun j hj => ?_⟩
    by_cases q : j = i
    · subst q
      rw [upN_s]
      exact hs
    · rw [upN_n _ _ q]
      exact (h3 j hj).kp2 hk rfl (ho.1 j hj q)
/-- the bound of the sessions' running numbers may be raised -/
theorem RepC.mono {h : FH} {Kq Kr xa : Nat} {ad : Ad} {no nv ns : Nat} {V : Nat → St} {S : Nat → Ses} {LK : List Ar} {RL : List (Nat × Nat × Int64)} {J : Nat} {C : CL} {M : Nat → Int32} (hp : RepC Kq h xa ad no nv ns V S LK RL J C M) (hk : Kq ≤ Kr) : RepC Kr h xa ad no nv ns V S LK RL J C M := by
  obtain ⟨hX, hV, ⟨hS1, hS2⟩, hZ⟩ := hp
  refine ⟨hX, hV, ⟨hS1, fun i hi => ?_⟩, hZ⟩
  obtain ⟨h1, h2, h3, nx, fo, fr, h4, h5, h6, h7, h8⟩ := hS2 i hi
  exact ⟨h1, h2, h3, nx, fo, fr, h4, h5, h6, ⟨Nat.le_trans h7.1 hk, h7.2⟩, h8⟩
