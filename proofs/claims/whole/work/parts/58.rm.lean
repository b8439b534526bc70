/-! what the reference's arrays say of the abstract state -/
def relR (w : Nat → Int32) (x : Nat → Int64) (S : St) : Prop := ∀ o, o < 60 → w o = bI (S o).isSome ∧ ∀ r, S o = some r → ∀ k, k < 6 → x (6 * o + k) = r k
def rw1 (f : Nat → Int32) (i : Nat) : Nat → Int32 := fun o => f (60 * i + o)
def rx1 (f : Nat → Int64) (i : Nat) : Nat → Int64 := fun p => f (360 * i + p)
def zeroM (x : Nat → Int64) (no : Nat) : Prop := ∀ o, no ≤ o → o < 60 → ∀ k, k < 6 → x (6 * o + k) = 0
def undW (f o : Nat) (hd : Int32) (w : Nat → Int32) : Nat → Int32 := if f = 6 then upN w o hd else w
def undX (f o : Nat) (v : Int64) (x : Nat → Int64) : Nat → Int64 := if f = 6 then x else upN x (6 * o + f) v
def chM (cO cF cH : Nat → Int32) (cV : Nat → Int64) (B no : Nat) (w : Nat → Int32) (x : Nat → Int64) : List St → Prop
  | [] => True
  | S :: Ss => ∃ o f, o < no ∧ f < 7 ∧ cO (B + Ss.length) = nI o ∧ cF (B + Ss.length) = nI f ∧ relR (undW f o (cH (B + Ss.length)) w) (undX f o (cV (B + Ss.length)) x) S ∧ chM cO cF cH cV B no (undW f o (cH (B + Ss.length)) w) (undX f o (cV (B + Ss.length)) x) Ss
def mSes (no i : Nat) (s : Ses) (fB fO fW : Nat → Int32) (fV : Nat → Int64) (fN cO cF cH : Nat → Int32) (cV : Nat → Int64) (fS : Nat → Int32) : Prop := fB i = nI s.1 ∧ fO i = bI s.2.2.1 ∧ relR (rw1 fW i) (rx1 fV i) s.2.1 ∧ zeroM (rx1 fV i) no ∧ fN i = nI s.2.2.2.1.length ∧ s.2.2.2.1.length ≤ 40 ∧ chM cO cF cH cV (40 * i) no (rw1 fW i) (rx1 fV i) s.2.2.2.1 ∧ ∀ p, p < 420 → fS (420 * i + p) = s.2.2.2.2 p
def mL (lO : Nat → Int32) (lA : Nat → Int64) (LK : List Ar) : Prop := ∀ k a, LK[k]? = some a → lO k = a.1 ∧ lA (4 * k) = a.2.1 ∧ lA (4 * k + 1) = a.2.2.1 ∧ lA (4 * k + 2) = a.2.2.2.1 ∧ lA (4 * k + 3) = a.2.2.2.2
def mR (rA rB : Nat → Int32) (rD : Nat → Int64) (RL : Rl) : Prop := ∀ k q, RL[k]? = some q → rA k = nI q.1 ∧ rB k = nI q.2.1 ∧ rD k = q.2.2
def mC (fC : Nat → Int32) (C : CL) : Prop := ∀ k q, C[k]? = some q → fC k = nI (7 * q.1 + q.2)
theorem relR.congr {w w' : Nat → Int32} {x x' : Nat → Int64} {S : St} (h : relR w x S) (hw : ∀ o, o < 60 → w' o = w o) (hx : ∀ p, p < 360 → x' p = x p) : relR w' x' S := fun o ho => ⟨(hw o ho).trans (h o ho).1, fun r hr k hk => (hx _ (by omega)).trans ((h o ho).2 r hr k hk)⟩
theorem zeroM.congr {x x' : Nat → Int64} {no : Nat} (h : zeroM x no) (hx : ∀ p, p < 360 → x' p = x p) : zeroM x' no := fun o h1 h2 k hk => (hx _ (by omega)).trans (h o h1 h2 k hk)
theorem zeroM.mono {x : Nat → Int64} {no no' : Nat} (h : zeroM x no) (hn : no ≤ no') : zeroM x no' := fun o h1 h2 k hk => h o (by omega) h2 k hk
theorem undW_c {f o : Nat} {hd hd' : Int32} {w w' : Nat → Int32} (e : hd' = hd) (h : ∀ o, o < 60 → w' o = w o) : ∀ q, q < 60 → undW f o hd' w' q = undW f o hd w q := fun q hq => by
  unfold undW
  subst e
  split
  · by_cases z : q = o
    · subst z; rw [upN_s, upN_s]
    · rw [upN_n _ _ z, upN_n _ _ z]; exact h q hq
  · exact h q hq
theorem undX_c {f o : Nat} {v v' : Int64} {x x' : Nat → Int64} (e : v' = v) (h : ∀ p, p < 360 → x' p = x p) : ∀ q, q < 360 → undX f o v' x' q = undX f o v x q := fun q hq => by
  unfold undX
  subst e
  split
  · exact h q hq
  · by_cases z : q = 6 * o + f
    · subst z; rw [upN_s, upN_s]
    · rw [upN_n _ _ z, upN_n _ _ z]; exact h q hq
theorem chM.congr {cO cF cH cO' cF' cH' : Nat → Int32} {cV cV' : Nat → Int64} {B B' no no' : Nat} (hno : no ≤ no') {L : List St} : ∀ {w w' : Nat → Int32} {x x' : Nat → Int64}, (∀ j, j < L.length → cO' (B' + j) = cO (B + j) ∧ cF' (B' + j) = cF (B + j) ∧ cH' (B' + j) = cH (B + j) ∧ cV' (B' + j) = cV (B + j)) → (∀ o, o < 60 → w' o = w o) → (∀ p, p < 360 → x' p = x p) → chM cO cF cH cV B no w x L → chM cO' cF' cH' cV' B' no' w' x' L := by
  induction L with
  | nil => intro _ _ _ _ _ _ _ _; trivial
  | cons S Ss ih =>
    intro w w' x x' hc hw hx hp
    obtain ⟨o, f, h1, h2, h3, h4, h5, h6⟩ := hp
    obtain ⟨e1, e2, e3, e4⟩ := hc Ss.length (by simp)
    have hw2 := undW_c (f := f) (o := o) e3 hw
    have hx2 := undX_c (f := f) (o := o) e4 hx
    exact ⟨o, f, by omega, h2, e1.trans h3, e2.trans h4, h5.congr hw2 hx2, ih (fun j hj => hc j (by simp; omega)) hw2 hx2 h6⟩
theorem chM.shift {cO cF cH cO' cF' cH' : Nat → Int32} {cV cV' : Nat → Int64} {B no : Nat} {z : St} {L : List St} : ∀ {w : Nat → Int32} {x : Nat → Int64}, (∀ j, j < L.length → cO' (B + j) = cO (B + j + 1) ∧ cF' (B + j) = cF (B + j + 1) ∧ cH' (B + j) = cH (B + j + 1) ∧ cV' (B + j) = cV (B + j + 1)) → chM cO cF cH cV B no w x (L ++ [z]) → chM cO' cF' cH' cV' B no w x L := by
  induction L with
  | nil => intro _ _ _ _; trivial
  | cons S Ss ih =>
    intro w x hc hp
    obtain ⟨o, f, h1, h2, h3, h4, h5, h6⟩ := hp
    obtain ⟨e1, e2, e3, e4⟩ := hc Ss.length (by simp)
    have el : B + (Ss ++ [z]).length = B + Ss.length + 1 := by rw [List.length_append]; rfl
    have h3 : cO (B + (Ss ++ [z]).length) = nI o := h3
    have h4 : cF (B + (Ss ++ [z]).length) = nI f := h4
    have h5 : relR (undW f o (cH (B + (Ss ++ [z]).length)) w) (undX f o (cV (B + (Ss ++ [z]).length)) x) S := h5
    have h6 : chM cO cF cH cV B no (undW f o (cH (B + (Ss ++ [z]).length)) w) (undX f o (cV (B + (Ss ++ [z]).length)) x) (Ss ++ [z]) := h6
    rw [el] at h3 h4 h5 h6
    refine ⟨o, f, h1, h2, e1.trans h3, e2.trans h4, ?_, ?_⟩
    · rw [e3, e4]; exact h5
    · rw [e3, e4]; exact ih (fun j hj => hc j (by simp; omega)) h6
/-- where the entries lie once the oldest has made room -/
def shN {β : Type} (i n : Nat) (c : Nat → β) : Nat → β := fun x => if n = 40 ∧ 40 * i ≤ x ∧ x < 40 * i + 39 then c (x + 1) else c x
def nxt40 (n : Nat) : Nat := if n = 40 then 39 else n
theorem chM.push {cO cF cH cO' cF' cH' : Nat → Int32} {cV cV' : Nat → Int64} {i no o f : Nat} {w w' : Nat → Int32} {x x' : Nat → Int64} {N : St} {L : List St} (hl : L.length ≤ 40) (hp : chM cO cF cH cV (40 * i) no w x L) (hr : relR w x N) (ho : o < no) (hf : f < 7)
    (kO : ∀ j, j < 40 → j ≠ nxt40 L.length → cO' (40 * i + j) = shN i L.length cO (40 * i + j)) (kF : ∀ j, j < 40 → j ≠ nxt40 L.length → cF' (40 * i + j) = shN i L.length cF (40 * i + j)) (kH : ∀ j, j < 40 → j ≠ nxt40 L.length → cH' (40 * i + j) = shN i L.length cH (40 * i + j)) (kV : ∀ j, j < 40 → j ≠ nxt40 L.length → cV' (40 * i + j) = shN i L.length cV (40 * i + j))
    (eO : cO' (40 * i + nxt40 L.length) = nI o) (eF : cF' (40 * i + nxt40 L.length) = nI f) (uW : ∀ q, q < 60 → undW f o (cH' (40 * i + nxt40 L.length)) w' q = w q) (uX : ∀ q, q < 360 → undX f o (cV' (40 * i + nxt40 L.length)) x' q = x q) : chM cO' cF' cH' cV' (40 * i) no w' x' ((N :: L).take 40) := by
  show chM cO' cF' cH' cV' (40 * i) no w' x' (N :: L.take 39)
  have hlen : (L.take 39).length = nxt40 L.length := by
    rw [List.length_take]; unfold nxt40; split <;> omega
  refine ⟨o, f, ho, hf, by rw [hlen]; exact eO, by rw [hlen]; exact eF, ?_, ?_⟩
  · rw [hlen]; exact hr.congr uW uX
  · rw [hlen]
    by_cases hn : L.length = 40
    · have hsh : ∀ {β : Type} (c : Nat → β) (j : Nat), j < 39 → shN i L.length c (40 * i + j) = c (40 * i + j + 1) := fun c j hj => by
        unfold shN
        rw [if_pos ⟨hn, by omega, by omega⟩]
      have hn3 : nxt40 L.length = 39 := by unfold nxt40; rw [if_pos hn]
      obtain ⟨z, hz⟩ : ∃ z, L.drop 39 = [z] := by
        have h9 : (L.drop 39).length = 1 := by rw [List.length_drop]; omega
        exact List.length_eq_one_iff.mp h9
      have hL : L = L.take 39 ++ [z] := by rw [← hz, List.take_append_drop]
      rw [hL] at hp
      have h1 := chM.shift (cO' := cO') (cF' := cF') (cH' := cH') (cV' := cV') (fun j hj => by
        rw [hlen, hn3] at hj
        exact ⟨(kO j (by omega) (by omega)).trans (hsh cO j hj), (kF j (by omega) (by omega)).trans (hsh cF j hj), (kH j (by omega) (by omega)).trans (hsh cH j hj), (kV j (by omega) (by omega)).trans (hsh cV j hj)⟩) hp
      exact h1.congr (Nat.le_refl no) (fun j _ => ⟨rfl, rfl, rfl, rfl⟩) uW uX
    · have hsh : ∀ {β : Type} (c : Nat → β) (j : Nat), shN i L.length c j = c j := fun c j => by
        unfold shN
        rw [if_neg (fun q => hn q.1)]
      have hn3 : nxt40 L.length = L.length := by unfold nxt40; rw [if_neg hn]
      rw [List.take_of_length_le (by omega)]
      exact hp.congr (Nat.le_refl no) (fun j hj => ⟨(kO j (by omega) (by omega)).trans (hsh cO _), (kF j (by omega) (by omega)).trans (hsh cF _), (kH j (by omega) (by omega)).trans (hsh cH _), (kV j (by omega) (by omega)).trans (hsh cV _)⟩) uW uX
