/-! changes of a session -/
def sChg (s : Ses) (o : Nat) (x : Ro) : Ses := (s.1, upN s.2.1 o x, s.2.2.1, (s.2.1 :: s.2.2.2.1).take 40, s.2.2.2.2)
def sBack (s : Ses) : Ses := match s.2.2.2.1 with
  | [] => s
  | S :: Ss => (s.1, S, s.2.2.1, Ss, s.2.2.2.2)
def sOnly (ad : Nat → Nat) (h u : FH) : Prop := ∀ q, (∀ k, k < 7 → q ≠ ad k) → u q = h q
theorem sOnly.up {ad : Nat → Nat} {h u : FH} {k : Nat} {e : fe} (h1 : sOnly ad h u) (hk : k < 7) : sOnly ad h (fh_up u (ad k) e) := fun q hq => (fh_up_ne _ _ (hq k hk)).trans (h1 q hq)
theorem sOnly.rf {ad : Nat → Nat} {h : FH} : sOnly ad h h := fun _ _ => rfl
theorem sOnly.oth {ad : Ad} {i nv ns : Nat} {h u : FH} (h1 : sOnly (ad (3 + i)) h u) (hI : pcI ad nv ns) (hi : i < ns) : oth ad i nv ns h u :=
  ⟨fun j hj hn q hq => h1 _ (fun k hk => hI.1 j i hj hi hn q k hq hk), fun q hq => h1 _ (fun k hk => Ne.symm (hI.2 i q k hi hq hk))⟩
theorem chC_keep {h : FH} {fo : Nat → Int32} {fr : Nat → Option Nat} {n0 : Nat} {x : Int32} {y : Option Nat} {L : List St} : ∀ {nx d : Nat} {N : St}, nx + d = n0 → d + L.length ≤ 39 → L.length ≤ nx → chC h fo fr nx N L → chC h (upd fo (n0 % 40) x) (va_up fr (n0 % 40) y) nx N L := by
  induction L with
  | nil => intro _ _ _ _ _ _ _; trivial
  | cons S Ss ih =>
    intro nx d N hn hd hl hp
    obtain ⟨⟨o, h1, h2, h3, h4⟩, h5⟩ := hp
    simp only [List.length_cons] at hl hd
    have hne : pqm nx ≠ n0 % 40 := by unfold pqm; omega
    refine ⟨⟨o, h1, ?_, h3, ?_⟩, ih (d := d + 1) (by omega) (by omega) (by omega) h5⟩
    · rw [← h2]; simp [upd, hne]
    · rw [show va_up fr (n0 % 40) y (pqm nx) = fr (pqm nx) by simp [va_up, hne]]; exact h4
theorem chC_take {h : FH} {fo : Nat → Int32} {fr : Nat → Option Nat} {L : List St} : ∀ {nx : Nat} {N : St} (n : Nat), chC h fo fr nx N L → chC h fo fr nx N (L.take n) := by
  induction L with
  | nil => intro _ _ n _; simp only [List.take_nil]; trivial
  | cons S Ss ih =>
    intro nx N n hp
    cases n with
    | zero => trivial
    | succ n => exact ⟨hp.1, ih n hp.2⟩
theorem pSt_upd {u : FH} {a b : Nat} {S : St} {f : Nat → Option Nat} {o : Nat} {r : Option Nat} {x : Ro} (h1 : u a = some (oSt b)) (h2 : u b = some (aQ 1 60 (va_up f o r))) (h3 : ∀ i, i < 60 → pRo u (f i) (S i)) (h4 : pRo u r x) : pSt u a b (upN S o x) := by
  refine ⟨h1, _, h2, fun i hi => ?_⟩
  by_cases q : i = o
  · subst q
    rw [upN_s, show va_up f i r i = r by simp [va_up]]
    exact h4
  · rw [upN_n _ _ q, show va_up f o r i = f i by simp [va_up, q]]
    exact h3 i hi
theorem ses_chg {h u : FH} {Kq i ba : Nat} {ad : Nat → Nat} {s : Ses} {nx : Nat} {fo : Nat → Int32} {fr fn : Nat → Option Nat} (h0 : h (ad 0) = some (oSes (nI i) ba (ad 1) (bI s.2.2.1) (ad 3) (ad 6))) (h1 : h (ad 1) = some (oSt (ad 2))) (h2 : h (ad 2) = some (aQ 1 60 fn)) (h2b : ∀ i, i < 60 → pRo h (fn i) (s.2.1 i)) (h6 : h (ad 6) = some (aI 4 420 s.2.2.2.2)) (h3 : h (ad 3) = some (oChg (ad 4) (ad 5) (nI nx) (nI s.2.2.2.1.length))) (h4 : h (ad 4) = some (aI 2 40 fo)) (h5 : h (ad 5) = some (aQ 3 40 fr)) (hnx : nx ≤ Kq ∧ s.2.2.2.1.length ≤ nx) (hlen : s.2.2.2.1.length ≤ 40) (hch : chC h fo fr nx s.2.1 s.2.2.2.1) {o : Nat} (ho : o < 60) {r : Option Nat} {x : Ro} (hr : pRo h r x)
    (eu : u = fh_up (fh_up (fh_up (fh_up h (ad 4) (aI 2 40 (upd fo (nx % 40) (nI o)))) (ad 5) (aQ 3 40 (va_up fr (nx % 40) (fn o)))) (ad 3) (oChg (ad 4) (ad 5) (nI (nx + 1)) (nI (if s.2.2.2.1.length < 40 then s.2.2.2.1.length + 1 else 40)))) (ad 2) (aQ 1 60 (va_up fn o r))) : pSes (Kq + 1) u i ba ad (sChg s o x) ∧ kp kdSo h u ∧ sOnly ad h u := by
  have hk : kp kdSo h u := by rw [eu]; exact (((kp.rf.up h4 rfl).up h5 rfl).up h3 rfl).up h2 rfl
  have hk2 : kp [3, 2, 5, 7] h u := by rw [eu]; exact (((kp.rf.up h4 rfl).up h5 rfl).up h3 rfl).up h2 rfl
  have ho2 : sOnly ad h u := by
    rw [eu]
    exact (((sOnly.rf.up (by decide)).up (by decide)).up (by decide)).up (by decide)
  have k2 : u (ad 2) = some (aQ 1 60 (va_up fn o r)) := by rw [eu]; exact fh_up_self _ _ _
  have k3 : u (ad 3) = some (oChg (ad 4) (ad 5) (nI (nx + 1)) (nI (if s.2.2.2.1.length < 40 then s.2.2.2.1.length + 1 else 40))) := by
    rw [eu, fh_up_ne _ _ (fh_ne h3 h2 rfl)]; exact fh_up_self _ _ _
  have k5 : u (ad 5) = some (aQ 3 40 (va_up fr (nx % 40) (fn o))) := by
    rw [eu, fh_up_ne _ _ (fh_ne h5 h2 rfl), fh_up_ne _ _ (fh_ne h5 h3 rfl)]; exact fh_up_self _ _ _
  have k4 : u (ad 4) = some (aI 2 40 (upd fo (nx % 40) (nI o))) := by
    rw [eu, fh_up_ne _ _ (fh_ne h4 h2 rfl), fh_up_ne _ _ (fh_ne h4 h3 rfl), fh_up_ne _ _ (fh_ne h4 h5 rfl)]; exact fh_up_self _ _ _
  have hpv : pqm (nx + 1) = nx % 40 := by unfold pqm; rw [Nat.add_sub_cancel]
  refine ⟨⟨hk2 _ _ h0 rfl, pSt_upd (hk2 _ _ h1 rfl) k2 (fun j hj => pRo_kp hk rfl (h2b j hj)) (pRo_kp hk rfl hr), hk2 _ _ h6 rfl, nx + 1, _, _, ?_, k4, k5, ⟨by omega, ?_⟩, ?_, ?_⟩, hk, ho2⟩
  · rw [k3]
    have : (sChg s o x).2.2.2.1.length = if s.2.2.2.1.length < 40 then s.2.2.2.1.length + 1 else 40 := by
      show ((s.2.1 :: s.2.2.2.1).take 40).length = _
      rw [List.length_take, List.length_cons]
      split <;> omega
    rw [this]
  · show ((s.2.1 :: s.2.2.2.1).take 40).length ≤ nx + 1
    rw [List.length_take, List.length_cons]
    omega
  · show ((s.2.1 :: s.2.2.2.1).take 40).length ≤ 40
    rw [List.length_take]
    omega
  · show chC u _ _ _ (upN s.2.1 o x) (s.2.1 :: s.2.2.2.1.take 39)
    refine ⟨⟨o, ho, ?_, fun j hj => (upN_n _ _ hj).symm, ?_⟩, ?_⟩
    · rw [hpv]; simp [upd]
    · rw [hpv, show va_up fr (nx % 40) (fn o) (nx % 40) = fn o by simp [va_up]]
      exact pRo_kp hk rfl (h2b o ho)
    · show chC u (upd fo (nx % 40) (nI o)) (va_up fr (nx % 40) (fn o)) nx s.2.1 (s.2.2.2.1.take 39)
      exact chC_keep (nx := nx) (d := 0) rfl (by rw [List.length_take]; omega) (by rw [List.length_take]; omega) (chC_take 39 (hch.kpt hk rfl))
theorem ses_back {h u : FH} {Kq i ba : Nat} {ad : Nat → Nat} {s : Ses} {nx : Nat} {fo : Nat → Int32} {fr fn : Nat → Option Nat} (h0 : h (ad 0) = some (oSes (nI i) ba (ad 1) (bI s.2.2.1) (ad 3) (ad 6))) (h1 : h (ad 1) = some (oSt (ad 2))) (h2 : h (ad 2) = some (aQ 1 60 fn)) (h2b : ∀ i, i < 60 → pRo h (fn i) (s.2.1 i)) (h6 : h (ad 6) = some (aI 4 420 s.2.2.2.2)) (h3 : h (ad 3) = some (oChg (ad 4) (ad 5) (nI nx) (nI s.2.2.2.1.length))) (h4 : h (ad 4) = some (aI 2 40 fo)) (h5 : h (ad 5) = some (aQ 3 40 fr)) (hnx : nx ≤ Kq ∧ s.2.2.2.1.length ≤ nx) (hlen : s.2.2.2.1.length ≤ 40) (hch : chC h fo fr nx s.2.1 s.2.2.2.1) {o : Nat} (h0l : 0 < s.2.2.2.1.length) (hfo : fo (pqm nx) = nI o) (ho : o < 60)
    (eu : u = fh_up (fh_up h (ad 3) (oChg (ad 4) (ad 5) (nI (nx - 1)) (nI (s.2.2.2.1.length - 1)))) (ad 2) (aQ 1 60 (va_up fn o (fr (pqm nx))))) : pSes Kq u i ba ad (sBack s) ∧ kp kdSo h u ∧ sOnly ad h u := by
  have hk : kp kdSo h u := by rw [eu]; exact (kp.rf.up h3 rfl).up h2 rfl
  have hk2 : kp [3, 2] h u := by rw [eu]; exact (kp.rf.up h3 rfl).up h2 rfl
  have ho2 : sOnly ad h u := by
    rw [eu]
    exact (sOnly.rf.up (by decide)).up (by decide)
  have k2 : u (ad 2) = some (aQ 1 60 (va_up fn o (fr (pqm nx)))) := by rw [eu]; exact fh_up_self _ _ _
  have k3 : u (ad 3) = some (oChg (ad 4) (ad 5) (nI (nx - 1)) (nI (s.2.2.2.1.length - 1))) := by
    rw [eu, fh_up_ne _ _ (fh_ne h3 h2 rfl)]; exact fh_up_self _ _ _
  obtain ⟨bs, N, op, hi, sd⟩ := s
  cases hi with
  | nil => exact absurd h0l (Nat.lt_irrefl 0)
  | cons S Ss =>
    obtain ⟨⟨o2, g1, g2, g3, g4⟩, g5⟩ := hch
    have eo : o2 = o := (nI_eq (by omega) (by omega)).mp (g2.symm.trans hfo)
    subst eo
    refine ⟨⟨hk2 _ _ h0 rfl, ⟨hk2 _ _ h1 rfl, _, k2, fun j hj => ?_⟩, hk2 _ _ h6 rfl, nx - 1, fo, fr, k3, hk2 _ _ h4 rfl, hk2 _ _ h5 rfl, ⟨by omega, by have hz : Ss.length + 1 ≤ nx := hnx.2; show Ss.length ≤ nx - 1; omega⟩, Nat.le_trans (Nat.le_succ _) hlen, g5.kpt hk rfl⟩, hk, ho2⟩
    show pRo u (va_up fn o2 (fr (pqm nx)) j) (S j)
    by_cases q : j = o2
    · subst q
      rw [show va_up fn j (fr (pqm nx)) j = fr (pqm nx) by simp [va_up]]
      exact pRo_kp hk rfl g4
    · rw [show va_up fn o2 (fr (pqm nx)) j = fn j by simp [va_up, q], g3 j q]
      exact pRo_kp hk rfl (h2b j hj)
/-! all kinds of the class; what may change -/
abbrev kC : List Nat := [0, 1, 2, 3, 4, 5, 6, 7, 8, 9, 10, 11, 12, 13, 14, 15, 16, 17, 18, 19, 21]
def fh_A (A : Nat → Prop) (h : FH) : Prop := ∀ a e, h a = some e → A a
theorem fh_A.up {A : Nat → Prop} {h : FH} {a : Nat} {e : fe} (hA : fh_A A h) (ha : A a) : fh_A A (fh_up h a e) := fun b e' hb => by
  by_cases q : b = a
  · subst q; exact ha
  · rw [fh_up_ne _ _ q] at hb; exact hA b e' hb
theorem fh_A.ext {A : Nat → Prop} {h u : FH} {sz : Nat} (hA : fh_A A h) (he : fh_ext sz h u) (hs : ∀ q, sz ≤ q → A q) : fh_A A u := fun b e hb => by
  rcases Nat.lt_or_ge b sz with q | q
  · exact hA b e ((he b q).symm.trans hb)
  · exact hs b q
theorem kp.C {D : List Nat} {h u : FH} (hk : kp D h u) (hD : D.all (fun k => kC.contains k) = true) : kp kC h u := hk.mono (fun k hk9 => by
  cases hc : D.contains k with
  | false => rfl
  | true =>
    have := List.all_eq_true.mp hD k (List.contains_iff_mem.mp hc)
    rw [hk9] at this
    cases this)
/-! the class's one cell, with its head named -/
abbrev oXh (ad : Ad) (hd no nv ns nr : Nat) : fe := .inr (9, [.ref (ad 0 0), .int (nI nv), .ref hd, .ref (ad 0 1), .int (nI ns), .int (nI no), .ref (ad 0 2), .ref (ad 0 4), .int (nI nr), .ref (ad 0 5), .ref (ad 0 7)])
def adV (ad : Ad) (nv a b : Nat) : Ad := fun i j => if i = 1 ∧ j = nv then a else if i = 2 ∧ j = nv then b else ad i j
def adS (ad : Ad) (ns : Nat) (q : Nat → Nat) : Ad := fun i j => if i = 3 + ns then q j else ad i j
theorem adV_0 (ad : Ad) (nv a b j : Nat) : adV ad nv a b 0 j = ad 0 j := by simp [adV]
theorem adV_3 (ad : Ad) (nv a b i j : Nat) : adV ad nv a b (3 + i) j = ad (3 + i) j := by
  unfold adV
  rw [if_neg (by omega), if_neg (by omega)]
theorem adV_1 (ad : Ad) {nv a b k : Nat} (h : k < nv) : adV ad nv a b 1 k = ad 1 k := by
  unfold adV
  rw [if_neg (by omega), if_neg (by omega)]
theorem adV_2 (ad : Ad) {nv a b k : Nat} (h : k < nv) : adV ad nv a b 2 k = ad 2 k := by
  unfold adV
  rw [if_neg (by omega), if_neg (by omega)]
theorem adV_1s (ad : Ad) (nv a b : Nat) : adV ad nv a b 1 nv = a := by simp [adV]
theorem adV_2s (ad : Ad) (nv a b : Nat) : adV ad nv a b 2 nv = b := by simp [adV]
theorem adS_lt (ad : Ad) {ns i j : Nat} {q : Nat → Nat} (h : i < 3 + ns) : adS ad ns q i j = ad i j := by
  unfold adS
  rw [if_neg (by omega)]
theorem adS_s (ad : Ad) (ns : Nat) (q : Nat → Nat) : adS ad ns q (3 + ns) = q := by
  funext j
  simp [adS]
section RC
variable {h u : FH} {Kq xa : Nat} {ad : Ad} {no nv ns : Nat} {V : Nat → St} {S : Nat → Ses} {LK : List Ar} {RL : List (Nat × Nat × Int64)} {J : Nat} {C : CL} {M : Nat → Int32}
theorem RepC.num (hp : RepC Kq h xa ad no nv ns V S LK RL J C M) (no' : Nat) (eu : u = fh_up h xa (oX ad no' nv ns RL.length)) : RepC Kq u xa ad no' nv ns V S LK RL J C M := by
  obtain ⟨hX, hV, hS, hL, hR, hC, hM, hI⟩ := hp
  have hk : kp [18] h u := by rw [eu]; exact kp.rf.up hX rfl
  exact ⟨by rw [eu]; exact fh_up_self _ _ _, hV.kpt hk rfl, hS.kpt hk rfl, hL.kpt hk rfl, hR.kpt hk rfl, hC.kpt hk rfl, hM.kpt hk rfl, hI⟩
theorem RepC.addV (hp : RepC Kq h xa ad no nv ns V S LK RL J C M) {a b : Nat} {T : St} {fv : Nat → Option Nat} (hv1 : h (ad 0 0) = some (aQ 7 40 fv)) (hv2 : ∀ k, k < nv → fv k = some (ad 1 k)) (hT : pSt h a b T) (hb : ∀ i, i < ns → ∀ j, j < 7 → ad (3 + i) j ≠ b) (hbs : ∀ i, i < ns → (S i).1 < nv) (eu : u = fh_up (fh_up h (ad 0 0) (aQ 7 40 (va_up fv nv (some a)))) xa (oXh ad a no (nv + 1) ns RL.length)) : RepC Kq u xa (adV ad nv a b) no (nv + 1) ns (upN V nv T) S LK RL J C M := by
  obtain ⟨hX, hV, hS, hL, hR, hC, hM, hI⟩ := hp
  have hk : kp [15, 18] h u := by rw [eu]; exact (kp.rf.up hv1 rfl).up hX rfl
  have k0 : u (ad 0 0) = some (aQ 7 40 (va_up fv nv (some a))) := by rw [eu, fh_up_ne _ _ (fh_ne hv1 hX rfl)]; exact fh_up_self _ _ _
  have kx : u xa = some (oXh ad a no (nv + 1) ns RL.length) := by rw [eu]; exact fh_up_self _ _ _
  refine ⟨?_, ⟨⟨_, by rw [adV_0]; exact k0, fun k hk9 => ?_⟩, fun k hk9 => ?_⟩, ?_, ?_, ?_, ?_, ?_, ?_⟩
  · rw [kx]
    simp only [oX, oXh, adV_0, Nat.add_sub_cancel, adV_1s]
  · by_cases q : k = nv
    · subst q; rw [adV_1s]; simp [va_up]
    · rw [adV_1 _ (by omega), show va_up fv nv (some a) k = fv k by simp [va_up, q]]; exact hv2 k (by omega)
  · by_cases q : k = nv
    · subst q; rw [adV_1s, adV_2s, upN_s]; exact pSt_kp hk rfl hT
    · rw [adV_1 _ (by omega), adV_2 _ (by omega), upN_n _ _ q]; exact pSt_kp hk rfl (hV.2 k (by omega))
  · obtain ⟨⟨fs, h1, h2⟩, h3⟩ := hS.kpt hk rfl
    refine ⟨⟨fs, by rw [adV_0]; exact h1, fun i hi => by rw [adV_3]; exact h2 i hi⟩, fun i hi => ?_⟩
    rw [adV_1 _ (hbs i hi), show adV ad nv a b (3 + i) = ad (3 + i) by funext j; exact adV_3 ad nv a b i j]
    exact h3 i hi
  · obtain ⟨fa, ar, h1, h2, h3⟩ := hL.kpt hk rfl
    exact ⟨fa, ar, by rw [adV_0, adV_0]; exact h1, by rw [adV_0]; exact h2, h3⟩
  · obtain ⟨fr, h1, h2⟩ := hR.kpt hk rfl
    exact ⟨fr, by rw [adV_0]; exact h1, h2⟩
  · obtain ⟨ow, fc, h1, h2, h3, h4⟩ := hC.kpt hk rfl
    exact ⟨ow, fc, by rw [adV_0, adV_0]; exact h1, by rw [adV_0]; exact h2, h3, by rw [adV_3]; exact h4⟩
  · obtain ⟨fm, h1, h2⟩ := hM.kpt hk rfl
    exact ⟨fm, by rw [adV_0]; exact h1, h2⟩
  · refine ⟨fun i j hi hj hn k k' hk hk' => by rw [adV_3, adV_3]; exact hI.1 i j hi hj hn k k' hk hk', fun i k j hi hk9 hj => ?_⟩
    rw [adV_3]
    by_cases q : k = nv
    · subst q; rw [adV_2s]; exact hb i hi j hj
    · rw [adV_2 _ (by omega)]; exact hI.2 i k j hi (by omega) hj
theorem RepC.addS (hp : RepC Kq h xa ad no nv ns V S LK RL J C M) {q : Nat → Nat} {sz : Nat} {s' : Ses} {fs : Nat → Option Nat} (hs1 : h (ad 0 1) = some (aQ 8 20 fs)) (hs2 : ∀ k, k < ns → fs k = some (ad (3 + k) 0)) (hlt : ∀ a e, h a = some e → a < sz) (hq : ∀ k, k < 7 → sz ≤ q k) (hJ : C ≠ [] → J < ns) (hsn : pSes Kq u ns (ad 1 s'.1) q s') (hk : kp [17, 18] h u) (k1 : u (ad 0 1) = some (aQ 8 20 (va_up fs ns (some (q 0))))) (kx : u xa = some (oX ad no nv (ns + 1) RL.length)) : RepC Kq u xa (adS ad ns q) no nv (ns + 1) V (upN S ns s') LK RL J C M := by
  obtain ⟨hX, hV, hS, hL, hR, hC, hM, hI⟩ := hp
  have l1 := hS.lt hlt
  have l2 := hV.lt hlt
  have e0 : ∀ j, adS ad ns q 0 j = ad 0 j := fun j => adS_lt ad (by omega)
  have e1 : ∀ j, adS ad ns q 1 j = ad 1 j := fun j => adS_lt ad (by omega)
  have e2 : ∀ j, adS ad ns q 2 j = ad 2 j := fun j => adS_lt ad (by omega)
  have e3 : ∀ i, i < ns → adS ad ns q (3 + i) = ad (3 + i) := fun i hi => by funext j; exact adS_lt ad (by omega)
  refine ⟨?_, ?_, ⟨⟨_, by rw [e0]; exact k1, fun i hi => ?_⟩, fun i hi => ?_⟩, ?_, ?_, ?_, ?_, ?_⟩
  · rw [kx]
    simp only [oX, e0, e1]
  · obtain ⟨⟨fv, h1, h2⟩, h3⟩ := hV.kpt hk rfl
    exact ⟨⟨fv, by rw [e0]; exact h1, fun k hk => by rw [e1]; exact h2 k hk⟩, fun k hk => by rw [e1, e2]; exact h3 k hk⟩
  · by_cases w : i = ns
    · subst w; rw [adS_s]; simp [va_up]
    · rw [e3 i (by omega), show va_up fs ns (some (q 0)) i = fs i by simp [va_up, w]]; exact hs2 i (by omega)
  · by_cases w : i = ns
    · subst w; rw [adS_s, upN_s, e1]; exact hsn
    · rw [e3 i (by omega), upN_n _ _ w, e1]
      exact (hS.2 i (by omega)).kp2 hk rfl (fun k hk9 => by
        obtain ⟨h1, ⟨h2, f2, h2b, -⟩, h3, nx, fo, fr, h4, h5, h6, -⟩ := hS.2 i (by omega)
        rcases (show k = 0 ∨ k = 1 ∨ k = 2 ∨ k = 3 ∨ k = 4 ∨ k = 5 ∨ k = 6 by omega) with rfl | rfl | rfl | rfl | rfl | rfl | rfl
        · exact (hk _ _ h1 rfl).trans h1.symm
        · exact (hk _ _ h2 rfl).trans h2.symm
        · exact (hk _ _ h2b rfl).trans h2b.symm
        · exact (hk _ _ h4 rfl).trans h4.symm
        · exact (hk _ _ h5 rfl).trans h5.symm
        · exact (hk _ _ h6 rfl).trans h6.symm
        · exact (hk _ _ h3 rfl).trans h3.symm)
  · obtain ⟨fa, ar, h1, h2, h3⟩ := hL.kpt hk rfl
    exact ⟨fa, ar, by rw [e0, e0]; exact h1, by rw [e0]; exact h2, h3⟩
  · obtain ⟨fr, h1, h2⟩ := hR.kpt hk rfl
    exact ⟨fr, by rw [e0]; exact h1, h2⟩
  · obtain ⟨ow, fc, h1, h2, h3, h4⟩ := hC.kpt hk rfl
    exact ⟨ow, fc, by rw [e0, e0]; exact h1, by rw [e0]; exact h2, h3, fun hc => by rw [e3 J (hJ hc)]; exact h4 hc⟩
  · obtain ⟨fm, h1, h2⟩ := hM.kpt hk rfl
    exact ⟨fm, by rw [e0]; exact h1, h2⟩
  · refine ⟨fun i j hi hj hn k k' hk hk' => ?_, fun i k j hi hk9 hj => ?_⟩
    · by_cases w : i = ns
      · have hj2 : j < ns := by omega
        subst w; rw [adS_s, e3 j hj2]
        have := l1 j hj2 k' hk'; have := hq k hk; omega
      · have hi2 : i < ns := by omega
        rw [e3 i hi2]
        by_cases w2 : j = ns
        · subst w2; rw [adS_s]
          have := l1 i hi2 k hk; have := hq k' hk'; omega
        · rw [e3 j (by omega)]; exact hI.1 i j hi2 (by omega) hn k k' hk hk'
    · rw [e2]
      by_cases w : i = ns
      · subst w; rw [adS_s]
        have := (l2 k hk9).2; have := hq j hj; omega
      · rw [e3 i (by omega)]; exact hI.2 i k j (by omega) hk9 hj
end RC
