/-! THE REFERENCE: one object, twenty arrays, each of a role of its own -/
abbrev oM (b : Nat → Nat) (th : Int32) (no nv ns J nc nl nr : Nat) : fe := .inr (10, [.int th, .int (nI no), .ref (b 12), .int (nI nv), .ref (b 13), .ref (b 14), .int (nI ns), .ref (b 15), .ref (b 16), .ref (b 17), .ref (b 18), .ref (b 19), .ref (b 20), .ref (b 21), .ref (b 22), .ref (b 23), .ref (b 24), .int (nI J), .int (nI nc), .ref (b 25), .int (nI nl), .ref (b 26), .ref (b 27), .int (nI nr), .ref (b 28), .ref (b 29), .ref (b 30), .ref (b 31)])
abbrev kM : List Nat := [20, 25, 27, 29, 31, 33, 35, 37, 39, 41, 43, 45, 47, 49, 51, 53, 55, 57, 59, 61, 63]
def MG (A : Nat → Prop) (h0 h : FH) (ma : Nat) (b : Nat → Nat) (th : Int32) (no nv ns J nc nl nr : Nat) (fK : Nat → Int32) (fH : Nat → Int32) (fF : Nat → Int64) (fB : Nat → Int32) (fO : Nat → Int32) (fW : Nat → Int32) (fV : Nat → Int64) (fN : Nat → Int32) (cO : Nat → Int32) (cF : Nat → Int32) (cH : Nat → Int32) (cV : Nat → Int64) (fS : Nat → Int32) (fC : Nat → Int32) (lO : Nat → Int32) (lA : Nat → Int64) (rA : Nat → Int32) (rB : Nat → Int32) (rD : Nat → Int64) (fM : Nat → Int32) : Prop := kp kM h0 h ∧ fh_A A h ∧ h ma = some (oM b th no nv ns J nc nl nr) ∧ h (b 12) = some (aI 12 60 fK) ∧ h (b 13) = some (aI 13 2400 fH) ∧ h (b 14) = some (aL 14 14400 fF) ∧ h (b 15) = some (aI 15 20 fB) ∧ h (b 16) = some (aI 16 20 fO) ∧ h (b 17) = some (aI 17 1200 fW) ∧ h (b 18) = some (aL 18 7200 fV) ∧ h (b 19) = some (aI 19 20 fN) ∧ h (b 20) = some (aI 20 800 cO) ∧ h (b 21) = some (aI 21 800 cF) ∧ h (b 22) = some (aI 22 800 cH) ∧ h (b 23) = some (aL 23 800 cV) ∧ h (b 24) = some (aI 24 8400 fS) ∧ h (b 25) = some (aI 25 420 fC) ∧ h (b 26) = some (aI 26 10 lO) ∧ h (b 27) = some (aL 27 40 lA) ∧ h (b 28) = some (aI 28 20 rA) ∧ h (b 29) = some (aI 29 20 rB) ∧ h (b 30) = some (aL 30 20 rD) ∧ h (b 31) = some (aI 31 60 fM)
theorem kp.up2 {D : List Nat} {h u : FH} {w : Nat} {e0 e' : fe} (hk : kp D h u) (hw : u w = some e0) (hD : D.contains (fe_kd e0) = true) : kp D h (fh_up u w e') := fun a e ha hd => by
  have h1 := hk a e ha hd
  rw [fh_up_ne u e' (fun q => by subst q; rw [h1] at hw; cases hw; rw [hD] at hd; cases hd)]
  exact h1
section MG0
variable {A : Nat → Prop} {h0 h u : FH} {ma : Nat} {b : Nat → Nat} {th : Int32} {no nv ns J nc nl nr : Nat} {fK : Nat → Int32} {fH : Nat → Int32} {fF : Nat → Int64} {fB : Nat → Int32} {fO : Nat → Int32} {fW : Nat → Int32} {fV : Nat → Int64} {fN : Nat → Int32} {cO : Nat → Int32} {cF : Nat → Int32} {cH : Nat → Int32} {cV : Nat → Int64} {fS : Nat → Int32} {fC : Nat → Int32} {lO : Nat → Int32} {lA : Nat → Int64} {rA : Nat → Int32} {rB : Nat → Int32} {rD : Nat → Int64} {fM : Nat → Int32}
theorem MG.kept (hM : MG A h0 h ma b th no nv ns J nc nl nr fK fH fF fB fO fW fV fN cO cF cH cV fS fC lO lA rA rB rD fM) : kp kM h0 h := hM.1
theorem MG.fa (hM : MG A h0 h ma b th no nv ns J nc nl nr fK fH fF fB fO fW fV fN cO cF cH cV fS fC lO lA rA rB rD fM) : fh_A A h := hM.2.1
theorem MG.m (hM : MG A h0 h ma b th no nv ns J nc nl nr fK fH fF fB fO fW fV fN cO cF cH cV fS fC lO lA rA rB rD fM) : h ma = some (oM b th no nv ns J nc nl nr) := hM.2.2.1
theorem MG.a12 (hM : MG A h0 h ma b th no nv ns J nc nl nr fK fH fF fB fO fW fV fN cO cF cH cV fS fC lO lA rA rB rD fM) : h (b 12) = some (aI 12 60 fK) := hM.2.2.2.1
theorem MG.A12 (hM : MG A h0 h ma b th no nv ns J nc nl nr fK fH fF fB fO fW fV fN cO cF cH cV fS fC lO lA rA rB rD fM) : A (b 12) := hM.fa _ _ hM.a12
theorem MG.a13 (hM : MG A h0 h ma b th no nv ns J nc nl nr fK fH fF fB fO fW fV fN cO cF cH cV fS fC lO lA rA rB rD fM) : h (b 13) = some (aI 13 2400 fH) := hM.2.2.2.2.1
theorem MG.A13 (hM : MG A h0 h ma b th no nv ns J nc nl nr fK fH fF fB fO fW fV fN cO cF cH cV fS fC lO lA rA rB rD fM) : A (b 13) := hM.fa _ _ hM.a13
theorem MG.a14 (hM : MG A h0 h ma b th no nv ns J nc nl nr fK fH fF fB fO fW fV fN cO cF cH cV fS fC lO lA rA rB rD fM) : h (b 14) = some (aL 14 14400 fF) := hM.2.2.2.2.2.1
theorem MG.A14 (hM : MG A h0 h ma b th no nv ns J nc nl nr fK fH fF fB fO fW fV fN cO cF cH cV fS fC lO lA rA rB rD fM) : A (b 14) := hM.fa _ _ hM.a14
theorem MG.a15 (hM : MG A h0 h ma b th no nv ns J nc nl nr fK fH fF fB fO fW fV fN cO cF cH cV fS fC lO lA rA rB rD fM) : h (b 15) = some (aI 15 20 fB) := hM.2.2.2.2.2.2.1
theorem MG.A15 (hM : MG A h0 h ma b th no nv ns J nc nl nr fK fH fF fB fO fW fV fN cO cF cH cV fS fC lO lA rA rB rD fM) : A (b 15) := hM.fa _ _ hM.a15
theorem MG.a16 (hM : MG A h0 h ma b th no nv ns J nc nl nr fK fH fF fB fO fW fV fN cO cF cH cV fS fC lO lA rA rB rD fM) : h (b 16) = some (aI 16 20 fO) := hM.2.2.2.2.2.2.2.1
theorem MG.A16 (hM : MG A h0 h ma b th no nv ns J nc nl nr fK fH fF fB fO fW fV fN cO cF cH cV fS fC lO lA rA rB rD fM) : A (b 16) := hM.fa _ _ hM.a16
theorem MG.a17 (hM : MG A h0 h ma b th no nv ns J nc nl nr fK fH fF fB fO fW fV fN cO cF cH cV fS fC lO lA rA rB rD fM) : h (b 17) = some (aI 17 1200 fW) := hM.2.2.2.2.2.2.2.2.1
theorem MG.A17 (hM : MG A h0 h ma b th no nv ns J nc nl nr fK fH fF fB fO fW fV fN cO cF cH cV fS fC lO lA rA rB rD fM) : A (b 17) := hM.fa _ _ hM.a17
theorem MG.a18 (hM : MG A h0 h ma b th no nv ns J nc nl nr fK fH fF fB fO fW fV fN cO cF cH cV fS fC lO lA rA rB rD fM) : h (b 18) = some (aL 18 7200 fV) := hM.2.2.2.2.2.2.2.2.2.1
theorem MG.A18 (hM : MG A h0 h ma b th no nv ns J nc nl nr fK fH fF fB fO fW fV fN cO cF cH cV fS fC lO lA rA rB rD fM) : A (b 18) := hM.fa _ _ hM.a18
theorem MG.a19 (hM : MG A h0 h ma b th no nv ns J nc nl nr fK fH fF fB fO fW fV fN cO cF cH cV fS fC lO lA rA rB rD fM) : h (b 19) = some (aI 19 20 fN) := hM.2.2.2.2.2.2.2.2.2.2.1
theorem MG.A19 (hM : MG A h0 h ma b th no nv ns J nc nl nr fK fH fF fB fO fW fV fN cO cF cH cV fS fC lO lA rA rB rD fM) : A (b 19) := hM.fa _ _ hM.a19
theorem MG.a20 (hM : MG A h0 h ma b th no nv ns J nc nl nr fK fH fF fB fO fW fV fN cO cF cH cV fS fC lO lA rA rB rD fM) : h (b 20) = some (aI 20 800 cO) := hM.2.2.2.2.2.2.2.2.2.2.2.1
theorem MG.A20 (hM : MG A h0 h ma b th no nv ns J nc nl nr fK fH fF fB fO fW fV fN cO cF cH cV fS fC lO lA rA rB rD fM) : A (b 20) := hM.fa _ _ hM.a20
theorem MG.a21 (hM : MG A h0 h ma b th no nv ns J nc nl nr fK fH fF fB fO fW fV fN cO cF cH cV fS fC lO lA rA rB rD fM) : h (b 21) = some (aI 21 800 cF) := hM.2.2.2.2.2.2.2.2.2.2.2.2.1
theorem MG.A21 (hM : MG A h0 h ma b th no nv ns J nc nl nr fK fH fF fB fO fW fV fN cO cF cH cV fS fC lO lA rA rB rD fM) : A (b 21) := hM.fa _ _ hM.a21
theorem MG.a22 (hM : MG A h0 h ma b th no nv ns J nc nl nr fK fH fF fB fO fW fV fN cO cF cH cV fS fC lO lA rA rB rD fM) : h (b 22) = some (aI 22 800 cH) := hM.2.2.2.2.2.2.2.2.2.2.2.2.2.1
theorem MG.A22 (hM : MG A h0 h ma b th no nv ns J nc nl nr fK fH fF fB fO fW fV fN cO cF cH cV fS fC lO lA rA rB rD fM) : A (b 22) := hM.fa _ _ hM.a22
theorem MG.a23 (hM : MG A h0 h ma b th no nv ns J nc nl nr fK fH fF fB fO fW fV fN cO cF cH cV fS fC lO lA rA rB rD fM) : h (b 23) = some (aL 23 800 cV) := hM.2.2.2.2.2.2.2.2.2.2.2.2.2.2.1
theorem MG.A23 (hM : MG A h0 h ma b th no nv ns J nc nl nr fK fH fF fB fO fW fV fN cO cF cH cV fS fC lO lA rA rB rD fM) : A (b 23) := hM.fa _ _ hM.a23
theorem MG.a24 (hM : MG A h0 h ma b th no nv ns J nc nl nr fK fH fF fB fO fW fV fN cO cF cH cV fS fC lO lA rA rB rD fM) : h (b 24) = some (aI 24 8400 fS) := hM.2.2.2.2.2.2.2.2.2.2.2.2.2.2.2.1
theorem MG.A24 (hM : MG A h0 h ma b th no nv ns J nc nl nr fK fH fF fB fO fW fV fN cO cF cH cV fS fC lO lA rA rB rD fM) : A (b 24) := hM.fa _ _ hM.a24
theorem MG.a25 (hM : MG A h0 h ma b th no nv ns J nc nl nr fK fH fF fB fO fW fV fN cO cF cH cV fS fC lO lA rA rB rD fM) : h (b 25) = some (aI 25 420 fC) := hM.2.2.2.2.2.2.2.2.2.2.2.2.2.2.2.2.1
theorem MG.A25 (hM : MG A h0 h ma b th no nv ns J nc nl nr fK fH fF fB fO fW fV fN cO cF cH cV fS fC lO lA rA rB rD fM) : A (b 25) := hM.fa _ _ hM.a25
theorem MG.a26 (hM : MG A h0 h ma b th no nv ns J nc nl nr fK fH fF fB fO fW fV fN cO cF cH cV fS fC lO lA rA rB rD fM) : h (b 26) = some (aI 26 10 lO) := hM.2.2.2.2.2.2.2.2.2.2.2.2.2.2.2.2.2.1
theorem MG.A26 (hM : MG A h0 h ma b th no nv ns J nc nl nr fK fH fF fB fO fW fV fN cO cF cH cV fS fC lO lA rA rB rD fM) : A (b 26) := hM.fa _ _ hM.a26
theorem MG.a27 (hM : MG A h0 h ma b th no nv ns J nc nl nr fK fH fF fB fO fW fV fN cO cF cH cV fS fC lO lA rA rB rD fM) : h (b 27) = some (aL 27 40 lA) := hM.2.2.2.2.2.2.2.2.2.2.2.2.2.2.2.2.2.2.1
theorem MG.A27 (hM : MG A h0 h ma b th no nv ns J nc nl nr fK fH fF fB fO fW fV fN cO cF cH cV fS fC lO lA rA rB rD fM) : A (b 27) := hM.fa _ _ hM.a27
theorem MG.a28 (hM : MG A h0 h ma b th no nv ns J nc nl nr fK fH fF fB fO fW fV fN cO cF cH cV fS fC lO lA rA rB rD fM) : h (b 28) = some (aI 28 20 rA) := hM.2.2.2.2.2.2.2.2.2.2.2.2.2.2.2.2.2.2.2.1
theorem MG.A28 (hM : MG A h0 h ma b th no nv ns J nc nl nr fK fH fF fB fO fW fV fN cO cF cH cV fS fC lO lA rA rB rD fM) : A (b 28) := hM.fa _ _ hM.a28
theorem MG.a29 (hM : MG A h0 h ma b th no nv ns J nc nl nr fK fH fF fB fO fW fV fN cO cF cH cV fS fC lO lA rA rB rD fM) : h (b 29) = some (aI 29 20 rB) := hM.2.2.2.2.2.2.2.2.2.2.2.2.2.2.2.2.2.2.2.2.1
theorem MG.A29 (hM : MG A h0 h ma b th no nv ns J nc nl nr fK fH fF fB fO fW fV fN cO cF cH cV fS fC lO lA rA rB rD fM) : A (b 29) := hM.fa _ _ hM.a29
theorem MG.a30 (hM : MG A h0 h ma b th no nv ns J nc nl nr fK fH fF fB fO fW fV fN cO cF cH cV fS fC lO lA rA rB rD fM) : h (b 30) = some (aL 30 20 rD) := hM.2.2.2.2.2.2.2.2.2.2.2.2.2.2.2.2.2.2.2.2.2.1
theorem MG.A30 (hM : MG A h0 h ma b th no nv ns J nc nl nr fK fH fF fB fO fW fV fN cO cF cH cV fS fC lO lA rA rB rD fM) : A (b 30) := hM.fa _ _ hM.a30
theorem MG.a31 (hM : MG A h0 h ma b th no nv ns J nc nl nr fK fH fF fB fO fW fV fN cO cF cH cV fS fC lO lA rA rB rD fM) : h (b 31) = some (aI 31 60 fM) := hM.2.2.2.2.2.2.2.2.2.2.2.2.2.2.2.2.2.2.2.2.2.2
theorem MG.A31 (hM : MG A h0 h ma b th no nv ns J nc nl nr fK fH fF fB fO fW fV fN cO cF cH cV fS fC lO lA rA rB rD fM) : A (b 31) := hM.fa _ _ hM.a31
theorem MG.A0 (hM : MG A h0 h ma b th no nv ns J nc nl nr fK fH fF fB fO fW fV fN cO cF cH cV fS fC lO lA rA rB rD fM) : A ma := hM.fa _ _ hM.m
theorem MG.re (hM : MG A h0 h ma b th no nv ns J nc nl nr fK fH fF fB fO fW fV fN cO cF cH cV fS fC lO lA rA rB rD fM) : MG A h h ma b th no nv ns J nc nl nr fK fH fF fB fO fW fV fN cO cF cH cV fS fC lO lA rA rB rD fM := ⟨kp.rf, hM.2⟩
theorem MG.tr  (hM : kp kM h0 h) (hN : MG A h u ma b th no nv ns J nc nl nr fK fH fF fB fO fW fV fN cO cF cH cV fS fC lO lA rA rB rD fM) : MG A h0 u ma b th no nv ns J nc nl nr fK fH fF fB fO fW fV fN cO cF cH cV fS fC lO lA rA rB rD fM := ⟨hM.trans hN.1, hN.2⟩
theorem MG.sc (hM : MG A h0 h ma b th no nv ns J nc nl nr fK fH fF fB fO fW fV fN cO cF cH cV fS fC lO lA rA rB rD fM) {th2 : Int32} {no2 nv2 ns2 J2 nc2 nl2 nr2 : Nat} (eu : u = fh_up h ma (oM b th2 no2 nv2 ns2 J2 nc2 nl2 nr2)) : MG A h0 u ma b th2 no2 nv2 ns2 J2 nc2 nl2 nr2 fK fH fF fB fO fW fV fN cO cF cH cV fS fC lO lA rA rB rD fM := by
  refine ⟨by rw [eu]; exact hM.1.up2 hM.m rfl, by rw [eu]; exact hM.fa.up hM.A0, by rw [eu]; exact fh_up_self _ _ _, ?_, ?_, ?_, ?_, ?_, ?_, ?_, ?_, ?_, ?_, ?_, ?_, ?_, ?_, ?_, ?_, ?_, ?_, ?_, ?_⟩
  · rw [eu]; exact fh_keep hM.m hM.a12 rfl
  · rw [eu]; exact fh_keep hM.m hM.a13 rfl
  · rw [eu]; exact fh_keep hM.m hM.a14 rfl
  · rw [eu]; exact fh_keep hM.m hM.a15 rfl
  · rw [eu]; exact fh_keep hM.m hM.a16 rfl
  · rw [eu]; exact fh_keep hM.m hM.a17 rfl
  · rw [eu]; exact fh_keep hM.m hM.a18 rfl
  · rw [eu]; exact fh_keep hM.m hM.a19 rfl
  · rw [eu]; exact fh_keep hM.m hM.a20 rfl
  · rw [eu]; exact fh_keep hM.m hM.a21 rfl
  · rw [eu]; exact fh_keep hM.m hM.a22 rfl
  · rw [eu]; exact fh_keep hM.m hM.a23 rfl
  · rw [eu]; exact fh_keep hM.m hM.a24 rfl
  · rw [eu]; exact fh_keep hM.m hM.a25 rfl
  · rw [eu]; exact fh_keep hM.m hM.a26 rfl
  · rw [eu]; exact fh_keep hM.m hM.a27 rfl
  · rw [eu]; exact fh_keep hM.m hM.a28 rfl
  · rw [eu]; exact fh_keep hM.m hM.a29 rfl
  · rw [eu]; exact fh_keep hM.m hM.a30 rfl
  · rw [eu]; exact fh_keep hM.m hM.a31 rfl
theorem MG.w12 (hM : MG A h0 h ma b th no nv ns J nc nl nr fK fH fF fB fO fW fV fN cO cF cH cV fS fC lO lA rA rB rD fM) {f2 : Nat → Int32} (eu : u = fh_up h (b 12) (aI 12 60 f2)) : MG A h0 u ma b th no nv ns J nc nl nr f2 fH fF fB fO fW fV fN cO cF cH cV fS fC lO lA rA rB rD fM := by
  refine ⟨by rw [eu]; exact hM.1.up2 hM.a12 rfl, by rw [eu]; exact hM.fa.up hM.A12, by rw [eu]; exact fh_keep hM.a12 hM.m rfl, ?_, ?_, ?_, ?_, ?_, ?_, ?_, ?_, ?_, ?_, ?_, ?_, ?_, ?_, ?_, ?_, ?_, ?_, ?_, ?_⟩
  · rw [eu]; exact fh_up_self _ _ _
  · rw [eu]; exact fh_keep hM.a12 hM.a13 rfl
  · rw [eu]; exact fh_keep hM.a12 hM.a14 rfl
  · rw [eu]; exact fh_keep hM.a12 hM.a15 rfl
  · rw [eu]; exact fh_keep hM.a12 hM.a16 rfl
  · rw [eu]; exact fh_keep hM.a12 hM.a17 rfl
  · rw [eu]; exact fh_keep hM.a12 hM.a18 rfl
  · rw [eu]; exact fh_keep hM.a12 hM.a19 rfl
  · rw [eu]; exact fh_keep hM.a12 hM.a20 rfl
  · rw [eu]; exact fh_keep hM.a12 hM.a21 rfl
  · rw [eu]; exact fh_keep hM.a12 hM.a22 rfl
  · rw [eu]; exact fh_keep hM.a12 hM.a23 rfl
  · rw [eu]; exact fh_keep hM.a12 hM.a24 rfl
  · rw [eu]; exact fh_keep hM.a12 hM.a25 rfl
  · rw [eu]; exact fh_keep hM.a12 hM.a26 rfl
  · rw [eu]; exact fh_keep hM.a12 hM.a27 rfl
  · rw [eu]; exact fh_keep hM.a12 hM.a28 rfl
  · rw [eu]; exact fh_keep hM.a12 hM.a29 rfl
  · rw [eu]; exact fh_keep hM.a12 hM.a30 rfl
  · rw [eu]; exact fh_keep hM.a12 hM.a31 rfl
theorem MG.w13 (hM : MG A h0 h ma b th no nv ns J nc nl nr fK fH fF fB fO fW fV fN cO cF cH cV fS fC lO lA rA rB rD fM) {f2 : Nat → Int32} (eu : u = fh_up h (b 13) (aI 13 2400 f2)) : MG A h0 u ma b th no nv ns J nc nl nr fK f2 fF fB fO fW fV fN cO cF cH cV fS fC lO lA rA rB rD fM := by
  refine ⟨by rw [eu]; exact hM.1.up2 hM.a13 rfl, by rw [eu]; exact hM.fa.up hM.A13, by rw [eu]; exact fh_keep hM.a13 hM.m rfl, ?_, ?_, ?_, ?_, ?_, ?_, ?_, ?_, ?_, ?_, ?_, ?_, ?_, ?_, ?_, ?_, ?_, ?_, ?_, ?_⟩
  · rw [eu]; exact fh_keep hM.a13 hM.a12 rfl
  · rw [eu]; exact fh_up_self _ _ _
  · rw [eu]; exact fh_keep hM.a13 hM.a14 rfl
  · rw [eu]; exact fh_keep hM.a13 hM.a15 rfl
  · rw [eu]; exact fh_keep hM.a13 hM.a16 rfl
  · rw [eu]; exact fh_keep hM.a13 hM.a17 rfl
  · rw [eu]; exact fh_keep hM.a13 hM.a18 rfl
  · rw [eu]; exact fh_keep hM.a13 hM.a19 rfl
  · rw [eu]; exact fh_keep hM.a13 hM.a20 rfl
  · rw [eu]; exact fh_keep hM.a13 hM.a21 rfl
  · rw [eu]; exact fh_keep hM.a13 hM.a22 rfl
  · rw [eu]; exact fh_keep hM.a13 hM.a23 rfl
  · rw [eu]; exact fh_keep hM.a13 hM.a24 rfl
  · rw [eu]; exact fh_keep hM.a13 hM.a25 rfl
  · rw [eu]; exact fh_keep hM.a13 hM.a26 rfl
  · rw [eu]; exact fh_keep hM.a13 hM.a27 rfl
  · rw [eu]; exact fh_keep hM.a13 hM.a28 rfl
  · rw [eu]; exact fh_keep hM.a13 hM.a29 rfl
  · rw [eu]; exact fh_keep hM.a13 hM.a30 rfl
  · rw [eu]; exact fh_keep hM.a13 hM.a31 rfl
theorem MG.w14 (hM : MG A h0 h ma b th no nv ns J nc nl nr fK fH fF fB fO fW fV fN cO cF cH cV fS fC lO lA rA rB rD fM) {f2 : Nat → Int64} (eu : u = fh_up h (b 14) (aL 14 14400 f2)) : MG A h0 u ma b th no nv ns J nc nl nr fK fH f2 fB fO fW fV fN cO cF cH cV fS fC lO lA rA rB rD fM := by
  refine ⟨by rw [eu]; exact hM.1.up2 hM.a14 rfl, by rw [eu]; exact hM.fa.up hM.A14, by rw [eu]; exact fh_keep hM.a14 hM.m rfl, ?_, ?_, ?_, ?_, ?_, ?_, ?_, ?_, ?_, ?_, ?_, ?_, ?_, ?_, ?_, ?_, ?_, ?_, ?_, ?_⟩
  · rw [eu]; exact fh_keep hM.a14 hM.a12 rfl
  · rw [eu]; exact fh_keep hM.a14 hM.a13 rfl
  · rw [eu]; exact fh_up_self _ _ _
  · rw [eu]; exact fh_keep hM.a14 hM.a15 rfl
  · rw [eu]; exact fh_keep hM.a14 hM.a16 rfl
  · rw [eu]; exact fh_keep hM.a14 hM.a17 rfl
  · rw [eu]; exact fh_keep hM.a14 hM.a18 rfl
  · rw [eu]; exact fh_keep hM.a14 hM.a19 rfl
  · rw [eu]; exact fh_keep hM.a14 hM.a20 rfl
  · rw [eu]; exact fh_keep hM.a14 hM.a21 rfl
  · rw [eu]; exact fh_keep hM.a14 hM.a22 rfl
  · rw [eu]; exact fh_keep hM.a14 hM.a23 rfl
  · rw [eu]; exact fh_keep hM.a14 hM.a24 rfl
  · rw [eu]; exact fh_keep hM.a14 hM.a25 rfl
  · rw [eu]; exact fh_keep hM.a14 hM.a26 rfl
  · rw [eu]; exact fh_keep hM.a14 hM.a27 rfl
  · rw [eu]; exact fh_keep hM.a14 hM.a28 rfl
  · rw [eu]; exact fh_keep hM.a14 hM.a29 rfl
  · rw [eu]; exact fh_keep hM.a14 hM.a30 rfl
  · rw [eu]; exact fh_keep hM.a14 hM.a31 rfl
theorem MG.w15 (hM : MG A h0 h ma b th no nv ns J nc nl nr fK fH fF fB fO fW fV fN cO cF cH cV fS fC lO lA rA rB rD fM) {f2 : Nat → Int32} (eu : u = fh_up h (b 15) (aI 15 20 f2)) : MG A h0 u ma b th no nv ns J nc nl nr fK fH fF f2 fO fW fV fN cO cF cH cV fS fC lO lA rA rB rD fM := by
  refine ⟨by rw [eu]; exact hM.1.up2 hM.a15 rfl, by rw [eu]; exact hM.fa.up hM.A15, by rw [eu]; exact fh_keep hM.a15 hM.m rfl, ?_, ?_, ?_, ?_, ?_, ?_, ?_, ?_, ?_, ?_, ?_, ?_, ?_, ?_, ?_, ?_, ?_, ?_, ?_, ?_⟩
  · rw [eu]; exact fh_keep hM.a15 hM.a12 rfl
  · rw [eu]; exact fh_keep hM.a15 hM.a13 rfl
  · rw [eu]; exact fh_keep hM.a15 hM.a14 rfl
  · rw [eu]; exact fh_up_self _ _ _
  · rw [eu]; exact fh_keep hM.a15 hM.a16 rfl
  · rw [eu]; exact fh_keep hM.a15 hM.a17 rfl
  · rw [eu]; exact fh_keep hM.a15 hM.a18 rfl
  · rw [eu]; exact fh_keep hM.a15 hM.a19 rfl
  · rw [eu]; exact fh_keep hM.a15 hM.a20 rfl
  · rw [eu]; exact fh_keep hM.a15 hM.a21 rfl
  · rw [eu]; exact fh_keep hM.a15 hM.a22 rfl
  · rw [eu]; exact fh_keep hM.a15 hM.a23 rfl
  · rw [eu]; exact fh_keep hM.a15 hM.a24 rfl
  · rw [eu]; exact fh_keep hM.a15 hM.a25 rfl
  · rw [eu]; exact fh_keep hM.a15 hM.a26 rfl
  · rw [eu]; exact fh_keep hM.a15 hM.a27 rfl
  · rw [eu]; exact fh_keep hM.a15 hM.a28 rfl
  · rw [eu]; exact fh_keep hM.a15 hM.a29 rfl
  · rw [eu]; exact fh_keep hM.a15 hM.a30 rfl
  · rw [eu]; exact fh_keep hM.a15 hM.a31 rfl
theorem MG.w16 (hM : MG A h0 h ma b th no nv ns J nc nl nr fK fH fF fB fO fW fV fN cO cF cH cV fS fC lO lA rA rB rD fM) {f2 : Nat → Int32} (eu : u = fh_up h (b 16) (aI 16 20 f2)) : MG A h0 u ma b th no nv ns J nc nl nr fK fH fF fB f2 fW fV fN cO cF cH cV fS fC lO lA rA rB rD fM := by
  refine ⟨by rw [eu]; exact hM.1.up2 hM.a16 rfl, by rw [eu]; exact hM.fa.up hM.A16, by rw [eu]; exact fh_keep hM.a16 hM.m rfl, ?_, ?_, ?_, ?_, ?_, ?_, ?_, ?_, ?_, ?_, ?_, ?_, ?_, ?_, ?_, ?_, ?_, ?_, ?_, ?_⟩
  · rw [eu]; exact fh_keep hM.a16 hM.a12 rfl
  · rw [eu]; exact fh_keep hM.a16 hM.a13 rfl
  · rw [eu]; exact fh_keep hM.a16 hM.a14 rfl
  · rw [eu]; exact fh_keep hM.a16 hM.a15 rfl
  · rw [eu]; exact fh_up_self _ _ _
  · rw [eu]; exact fh_keep hM.a16 hM.a17 rfl
  · rw [eu]; exact fh_keep hM.a16 hM.a18 rfl
  · rw [eu]; exact fh_keep hM.a16 hM.a19 rfl
  · rw [eu]; exact fh_keep hM.a16 hM.a20 rfl
  · rw [eu]; exact fh_keep hM.a16 hM.a21 rfl
  · rw [eu]; exact fh_keep hM.a16 hM.a22 rfl
  · rw [eu]; exact fh_keep hM.a16 hM.a23 rfl
  · rw [eu]; exact fh_keep hM.a16 hM.a24 rfl
  · rw [eu]; exact fh_keep hM.a16 hM.a25 rfl
  · rw [eu]; exact fh_keep hM.a16 hM.a26 rfl
  · rw [eu]; exact fh_keep hM.a16 hM.a27 rfl
  · rw [eu]; exact fh_keep hM.a16 hM.a28 rfl
  · rw [eu]; exact fh_keep hM.a16 hM.a29 rfl
  · rw [eu]; exact fh_keep hM.a16 hM.a30 rfl
  · rw [eu]; exact fh_keep hM.a16 hM.a31 rfl
theorem MG.w17 (hM : MG A h0 h ma b th no nv ns J nc nl nr fK fH fF fB fO fW fV fN cO cF cH cV fS fC lO lA rA rB rD fM) {f2 : Nat → Int32} (eu : u = fh_up h (b 17) (aI 17 1200 f2)) : MG A h0 u ma b th no nv ns J nc nl nr fK fH fF fB fO f2 fV fN cO cF cH cV fS fC lO lA rA rB rD fM := by
  refine ⟨by rw [eu]; exact hM.1.up2 hM.a17 rfl, by rw [eu]; exact hM.fa.up hM.A17, by rw [eu]; exact fh_keep hM.a17 hM.m rfl, ?_, ?_, ?_, ?_, ?_, ?_, ?_, ?_, ?_, ?_, ?_, ?_, ?_, ?_, ?_, ?_, ?_, ?_, ?_, ?_⟩
  · rw [eu]; exact fh_keep hM.a17 hM.a12 rfl
  · rw [eu]; exact fh_keep hM.a17 hM.a13 rfl
  · rw [eu]; exact fh_keep hM.a17 hM.a14 rfl
  · rw [eu]; exact fh_keep hM.a17 hM.a15 rfl
  · rw [eu]; exact fh_keep hM.a17 hM.a16 rfl
  · rw [eu]; exact fh_up_self _ _ _
  · rw [eu]; exact fh_keep hM.a17 hM.a18 rfl
  · rw [eu]; exact fh_keep hM.a17 hM.a19 rfl
  · rw [eu]; exact fh_keep hM.a17 hM.a20 rfl
  · rw [eu]; exact fh_keep hM.a17 hM.a21 rfl
  · rw [eu]; exact fh_keep hM.a17 hM.a22 rfl
  · rw [eu]; exact fh_keep hM.a17 hM.a23 rfl
  · rw [eu]; exact fh_keep hM.a17 hM.a24 rfl
  · rw [eu]; exact fh_keep hM.a17 hM.a25 rfl
  · rw [eu]; exact fh_keep hM.a17 hM.a26 rfl
  · rw [eu]; exact fh_keep hM.a17 hM.a27 rfl
  · rw [eu]; exact fh_keep hM.a17 hM.a28 rfl
  · rw [eu]; exact fh_keep hM.a17 hM.a29 rfl
  · rw [eu]; exact fh_keep hM.a17 hM.a30 rfl
  · rw [eu]; exact fh_keep hM.a17 hM.a31 rfl
theorem MG.w18 (hM : MG A h0 h ma b th no nv ns J nc nl nr fK fH fF fB fO fW fV fN cO cF cH cV fS fC lO lA rA rB rD fM) {f2 : Nat → Int64} (eu : u = fh_up h (b 18) (aL 18 7200 f2)) : MG A h0 u ma b th no nv ns J nc nl nr fK fH fF fB fO fW f2 fN cO cF cH cV fS fC lO lA rA rB rD fM := by
  refine ⟨by rw [eu]; exact hM.1.up2 hM.a18 rfl, by rw [eu]; exact hM.fa.up hM.A18, by rw [eu]; exact fh_keep hM.a18 hM.m rfl, ?_, ?_, ?_, ?_, ?_, ?_, ?_, ?_, ?_, ?_, ?_, ?_, ?_, ?_, ?_, ?_, ?_, ?_, ?_, ?_⟩
  · rw [eu]; exact fh_keep hM.a18 hM.a12 rfl
  · rw [eu]; exact fh_keep hM.a18 hM.a13 rfl
  · rw [eu]; exact fh_keep hM.a18 hM.a14 rfl
  · rw [eu]; exact fh_keep hM.a18 hM.a15 rfl
  · rw [eu]; exact fh_keep hM.a18 hM.a16 rfl
  · rw [eu]; exact fh_keep hM.a18 hM.a17 rfl
  · rw [eu]; exact fh_up_self _ _ _
  · rw [eu]; exact fh_keep hM.a18 hM.a19 rfl
  · rw [eu]; exact fh_keep hM.a18 hM.a20 rfl
  · rw [eu]; exact fh_keep hM.a18 hM.a21 rfl
  · rw [eu]; exact fh_keep hM.a18 hM.a22 rfl
  · rw [eu]; exact fh_keep hM.a18 hM.a23 rfl
  · rw [eu]; exact fh_keep hM.a18 hM.a24 rfl
  · rw [eu]; exact fh_keep hM.a18 hM.a25 rfl
  · rw [eu]; exact fh_keep hM.a18 hM.a26 rfl
  · rw [eu]; exact fh_keep hM.a18 hM.a27 rfl
  · rw [eu]; exact fh_keep hM.a18 hM.a28 rfl
  · rw [eu]; exact fh_keep hM.a18 hM.a29 rfl
  · rw [eu]; exact fh_keep hM.a18 hM.a30 rfl
  · rw [eu]; exact fh_keep hM.a18 hM.a31 rfl
theorem MG.w19 (hM : MG A h0 h ma b th no nv ns J nc nl nr fK fH fF fB fO fW fV fN cO cF cH cV fS fC lO lA rA rB rD fM) {f2 : Nat → Int32} (eu : u = fh_up h (b 19) (aI 19 20 f2)) : MG A h0 u ma b th no nv ns J nc nl nr fK fH fF fB fO fW fV f2 cO cF cH cV fS fC lO lA rA rB rD fM := by
  refine ⟨by rw [eu]; exact hM.1.up2 hM.a19 rfl, by rw [eu]; exact hM.fa.up hM.A19, by rw [eu]; exact fh_keep hM.a19 hM.m rfl, ?_, ?_, ?_, ?_, ?_, ?_, ?_, ?_, ?_, ?_, ?_, ?_, ?_, ?_, ?_, ?_, ?_, ?_, ?_, ?_⟩
  · rw [eu]; exact fh_keep hM.a19 hM.a12 rfl
  · rw [eu]; exact fh_keep hM.a19 hM.a13 rfl
  · rw [eu]; exact fh_keep hM.a19 hM.a14 rfl
  · rw [eu]; exact fh_keep hM.a19 hM.a15 rfl
  · rw [eu]; exact fh_keep hM.a19 hM.a16 rfl
  · rw [eu]; exact fh_keep hM.a19 hM.a17 rfl
  · rw [eu]; exact fh_keep hM.a19 hM.a18 rfl
  · rw [eu]; exact fh_up_self _ _ _
  · rw [eu]; exact fh_keep hM.a19 hM.a20 rfl
  · rw [eu]; exact fh_keep hM.a19 hM.a21 rfl
  · rw [eu]; exact fh_keep hM.a19 hM.a22 rfl
  · rw [eu]; exact fh_keep hM.a19 hM.a23 rfl
  · rw [eu]; exact fh_keep hM.a19 hM.a24 rfl
  · rw [eu]; exact fh_keep hM.a19 hM.a25 rfl
  · rw [eu]; exact fh_keep hM.a19 hM.a26 rfl
  · rw [eu]; exact fh_keep hM.a19 hM.a27 rfl
  · rw [eu]; exact fh_keep hM.a19 hM.a28 rfl
  · rw [eu]; exact fh_keep hM.a19 hM.a29 rfl
  · rw [eu]; exact fh_keep hM.a19 hM.a30 rfl
  · rw [eu]; exact fh_keep hM.a19 hM.a31 rfl
theorem MG.w20 (hM : MG A h0 h ma b th no nv ns J nc nl nr fK fH fF fB fO fW fV fN cO cF cH cV fS fC lO lA rA rB rD fM) {f2 : Nat → Int32} (eu : u = fh_up h (b 20) (aI 20 800 f2)) : MG A h0 u ma b th no nv ns J nc nl nr fK fH fF fB fO fW fV fN f2 cF cH cV fS fC lO lA rA rB rD fM := by
  refine ⟨by rw [eu]; exact hM.1.up2 hM.a20 rfl, by rw [eu]; exact hM.fa.up hM.A20, by rw [eu]; exact fh_keep hM.a20 hM.m rfl, ?_, ?_, ?_, ?_, ?_, ?_, ?_, ?_, ?_, ?_, ?_, ?_, ?_, ?_, ?_, ?_, ?_, ?_, ?_, ?_⟩
  · rw [eu]; exact fh_keep hM.a20 hM.a12 rfl
  · rw [eu]; exact fh_keep hM.a20 hM.a13 rfl
  · rw [eu]; exact fh_keep hM.a20 hM.a14 rfl
  · rw [eu]; exact fh_keep hM.a20 hM.a15 rfl
  · rw [eu]; exact fh_keep hM.a20 hM.a16 rfl
  · rw [eu]; exact fh_keep hM.a20 hM.a17 rfl
  · rw [eu]; exact fh_keep hM.a20 hM.a18 rfl
  · rw [eu]; exact fh_keep hM.a20 hM.a19 rfl
  · rw [eu]; exact fh_up_self _ _ _
  · rw [eu]; exact fh_keep hM.a20 hM.a21 rfl
  · rw [eu]; exact fh_keep hM.a20 hM.a22 rfl
  · rw [eu]; exact fh_keep hM.a20 hM.a23 rfl
  · rw [eu]; exact fh_keep hM.a20 hM.a24 rfl
  · rw [eu]; exact fh_keep hM.a20 hM.a25 rfl
  · rw [eu]; exact fh_keep hM.a20 hM.a26 rfl
  · rw [eu]; exact fh_keep hM.a20 hM.a27 rfl
  · rw [eu]; exact fh_keep hM.a20 hM.a28 rfl
  · rw [eu]; exact fh_keep hM.a20 hM.a29 rfl
  · rw [eu]; exact fh_keep hM.a20 hM.a30 rfl
  · rw [eu]; exact fh_keep hM.a20 hM.a31 rfl
theorem MG.w21 (hM : MG A h0 h ma b th no nv ns J nc nl nr fK fH fF fB fO fW fV fN cO cF cH cV fS fC lO lA rA rB rD fM) {f2 : Nat → Int32} (eu : u = fh_up h (b 21) (aI 21 800 f2)) : MG A h0 u ma b th no nv ns J nc nl nr fK fH fF fB fO fW fV fN cO f2 cH cV fS fC lO lA rA rB rD fM := by
  refine ⟨by rw [eu]; exact hM.1.up2 hM.a21 rfl, by rw [eu]; exact hM.fa.up hM.A21, by rw [eu]; exact fh_keep hM.a21 hM.m rfl, ?_, ?_, ?_, ?_, ?_, ?_, ?_, ?_, ?_, ?_, ?_, ?_, ?_, ?_, ?_, ?_, ?_, ?_, ?_, ?_⟩
  · rw [eu]; exact fh_keep hM.a21 hM.a12 rfl
  · rw [eu]; exact fh_keep hM.a21 hM.a13 rfl
  · rw [eu]; exact fh_keep hM.a21 hM.a14 rfl
  · rw [eu]; exact fh_keep hM.a21 hM.a15 rfl
  · rw [eu]; exact fh_keep hM.a21 hM.a16 rfl
  · rw [eu]; exact fh_keep hM.a21 hM.a17 rfl
  · rw [eu]; exact fh_keep hM.a21 hM.a18 rfl
  · rw [eu]; exact fh_keep hM.a21 hM.a19 rfl
  · rw [eu]; exact fh_keep hM.a21 hM.a20 rfl
  · rw [eu]; exact fh_up_self _ _ _
  · rw [eu]; exact fh_keep hM.a21 hM.a22 rfl
  · rw [eu]; exact fh_keep hM.a21 hM.a23 rfl
  · rw [eu]; exact fh_keep hM.a21 hM.a24 rfl
  · rw [eu]; exact fh_keep hM.a21 hM.a25 rfl
  · rw [eu]; exact fh_keep hM.a21 hM.a26 rfl
  · rw [eu]; exact fh_keep hM.a21 hM.a27 rfl
  · rw [eu]; exact fh_keep hM.a21 hM.a28 rfl
  · rw [eu]; exact fh_keep hM.a21 hM.a29 rfl
  · rw [eu]; exact fh_keep hM.a21 hM.a30 rfl
  · rw [eu]; exact fh_keep hM.a21 hM.a31 rfl
theorem MG.w22 (hM : MG A h0 h ma b th no nv ns J nc nl nr fK fH fF fB fO fW fV fN cO cF cH cV fS fC lO lA rA rB rD fM) {f2 : Nat → Int32} (eu : u = fh_up h (b 22) (aI 22 800 f2)) : MG A h0 u ma b th no nv ns J nc nl nr fK fH fF fB fO fW fV fN cO cF f2 cV fS fC lO lA rA rB rD fM := by
  refine ⟨by rw [eu]; exact hM.1.up2 hM.a22 rfl, by rw [eu]; exact hM.fa.up hM.A22, by rw [eu]; exact fh_keep hM.a22 hM.m rfl, ?_, ?_, ?_, ?_, ?_, ?_, ?_, ?_, ?_, ?_, ?_, ?_, ?_, ?_, ?_, ?_, ?_, ?_, ?_, ?_⟩
  · rw [eu]; exact fh_keep hM.a22 hM.a12 rfl
  · rw [eu]; exact fh_keep hM.a22 hM.a13 rfl
  · rw [eu]; exact fh_keep hM.a22 hM.a14 rfl
  · rw [eu]; exact fh_keep hM.a22 hM.a15 rfl
  · rw [eu]; exact fh_keep hM.a22 hM.a16 rfl
  · rw [eu]; exact fh_keep hM.a22 hM.a17 rfl
  · rw [eu]; exact fh_keep hM.a22 hM.a18 rfl
  · rw [eu]; exact fh_keep hM.a22 hM.a19 rfl
  · rw [eu]; exact fh_keep hM.a22 hM.a20 rfl
  · rw [eu]; exact fh_keep hM.a22 hM.a21 rfl
  · rw [eu]; exact fh_up_self _ _ _
  · rw [eu]; exact fh_keep hM.a22 hM.a23 rfl
  · rw [eu]; exact fh_keep hM.a22 hM.a24 rfl
  · rw [eu]; exact fh_keep hM.a22 hM.a25 rfl
  · rw [eu]; exact fh_keep hM.a22 hM.a26 rfl
  · rw [eu]; exact fh_keep hM.a22 hM.a27 rfl
  · rw [eu]; exact fh_keep hM.a22 hM.a28 rfl
  · rw [eu]; exact fh_keep hM.a22 hM.a29 rfl
  · rw [eu]; exact fh_keep hM.a22 hM.a30 rfl
  · rw [eu]; exact fh_keep hM.a22 hM.a31 rfl
theorem MG.w23 (hM : MG A h0 h ma b th no nv ns J nc nl nr fK fH fF fB fO fW fV fN cO cF cH cV fS fC lO lA rA rB rD fM) {f2 : Nat → Int64} (eu : u = fh_up h (b 23) (aL 23 800 f2)) : MG A h0 u ma b th no nv ns J nc nl nr fK fH fF fB fO fW fV fN cO cF cH f2 fS fC lO lA rA rB rD fM := by
  refine ⟨by rw [eu]; exact hM.1.up2 hM.a23 rfl, by rw [eu]; exact hM.fa.up hM.A23, by rw [eu]; exact fh_keep hM.a23 hM.m rfl, ?_, ?_, ?_, ?_, ?_, ?_, ?_, ?_, ?_, ?_, ?_, ?_, ?_, ?_, ?_, ?_, ?_, ?_, ?_, ?_⟩
  · rw [eu]; exact fh_keep hM.a23 hM.a12 rfl
  · rw [eu]; exact fh_keep hM.a23 hM.a13 rfl
  · rw [eu]; exact fh_keep hM.a23 hM.a14 rfl
  · rw [eu]; exact fh_keep hM.a23 hM.a15 rfl
  · rw [eu]; exact fh_keep hM.a23 hM.a16 rfl
  · rw [eu]; exact fh_keep hM.a23 hM.a17 rfl
  · rw [eu]; exact fh_keep hM.a23 hM.a18 rfl
  · rw [eu]; exact fh_keep hM.a23 hM.a19 rfl
  · rw [eu]; exact fh_keep hM.a23 hM.a20 rfl
  · rw [eu]; exact fh_keep hM.a23 hM.a21 rfl
  · rw [eu]; exact fh_keep hM.a23 hM.a22 rfl
  · rw [eu]; exact fh_up_self _ _ _
  · rw [eu]; exact fh_keep hM.a23 hM.a24 rfl
  · rw [eu]; exact fh_keep hM.a23 hM.a25 rfl
  · rw [eu]; exact fh_keep hM.a23 hM.a26 rfl
  · rw [eu]; exact fh_keep hM.a23 hM.a27 rfl
  · rw [eu]; exact fh_keep hM.a23 hM.a28 rfl
  · rw [eu]; exact fh_keep hM.a23 hM.a29 rfl
  · rw [eu]; exact fh_keep hM.a23 hM.a30 rfl
  · rw [eu]; exact fh_keep hM.a23 hM.a31 rfl
theorem MG.w24 (hM : MG A h0 h ma b th no nv ns J nc nl nr fK fH fF fB fO fW fV fN cO cF cH cV fS fC lO lA rA rB rD fM) {f2 : Nat → Int32} (eu : u = fh_up h (b 24) (aI 24 8400 f2)) : MG A h0 u ma b th no nv ns J nc nl nr fK fH fF fB fO fW fV fN cO cF cH cV f2 fC lO lA rA rB rD fM := by
  refine ⟨by rw [eu]; exact hM.1.up2 hM.a24 rfl, by rw [eu]; exact hM.fa.up hM.A24, by rw [eu]; exact fh_keep hM.a24 hM.m rfl, ?_, ?_, ?_, ?_, ?_, ?_, ?_, ?_, ?_, ?_, ?_, ?_, ?_, ?_, ?_, ?_, ?_, ?_, ?_, ?_⟩
  · rw [eu]; exact fh_keep hM.a24 hM.a12 rfl
  · rw [eu]; exact fh_keep hM.a24 hM.a13 rfl
  · rw [eu]; exact fh_keep hM.a24 hM.a14 rfl
  · rw [eu]; exact fh_keep hM.a24 hM.a15 rfl
  · rw [eu]; exact fh_keep hM.a24 hM.a16 rfl
  · rw [eu]; exact fh_keep hM.a24 hM.a17 rfl
  · rw [eu]; exact fh_keep hM.a24 hM.a18 rfl
  · rw [eu]; exact fh_keep hM.a24 hM.a19 rfl
  · rw [eu]; exact fh_keep hM.a24 hM.a20 rfl
  · rw [eu]; exact fh_keep hM.a24 hM.a21 rfl
  · rw [eu]; exact fh_keep hM.a24 hM.a22 rfl
  · rw [eu]; exact fh_keep hM.a24 hM.a23 rfl
  · rw [eu]; exact fh_up_self _ _ _
  · rw [eu]; exact fh_keep hM.a24 hM.a25 rfl
  · rw [eu]; exact fh_keep hM.a24 hM.a26 rfl
  · rw [eu]; exact fh_keep hM.a24 hM.a27 rfl
  · rw [eu]; exact fh_keep hM.a24 hM.a28 rfl
  · rw [eu]; exact fh_keep hM.a24 hM.a29 rfl
  · rw [eu]; exact fh_keep hM.a24 hM.a30 rfl
  · rw [eu]; exact fh_keep hM.a24 hM.a31 rfl
theorem MG.w25 (hM : MG A h0 h ma b th no nv ns J nc nl nr fK fH fF fB fO fW fV fN cO cF cH cV fS fC lO lA rA rB rD fM) {f2 : Nat → Int32} (eu : u = fh_up h (b 25) (aI 25 420 f2)) : MG A h0 u ma b th no nv ns J nc nl nr fK fH fF fB fO fW fV fN cO cF cH cV fS f2 lO lA rA rB rD fM := by
  refine ⟨by rw [eu]; exact hM.1.up2 hM.a25 rfl, by rw [eu]; exact hM.fa.up hM.A25, by rw [eu]; exact fh_keep hM.a25 hM.m rfl, ?_, ?_, ?_, ?_, ?_, ?_, ?_, ?_, ?_, ?_, ?_, ?_, ?_, ?_, ?_, ?_, ?_, ?_, ?_, ?_⟩
  · rw [eu]; exact fh_keep hM.a25 hM.a12 rfl
  · rw [eu]; exact fh_keep hM.a25 hM.a13 rfl
  · rw [eu]; exact fh_keep hM.a25 hM.a14 rfl
  · rw [eu]; exact fh_keep hM.a25 hM.a15 rfl
  · rw [eu]; exact fh_keep hM.a25 hM.a16 rfl
  · rw [eu]; exact fh_keep hM.a25 hM.a17 rfl
  · rw [eu]; exact fh_keep hM.a25 hM.a18 rfl
  · rw [eu]; exact fh_keep hM.a25 hM.a19 rfl
  · rw [eu]; exact fh_keep hM.a25 hM.a20 rfl
  · rw [eu]; exact fh_keep hM.a25 hM.a21 rfl
  · rw [eu]; exact fh_keep hM.a25 hM.a22 rfl
  · rw [eu]; exact fh_keep hM.a25 hM.a23 rfl
  · rw [eu]; exact fh_keep hM.a25 hM.a24 rfl
  · rw [eu]; exact fh_up_self _ _ _
  · rw [eu]; exact fh_keep hM.a25 hM.a26 rfl
  · rw [eu]; exact fh_keep hM.a25 hM.a27 rfl
  · rw [eu]; exact fh_keep hM.a25 hM.a28 rfl
  · rw [eu]; exact fh_keep hM.a25 hM.a29 rfl
  · rw [eu]; exact fh_keep hM.a25 hM.a30 rfl
  · rw [eu]; exact fh_keep hM.a25 hM.a31 rfl
theorem MG.w26 (hM : MG A h0 h ma b th no nv ns J nc nl nr fK fH fF fB fO fW fV fN cO cF cH cV fS fC lO lA rA rB rD fM) {f2 : Nat → Int32} (eu : u = fh_up h (b 26) (aI 26 10 f2)) : MG A h0 u ma b th no nv ns J nc nl nr fK fH fF fB fO fW fV fN cO cF cH cV fS fC f2 lA rA rB rD fM := by
  refine ⟨by rw [eu]; exact hM.1.up2 hM.a26 rfl, by rw [eu]; exact hM.fa.up hM.A26, by rw [eu]; exact fh_keep hM.a26 hM.m rfl, ?_, ?_, ?_, ?_, ?_, ?_, ?_, ?_, ?_, ?_, ?_, ?_, ?_, ?_, ?_, ?_, ?_, ?_, ?_, ?_⟩
  · rw [eu]; exact fh_keep hM.a26 hM.a12 rfl
  · rw [eu]; exact fh_keep hM.a26 hM.a13 rfl
  · rw [eu]; exact fh_keep hM.a26 hM.a14 rfl
  · rw [eu]; exact fh_keep hM.a26 hM.a15 rfl
  · rw [eu]; exact fh_keep hM.a26 hM.a16 rfl
  · rw [eu]; exact fh_keep hM.a26 hM.a17 rfl
  · rw [eu]; exact fh_keep hM.a26 hM.a18 rfl
  · rw [eu]; exact fh_keep hM.a26 hM.a19 rfl
  · rw [eu]; exact fh_keep hM.a26 hM.a20 rfl
  · rw [eu]; exact fh_keep hM.a26 hM.a21 rfl
  · rw [eu]; exact fh_keep hM.a26 hM.a22 rfl
  · rw [eu]; exact fh_keep hM.a26 hM.a23 rfl
  · rw [eu]; exact fh_keep hM.a26 hM.a24 rfl
  · rw [eu]; exact fh_keep hM.a26 hM.a25 rfl
  · rw [eu]; exact fh_up_self _ _ _
  · rw [eu]; exact fh_keep hM.a26 hM.a27 rfl
  · rw [eu]; exact fh_keep hM.a26 hM.a28 rfl
  · rw [eu]; exact fh_keep hM.a26 hM.a29 rfl
  · rw [eu]; exact fh_keep hM.a26 hM.a30 rfl
  · rw [eu]; exact fh_keep hM.a26 hM.a31 rfl
theorem MG.w27 (hM : MG A h0 h ma b th no nv ns J nc nl nr fK fH fF fB fO fW fV fN cO cF cH cV fS fC lO lA rA rB rD fM) {f2 : Nat → Int64} (eu : u = fh_up h (b 27) (aL 27 40 f2)) : MG A h0 u ma b th no nv ns J nc nl nr fK fH fF fB fO fW fV fN cO cF cH cV fS fC lO f2 rA rB rD fM := by
  refine ⟨by rw [eu]; exact hM.1.up2 hM.a27 rfl, by rw [eu]; exact hM.fa.up hM.A27, by rw [eu]; exact fh_keep hM.a27 hM.m rfl, ?_, ?_, ?_, ?_, ?_, ?_, ?_, ?_, ?_, ?_, ?_, ?_, ?_, ?_, ?_, ?_, ?_, ?_, ?_, ?_⟩
  · rw [eu]; exact fh_keep hM.a27 hM.a12 rfl
  · rw [eu]; exact fh_keep hM.a27 hM.a13 rfl
  · rw [eu]; exact fh_keep hM.a27 hM.a14 rfl
  · rw [eu]; exact fh_keep hM.a27 hM.a15 rfl
  · rw [eu]; exact fh_keep hM.a27 hM.a16 rfl
  · rw [eu]; exact fh_keep hM.a27 hM.a17 rfl
  · rw [eu]; exact fh_keep hM.a27 hM.a18 rfl
  · rw [eu]; exact fh_keep hM.a27 hM.a19 rfl
  · rw [eu]; exact fh_keep hM.a27 hM.a20 rfl
  · rw [eu]; exact fh_keep hM.a27 hM.a21 rfl
  · rw [eu]; exact fh_keep hM.a27 hM.a22 rfl
  · rw [eu]; exact fh_keep hM.a27 hM.a23 rfl
  · rw [eu]; exact fh_keep hM.a27 hM.a24 rfl
  · rw [eu]; exact fh_keep hM.a27 hM.a25 rfl
  · rw [eu]; exact fh_keep hM.a27 hM.a26 rfl
  · rw [eu]; exact fh_up_self _ _ _
  · rw [eu]; exact fh_keep hM.a27 hM.a28 rfl
  · rw [eu]; exact fh_keep hM.a27 hM.a29 rfl
  · rw [eu]; exact fh_keep hM.a27 hM.a30 rfl
  · rw [eu]; exact fh_keep hM.a27 hM.a31 rfl
theorem MG.w28 (hM : MG A h0 h ma b th no nv ns J nc nl nr fK fH fF fB fO fW fV fN cO cF cH cV fS fC lO lA rA rB rD fM) {f2 : Nat → Int32} (eu : u = fh_up h (b 28) (aI 28 20 f2)) : MG A h0 u ma b th no nv ns J nc nl nr fK fH fF fB fO fW fV fN cO cF cH cV fS fC lO lA f2 rB rD fM := by
  refine ⟨by rw [eu]; exact hM.1.up2 hM.a28 rfl, by rw [eu]; exact hM.fa.up hM.A28, by rw [eu]; exact fh_keep hM.a28 hM.m rfl, ?_, ?_, ?_, ?_, ?_, ?_, ?_, ?_, ?_, ?_, ?_, ?_, ?_, ?_, ?_, ?_, ?_, ?_, ?_, ?_⟩
  · rw [eu]; exact fh_keep hM.a28 hM.a12 rfl
  · rw [eu]; exact fh_keep hM.a28 hM.a13 rfl
  · rw [eu]; exact fh_keep hM.a28 hM.a14 rfl
  · rw [eu]; exact fh_keep hM.a28 hM.a15 rfl
  · rw [eu]; exact fh_keep hM.a28 hM.a16 rfl
  · rw [eu]; exact fh_keep hM.a28 hM.a17 rfl
  · rw [eu]; exact fh_keep hM.a28 hM.a18 rfl
  · rw [eu]; exact fh_keep hM.a28 hM.a19 rfl
  · rw [eu]; exact fh_keep hM.a28 hM.a20 rfl
  · rw [eu]; exact fh_keep hM.a28 hM.a21 rfl
  · rw [eu]; exact fh_keep hM.a28 hM.a22 rfl
  · rw [eu]; exact fh_keep hM.a28 hM.a23 rfl
  · rw [eu]; exact fh_keep hM.a28 hM.a24 rfl
  · rw [eu]; exact fh_keep hM.a28 hM.a25 rfl
  · rw [eu]; exact fh_keep hM.a28 hM.a26 rfl
  · rw [eu]; exact fh_keep hM.a28 hM.a27 rfl
  · rw [eu]; exact fh_up_self _ _ _
  · rw [eu]; exact fh_keep hM.a28 hM.a29 rfl
  · rw [eu]; exact fh_keep hM.a28 hM.a30 rfl
  · rw [eu]; exact fh_keep hM.a28 hM.a31 rfl
theorem MG.w29 (hM : MG A h0 h ma b th no nv ns J nc nl nr fK fH fF fB fO fW fV fN cO cF cH cV fS fC lO lA rA rB rD fM) {f2 : Nat → Int32} (eu : u = fh_up h (b 29) (aI 29 20 f2)) : MG A h0 u ma b th no nv ns J nc nl nr fK fH fF fB fO fW fV fN cO cF cH cV fS fC lO lA rA f2 rD fM := by
  refine ⟨by rw [eu]; exact hM.1.up2 hM.a29 rfl, by rw [eu]; exact hM.fa.up hM.A29, by rw [eu]; exact fh_keep hM.a29 hM.m rfl, ?_, ?_, ?_, ?_, ?_, ?_, ?_, ?_, ?_, ?_, ?_, ?_, ?_, ?_, ?_, ?_, ?_, ?_, ?_, ?_⟩
  · rw [eu]; exact fh_keep hM.a29 hM.a12 rfl
  · rw [eu]; exact fh_keep hM.a29 hM.a13 rfl
  · rw [eu]; exact fh_keep hM.a29 hM.a14 rfl
  · rw [eu]; exact fh_keep hM.a29 hM.a15 rfl
  · rw [eu]; exact fh_keep hM.a29 hM.a16 rfl
  · rw [eu]; exact fh_keep hM.a29 hM.a17 rfl
  · rw [eu]; exact fh_keep hM.a29 hM.a18 rfl
  · rw [eu]; exact fh_keep hM.a29 hM.a19 rfl
  · rw [eu]; exact fh_keep hM.a29 hM.a20 rfl
  · rw [eu]; exact fh_keep hM.a29 hM.a21 rfl
  · rw [eu]; exact fh_keep hM.a29 hM.a22 rfl
  · rw [eu]; exact fh_keep hM.a29 hM.a23 rfl
  · rw [eu]; exact fh_keep hM.a29 hM.a24 rfl
  · rw [eu]; exact fh_keep hM.a29 hM.a25 rfl
  · rw [eu]; exact fh_keep hM.a29 hM.a26 rfl
  · rw [eu]; exact fh_keep hM.a29 hM.a27 rfl
  · rw [eu]; exact fh_keep hM.a29 hM.a28 rfl
  · rw [eu]; exact fh_up_self _ _ _
  · rw [eu]; exact fh_keep hM.a29 hM.a30 rfl
  · rw [eu]; exact fh_keep hM.a29 hM.a31 rfl
theorem MG.w30 (hM : MG A h0 h ma b th no nv ns J nc nl nr fK fH fF fB fO fW fV fN cO cF cH cV fS fC lO lA rA rB rD fM) {f2 : Nat → Int64} (eu : u = fh_up h (b 30) (aL 30 20 f2)) : MG A h0 u ma b th no nv ns J nc nl nr fK fH fF fB fO fW fV fN cO cF cH cV fS fC lO lA rA rB f2 fM := by
  refine ⟨by rw [eu]; exact hM.1.up2 hM.a30 rfl, by rw [eu]; exact hM.fa.up hM.A30, by rw [eu]; exact fh_keep hM.a30 hM.m rfl, ?_, ?_, ?_, ?_, ?_, ?_, ?_, ?_, ?_, ?_, ?_, ?_, ?_, ?_, ?_, ?_, ?_, ?_, ?_, ?_⟩
  · rw [eu]; exact fh_keep hM.a30 hM.a12 rfl
  · rw [eu]; exact fh_keep hM.a30 hM.a13 rfl
  · rw [eu]; exact fh_keep hM.a30 hM.a14 rfl
  · rw [eu]; exact fh_keep hM.a30 hM.a15 rfl
  · rw [eu]; exact fh_keep hM.a30 hM.a16 rfl
  · rw [eu]; exact fh_keep hM.a30 hM.a17 rfl
  · rw [eu]; exact fh_keep hM.a30 hM.a18 rfl
  · rw [eu]; exact fh_keep hM.a30 hM.a19 rfl
  · rw [eu]; exact fh_keep hM.a30 hM.a20 rfl
  · rw [eu]; exact fh_keep hM.a30 hM.a21 rfl
  · rw [eu]; exact fh_keep hM.a30 hM.a22 rfl
  · rw [eu]; exact fh_keep hM.a30 hM.a23 rfl
  · rw [eu]; exact fh_keep hM.a30 hM.a24 rfl
  · rw [eu]; exact fh_keep hM.a30 hM.a25 rfl
  · rw [eu]; exact fh_keep hM.a30 hM.a26 rfl
  · rw [eu]; exact fh_keep hM.a30 hM.a27 rfl
  · rw [eu]; exact fh_keep hM.a30 hM.a28 rfl
  · rw [eu]; exact fh_keep hM.a30 hM.a29 rfl
  · rw [eu]; exact fh_up_self _ _ _
  · rw [eu]; exact fh_keep hM.a30 hM.a31 rfl
theorem MG.w31 (hM : MG A h0 h ma b th no nv ns J nc nl nr fK fH fF fB fO fW fV fN cO cF cH cV fS fC lO lA rA rB rD fM) {f2 : Nat → Int32} (eu : u = fh_up h (b 31) (aI 31 60 f2)) : MG A h0 u ma b th no nv ns J nc nl nr fK fH fF fB fO fW fV fN cO cF cH cV fS fC lO lA rA rB rD f2 := by
  refine ⟨by rw [eu]; exact hM.1.up2 hM.a31 rfl, by rw [eu]; exact hM.fa.up hM.A31, by rw [eu]; exact fh_keep hM.a31 hM.m rfl, ?_, ?_, ?_, ?_, ?_, ?_, ?_, ?_, ?_, ?_, ?_, ?_, ?_, ?_, ?_, ?_, ?_, ?_, ?_, ?_⟩
  · rw [eu]; exact fh_keep hM.a31 hM.a12 rfl
  · rw [eu]; exact fh_keep hM.a31 hM.a13 rfl
  · rw [eu]; exact fh_keep hM.a31 hM.a14 rfl
  · rw [eu]; exact fh_keep hM.a31 hM.a15 rfl
  · rw [eu]; exact fh_keep hM.a31 hM.a16 rfl
  · rw [eu]; exact fh_keep hM.a31 hM.a17 rfl
  · rw [eu]; exact fh_keep hM.a31 hM.a18 rfl
  · rw [eu]; exact fh_keep hM.a31 hM.a19 rfl
  · rw [eu]; exact fh_keep hM.a31 hM.a20 rfl
  · rw [eu]; exact fh_keep hM.a31 hM.a21 rfl
  · rw [eu]; exact fh_keep hM.a31 hM.a22 rfl
  · rw [eu]; exact fh_keep hM.a31 hM.a23 rfl
  · rw [eu]; exact fh_keep hM.a31 hM.a24 rfl
  · rw [eu]; exact fh_keep hM.a31 hM.a25 rfl
  · rw [eu]; exact fh_keep hM.a31 hM.a26 rfl
  · rw [eu]; exact fh_keep hM.a31 hM.a27 rfl
  · rw [eu]; exact fh_keep hM.a31 hM.a28 rfl
  · rw [eu]; exact fh_keep hM.a31 hM.a29 rfl
  · rw [eu]; exact fh_keep hM.a31 hM.a30 rfl
  · rw [eu]; exact fh_up_self _ _ _
theorem MG.kp2 {D : List Nat} (hM : MG A h0 h ma b th no nv ns J nc nl nr fK fH fF fB fO fW fV fN cO cF cH cV fS fC lO lA rA rB rD fM) (hk : kp D h u) (hD : av D kM = true) (hA : fh_A A u) : MG A u u ma b th no nv ns J nc nl nr fK fH fF fB fO fW fV fN cO cF cH cV fS fC lO lA rA rB rD fM := ⟨kp.rf, hA, hk.at hD hM.m rfl, hk.at hD hM.a12 rfl, hk.at hD hM.a13 rfl, hk.at hD hM.a14 rfl, hk.at hD hM.a15 rfl, hk.at hD hM.a16 rfl, hk.at hD hM.a17 rfl, hk.at hD hM.a18 rfl, hk.at hD hM.a19 rfl, hk.at hD hM.a20 rfl, hk.at hD hM.a21 rfl, hk.at hD hM.a22 rfl, hk.at hD hM.a23 rfl, hk.at hD hM.a24 rfl, hk.at hD hM.a25 rfl, hk.at hD hM.a26 rfl, hk.at hD hM.a27 rfl, hk.at hD hM.a28 rfl, hk.at hD hM.a29 rfl, hk.at hD hM.a30 rfl, hk.at hD hM.a31 rfl⟩
end MG0
theorem vp_nar2 (x : Int32) : vp_nar .boolean (vp_nar .boolean x) = vp_nar .boolean x := by
  unfold vp_nar narrow
  simp [Int32.and_assoc]
theorem vp_narb (c : Bool) : vp_nar .boolean (bI c) = bI c := by cases c <;> rfl
def bz (f : Nat → Int32) : Prop := ∀ x, vp_nar .boolean (f x) = f x
theorem bz_u {f : Nat → Int32} (h : bz f) (k : Nat) (x : Int32) : bz (upd f k (vp_nar .boolean x)) := fun y => by
  by_cases q : y = k
  · subst q; rw [show upd f y (vp_nar .boolean x) y = vp_nar .boolean x by simp [upd]]; exact vp_nar2 x
  · rw [show upd f k (vp_nar .boolean x) y = f y by simp [upd, q]]; exact h y
