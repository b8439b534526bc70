def RMX (no nv ns : Nat) (V : Vs) (S : Ss) (LK : List Ar) (RL : Rl) (C : CL) (M : Nat → Int32) (fH : Nat → Int32) (fF : Nat → Int64) (fB : Nat → Int32) (fO : Nat → Int32) (fW : Nat → Int32) (fV : Nat → Int64) (fN : Nat → Int32) (cO : Nat → Int32) (cF : Nat → Int32) (cH : Nat → Int32) (cV : Nat → Int64) (fS : Nat → Int32) (fC : Nat → Int32) (lO : Nat → Int32) (lA : Nat → Int64) (rA : Nat → Int32) (rB : Nat → Int32) (rD : Nat → Int64) (fM : Nat → Int32) : Prop := (bz fH ∧ bz fO ∧ bz fW ∧ bz cH) ∧ (∀ v, v < nv → relR (rw1 fH v) (rx1 fF v) (V v) ∧ zeroM (rx1 fF v) no) ∧ (∀ i, i < ns → mSes no i (S i) fB fO fW fV fN cO cF cH cV fS) ∧ (∀ i, ns ≤ i → i < 20 → fN i = nI 0 ∧ ∀ p, p < 420 → fS (420 * i + p) = 0) ∧ mL lO lA LK ∧ mR rA rB rD RL ∧ mC fC C ∧ ∀ o, o < 60 → fM o = M o
def RepM (A : Nat → Prop) (h0 h : FH) (ma : Nat) (b : Nat → Nat) (th : Int32) (no nv ns : Nat) (V : Vs) (S : Ss) (LK : List Ar) (RL : Rl) (J : Nat) (C : CL) (M : Nat → Int32) : Prop := ∃ (fK : Nat → Int32) (fH : Nat → Int32) (fF : Nat → Int64) (fB : Nat → Int32) (fO : Nat → Int32) (fW : Nat → Int32) (fV : Nat → Int64) (fN : Nat → Int32) (cO : Nat → Int32) (cF : Nat → Int32) (cH : Nat → Int32) (cV : Nat → Int64) (fS : Nat → Int32) (fC : Nat → Int32) (lO : Nat → Int32) (lA : Nat → Int64) (rA : Nat → Int32) (rB : Nat → Int32) (rD : Nat → Int64) (fM : Nat → Int32), MG A h0 h ma b th no nv ns J C.length LK.length RL.length fK fH fF fB fO fW fV fN cO cF cH cV fS fC lO lA rA rB rD fM ∧ RMX no nv ns V S LK RL C M fH fF fB fO fW fV fN cO cF cH cV fS fC lO lA rA rB rD fM
theorem relR.up {w : Nat → Int32} {x : Nat → Int64} {S : St} {o : Nat} {y : Ro} (h : relR w x S) {w2 : Nat → Int32} {x2 : Nat → Int64} (hw : ∀ q, q < 60 → q ≠ o → w2 q = w q) (hx : ∀ q, q < 60 → q ≠ o → ∀ k, k < 6 → x2 (6 * q + k) = x (6 * q + k)) (ho : w2 o = bI y.isSome) (hy : ∀ r, y = some r → ∀ k, k < 6 → x2 (6 * o + k) = r k) : relR w2 x2 (upN S o y) := fun q hq => by
  by_cases z : q = o
  · subst z
    rw [upN_s]
    exact ⟨ho, hy⟩
  · rw [upN_n _ _ z]
    exact ⟨(hw q hq z).trans (h q hq).1, fun r hr k hk => (hx q hq z k hk).trans ((h q hq).2 r hr k hk)⟩
theorem mSes.chg {no no' i n o f : Nat} {s : Ses} {x : Ro} {fB fO fW fN cO cF cH fS fW2 fN2 cO2 cF2 cH2 : Nat → Int32} {fV cV fV2 cV2 : Nat → Int64} (hp : mSes no i s fB fO fW fV fN cO cF cH cV fS) (hn : n = s.2.2.2.1.length) (hN : NP i n o f fW fV fN cO cF cH cV fN2 cO2 cF2 cH2 cV2) (hno : no ≤ no') (ho : o < no') (hf : f < 7)
    (uW : ∀ q, q < 60 → undW f o (fW (60 * i + o)) (rw1 fW2 i) q = rw1 fW i q) (uX : ∀ q, q < 360 → undX f o (if f = 6 then 0 else fV (360 * i + 6 * o + f)) (rx1 fV2 i) q = rx1 fV i q) (hr : relR (rw1 fW2 i) (rx1 fV2 i) (upN s.2.1 o x)) (hz : zeroM (rx1 fV2 i) no') : mSes no' i (sChg s o x) fB fO fW2 fV2 fN2 cO2 cF2 cH2 cV2 fS := by
  subst hn
  obtain ⟨h1, h2, h3, h4, h5, h6, h7, h8⟩ := hp
  obtain ⟨-, -, n3, nO, nF, nH, nV⟩ := hN
  have h7' : chM cO cF cH cV (40 * i) no' (rw1 fW i) (rx1 fV i) s.2.2.2.1 := h7.congr hno (fun j _ => ⟨rfl, rfl, rfl, rfl⟩) (fun _ _ => rfl) (fun _ _ => rfl)
  refine ⟨h1, h2, hr, hz, ?_, ?_, ?_, h8⟩
  · rw [n3]
    show nI _ = nI ((s.2.1 :: s.2.2.2.1).take 40).length
    rw [List.length_take, List.length_cons]
    congr 1
    unfold nxt40
    split <;> omega
  · show ((s.2.1 :: s.2.2.2.1).take 40).length ≤ 40
    rw [List.length_take]
    omega
  · exact chM.push h6 h7' h3 ho hf (fun j _ hj => nO.2 _ (by omega)) (fun j _ hj => nF.2 _ (by omega)) (fun j _ hj => nH.2 _ (by omega)) (fun j _ hj => nV.2 _ (by omega)) nO.1 nF.1 (by rw [nH.1]; exact uW) (by rw [nV.1]; exact uX)
theorem NT.oth {β : Type} {i j n t : Nat} {c c2 : Nat → β} {x : β} (h : NT i n c c2 x) (hj : j ≠ i) (hn : n ≤ 40) (ht : t < 40) : c2 (40 * j + t) = c (40 * j + t) := by
  have h1 : nxt40 n < 40 := by unfold nxt40; split <;> omega
  rw [h.2 _ (by omega)]
  unfold shN
  rw [if_neg (by omega)]
theorem mSes.oth {no no' i j n o f : Nat} {s : Ses} {fB fO fW fN cO cF cH fS fW2 fN2 cO2 cF2 cH2 : Nat → Int32} {fV cV fV2 cV2 : Nat → Int64} (hp : mSes no j s fB fO fW fV fN cO cF cH cV fS) (hj : j ≠ i) (hn : n ≤ 40) (hN : NP i n o f fW fV fN cO cF cH cV fN2 cO2 cF2 cH2 cV2) (hno : no ≤ no') (hW : ∀ q, q < 60 → rw1 fW2 j q = rw1 fW j q) (hX : ∀ q, q < 360 → rx1 fV2 j q = rx1 fV j q) : mSes no' j s fB fO fW2 fV2 fN2 cO2 cF2 cH2 cV2 fS := by
  obtain ⟨h1, h2, h3, h4, h5, h6, h7, h8⟩ := hp
  obtain ⟨-, n2, n3, nO, nF, nH, nV⟩ := hN
  exact ⟨h1, h2, h3.congr hW hX, (h4.congr hX).mono hno, (n2 j hj).trans h5, h6, h7.congr hno (fun t ht => ⟨nO.oth hj hn (by omega), nF.oth hj hn (by omega), nH.oth hj hn (by omega), nV.oth hj hn (by omega)⟩) hW hX, h8⟩
section RMXs
variable {no nv ns : Nat} {V : Vs} {S : Ss} {LK : List Ar} {RL : Rl} {J : Nat} {C : CL} {M : Nat → Int32} {fH : Nat → Int32} {fF : Nat → Int64} {fB : Nat → Int32} {fO : Nat → Int32} {fW : Nat → Int32} {fV : Nat → Int64} {fN : Nat → Int32} {cO : Nat → Int32} {cF : Nat → Int32} {cH : Nat → Int32} {cV : Nat → Int64} {fS : Nat → Int32} {fC : Nat → Int32} {lO : Nat → Int32} {lA : Nat → Int64} {rA : Nat → Int32} {rB : Nat → Int32} {rD : Nat → Int64} {fM : Nat → Int32}
theorem RMX.chg {fW2 fN2 cO2 cF2 cH2 : Nat → Int32} {fV2 cV2 : Nat → Int64} {no' i n o f : Nat} {x : Ro} (hp : RMX no nv ns V S LK RL C M fH fF fB fO fW fV fN cO cF cH cV fS fC lO lA rA rB rD fM) (hi : i < ns) (hn : n = (S i).2.2.2.1.length) (hN : NP i n o f fW fV fN cO cF cH cV fN2 cO2 cF2 cH2 cV2) (hno : no ≤ no') (ho : o < no') (hf : f < 7) (hb : bz fW2) (hW2 : ∀ j, j ≠ i → ∀ q, q < 60 → fW2 (60 * j + q) = fW (60 * j + q)) (hV2 : ∀ j, j ≠ i → ∀ q, q < 360 → fV2 (360 * j + q) = fV (360 * j + q))
    (uW : ∀ q, q < 60 → undW f o (fW (60 * i + o)) (rw1 fW2 i) q = rw1 fW i q) (uX : ∀ q, q < 360 → undX f o (if f = 6 then 0 else fV (360 * i + 6 * o + f)) (rx1 fV2 i) q = rx1 fV i q) (hr : relR (rw1 fW2 i) (rx1 fV2 i) (upN (S i).2.1 o x)) (hz : zeroM (rx1 fV2 i) no') : RMX no' nv ns V (upN S i (sChg (S i) o x)) LK RL C M fH fF fB fO fW2 fV2 fN2 cO2 cF2 cH2 cV2 fS fC lO lA rA rB rD fM := by
  obtain ⟨⟨z1, z2, z3, z4⟩, h2, h3, h4, h5⟩ := hp
  have hn4 : n ≤ 40 := by rw [hn]; exact (h3 i hi).2.2.2.2.2.1
  refine ⟨⟨z1, z2, hb, hN.1⟩, fun v hv => ⟨(h2 v hv).1, (h2 v hv).2.mono hno⟩, fun j hj => ?_, fun j h1 h20 => ⟨(hN.2.1 j (by omega)).trans (h4 j h1 h20).1, (h4 j h1 h20).2⟩, h5⟩
  by_cases q : j = i
  · subst q
    rw [upN_s]
    exact (h3 j hj).chg hn hN hno ho hf uW uX hr hz
  · rw [upN_n _ _ q]
    exact (h3 j hj).oth q hn4 hN hno (hW2 j q) (hV2 j q)
/-- one session's own rows, nothing noted: undo -/
theorem RMX.ses {fO2 fW2 fN2 fS2 : Nat → Int32} {fV2 : Nat → Int64} {i : Nat} {s' : Ses} (hp : RMX no nv ns V S LK RL C M fH fF fB fO fW fV fN cO cF cH cV fS fC lO lA rA rB rD fM) (hi : i < ns) (hb1 : bz fO2) (hb : bz fW2) (hO2 : ∀ j, j ≠ i → fO2 j = fO j) (hN2 : ∀ j, j ≠ i → fN2 j = fN j) (hW2 : ∀ j, j ≠ i → ∀ q, q < 60 → fW2 (60 * j + q) = fW (60 * j + q)) (hV2 : ∀ j, j ≠ i → ∀ q, q < 360 → fV2 (360 * j + q) = fV (360 * j + q)) (hS2 : ∀ j, j ≠ i → ∀ q, q < 420 → fS2 (420 * j + q) = fS (420 * j + q)) (hs : mSes no i s' fB fO2 fW2 fV2 fN2 cO cF cH cV fS2) : RMX no nv ns V (upN S i s') LK RL C M fH fF fB fO2 fW2 fV2 fN2 cO cF cH cV fS2 fC lO lA rA rB rD fM := by
  obtain ⟨⟨z1, z2, z3, z4⟩, h2, h3, h4, h5⟩ := hp
  refine ⟨⟨z1, hb1, hb, z4⟩, h2, fun j hj => ?_, fun j h1 h20 => ⟨(hN2 j (by omega)).trans (h4 j h1 h20).1, fun p hp => (hS2 j (by omega) p hp).trans ((h4 j h1 h20).2 p hp)⟩, h5⟩
  by_cases q : j = i
  · subst q
    rw [upN_s]
    exact hs
  · rw [upN_n _ _ q]
    obtain ⟨g1, g2, g3, g4, g5, g6, g7, g8⟩ := h3 j hj
    exact ⟨g1, (hO2 j q).trans g2, g3.congr (hW2 j q) (hV2 j q), g4.congr (hV2 j q), (hN2 j q).trans g5, g6, g7.congr (Nat.le_refl no) (fun t _ => ⟨rfl, rfl, rfl, rfl⟩) (hW2 j q) (hV2 j q), fun p hp => (hS2 j q p hp).trans (g8 p hp)⟩
end RMXs
