def bt (x : Int32) (i : Nat) : Bool := x.toBitVec.getLsbD i
theorem b_ext {x y : Int32} (h : ∀ i, i < 32 → bt x i = bt y i) : x = y := Int32.toBitVec_inj.mp (BitVec.eq_of_getLsbD_eq (fun i hi => h i hi))
theorem b_or (x y : Int32) (i : Nat) : bt (x ||| y) i = (bt x i || bt y i) := by unfold bt; rw [Int32.toBitVec_or, BitVec.getLsbD_or]
theorem b_and (x y : Int32) (i : Nat) : bt (x &&& y) i = (bt x i && bt y i) := by unfold bt; rw [Int32.toBitVec_and, BitVec.getLsbD_and]
theorem b_xor (x y : Int32) (i : Nat) : bt (x ^^^ y) i = (bt x i ^^ bt y i) := by unfold bt; rw [Int32.toBitVec_xor, BitVec.getLsbD_xor]
theorem b_big {x : Int32} {i : Nat} (h : 32 ≤ i) : bt x i = false := BitVec.getLsbD_of_ge _ _ h
theorem b_255 (i : Nat) : bt 255 i = decide (i < 8) := by
  rcases Nat.lt_or_ge i 32 with h | h
  · exact (by decide +kernel : ∀ i, i < 32 → bt 255 i = decide (i < 8)) i h
  · rw [b_big h, decide_eq_false (by omega)]
theorem b_65535 (i : Nat) : bt 65535 i = decide (i < 16) := by
  rcases Nat.lt_or_ge i 32 with h | h
  · exact (by decide +kernel : ∀ i, i < 32 → bt 65535 i = decide (i < 16)) i h
  · rw [b_big h, decide_eq_false (by omega)]
theorem b_m1 : ∀ i, i < 32 → bt (-1) i = true := by decide +kernel
theorem b_0 (i : Nat) : bt 0 i = false := BitVec.getLsbD_zero
theorem s_l : ∀ n, n < 32 → ((nI n &&& 31).toBitVec.smod 32).toNat = n := by decide +kernel
theorem s_u : ∀ n, n < 32 → (((nI n).toUInt32 &&& Int32.toUInt32 31).toBitVec % 32).toNat = n := by decide +kernel
theorem b_shl (n : Nat) (hn : n < 32) (x : Int32) {i : Nat} (hi : i < 32) : bt (x <<< (nI n &&& 31)) i = (decide (n ≤ i) && bt x (i - n)) := by
  unfold bt
  rw [Int32.toBitVec_shiftLeft]
  show (x.toBitVec <<< ((nI n &&& 31).toBitVec.smod 32).toNat).getLsbD i = _
  rw [s_l n hn, BitVec.getLsbD_shiftLeft]
  rcases Nat.lt_or_ge i n with h | h
  · simp [h, Nat.not_le.mpr h]
  · simp [hi, h, Nat.not_lt.mpr h]
theorem b_ushr (n : Nat) (hn : n < 32) (x : Int32) (i : Nat) : bt ((x.toUInt32 >>> ((nI n).toUInt32 &&& Int32.toUInt32 31)).toInt32) i = bt x (n + i) := by
  show (x.toUInt32 >>> ((nI n).toUInt32 &&& Int32.toUInt32 31)).toBitVec.getLsbD i = x.toUInt32.toBitVec.getLsbD (n + i)
  rw [UInt32.toBitVec_shiftRight]
  show (x.toUInt32.toBitVec >>> (((nI n).toUInt32 &&& Int32.toUInt32 31).toBitVec % 32).toNat).getLsbD i = _
  rw [s_u n hn, BitVec.getLsbD_ushiftRight]
theorem b_sshr (n : Nat) (hn : n < 32) (x : Int32) {i : Nat} (hi : i < 32) : bt (x >>> (nI n &&& 31)) i = if n + i < 32 then bt x (n + i) else bt x 31 := by
  unfold bt
  rw [Int32.toBitVec_shiftRight]
  show (x.toBitVec.sshiftRight ((nI n &&& 31).toBitVec.smod 32).toNat).getLsbD i = _
  rw [s_l n hn, BitVec.getLsbD_sshiftRight, BitVec.msb_eq_getLsbD_last]
  simp [hi]
theorem bt_nI (m : Nat) {i : Nat} (hi : i < 32) : bt (nI m) i = m.testBit i := by
  unfold bt
  show (BitVec.ofNat 32 m).getLsbD i = _
  rw [BitVec.getLsbD_ofNat]
  simp [hi]
theorem sshr_bit {n k : Nat} (hk : k < 32) : nI n >>> (nI k &&& 31) &&& nI 1 = nI (n / 2 ^ k % 2) := by
  apply b_ext
  intro i hi
  rw [b_and, b_sshr k hk _ hi, bt_nI 1 hi, bt_nI _ hi]
  by_cases z : i = 0
  · subst z
    rw [if_pos (by omega), bt_nI n (by omega)]
    simp [Nat.testBit, Nat.shiftRight_eq_div_pow, Nat.and_comm]
  · rw [Nat.testBit_lt_two_pow (show 1 < 2 ^ i from Nat.one_lt_two_pow z), Nat.testBit_lt_two_pow (x := n / 2 ^ k % 2) (by have := Nat.one_lt_two_pow z; have := Nat.mod_lt (n / 2 ^ k) (show 0 < 2 by decide); omega), Bool.and_false]
theorem mSes.mono {no no' i : Nat} {s : Ses} {fB fO fW fN cO cF cH fS : Nat → Int32} {fV cV : Nat → Int64} (hp : mSes no i s fB fO fW fV fN cO cF cH cV fS) (h : no ≤ no') : mSes no' i s fB fO fW fV fN cO cF cH cV fS := by
  obtain ⟨g1, g2, g3, g4, g5, g6, g7, g8⟩ := hp
  exact ⟨g1, g2, g3, g4.mono h, g5, g6, g7.congr h (fun _ _ => ⟨rfl, rfl, rfl, rfl⟩) (fun _ _ => rfl) (fun _ _ => rfl), g8⟩
section RMXv
variable {no nv ns : Nat} {V : Vs} {S : Ss} {LK : List Ar} {RL : Rl} {J : Nat} {C : CL} {M : Nat → Int32} {fH : Nat → Int32} {fF : Nat → Int64} {fB : Nat → Int32} {fO : Nat → Int32} {fW : Nat → Int32} {fV : Nat → Int64} {fN : Nat → Int32} {cO : Nat → Int32} {cF : Nat → Int32} {cH : Nat → Int32} {cV : Nat → Int64} {fS : Nat → Int32} {fC : Nat → Int32} {lO : Nat → Int32} {lA : Nat → Int64} {rA : Nat → Int32} {rB : Nat → Int32} {rD : Nat → Int64} {fM : Nat → Int32}
theorem RMX.ver {fH2 : Nat → Int32} {fF2 : Nat → Int64} {no' : Nat} {T : St} (hp : RMX no nv ns V S LK RL C M fH fF fB fO fW fV fN cO cF cH cV fS fC lO lA rA rB rD fM) (hn : no ≤ no') (hb : bz fH2) (h1 : ∀ x, x < 60 * nv → fH2 x = fH x) (h2 : ∀ x, x < 360 * nv → fF2 x = fF x) (hT : relR (rw1 fH2 nv) (rx1 fF2 nv) T) (hz : zeroM (rx1 fF2 nv) no') : RMX no' (nv + 1) ns (upN V nv T) S LK RL C M fH2 fF2 fB fO fW fV fN cO cF cH cV fS fC lO lA rA rB rD fM := by
  obtain ⟨⟨z1, z2, z3, z4⟩, xV, xS, xN, xL⟩ := hp
  refine ⟨⟨hb, z2, z3, z4⟩, fun v hv => ?_, fun i hi => (xS i hi).mono hn, xN, xL⟩
  by_cases q : v = nv
  · subst q
    rw [upN_s]
    exact ⟨hT, hz⟩
  · rw [upN_n _ _ q]
    have hw : ∀ o, o < 60 → rw1 fH2 v o = rw1 fH v o := fun o ho => h1 _ (by omega)
    have hx : ∀ p, p < 360 → rx1 fF2 v p = rx1 fF v p := fun p hp => h2 _ (by omega)
    exact ⟨(xV v (by omega)).1.congr hw hx, ((xV v (by omega)).2.congr hx).mono hn⟩
theorem RMX.begin {fB2 fO2 fW2 : Nat → Int32} {fV2 : Nat → Int64} {bb : Nat} (hp : RMX no nv ns V S LK RL C M fH fF fB fO fW fV fN cO cF cH cV fS fC lO lA rA rB rD fM) (hns : ns < 20) (hb : bb < nv) (zO : bz fO2) (zW : bz fW2) (h1 : ∀ j, j ≠ ns → fB2 j = fB j ∧ fO2 j = fO j) (h2 : fB2 ns = nI bb) (h3 : fO2 ns = 1) (h4 : ∀ q, q < 60 → fW2 (60 * ns + q) = fH (60 * bb + q)) (h5 : ∀ x, x < 60 * ns → fW2 x = fW x) (h6 : ∀ p, p < 360 → fV2 (360 * ns + p) = fF (360 * bb + p)) (h7 : ∀ x, x < 360 * ns → fV2 x = fV x) : RMX no nv (ns + 1) V (upN S ns (bb, V bb, true, [], fun _ => 0)) LK RL C M fH fF fB2 fO2 fW2 fV2 fN cO cF cH cV fS fC lO lA rA rB rD fM := by
  obtain ⟨⟨z1, z2, z3, z4⟩, xV, xS, xN, xL⟩ := hp
  refine ⟨⟨z1, zO, zW, z4⟩, xV, fun i hi => ?_, fun i h8 h9 => xN i (by omega) h9, xL⟩
  by_cases q : i = ns
  · subst q
    rw [upN_s]
    obtain ⟨n1, n2⟩ := xN i (Nat.le_refl i) hns
    exact ⟨h2, h3, (xV bb hb).1.congr h4 h6, (xV bb hb).2.congr h6, n1, Nat.zero_le _, trivial, n2⟩
  · rw [upN_n _ _ q]
    obtain ⟨g1, g2, g3, g4, g5, g6, g7, g8⟩ := xS i (by omega)
    have hw : ∀ o, o < 60 → rw1 fW2 i o = rw1 fW i o := fun o ho => h5 _ (by omega)
    have hx : ∀ p, p < 360 → rx1 fV2 i p = rx1 fV i p := fun p hp => h7 _ (by omega)
    exact ⟨(h1 i q).1.trans g1, (h1 i q).2.trans g2, g3.congr hw hx, g4.congr hx, g5, g6, g7.congr (Nat.le_refl no) (fun _ _ => ⟨rfl, rfl, rfl, rfl⟩) hw hx, g8⟩
end RMXv
