/-! counting bits: by bytes -/
theorem nx_and' (a b : Nat) : nI a &&& nI b = nI (a &&& b) := by
  apply Int32.toBitVec_inj.1
  show BitVec.ofNat 32 a &&& BitVec.ofNat 32 b = BitVec.ofNat 32 (a &&& b)
  apply BitVec.eq_of_getLsbD_eq
  intro i hi
  simp [hi]
theorem and_split {x m0 M k : Nat} (h : m0 < 2 ^ k) : x &&& (m0 + 2 ^ k * M) = (x % 2 ^ k &&& m0) + 2 ^ k * (x / 2 ^ k &&& M) := by
  have h1 : (x &&& (m0 + 2 ^ k * M)) % 2 ^ k = x % 2 ^ k &&& m0 := by
    rw [Nat.and_mod_two_pow, Nat.add_mul_mod_self_left, Nat.mod_eq_of_lt h]
  have h2 : (x &&& (m0 + 2 ^ k * M)) / 2 ^ k = x / 2 ^ k &&& M := by
    rw [Nat.and_div_two_pow, Nat.add_mul_div_left _ _ (Nat.two_pow_pos k), Nat.div_eq_of_lt h, Nat.zero_add]
  rw [← h1, ← h2]
  exact (Nat.mod_add_div _ _).symm
theorem and4 {a0 a1 a2 a3 m : Nat} (h0 : a0 < 256) (h1 : a1 < 256) (h2 : a2 < 256) (hm : m < 256) : (a0 + 256 * (a1 + 256 * (a2 + 256 * a3))) &&& (m + 256 * (m + 256 * (m + 256 * m))) = (a0 &&& m) + 256 * ((a1 &&& m) + 256 * ((a2 &&& m) + 256 * (a3 &&& m))) := by
  have e := @and_split (a0 + 256 * (a1 + 256 * (a2 + 256 * a3))) m (m + 256 * (m + 256 * m)) 8 hm
  have e1 := @and_split (a1 + 256 * (a2 + 256 * a3)) m (m + 256 * m) 8 hm
  have e2 := @and_split (a2 + 256 * a3) m m 8 hm
  simp only [show (2 : Nat) ^ 8 = 256 from rfl] at e e1 e2
  rw [show (a0 + 256 * (a1 + 256 * (a2 + 256 * a3))) % 256 = a0 by omega, show (a0 + 256 * (a1 + 256 * (a2 + 256 * a3))) / 256 = a1 + 256 * (a2 + 256 * a3) by omega] at e
  rw [show (a1 + 256 * (a2 + 256 * a3)) % 256 = a1 by omega, show (a1 + 256 * (a2 + 256 * a3)) / 256 = a2 + 256 * a3 by omega] at e1
  rw [show (a2 + 256 * a3) % 256 = a2 by omega, show (a2 + 256 * a3) / 256 = a3 by omega] at e2
  rw [e, e1, e2]
def bc1 (a : Nat) : Nat := a - (a / 2 &&& 85)
def bc2 (c : Nat) : Nat := (c &&& 51) + (c / 4 &&& 51)
def bc3 (d : Nat) : Nat := (d + d / 16) % 16
def pop8 (a : Nat) : Nat := a % 2 + a / 2 % 2 + a / 4 % 2 + a / 8 % 2 + a / 16 % 2 + a / 32 % 2 + a / 64 % 2 + a / 128 % 2
theorem bc_a : ∀ a, a < 256 → ∀ b, b < 2 → (a / 2 + 128 * b) &&& 85 = a / 2 &&& 85 := by decide +kernel
theorem bc_b : ∀ a, a < 256 → (a / 2 &&& 85) ≤ a ∧ bc1 a < 256 := by decide +kernel
theorem bc_c : ∀ c, c < 256 → ∀ b, b < 4 → (c / 4 + 64 * b) &&& 51 = c / 4 &&& 51 := by decide +kernel
theorem bc_d : ∀ a, a < 256 → bc2 (bc1 a) < 80 ∧ bc2 (bc1 a) % 16 ≤ 4 ∧ bc2 (bc1 a) / 16 ≤ 4 ∧ bc3 (bc2 (bc1 a)) = pop8 a ∧ pop8 a ≤ 8 := by decide +kernel
theorem bc_e : ∀ x, x < 256 → x &&& 15 = x % 16 := by decide +kernel
theorem bc_s1 {a0 a1 a2 a3 : Nat} (h0 : a0 < 256) (h1 : a1 < 256) (h2 : a2 < 256) (h3 : a3 < 256) : (a0 + 256 * (a1 + 256 * (a2 + 256 * a3))) / 2 &&& 1431655765 = (a0 / 2 &&& 85) + 256 * ((a1 / 2 &&& 85) + 256 * ((a2 / 2 &&& 85) + 256 * (a3 / 2 &&& 85))) := by
  have e : (a0 + 256 * (a1 + 256 * (a2 + 256 * a3))) / 2 = (a0 / 2 + 128 * (a1 % 2)) + 256 * ((a1 / 2 + 128 * (a2 % 2)) + 256 * ((a2 / 2 + 128 * (a3 % 2)) + 256 * (a3 / 2))) := by omega
  have hm : (1431655765 : Nat) = 85 + 256 * (85 + 256 * (85 + 256 * 85)) := by decide
  rw [e, hm, and4 (by omega) (by omega) (by omega) (by decide), bc_a a0 h0 _ (by omega), bc_a a1 h1 _ (by omega), bc_a a2 h2 _ (by omega)]
theorem bc_s2a {a0 a1 a2 a3 : Nat} (h0 : a0 < 256) (h1 : a1 < 256) (h2 : a2 < 256) : (a0 + 256 * (a1 + 256 * (a2 + 256 * a3))) &&& 858993459 = (a0 &&& 51) + 256 * ((a1 &&& 51) + 256 * ((a2 &&& 51) + 256 * (a3 &&& 51))) := by
  have hm : (858993459 : Nat) = 51 + 256 * (51 + 256 * (51 + 256 * 51)) := by decide
  rw [hm, and4 h0 h1 h2 (by decide)]
theorem bc_s2b {a0 a1 a2 a3 : Nat} (h0 : a0 < 256) (h1 : a1 < 256) (h2 : a2 < 256) (h3 : a3 < 256) : (a0 + 256 * (a1 + 256 * (a2 + 256 * a3))) / 4 &&& 858993459 = (a0 / 4 &&& 51) + 256 * ((a1 / 4 &&& 51) + 256 * ((a2 / 4 &&& 51) + 256 * (a3 / 4 &&& 51))) := by
  have e : (a0 + 256 * (a1 + 256 * (a2 + 256 * a3))) / 4 = (a0 / 4 + 64 * (a1 % 4)) + 256 * ((a1 / 4 + 64 * (a2 % 4)) + 256 * ((a2 / 4 + 64 * (a3 % 4)) + 256 * (a3 / 4))) := by omega
  rw [e, bc_s2a (by omega) (by omega) (by omega), bc_c a0 h0 _ (by omega), bc_c a1 h1 _ (by omega), bc_c a2 h2 _ (by omega)]
theorem bc_s3 {d0 d1 d2 d3 : Nat} (h0 : d0 < 80) (h1 : d1 < 80) (h2 : d2 < 80) (h3 : d3 < 80) (g1 : d1 % 16 ≤ 4) (g2 : d2 % 16 ≤ 4) (g3 : d3 % 16 ≤ 4) : ((d0 + 256 * (d1 + 256 * (d2 + 256 * d3))) + (d0 + 256 * (d1 + 256 * (d2 + 256 * d3))) / 16) &&& 252645135 = bc3 d0 + 256 * (bc3 d1 + 256 * (bc3 d2 + 256 * bc3 d3)) := by
  have e : ((d0 + 256 * (d1 + 256 * (d2 + 256 * d3))) + (d0 + 256 * (d1 + 256 * (d2 + 256 * d3))) / 16) = (d0 + d0 / 16 + 16 * (d1 % 16)) + 256 * ((d1 + d1 / 16 + 16 * (d2 % 16)) + 256 * ((d2 + d2 / 16 + 16 * (d3 % 16)) + 256 * (d3 + d3 / 16))) := by omega
  have hm : (252645135 : Nat) = 15 + 256 * (15 + 256 * (15 + 256 * 15)) := by decide
  rw [e, hm, and4 (by omega) (by omega) (by omega) (by decide), bc_e _ (by omega), bc_e _ (by omega), bc_e _ (by omega), bc_e _ (by omega)]
  unfold bc3
  omega
theorem bitS_add (n j k : Nat) : bitS n (j + k) = bitS n j + bitS (n / 2 ^ j) k := by
  induction k with
  | zero => rfl
  | succ k ih =>
    rw [← Nat.add_assoc, bitS, bitS, ih, Nat.div_div_eq_div_mul, ← Nat.pow_add, Nat.add_assoc]
theorem bitS_b (a b : Nat) : bitS (a + 256 * b) 8 = pop8 a := by
  have t0 : (a + 256 * b) / 1 % 2 = a % 2 := by omega
  have t1 : (a + 256 * b) / 2 % 2 = a / 2 % 2 := by omega
  have t2 : (a + 256 * b) / 4 % 2 = a / 4 % 2 := by omega
  have t3 : (a + 256 * b) / 8 % 2 = a / 8 % 2 := by omega
  have t4 : (a + 256 * b) / 16 % 2 = a / 16 % 2 := by omega
  have t5 : (a + 256 * b) / 32 % 2 = a / 32 % 2 := by omega
  have t6 : (a + 256 * b) / 64 % 2 = a / 64 % 2 := by omega
  have t7 : (a + 256 * b) / 128 % 2 = a / 128 % 2 := by omega
  show 0 + (a + 256 * b) / 1 % 2 + (a + 256 * b) / 2 % 2 + (a + 256 * b) / 4 % 2 + (a + 256 * b) / 8 % 2 + (a + 256 * b) / 16 % 2 + (a + 256 * b) / 32 % 2 + (a + 256 * b) / 64 % 2 + (a + 256 * b) / 128 % 2 = _
  rw [t0, t1, t2, t3, t4, t5, t6, t7, Nat.zero_add]
  rfl
theorem bitS_8 {a0 a1 a2 a3 : Nat} (h0 : a0 < 256) (h1 : a1 < 256) (h2 : a2 < 256) (h3 : a3 < 256) : bitS (a0 + 256 * (a1 + 256 * (a2 + 256 * a3))) 32 = pop8 a0 + pop8 a1 + pop8 a2 + pop8 a3 := by
  rw [show 32 = 8 + (8 + (8 + 8)) from rfl, bitS_add, bitS_add, bitS_add, bitS_b]
  simp only [show (2 : Nat) ^ 8 = 256 from rfl]
  rw [show (a0 + 256 * (a1 + 256 * (a2 + 256 * a3))) / 256 = a1 + 256 * (a2 + 256 * a3) by omega, bitS_b, show (a1 + 256 * (a2 + 256 * a3)) / 256 = a2 + 256 * a3 by omega, bitS_b, show (a2 + 256 * a3) / 256 = a3 by omega]
  have t := bitS_b a3 0
  rw [Nat.mul_zero, Nat.add_zero] at t
  rw [t]
  omega
theorem bc_fin {e0 e1 e2 e3 : Nat} (h0 : e0 ≤ 8) (h1 : e1 ≤ 8) (h2 : e2 ≤ 8) (h3 : e3 ≤ 8) : ((e0 + 256 * (e1 + 256 * (e2 + 256 * e3))) + (e0 + 256 * (e1 + 256 * (e2 + 256 * e3))) / 256 + ((e0 + 256 * (e1 + 256 * (e2 + 256 * e3))) + (e0 + 256 * (e1 + 256 * (e2 + 256 * e3))) / 256) / 65536) % 64 = e0 + e1 + e2 + e3 := by
  have k1 : (e0 + 256 * (e1 + 256 * (e2 + 256 * e3))) / 256 = e1 + 256 * (e2 + 256 * e3) := by omega
  have k2 : ((e0 + 256 * (e1 + 256 * (e2 + 256 * e3))) + (e1 + 256 * (e2 + 256 * e3))) / 65536 = e2 + e3 + 256 * e3 := by omega
  rw [k1, k2]
  omega
/-- what Integer.bitCount reckons -/
theorem bcAll (n : Nat) (hn : n < 2 ^ 32) : ∃ s1 s2 s3 s4 s5 : Nat, (n / 2 &&& 1431655765) ≤ n ∧ s1 = n - (n / 2 &&& 1431655765) ∧ s1 < 2 ^ 32 ∧ s2 = (s1 &&& 858993459) + (s1 / 4 &&& 858993459) ∧ s2 < 2 ^ 32 ∧ s3 = (s2 + s2 / 16) &&& 252645135 ∧ s3 < 2 ^ 32 ∧ s4 = s3 + s3 / 256 ∧ s4 < 2 ^ 32 ∧ s5 = s4 + s4 / 65536 ∧ s5 < 2 ^ 32 ∧ s5 &&& 63 = bitS n 32 := by
  obtain ⟨a0, a1, a2, a3, h0, h1, h2, h3, rfl⟩ : ∃ a0 a1 a2 a3 : Nat, a0 < 256 ∧ a1 < 256 ∧ a2 < 256 ∧ a3 < 256 ∧ n = a0 + 256 * (a1 + 256 * (a2 + 256 * a3)) := ⟨n % 256, n / 256 % 256, n / 65536 % 256, n / 16777216, by omega, by omega, by omega, by omega, by omega⟩
  obtain ⟨p0, q0⟩ := bc_b a0 h0
  obtain ⟨p1, q1⟩ := bc_b a1 h1
  obtain ⟨p2, q2⟩ := bc_b a2 h2
  obtain ⟨p3, q3⟩ := bc_b a3 h3
  obtain ⟨x0, y0, z0, w0, v0⟩ := bc_d a0 h0
  obtain ⟨x1, y1, z1, w1, v1⟩ := bc_d a1 h1
  obtain ⟨x2, y2, z2, w2, v2⟩ := bc_d a2 h2
  obtain ⟨x3, y3, z3, w3, v3⟩ := bc_d a3 h3
  have e1 := bc_s1 h0 h1 h2 h3
  have f1 : (a0 + 256 * (a1 + 256 * (a2 + 256 * a3))) - ((a0 + 256 * (a1 + 256 * (a2 + 256 * a3))) / 2 &&& 1431655765) = bc1 a0 + 256 * (bc1 a1 + 256 * (bc1 a2 + 256 * bc1 a3)) := by
    rw [e1]; unfold bc1; omega
  have f2 : ((bc1 a0 + 256 * (bc1 a1 + 256 * (bc1 a2 + 256 * bc1 a3))) &&& 858993459) + ((bc1 a0 + 256 * (bc1 a1 + 256 * (bc1 a2 + 256 * bc1 a3))) / 4 &&& 858993459) = bc2 (bc1 a0) + 256 * (bc2 (bc1 a1) + 256 * (bc2 (bc1 a2) + 256 * bc2 (bc1 a3))) := by
    rw [bc_s2a q0 q1 q2, bc_s2b q0 q1 q2 q3]; unfold bc2; omega
  have f3 := bc_s3 x0 x1 x2 x3 y1 y2 y3
  rw [w0, w1, w2, w3] at f3
  refine ⟨_, _, _, _, _, ?_, rfl, ?_, rfl, ?_, rfl, ?_, rfl, ?_, rfl, ?_, ?_⟩
  · rw [e1]; omega
  · rw [f1]; omega
  · rw [f1, f2]; omega
  · rw [f1, f2, f3]; omega
  · rw [f1, f2, f3]; omega
  · rw [f1, f2, f3]; omega
  · rw [f1, f2, f3, bitS_8 h0 h1 h2 h3, show (63 : Nat) = 2 ^ 6 - 1 from rfl, Nat.and_two_pow_sub_one_eq_mod]
    exact bc_fin v0 v1 v2 v3
