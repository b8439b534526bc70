theorem wb_tb (n : Nat) : (lN n).toBitVec = BitVec.ofNat 64 n := rfl
theorem wb_inj {a b : Int64} (h : a.toBitVec = b.toBitVec) : a = b := Int64.toBitVec_inj.mp h
theorem wb_tn {n : Nat} (h : n < 2 ^ 64) : (lN n).toBitVec.toNat = n := by rw [wb_tb, BitVec.toNat_ofNat, Nat.mod_eq_of_lt h]
theorem wb_of (x : Int64) : ∃ n, n < 2 ^ 64 ∧ x = lN n := ⟨x.toBitVec.toNat, x.toBitVec.isLt, wb_inj (by rw [wb_tb]; simp)⟩
theorem wb_of32 (x : Int32) : ∃ n, n < 2 ^ 32 ∧ x = nI n := ⟨x.toBitVec.toNat, x.toBitVec.isLt, Int32.toBitVec_inj.mp (by show _ = BitVec.ofNat 32 _; simp)⟩
theorem wb_c : ∀ k, k < 64 → ((nI k).toInt64 &&& 63) = lN k := by decide +kernel
theorem wb_cu : ∀ k, k < 64 → ((nI k).toInt64.toUInt64 &&& Int64.toUInt64 63) = UInt64.ofNat k := by decide +kernel
theorem wb_sm : ∀ k, k < 64 → (BitVec.ofNat 64 k).smod 64 = BitVec.ofNat 64 k := by decide +kernel
theorem wb_pw {a b : Nat} (h : a ≤ b) : 2 ^ b = 2 ^ a * 2 ^ (b - a) := by rw [← Nat.pow_add]; congr 1; omega
theorem wb_lt2 {a b : Nat} (h : a < b) : 2 ^ a < 2 ^ b := Nat.pow_lt_pow_right (by decide) h
theorem wb_mod (n : Nat) : lN n = lN (n % 2 ^ 64) := wb_inj (by rw [wb_tb, wb_tb]; apply BitVec.eq_of_toNat_eq; rw [BitVec.toNat_ofNat, BitVec.toNat_ofNat, Nat.mod_mod])
theorem wb_shr {n k : Nat} (hn : n < 2 ^ 64) (hk : k < 64) : ((lN n).toUInt64 >>> ((nI k).toInt64.toUInt64 &&& Int64.toUInt64 63)).toInt64 = lN (n / 2 ^ k) := by
  rw [wb_cu k hk]
  apply wb_inj
  apply BitVec.eq_of_toNat_eq
  show ((lN n).toUInt64 >>> UInt64.ofNat k).toNat = (BitVec.ofNat 64 _).toNat
  have h1 : (UInt64.ofNat k).toNat = k := by
    show (BitVec.ofNat 64 k).toNat = k
    rw [BitVec.toNat_ofNat, Nat.mod_eq_of_lt (by omega)]
  have h2 : (lN n).toUInt64.toNat = n := wb_tn hn
  rw [UInt64.toNat_shiftRight, h1, h2, Nat.mod_eq_of_lt hk, Nat.shiftRight_eq_div_pow, BitVec.toNat_ofNat, Nat.mod_eq_of_lt (Nat.lt_of_le_of_lt (Nat.div_le_self _ _) hn)]
theorem wb_shl (n : Nat) {k : Nat} (hk : k < 64) : lN n <<< ((nI k).toInt64 &&& 63) = lN (n * 2 ^ k) := by
  rw [wb_c k hk]
  apply wb_inj
  rw [Int64.toBitVec_shiftLeft, wb_tb, wb_tb, wb_tb, wb_sm k hk]
  apply BitVec.eq_of_toNat_eq
  rw [BitVec.shiftLeft_eq', BitVec.toNat_shiftLeft, BitVec.toNat_ofNat, BitVec.toNat_ofNat, BitVec.toNat_ofNat, Nat.mod_eq_of_lt (show k < 2 ^ 64 by omega), Nat.shiftLeft_eq, Nat.mul_mod, Nat.mod_mod, ← Nat.mul_mod]
abbrev kR : List Nat := [0, 1, 2, 3, 4, 5, 7, 8, 9, 10, 11, 12, 13, 14, 15, 16, 17, 18, 19, 21]
theorem RepC.kpR {h u : FH} {D : List Nat} {Kq xa : Nat} {ad : Ad} {no nv ns : Nat} {V : Nat → St} {S : Nat → Ses} {LK : List Ar} {RL : List (Nat × Nat × Int64)} {J : Nat} {C : CL} {M : Nat → Int32} (hp : RepC Kq h xa ad no nv ns V S LK RL J C M) (hk : kp D h u) (hD : av D kR = true) : RepC Kq u xa ad no nv ns V S LK RL J C M := by
  obtain ⟨hX, hV, hS, hL, hR, hC, hM, hI⟩ := hp
  have hm : ∀ K : List Nat, K.all (fun k => kR.contains k) = true → av D K = true := fun K hK => by
    unfold av
    rw [List.all_eq_true]
    intro k hk9
    rw [av_at hD (List.all_eq_true.mp hK k hk9)]
    rfl
  exact ⟨hk.at hD hX rfl, hV.kpt hk (hm _ rfl), hS.kpt hk (hm _ rfl), hL.kpt hk (hm _ rfl), hR.kpt hk (hm _ rfl), hC.kpt hk (hm _ rfl), hM.kpt hk (hm _ rfl), hI⟩
theorem gathL_mem {B N T : St} {n : Nat} {q : Nat × Nat} (h : q ∈ gathL B N T n) : q.1 < n ∧ q.2 < 7 := by
  induction n with
  | zero => cases h
  | succ n ih =>
    rw [gathL] at h
    rcases List.mem_append.mp h with h | h
    · have := ih h; omega
    · split at h
      · cases h
      · unfold gathO seGath at h
        obtain ⟨k, hk, rfl⟩ := List.mem_map.mp h
        have := List.mem_range.mp (List.mem_filter.mp hk).1
        exact ⟨Nat.lt_succ_self n, this⟩
theorem upN_same {β : Type} (f : Nat → β) (i : Nat) : upN f i (f i) = f := by
  funext j
  by_cases h : j = i
  · subst h; exact upN_s f j _
  · exact upN_n f _ h
def drI (x : Int64) (b : Nat) : Nat := x.toBitVec.toNat / 2 ^ 33 % b
theorem dr33_eq (x : Int64) : dr33 x = lN (x.toBitVec.toNat / 2 ^ 33) := by
  obtain ⟨n, hn, rfl⟩ := wb_of x
  unfold dr33
  rw [wb_shr hn (by decide), wb_tn hn]
theorem dr33_lt (x : Int64) : x.toBitVec.toNat / 2 ^ 33 < 2 ^ 31 := by
  have := x.toBitVec.isLt
  omega
theorem drMod_eq {x : Int64} {b : Nat} (h0 : 0 < b) (hb : b < 2 ^ 31) : drMod x (nI b) = nI (drI x b) := by
  have h2 := dr33_lt x
  unfold drMod drI
  rw [dr33_eq, nI_l hb, pk_lRem (by omega) h0 (by omega), lN_i]
theorem drI_lt {x : Int64} {b : Nat} (h0 : 0 < b) : drI x b < b := Nat.mod_lt _ h0
def ptStep (no : Nat) (LK : List Ar) (i : Nat) (s : Ses) (x : Int64) : Bool × Ses × Int64 :=
  if no = 0 then (false, s, x) else match s.2.1 (drI (drNext x) no) with
  | none => (false, s, drNext x)
  | some r => (opWr LK i (drI (drNext (drNext x)) 6) (lN (drI (drNext (drNext (drNext x))) 100)) r, if opWr LK i (drI (drNext (drNext x)) 6) (lN (drI (drNext (drNext (drNext x))) 100)) r = true then sChg s (drI (drNext x) no) (some (rwSet r (drI (drNext (drNext x)) 6) (lN (drI (drNext (drNext (drNext x))) 100)))) else s, drNext (drNext (drNext x)))
theorem up_if {β : Type} (f : Nat → β) (i : Nat) (x : β) (b : Bool) : (if b = true then upN f i x else f) = upN f i (if b = true then x else f i) := by
  cases b
  · simp [upN_same]
  · simp
