theorem rx1_u (fV : Nat → Int64) (i p : Nat) (x : Int64) : rx1 (vp_updL fV (360 * i + p) x) i = upN (rx1 fV i) p x := by
  funext q
  unfold rx1 upN vp_updL
  by_cases h : q = p
  · subst h; simp
  · simp [h]
theorem rx1_o {fV : Nat → Int64} {i j p q : Nat} {x : Int64} (h : j ≠ i) (hp : p < 360) (hq : q < 360) : vp_updL fV (360 * i + p) x (360 * j + q) = fV (360 * j + q) := by
  unfold vp_updL
  rw [if_neg (by omega)]
theorem rw1_u (fW : Nat → Int32) (i o : Nat) (x : Int32) : rw1 (upd fW (60 * i + o) x) i = upN (rw1 fW i) o x := by
  funext q
  unfold rw1 upN upd
  by_cases h : q = o
  · subst h; simp
  · simp [h]
theorem rw1_o {fW : Nat → Int32} {i j o q : Nat} {x : Int32} (h : j ≠ i) (ho : o < 60) (hq : q < 60) : upd fW (60 * i + o) x (60 * j + q) = fW (60 * j + q) := by
  unfold upd
  rw [if_neg (by omega)]
theorem upN_back {β : Type} (f : Nat → β) (i : Nat) (x : β) (q : Nat) : upN (upN f i x) i (f i) q = f q := by
  by_cases h : q = i
  · subst h; rw [upN_s]
  · rw [upN_n _ _ h, upN_n _ _ h]
section RMXt
variable {no nv ns : Nat} {V : Vs} {S : Ss} {LK : List Ar} {RL : Rl} {J : Nat} {C : CL} {M : Nat → Int32} {fH : Nat → Int32} {fF : Nat → Int64} {fB : Nat → Int32} {fO : Nat → Int32} {fW : Nat → Int32} {fV : Nat → Int64} {fN : Nat → Int32} {cO : Nat → Int32} {cF : Nat → Int32} {cH : Nat → Int32} {cV : Nat → Int64} {fS : Nat → Int32} {fC : Nat → Int32} {lO : Nat → Int32} {lA : Nat → Int64} {rA : Nat → Int32} {rB : Nat → Int32} {rD : Nat → Int64} {fM : Nat → Int32}
theorem RMX.set {fN2 cO2 cF2 cH2 : Nat → Int32} {cV2 : Nat → Int64} {i n o f : Nat} {x : Int64} {r : Rw} (hp : RMX no nv ns V S LK RL C M fH fF fB fO fW fV fN cO cF cH cV fS fC lO lA rA rB rD fM) (hi : i < ns) (hn : n = (S i).2.2.2.1.length) (hN : NP i n o f fW fV fN cO cF cH cV fN2 cO2 cF2 cH2 cV2) (hno : no ≤ 60) (ho : o < no) (hf : f < 6) (hr : (S i).2.1 o = some r) : RMX no nv ns V (upN S i (sChg (S i) o (some (rwSet r f x)))) LK RL C M fH fF fB fO fW (vp_updL fV (360 * i + 6 * o + f) x) fN2 cO2 cF2 cH2 cV2 fS fC lO lA rA rB rD fM := by
  obtain ⟨g1, g2, g3, g4, -⟩ := hp.2.2.1 i hi
  have hf6 : ¬ f = 6 := by omega
  have e1 : rx1 (vp_updL fV (360 * i + 6 * o + f) x) i = upN (rx1 fV i) (6 * o + f) x := by rw [Nat.add_assoc]; exact rx1_u fV i _ x
  refine hp.chg hi hn hN (Nat.le_refl no) ho (by omega) hp.1.2.2.1 (fun _ _ _ _ => rfl) (fun j hj q hq => by rw [Nat.add_assoc]; exact rx1_o hj (by omega) hq) (fun q _ => by unfold undW; rw [if_neg hf6]) (fun q _ => ?_) ?_ ?_
  · rw [e1]
    unfold undX
    rw [if_neg hf6, if_neg hf6, show fV (360 * i + 6 * o + f) = rx1 fV i (6 * o + f) by unfold rx1; rw [Nat.add_assoc]]
    exact upN_back _ _ _ q
  · rw [e1]
    refine g3.up (fun _ _ _ => rfl) (fun q hq hn k hk => by rw [upN_n _ _ (by omega)]) ?_ (fun r2 hr2 k hk => ?_)
    · rw [(g3 o (by omega)).1, hr]; rfl
    · cases hr2
      by_cases z : k = f
      · subst z; rw [upN_s, rwSet_s]
      · rw [upN_n _ _ (by omega), rwSet_n z]; exact (g3 o (by omega)).2 r hr k hk
  · intro q h1 h2 k hk
    rw [e1, upN_n _ _ (by omega)]
    exact g4 q h1 h2 k hk
theorem RMX.drop {fN2 cO2 cF2 cH2 : Nat → Int32} {cV2 : Nat → Int64} {i n o : Nat} (hp : RMX no nv ns V S LK RL C M fH fF fB fO fW fV fN cO cF cH cV fS fC lO lA rA rB rD fM) (hi : i < ns) (hn : n = (S i).2.2.2.1.length) (hN : NP i n o 6 fW fV fN cO cF cH cV fN2 cO2 cF2 cH2 cV2) (hno : no ≤ 60) (ho : o < no) : RMX no nv ns V (upN S i (sChg (S i) o none)) LK RL C M fH fF fB fO (upd fW (60 * i + o) (vp_nar .boolean (nI 0))) fV fN2 cO2 cF2 cH2 cV2 fS fC lO lA rA rB rD fM := by
  obtain ⟨g1, g2, g3, g4, -⟩ := hp.2.2.1 i hi
  have e1 := rw1_u fW i o (vp_nar .boolean (nI 0))
  refine hp.chg hi hn hN (Nat.le_refl no) ho (by decide) (bz_u hp.1.2.2.1 _ _) (fun j hj q hq => rw1_o hj (by omega) hq) (fun _ _ _ _ => rfl) (fun q _ => ?_) (fun q _ => by unfold undX; rw [if_pos rfl]) ?_ g4
  · rw [e1]
    unfold undW
    rw [if_pos rfl]
    exact upN_back (rw1 fW i) o _ q
  · rw [e1]
    exact g3.up (fun q hq hn => upN_n _ _ hn) (fun _ _ _ _ _ => rfl) (by rw [upN_s]; rfl) (fun r2 hr2 => by cases hr2)
theorem RMX.make {fN2 cO2 cF2 cH2 : Nat → Int32} {cV2 : Nat → Int64} {i n : Nat} (hp : RMX no nv ns V S LK RL C M fH fF fB fO fW fV fN cO cF cH cV fS fC lO lA rA rB rD fM) (hi : i < ns) (hn : n = (S i).2.2.2.1.length) (hN : NP i n no 6 fW fV fN cO cF cH cV fN2 cO2 cF2 cH2 cV2) (hno : no < 60) : RMX (no + 1) nv ns V (upN S i (sChg (S i) no (some (fun _ => 0)))) LK RL C M fH fF fB fO (upd fW (60 * i + no) (vp_nar .boolean (nI 1))) fV fN2 cO2 cF2 cH2 cV2 fS fC lO lA rA rB rD fM := by
  obtain ⟨g1, g2, g3, g4, -⟩ := hp.2.2.1 i hi
  have e1 := rw1_u fW i no (vp_nar .boolean (nI 1))
  refine hp.chg hi hn hN (Nat.le_succ no) (Nat.lt_succ_self no) (by decide) (bz_u hp.1.2.2.1 _ _) (fun j hj q hq => rw1_o hj (by omega) hq) (fun _ _ _ _ => rfl) (fun q _ => ?_) (fun q _ => by unfold undX; rw [if_pos rfl]) ?_ (g4.mono (Nat.le_succ no))
  · rw [e1]
    unfold undW
    rw [if_pos rfl]
    exact upN_back (rw1 fW i) no _ q
  · rw [e1]
    exact g3.up (fun q hq hn => upN_n _ _ hn) (fun _ _ _ _ _ => rfl) (by rw [upN_s]; rfl) (fun r2 hr2 k hk => by cases hr2; exact g4 no (Nat.le_refl no) hno k hk)
/-- what the last entry says, and what undo leaves -/
theorem RMX.last {i : Nat} {S0 : St} {Ss : List St} (hp : RMX no nv ns V S LK RL C M fH fF fB fO fW fV fN cO cF cH cV fS fC lO lA rA rB rD fM) (hi : i < ns) (hh : (S i).2.2.2.1 = S0 :: Ss) : Ss.length < 40 ∧ fN i = nI (Ss.length + 1) ∧ ∃ o f, o < no ∧ f < 7 ∧ cO (40 * i + Ss.length) = nI o ∧ cF (40 * i + Ss.length) = nI f := by
  obtain ⟨g1, g2, g3, g4, g5, g6, g7, g8⟩ := hp.2.2.1 i hi
  rw [hh] at g5 g6 g7
  obtain ⟨o, f, h1, h2, h3, h4, -⟩ := g7
  exact ⟨by simp at g6; omega, g5, o, f, h1, h2, h3, h4⟩
theorem RMX.back {fW2 : Nat → Int32} {fV2 : Nat → Int64} {i o f : Nat} {S0 : St} {Ss : List St} (hp : RMX no nv ns V S LK RL C M fH fF fB fO fW fV fN cO cF cH cV fS fC lO lA rA rB rD fM) (hi : i < ns) (hno : no ≤ 60) (hh : (S i).2.2.2.1 = S0 :: Ss) (ho : o < no) (hf : f < 7) (eO : cO (40 * i + Ss.length) = nI o) (eF : cF (40 * i + Ss.length) = nI f) (hcase : (f = 6 ∧ fW2 = upd fW (60 * i + o) (vp_nar .boolean (cH (40 * i + Ss.length))) ∧ fV2 = fV) ∨ (¬ f = 6 ∧ fW2 = fW ∧ fV2 = vp_updL fV (360 * i + 6 * o + f) (cV (40 * i + Ss.length)))) : RMX no nv ns V (upN S i (sBack (S i))) LK RL C M fH fF fB fO fW2 fV2 (upd fN i (nI Ss.length)) cO cF cH cV fS fC lO lA rA rB rD fM := by
  have hzH := hp.1.2.2.2
  obtain ⟨g1, g2, g3, g4, g5, g6, g7, g8⟩ := hp.2.2.1 i hi
  rw [hh] at g5 g6 g7
  obtain ⟨o', f', h1, h2, h3, h4, h5, h6⟩ := g7
  have eo : o' = o := (nI_eq (by omega) (by omega)).mp (h3.symm.trans eO)
  have ef : f' = f := (nI_eq (by omega) (by omega)).mp (h4.symm.trans eF)
  subst eo
  subst ef
  have hs : sBack (S i) = ((S i).1, S0, (S i).2.2.1, Ss, (S i).2.2.2.2) := by unfold sBack; rw [hh]
  have hl : Ss.length ≤ 40 := by simp at g6; omega
  have hN : ∀ j, j ≠ i → upd fN i (nI Ss.length) j = fN j := fun j hj => by simp [upd, hj]
  have hW : ∀ q, q < 60 → rw1 fW2 i q = undW f' o' (cH (40 * i + Ss.length)) (rw1 fW i) q := by
    rcases hcase with ⟨c1, c2, c3⟩ | ⟨c1, c2, c3⟩
    · intro q _; rw [c2, rw1_u, hzH]; unfold undW; rw [if_pos c1]
    · intro q _; rw [c2]; unfold undW; rw [if_neg c1]
  have hX : ∀ q, q < 360 → rx1 fV2 i q = undX f' o' (cV (40 * i + Ss.length)) (rx1 fV i) q := by
    rcases hcase with ⟨c1, c2, c3⟩ | ⟨c1, c2, c3⟩
    · intro q _; rw [c3]; unfold undX; rw [if_pos c1]
    · intro q _; rw [c3, Nat.add_assoc, rx1_u]; unfold undX; rw [if_neg c1]
  refine hp.ses hi hp.1.2.1 ?_ (fun _ _ => rfl) hN ?_ ?_ (fun _ _ _ _ => rfl) ?_
  · rcases hcase with ⟨c1, c2, c3⟩ | ⟨c1, c2, c3⟩
    · rw [c2]; exact bz_u hp.1.2.2.1 _ _
    · rw [c2]; exact hp.1.2.2.1
  · intro j hj q hq
    rcases hcase with ⟨c1, c2, c3⟩ | ⟨c1, c2, c3⟩
    · rw [c2]; exact rw1_o hj (by omega) hq
    · rw [c2]
  · intro j hj q hq
    rcases hcase with ⟨c1, c2, c3⟩ | ⟨c1, c2, c3⟩
    · rw [c3]
    · rw [c3, Nat.add_assoc]; exact rx1_o hj (by omega) hq
  · rw [hs]
    refine ⟨g1, g2, h5.congr hW hX, ?_, by simp [upd], hl, h6.congr (Nat.le_refl no) (fun _ _ => ⟨rfl, rfl, rfl, rfl⟩) hW hX, g8⟩
    intro q h1' h2' k hk
    rw [hX _ (by omega)]
    unfold undX
    split
    · exact g4 q h1' h2' k hk
    · rw [upN_n _ _ (by omega)]; exact g4 q h1' h2' k hk
end RMXt
