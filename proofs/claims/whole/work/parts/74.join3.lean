theorem relR.row {fH : Nat → Int32} {fF : Nat → Int64} {v : Nat} {S : St} (h : relR (rw1 fH v) (rx1 fF v) S) {o : Nat} (ho : o < 60) : fH (60 * v + o) = bI (S o).isSome ∧ ∀ r, S o = some r → ∀ k, k < 6 → fF (360 * v + 6 * o + k) = r k := by
  refine ⟨(h o ho).1, fun r hr k hk => ?_⟩
  rw [Nat.add_assoc]
  exact (h o ho).2 r hr k hk
theorem relR.of {fH : Nat → Int32} {fF : Nat → Int64} {v : Nat} {S : St} (h : ∀ o, o < 60 → fH (60 * v + o) = bI (S o).isSome ∧ ∀ r, S o = some r → ∀ k, k < 6 → fF (360 * v + 6 * o + k) = r k) : relR (rw1 fH v) (rx1 fF v) S := fun o ho => ⟨(h o ho).1, fun r hr k hk => by
  unfold rx1
  rw [← Nat.add_assoc]
  exact (h o ho).2 r hr k hk⟩
theorem mrg_none {B T : St} {s : Ses} {o : Nat} (h1 : B o = none) (h2 : s.2.1 o = none) (h3 : T o = none) : mrg B s T o = none := by
  unfold mrg
  rw [h1, h2, h3]
  rfl
section RMXj
variable {no nv ns : Nat} {V : Vs} {S : Ss} {LK : List Ar} {RL : Rl} {J : Nat} {C : CL} {M : Nat → Int32} {fH : Nat → Int32} {fF : Nat → Int64} {fB : Nat → Int32} {fO : Nat → Int32} {fW : Nat → Int32} {fV : Nat → Int64} {fN : Nat → Int32} {cO : Nat → Int32} {cF : Nat → Int32} {cH : Nat → Int32} {cV : Nat → Int64} {fS : Nat → Int32} {fC : Nat → Int32} {lO : Nat → Int32} {lA : Nat → Int64} {rA : Nat → Int32} {rB : Nat → Int32} {rD : Nat → Int64} {fM : Nat → Int32}
theorem RMX.close {i : Nat} (hp : RMX no nv ns V S LK RL C M fH fF fB fO fW fV fN cO cF cH cV fS fC lO lA rA rB rD fM) (hi : i < ns) : RMX no nv ns V (upN S i (sClose (S i))) LK RL C M fH fF fB (upd fO i (vp_nar .boolean (nI 0))) fW fV fN cO cF cH cV fS fC lO lA rA rB rD fM := by
  obtain ⟨g1, g2, g3, g4, g5, g6, g7, g8⟩ := hp.2.2.1 i hi
  exact hp.ses hi (bz_u hp.1.2.1 _ _) hp.1.2.2.1 (fun j hj => by simp [upd, hj]) (fun _ _ => rfl) (fun _ _ _ _ => rfl) (fun _ _ _ _ => rfl) (fun _ _ _ _ => rfl) ⟨g1, by simp only [upd, if_true]; rfl, g3, g4, g5, g6, g7, g8⟩
end RMXj
