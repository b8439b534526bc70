theorem mL_add {lO : Nat → Int32} {lA : Nat → Int64} {LK : List Ar} (h : mL lO lA LK) (ow : Int32) (x0 y0 x1 y1 : Int64) : mL (upd lO LK.length ow) (vp_updL (vp_updL (vp_updL (vp_updL lA (4 * LK.length) x0) (4 * LK.length + 1) y0) (4 * LK.length + 2) x1) (4 * LK.length + 3) y1) (LK ++ [(ow, x0, y0, x1, y1)]) := by
  intro k a hk
  rcases Nat.lt_trichotomy k LK.length with z | z | z
  · rw [List.getElem?_append_left z] at hk
    obtain ⟨h1, h2, h3, h4, h5⟩ := h k a hk
    refine ⟨?_, ?_, ?_, ?_, ?_⟩
    · rw [← h1]; simp [upd, Nat.ne_of_lt z]
    · exact (pk_uLn (by omega)).trans ((pk_uLn (by omega)).trans ((pk_uLn (by omega)).trans ((pk_uLn (by omega)).trans h2)))
    · exact (pk_uLn (by omega)).trans ((pk_uLn (by omega)).trans ((pk_uLn (by omega)).trans ((pk_uLn (by omega)).trans h3)))
    · exact (pk_uLn (by omega)).trans ((pk_uLn (by omega)).trans ((pk_uLn (by omega)).trans ((pk_uLn (by omega)).trans h4)))
    · exact (pk_uLn (by omega)).trans ((pk_uLn (by omega)).trans ((pk_uLn (by omega)).trans ((pk_uLn (by omega)).trans h5)))
  · subst z
    rw [List.getElem?_append_right (Nat.le_refl _), Nat.sub_self] at hk
    cases hk
    refine ⟨by simp [upd], ?_, ?_, ?_, ?_⟩ <;> simp [vp_updL]
  · rw [List.getElem?_eq_none (by rw [List.length_append]; simp; omega)] at hk
    cases hk
theorem mR_add {rA rB : Nat → Int32} {rD : Nat → Int64} {RL : Rl} (h : mR rA rB rD RL) (a b : Nat) (d : Int64) : mR (upd rA RL.length (nI a)) (upd rB RL.length (nI b)) (vp_updL rD RL.length d) (RL ++ [(a, b, d)]) := by
  intro k q hk
  rcases Nat.lt_trichotomy k RL.length with z | z | z
  · rw [List.getElem?_append_left z] at hk
    obtain ⟨h1, h2, h3⟩ := h k q hk
    exact ⟨by rw [← h1]; simp [upd, Nat.ne_of_lt z], by rw [← h2]; simp [upd, Nat.ne_of_lt z], by rw [← h3]; simp [vp_updL, Nat.ne_of_lt z]⟩
  · subst z
    rw [List.getElem?_append_right (Nat.le_refl _), Nat.sub_self] at hk
    cases hk
    exact ⟨by simp [upd], by simp [upd], by simp [vp_updL]⟩
  · rw [List.getElem?_eq_none (by rw [List.length_append]; simp; omega)] at hk
    cases hk
theorem cod7_d {o f : Nat} (h : o < 60) (hf : f < 7) : nI (7 * o + f) / nI 7 = nI o := by
  rw [pk_div (by omega) (by decide) (by decide)]
  congr 1
  omega
theorem cod7_r {o f : Nat} (h : o < 60) (hf : f < 7) : nI (7 * o + f) - nI (7 * o + f) / nI 7 * nI 7 = nI f := by
  rw [pk_rem (by omega) (by decide) (by decide)]
  congr 1
  omega
section RMXw
variable {no nv ns : Nat} {V : Vs} {S : Ss} {LK : List Ar} {RL : Rl} {J : Nat} {C : CL} {M : Nat → Int32} {fH : Nat → Int32} {fF : Nat → Int64} {fB : Nat → Int32} {fO : Nat → Int32} {fW : Nat → Int32} {fV : Nat → Int64} {fN : Nat → Int32} {cO : Nat → Int32} {cF : Nat → Int32} {cH : Nat → Int32} {cV : Nat → Int64} {fS : Nat → Int32} {fC : Nat → Int32} {lO : Nat → Int32} {lA : Nat → Int64} {rA : Nat → Int32} {rB : Nat → Int32} {rD : Nat → Int64} {fM : Nat → Int32}
theorem RMX.side {i o f n : Nat} (hp : RMX no nv ns V S LK RL C M fH fF fB fO fW fV fN cO cF cH cV fS fC lO lA rA rB rD fM) (hi : i < ns) (ho : o < 60) (hf : f < 7) : RMX no nv ns V (upN S i (sSide (S i) (o * 7 + f) n)) LK RL C M fH fF fB fO fW fV fN cO cF cH cV (upd fS (420 * i + (7 * o + f)) (nI (n + 1))) fC lO lA rA rB rD fM := by
  obtain ⟨g1, g2, g3, g4, g5, g6, g7, g8⟩ := hp.2.2.1 i hi
  refine hp.ses hi hp.1.2.1 hp.1.2.2.1 (fun _ _ => rfl) (fun _ _ => rfl) (fun _ _ _ _ => rfl) (fun _ _ _ _ => rfl) (fun j hj q hq => ?_) ⟨g1, g2, g3, g4, g5, g6, g7, fun p hp => ?_⟩
  · unfold upd
    rw [if_neg (by omega)]
  · show upd fS (420 * i + (7 * o + f)) (nI (n + 1)) (420 * i + p) = upd (S i).2.2.2.2 (o * 7 + f) (nI (n + 1)) p
    unfold upd
    by_cases z : p = o * 7 + f
    · rw [if_pos z, if_pos (by omega)]
    · rw [if_neg z, if_neg (by omega)]; exact g8 p hp
end RMXw
