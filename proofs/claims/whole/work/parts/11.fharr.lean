section FHB
variable {p : Program} {l : Launch} {e : Env} {R : Room} {s : State} {m : MethodId} {args : Array Value} {below : List Frame} {meth : Method} {c : Code} {H : Heap} {locs : List Loc} {cells slots : Nat} {Q : State → Prop}
variable {cc : ByteArray} {pc : Nat} {ls : Array Slot} {rest : List Value} {G : fG} {cl : List vw_C} {ty : List FieldType} {h : FH} {A : Nat → Prop} {a : Nat} {H0 : Heap}
theorem fh_iald (hexec : p.tables.exec = Jvm.exec) (hb : c.code = cc) (hK : fh_K G cl ty s) (hP : fh_P G cl h H) {t n k : Nat} {f : Nat → Int32} (ha : h a = some (.inl (t, n, .inl f))) (ht : ty[t]? = some .int) (hk : k < n) (hn : n < 2 ^ 31) (hdg : decode cc pc = .ok (.iaload, 1))
    (kk : W p l e R s m args below meth c H locs cells slots Q (F0 m (pc + 1) ls (.int (f k) :: rest))) : W p l e R s m args below meth c H locs cells slots Q (F0 m pc ls (.int (nI k) :: .ref a :: rest)) := by
  refine va_iald hexec hb (hK.one ht) (hP.one ha) 0 0 rfl rfl (vp_in_nI hk hn) hdg ?_
  rw [nI_clamp (Nat.lt_trans hk hn)]
  exact kk
theorem fh_iast (hexec : p.tables.exec = Jvm.exec) (hb : c.code = cc) (hK : fh_K G cl ty s) (hP : fh_P G cl h H) (hS : va_S A H0 H locs) {t n k : Nat} {f : Nat → Int32} {x : Int32} (ha : h a = some (.inl (t, n, .inl f))) (hA : A a) (ht : ty[t]? = some .int) (hk : k < n) (hn : n < 2 ^ 31) (hdg : decode cc pc = .ok (.iastore, 1))
    (kk : ∀ (H1 : Heap) (locs1 : List Loc), fh_P G cl (fh_up h a (.inl (t, n, .inl (upd f k x)))) H1 → H1.size = H.size → va_S A H0 H1 locs1 → W p l e R s m args below meth c H1 locs1 cells slots Q (F0 m (pc + 1) ls rest)) : W p l e R s m args below meth c H locs cells slots Q (F0 m pc ls (.int (x) :: .int (nI k) :: .ref a :: rest)) := by
  have hc : H[a]? = some (vp_cell (G.2 t) (n, .inl f)) := hP a _ ha
  refine W.iast hexec hb hc ((hK.2 t _ ht).1 n (fun j => .int (f j))) (fun q => by cases q) (by show ¬ (nI k < 0 ∨ (arrV _ _ _).slots.size ≤ _); rw [arrV_size]; exact vp_in_nI hk hn) rfl rfl hdg fun H1 e1 z oq => ?_
  refine kk H1 _ (hP.set ?_ oq) z (hS.put z oq hA)
  show H1[a]? = some (vp_cell (G.2 t) (n, .inl (upd f k x)))
  rw [e1, vp_cell_i, vp_cell_i, arrV_store, nI_clamp (Nat.lt_trans hk hn)]
  congr 2
  funext q
  by_cases hq : q = k
  · subst hq
    simp [updV, upd]
  · simp [updV, upd, hq]
theorem fh_bald (hexec : p.tables.exec = Jvm.exec) (hb : c.code = cc) (hK : fh_K G cl ty s) (hP : fh_P G cl h H) {t n k : Nat} {f : Nat → Int32} (ha : h a = some (.inl (t, n, .inl f))) (ht : ty[t]? = some .byte) (hk : k < n) (hn : n < 2 ^ 31) (hdg : decode cc pc = .ok (.baload, 1))
    (kk : W p l e R s m args below meth c H locs cells slots Q (F0 m (pc + 1) ls (.int (f k) :: rest))) : W p l e R s m args below meth c H locs cells slots Q (F0 m pc ls (.int (nI k) :: .ref a :: rest)) := by
  refine va_bald hexec hb (hK.one ht) (hP.one ha) 0 0 rfl rfl (vp_in_nI hk hn) hdg ?_
  rw [nI_clamp (Nat.lt_trans hk hn)]
  exact kk
theorem fh_bast (hexec : p.tables.exec = Jvm.exec) (hb : c.code = cc) (hK : fh_K G cl ty s) (hP : fh_P G cl h H) (hS : va_S A H0 H locs) {t n k : Nat} {f : Nat → Int32} {x : Int32} (ha : h a = some (.inl (t, n, .inl f))) (hA : A a) (ht : ty[t]? = some .byte) (hk : k < n) (hn : n < 2 ^ 31) (hdg : decode cc pc = .ok (.bastore, 1))
    (kk : ∀ (H1 : Heap) (locs1 : List Loc), fh_P G cl (fh_up h a (.inl (t, n, .inl (upd f k (vp_nar .byte x))))) H1 → H1.size = H.size → va_S A H0 H1 locs1 → W p l e R s m args below meth c H1 locs1 cells slots Q (F0 m (pc + 1) ls rest)) : W p l e R s m args below meth c H locs cells slots Q (F0 m pc ls (.int (x) :: .int (nI k) :: .ref a :: rest)) := by
  have hc : H[a]? = some (vp_cell (G.2 t) (n, .inl f)) := hP a _ ha
  refine W.bast hexec hb hc ((hK.2 t _ ht).1 n (fun j => .int (f j))) (fun q => by cases q) (by show ¬ (nI k < 0 ∨ (arrV _ _ _).slots.size ≤ _); rw [arrV_size]; exact vp_in_nI hk hn) rfl rfl hdg fun H1 e1 z oq => ?_
  refine kk H1 _ (hP.set ?_ oq) z (hS.put z oq hA)
  show H1[a]? = some (vp_cell (G.2 t) (n, .inl (upd f k (vp_nar .byte x))))
  rw [e1, vp_cell_i, vp_cell_i, arrV_store, nI_clamp (Nat.lt_trans hk hn)]
  congr 2
  funext q
  by_cases hq : q = k
  · subst hq
    simp [updV, upd, vp_nar]
    try rfl
  · simp [updV, upd, hq]
theorem fh_zald (hexec : p.tables.exec = Jvm.exec) (hb : c.code = cc) (hK : fh_K G cl ty s) (hP : fh_P G cl h H) {t n k : Nat} {f : Nat → Int32} (ha : h a = some (.inl (t, n, .inl f))) (ht : ty[t]? = some .boolean) (hk : k < n) (hn : n < 2 ^ 31) (hdg : decode cc pc = .ok (.baload, 1))
    (kk : W p l e R s m args below meth c H locs cells slots Q (F0 m (pc + 1) ls (.int (f k) :: rest))) : W p l e R s m args below meth c H locs cells slots Q (F0 m pc ls (.int (nI k) :: .ref a :: rest)) := by
  refine va_zald hexec hb (hK.one ht) (hP.one ha) 0 0 rfl rfl (vp_in_nI hk hn) hdg ?_
  rw [nI_clamp (Nat.lt_trans hk hn)]
  exact kk
theorem fh_zast (hexec : p.tables.exec = Jvm.exec) (hb : c.code = cc) (hK : fh_K G cl ty s) (hP : fh_P G cl h H) (hS : va_S A H0 H locs) {t n k : Nat} {f : Nat → Int32} {x : Int32} (ha : h a = some (.inl (t, n, .inl f))) (hA : A a) (ht : ty[t]? = some .boolean) (hk : k < n) (hn : n < 2 ^ 31) (hdg : decode cc pc = .ok (.bastore, 1))
    (kk : ∀ (H1 : Heap) (locs1 : List Loc), fh_P G cl (fh_up h a (.inl (t, n, .inl (upd f k (vp_nar .boolean x))))) H1 → H1.size = H.size → va_S A H0 H1 locs1 → W p l e R s m args below meth c H1 locs1 cells slots Q (F0 m (pc + 1) ls rest)) : W p l e R s m args below meth c H locs cells slots Q (F0 m pc ls (.int (x) :: .int (nI k) :: .ref a :: rest)) := by
  have hc : H[a]? = some (vp_cell (G.2 t) (n, .inl f)) := hP a _ ha
  refine W.zast hexec hb hc ((hK.2 t _ ht).1 n (fun j => .int (f j))) (fun q => by cases q) (by show ¬ (nI k < 0 ∨ (arrV _ _ _).slots.size ≤ _); rw [arrV_size]; exact vp_in_nI hk hn) rfl rfl hdg fun H1 e1 z oq => ?_
  refine kk H1 _ (hP.set ?_ oq) z (hS.put z oq hA)
  show H1[a]? = some (vp_cell (G.2 t) (n, .inl (upd f k (vp_nar .boolean x))))
  rw [e1, vp_cell_i, vp_cell_i, arrV_store, nI_clamp (Nat.lt_trans hk hn)]
  congr 2
  funext q
  by_cases hq : q = k
  · subst hq
    simp [updV, upd, vp_nar]
    try rfl
  · simp [updV, upd, hq]
theorem fh_lald (hexec : p.tables.exec = Jvm.exec) (hb : c.code = cc) (hK : fh_K G cl ty s) (hP : fh_P G cl h H) {t n k : Nat} {f : Nat → Int64} (ha : h a = some (.inl (t, n, .inr (.inl f)))) (ht : ty[t]? = some .long) (hk : k < n) (hn : n < 2 ^ 31) (hdg : decode cc pc = .ok (.laload, 1))
    (kk : W p l e R s m args below meth c H locs cells slots Q (F0 m (pc + 1) ls (.long (f k) :: rest))) : W p l e R s m args below meth c H locs cells slots Q (F0 m pc ls (.int (nI k) :: .ref a :: rest)) := by
  refine va_lald hexec hb (hK.one ht) (hP.one ha) 0 0 rfl rfl (vp_in_nI hk hn) hdg ?_
  rw [nI_clamp (Nat.lt_trans hk hn)]
  exact kk
theorem fh_last (hexec : p.tables.exec = Jvm.exec) (hb : c.code = cc) (hK : fh_K G cl ty s) (hP : fh_P G cl h H) (hS : va_S A H0 H locs) {t n k : Nat} {f : Nat → Int64} {x : Int64} (ha : h a = some (.inl (t, n, .inr (.inl f)))) (hA : A a) (ht : ty[t]? = some .long) (hk : k < n) (hn : n < 2 ^ 31) (hdg : decode cc pc = .ok (.lastore, 1))
    (kk : ∀ (H1 : Heap) (locs1 : List Loc), fh_P G cl (fh_up h a (.inl (t, n, .inr (.inl (vp_updL f k x))))) H1 → H1.size = H.size → va_S A H0 H1 locs1 → W p l e R s m args below meth c H1 locs1 cells slots Q (F0 m (pc + 1) ls rest)) : W p l e R s m args below meth c H locs cells slots Q (F0 m pc ls (.long (x) :: .int (nI k) :: .ref a :: rest)) := by
  have hc : H[a]? = some (vp_cell (G.2 t) (n, .inr (.inl f))) := hP a _ ha
  refine W.last hexec hb hc ((hK.2 t _ ht).1 n (fun j => .long (f j))) (fun q => by cases q) (by show ¬ (nI k < 0 ∨ (arrV _ _ _).slots.size ≤ _); rw [arrV_size]; exact vp_in_nI hk hn) rfl rfl hdg fun H1 e1 z oq => ?_
  refine kk H1 _ (hP.set ?_ oq) z (hS.put z oq hA)
  show H1[a]? = some (vp_cell (G.2 t) (n, .inr (.inl (vp_updL f k x))))
  rw [e1, vp_cell_l, vp_cell_l, arrV_store, nI_clamp (Nat.lt_trans hk hn)]
  congr 2
  funext q
  by_cases hq : q = k
  · subst hq
    simp [updV, vp_updL]
  · simp [updV, vp_updL, hq]
theorem fh_aald (hexec : p.tables.exec = Jvm.exec) (hb : c.code = cc) (hK : fh_K G cl ty s) (hP : fh_P G cl h H) {t n k : Nat} {f : Nat → Option Nat} {C : String} (ha : h a = some (.inl (t, n, .inr (.inr (.inr (.inr f)))))) (ht : ty[t]? = some (.object C)) (hk : k < n) (hn : n < 2 ^ 31) (hdg : decode cc pc = .ok (.aaload, 1))
    (kk : W p l e R s m args below meth c H locs cells slots Q (F0 m (pc + 1) ls (va_rf (f k) :: rest))) : W p l e R s m args below meth c H locs cells slots Q (F0 m pc ls (.int (nI k) :: .ref a :: rest)) := by
  refine va_aldq hexec hb (hK.one ht) (hP.one ha) 0 0 rfl rfl (vp_in_nI hk hn) hdg ?_
  rw [nI_clamp (Nat.lt_trans hk hn)]
  exact kk
theorem fh_aast (hexec : p.tables.exec = Jvm.exec) (hb : c.code = cc) (hK : fh_K G cl ty s) (hP : fh_P G cl h H) (hS : va_S A H0 H locs) {t n k v ci : Nat} {f : Nat → Option Nat} {r : vw_C} {vs : List Value} (ha : h a = some (.inl (t, n, .inr (.inr (.inr (.inr f)))))) (hA : A a) (ht : ty[t]? = some (.object r.1)) (hv : h v = some (.inr (ci, vs))) (hc : cl[ci]? = some r) (hk : k < n) (hn : n < 2 ^ 31) (hdg : decode cc pc = .ok (.aastore, 1))
    (kk : ∀ (H1 : Heap) (locs1 : List Loc), fh_P G cl (fh_up h a (.inl (t, n, .inr (.inr (.inr (.inr (va_up f k (some v)))))))) H1 → H1.size = H.size → va_S A H0 H1 locs1 → W p l e R s m args below meth c H1 locs1 cells slots Q (F0 m (pc + 1) ls rest)) : W p l e R s m args below meth c H locs cells slots Q (F0 m pc ls (.ref v :: .int (nI k) :: .ref a :: rest)) := by
  have hca : H[a]? = some (vp_cell (G.2 t) (n, .inr (.inr (.inr (.inr f))))) := hP a _ ha
  obtain ⟨r', hr', cellV, g1, g2, g3, -⟩ := hP v _ hv
  have hcls := (hK.1 ci r hc).2
  obtain ⟨kA, comp, k1, k2, k3, -⟩ := (hK.2 t _ ht).2
  have hcomp : comp = G.1.1 ci := Option.some.inj (k3.symm.trans hcls.1)
  subst hcomp
  obtain ⟨kC, hkC, -⟩ := hcls.2
  refine W.aast hexec hb hca (fun q h => by cases h) (fun h => by cases h) k1 k2 rfl hkC ⟨nI_pos (Nat.lt_trans hk hn), by show _ < (arrV _ _ _).slots.size; rw [arrV_size, nI_clamp (Nat.lt_trans hk hn)]; exact hk⟩ g1 (fun q h => by rw [g3] at h; cases h) (by rw [g2]; exact hkC) (by rw [g2]; exact va_assign hcls) rfl rfl hdg fun H1 e1 z oq => ?_
  refine kk H1 _ (hP.set ?_ oq) z (hS.put z oq hA)
  show H1[a]? = some (vp_cell (G.2 t) (n, .inr (.inr (.inr (.inr (va_up f k (some v)))))))
  rw [e1, vp_cell_q, vp_cell_q, arrV_store, nI_clamp (Nat.lt_trans hk hn)]
  congr 2
  funext q
  by_cases hq : q = k
  · subst hq
    simp [updV, va_up, va_rf]
  · simp [updV, va_up, hq]
theorem fh_aastN (hexec : p.tables.exec = Jvm.exec) (hb : c.code = cc) (hK : fh_K G cl ty s) (hP : fh_P G cl h H) (hS : va_S A H0 H locs) {t n k : Nat} {f : Nat → Option Nat} {C : String} (ha : h a = some (.inl (t, n, .inr (.inr (.inr (.inr f)))))) (hA : A a) (ht : ty[t]? = some (.object C)) (hk : k < n) (hn : n < 2 ^ 31) (hdg : decode cc pc = .ok (.aastore, 1))
    (kk : ∀ (H1 : Heap) (locs1 : List Loc), fh_P G cl (fh_up h a (.inl (t, n, .inr (.inr (.inr (.inr (va_up f k none))))))) H1 → H1.size = H.size → va_S A H0 H1 locs1 → W p l e R s m args below meth c H1 locs1 cells slots Q (F0 m (pc + 1) ls rest)) : W p l e R s m args below meth c H locs cells slots Q (F0 m pc ls (.null :: .int (nI k) :: .ref a :: rest)) := by
  have hca : H[a]? = some (vp_cell (G.2 t) (n, .inr (.inr (.inr (.inr f))))) := hP a _ ha
  refine va_WaastN (C := C) hexec hb hca ((hK.2 t _ ht).1 n (fun j => va_rf (f j))) (fun h => by cases h) (by show ¬ (nI k < 0 ∨ (arrV _ _ _).slots.size ≤ _); rw [arrV_size]; exact vp_in_nI hk hn) rfl rfl hdg fun H1 e1 z oq => ?_
  refine kk H1 _ (hP.set ?_ oq) z (hS.put z oq hA)
  show H1[a]? = some (vp_cell (G.2 t) (n, .inr (.inr (.inr (.inr (va_up f k none))))))
  rw [e1, vp_cell_q, vp_cell_q, arrV_store, nI_clamp (Nat.lt_trans hk hn)]
  congr 2
  funext q
  by_cases hq : q = k
  · subst hq
    simp [updV, va_up, va_rf]
  · simp [updV, va_up, hq]
theorem fh_aastO (hexec : p.tables.exec = Jvm.exec) (hb : c.code = cc) (hK : fh_K G cl ty s) (hP : fh_P G cl h H) (hS : va_S A H0 H locs) {t n k ci : Nat} {f : Nat → Option Nat} {r : vw_C} {o : Option Nat} (ha : h a = some (.inl (t, n, .inr (.inr (.inr (.inr f)))))) (hA : A a) (ht : ty[t]? = some (.object r.1)) (hv : ∀ v, o = some v → ∃ vs, h v = some (.inr (ci, vs))) (hc : cl[ci]? = some r) (hk : k < n) (hn : n < 2 ^ 31) (hdg : decode cc pc = .ok (.aastore, 1))
    (kk : ∀ (H1 : Heap) (locs1 : List Loc), fh_P G cl (fh_up h a (.inl (t, n, .inr (.inr (.inr (.inr (va_up f k o))))))) H1 → H1.size = H.size → va_S A H0 H1 locs1 → W p l e R s m args below meth c H1 locs1 cells slots Q (F0 m (pc + 1) ls rest)) : W p l e R s m args below meth c H locs cells slots Q (F0 m pc ls (va_rf o :: .int (nI k) :: .ref a :: rest)) := by
  cases o with
  | none => exact fh_aastN hexec hb hK hP hS ha hA ht hk hn hdg kk
  | some v =>
    obtain ⟨vs, hvs⟩ := hv v rfl
    exact fh_aast hexec hb hK hP hS ha hA ht hvs hc hk hn hdg kk
theorem fh_alen (hexec : p.tables.exec = Jvm.exec) (hb : c.code = cc) (hK : fh_K G cl ty s) (hP : fh_P G cl h H) {t n : Nat} {x : (Nat → Int32) ⊕ (Nat → Int64) ⊕ (Nat → UInt32) ⊕ (Nat → UInt64) ⊕ (Nat → Option Nat)} {t0 : FieldType} (ha : h a = some (.inl (t, n, x))) (ht : ty[t]? = some t0) (hdg : decode cc pc = .ok (.arraylength, 1))
    (kk : W p l e R s m args below meth c H locs cells slots Q (F0 m (pc + 1) ls (.int (nI n) :: rest))) : W p l e R s m args below meth c H locs cells slots Q (F0 m pc ls (.ref a :: rest)) :=
  va_alen hexec hb (hK.one ht) (hP.one ha) 0 0 rfl rfl (show Int32.ofNat n = nI n from rfl) hdg kk
end FHB
