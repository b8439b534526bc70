def Bd (no nv ns : Nat) (S : Ss) (RL : Rl) (J : Nat) (C : CL) : Prop := no ≤ 60 ∧ nv ≤ 40 ∧ 0 < nv ∧ ns ≤ 20 ∧ (∀ i, i < ns → (S i).1 < nv) ∧ C.length ≤ 360 ∧ (∀ q ∈ C, q.1 < 60 ∧ q.2 < 7) ∧ (C ≠ [] → J < ns) ∧ RL.length ≤ 20 ∧ ∀ q ∈ RL, q.1 < 60 ∧ q.2.1 < 60
set_option maxRecDepth 100000 in
set_option maxHeartbeats 4000000 in
theorem p_set (l : Launch) (G : fG) (A : Nat → Prop) (h : FH) (sz : Nat) (hst : l.stackTraces = false) (hA : ∀ q, sz ≤ q → A q) (hAh : fh_A A h) {Kq : Nat} (xa : Nat) (ad : Ad) (no nv ns : Nat) (V : Nat → St) (S : Nat → Ses) (LK : List Ar) (RL : List (Nat × Nat × Int64)) (J : Nat) (C : CL) (M : Nat → Int32) (hR : RepC Kq h xa ad no nv ns V S LK RL J C M) (hB9 : Bd no nv ns S RL J C) (hK8 : Kq < 900000) (x y z : Int32) (vv : Int64) : vx_Met l yX9_set wsX9_set { frames := 7, cells := 8, slots := 44, locals := 120 } (va_Pc [.ref xa, .int x, .int y, .int z, .long vv] (fh_Pre G A h sz)) (fh_Q G (fun v u => (oSet no ns S LK x y z vv).1 = 0 ∧ v = some (.int (bI (oSet no ns S LK x y z vv).2.1)) ∧ fh_A A u ∧ kp kC h u ∧ ∃ ad2 : Ad, RepC (Kq + 1) u xa ad2 no nv ns V ((oSet no ns S LK x y z vv).2.2) LK RL J C M) A) (fh_X G (fun E u => u = h ∧ ((E = xE1 ∧ (oSet no ns S LK x y z vv).1 = 1) ∨ (E = xE2 ∧ (oSet no ns S LK x y z vv).1 = 2))) A) 8 44 A := by
  refine fh_MetX [.ref xa, .int x, .int y, .int z, .long vv] (by decide) rfl (Nat.le_of_ble_eq_true rfl) ?_
  intro p e s m below meth c hx hb hr hlocks hml hown hnm hts hsz hP hE hS htb ls hl
  have ht : ∀ w ∈ wB, w.before _ s = true := fun w h9 => hts w (List.mem_cons_of_mem _ h9)
  have hl : lv_has ls 7 [(0, .ref xa), (1, .int x), (2, .int y), (3, .int z), (4, .long vv)] := hl
  have hA0 : ∀ q, s.heap.size ≤ q → A q := fun q hq => hA q (by rw [← hsz]; exact hq)
  obtain ⟨hX, hV, hSs, hL, hRl, hC, hM, hI⟩ := id hR
  obtain ⟨hno, hnv, hnv0, hns, hbs, hCl, hCb, hJ, hRn, hRb⟩ := id hB9
  obtain ⟨⟨fs, s1, s2⟩, s3⟩ := id hSs
  obtain ⟨⟨fv, v1, v2⟩, v3⟩ := id hV
  refine lv_aload_n hx hb dX9_set_0 rfl (lv_at hl 0 rfl) ?_
  refine lv_iload_n hx hb dX9_set_1 rfl (lv_at hl 1 rfl) ?_
  refine fh_cVX (q := (RX9, TX9, 11)) (As := [.int x]) (rest := []) (b := xa) ⟨hx, hb, hml, hown, ht⟩ (c_X_sesOf l G A h _ hst xa ad no nv ns RL.length hX fs s1 (fun i => ad (3 + i) 0) s2 hns x) (cwV 1 ht (gV kw_286 kw_288 kp_4 kw_1 kw_289) rfl rfl rfl yd_X9_sessionOf ⟨(Nat.le_of_ble_eq_true rfl), (Nat.le_of_ble_eq_true rfl)⟩) hP hE hS hX rfl rfl hl.1 rfl (Nat.le_of_ble_eq_true rfl) dX9_set_2 ⟨(Nat.le_of_ble_eq_true rfl), (Nat.le_of_ble_eq_true rfl)⟩ (fun E9 u9 ⟨z1, z2, z3⟩ => ⟨z2, Or.inl ⟨z1, by simp only [oSet, z3]⟩⟩) htb hlocks (Nat.le_of_ble_eq_true rfl) (Nat.le_of_ble_eq_true rfl) (fun v u H locs hp hP hz hS => ?_)
  obtain ⟨i, hix, rfl, eu⟩ := hp
  rw [eu] at hP
  refine W.eq (g2 := F0 m 5 ls [.ref (ad (3 + i) 0)]) rfl ?_
  have hi := (ix_of (by omega) hix).1
  obtain ⟨q0, ⟨q1, fn, q2, q2b⟩, q6, nx, fo, fr, q3, q4, q5, q7, q8, q9⟩ := hSs.2 i hi
  refine lv_astore (lv' := [(6, .ref (ad (3 + i) 0)), (0, .ref xa), (1, .int x), (2, .int y), (3, .int z), (4, .long vv)]) hx hb dX9_set_5 hl (by decide) rfl (fun ls hl => ?_)
  refine lv_aload_n hx hb dX9_set_7 rfl (lv_at hl 1 rfl) ?_
  refine lv_iload_n hx hb dX9_set_8 rfl (lv_at hl 3 rfl) ?_
  refine fh_cVX (q := (RX9, TX9, 11)) (As := [.int y]) (rest := []) (b := xa) ⟨hx, hb, hml, hown, ht⟩ (c_X_ckObj l G A h _ hst xa ad no nv ns RL.length hX hno y) (cwV 1 ht (gV kw_306 kw_308 kp_5 kw_1 kw_309) rfl rfl rfl yd_X9_checkObject ⟨(Nat.le_of_ble_eq_true rfl), (Nat.le_of_ble_eq_true rfl)⟩) hP hE hS hX rfl rfl hl.1 rfl (Nat.le_of_ble_eq_true rfl) dX9_set_9 ⟨(Nat.le_of_ble_eq_true rfl), (Nat.le_of_ble_eq_true rfl)⟩ (fun E9 u9 ⟨z1, z2, z3⟩ => ⟨z2, Or.inl ⟨z1, by simp only [oSet, hix, z3]⟩⟩) htb hlocks (Nat.le_of_ble_eq_true rfl) (Nat.le_of_ble_eq_true rfl) (fun v u H locs hp hP hz hS => ?_)
  obtain ⟨rfl, eu, o, hox⟩ := hp
  rw [eu] at hP
  refine W.eq (g2 := F0 m 12 ls []) rfl ?_
  obtain ⟨ho, rfl⟩ := ix_of (by omega) hox
  refine lv_iload_n hx hb dX9_set_12 rfl (lv_at hl 4 rfl) ?_
  refine fh_cSX (As := [.int z]) (rest := []) ⟨hx, hb, hml, hown, ht⟩ (c_X_ckFld l G A h _ hst z) (va_cwS 1 ht (gS kw_311 kw_312 kw_1 kw_313) rfl rfl rfl yd_X9_checkField.2 ⟨(Nat.le_of_ble_eq_true rfl), (Nat.le_of_ble_eq_true rfl)⟩) hP hE hS rfl hl.1 rfl (Nat.le_of_ble_eq_true rfl) dX9_set_13 ⟨(Nat.le_of_ble_eq_true rfl), (Nat.le_of_ble_eq_true rfl)⟩ (fun E9 u9 ⟨z1, z2, z3⟩ => ⟨z2, Or.inl ⟨z1, by simp only [oSet, hix, hox, z3]⟩⟩) htb hlocks (Nat.le_of_ble_eq_true rfl) (Nat.le_of_ble_eq_true rfl) (fun v u H locs hp hP hz hS => ?_)
  obtain ⟨rfl, eu, f, hfx⟩ := hp
  rw [eu] at hP
  refine W.eq (g2 := F0 m 16 ls []) rfl ?_
  obtain ⟨hf, rfl⟩ := ix_of (by omega) hfx
  refine lv_aload hx hb dX9_set_16 (lv_at hl 0 rfl) ?_
  refine fh_cSX (As := [.ref (ad (3 + i) 0)]) (rest := []) ⟨hx, hb, hml, hown, ht⟩ (c_X_ckOpen l G A h _ hst (ad (3 + i) 0) (ad 1 (S i).1) (ad (3 + i) 1) (ad (3 + i) 3) (ad (3 + i) 6) (nI i) (S i).2.2.1 q0) (va_cwS 1 ht (gS kw_315 kw_316 kw_1 kw_317) rfl rfl rfl yd_X9_checkOpen.2 ⟨(Nat.le_of_ble_eq_true rfl), (Nat.le_of_ble_eq_true rfl)⟩) hP hE hS rfl hl.1 rfl (Nat.le_of_ble_eq_true rfl) dX9_set_18 ⟨(Nat.le_of_ble_eq_true rfl), (Nat.le_of_ble_eq_true rfl)⟩ (fun E9 u9 ⟨z1, z2, z3⟩ => ⟨z2, Or.inr (⟨z1, by simp [oSet, hix, hox, hfx, z3]⟩)⟩) htb hlocks (Nat.le_of_ble_eq_true rfl) (Nat.le_of_ble_eq_true rfl) (fun v u H locs hp hP hz hS => ?_)
  obtain ⟨rfl, eu, hop⟩ := hp
  rw [eu] at hP
  refine W.eq (g2 := F0 m 21 ls []) rfl ?_
  refine lv_aload_n hx hb dX9_set_21 rfl (lv_at hl 1 rfl) ?_
  refine lv_aload hx hb dX9_set_22 (lv_at hl 0 rfl) ?_
  refine lv_iload_n hx hb dX9_set_24 rfl (lv_at hl 3 rfl) ?_
  refine lv_iload_n hx hb dX9_set_25 rfl (lv_at hl 4 rfl) ?_
  refine lv_lload hx hb dX9_set_26 (lv_at hl 5 rfl) ?_
  refine lv_aload hx hb dX9_set_28 (lv_at hl 0 rfl) ?_
  refine fh_get (C := RX7) (T := TX7) (N := 6) hx hb ht inX7 hown hE.1 hP q0 rfl 2 (by decide) (ht _ kw_152) (fun _ h9 => h9) (v := .ref (ad (3 + i) 1)) rfl dX9_set_30 ?_
  refine lv_iload_n hx hb dX9_set_33 rfl (lv_at hl 3 rfl) ?_
  have ho60 : o < 60 := by omega
  refine fh_cSX (As := [.ref (ad (3 + i) 1), .int (nI o)]) (rest := [.long vv, .int (nI f), .int (nI o), .ref (ad (3 + i) 0), .ref xa]) ⟨hx, hb, hml, hown, ht⟩ (c_X_rowOf l G A h _ hst (ad (3 + i) 1) (ad (3 + i) 2) (S i).2.1 ⟨q1, fn, q2, q2b⟩ o ho60) (va_cwS 2 ht (gS kw_334 kw_335 kw_1 kw_336) rfl rfl rfl yd_X9_rowOf.2 ⟨(Nat.le_of_ble_eq_true rfl), (Nat.le_of_ble_eq_true rfl)⟩) hP hE hS rfl hl.1 rfl (Nat.le_of_ble_eq_true rfl) dX9_set_34 ⟨(Nat.le_of_ble_eq_true rfl), (Nat.le_of_ble_eq_true rfl)⟩ (fun E9 u9 ⟨z1, z2, z3⟩ => ⟨z2, Or.inr ⟨z1, by simp [oSet, hix, hox, hfx, hop, z3]⟩⟩) htb hlocks (Nat.le_of_ble_eq_true rfl) (Nat.le_of_ble_eq_true rfl) (fun v u H locs hp hP hz hS => ?_)
  obtain ⟨r, rw0, rfl, eu, hrw, hrow⟩ := hp
  rw [eu] at hP
  refine W.eq (g2 := F0 m 37 ls [.ref r, .long vv, .int (nI f), .int (nI o), .ref (ad (3 + i) 0), .ref xa]) rfl ?_
  have hS9 := hS.1
  refine fh_cV (q := (RX9, TX9, 11)) (As := [.ref (ad (3 + i) 0), .int (nI o), .int (nI f), .long vv, .ref r]) (rest := []) (b := xa) ⟨hx, hb, hml, hown, ht⟩ (c_X_write l G A h _ (fun q hq => hA0 q (Nat.le_trans hS.1 hq)) hAh xa ad no nv ns V S LK RL J C M hR i o f hi ho60 hf vv r rw0 hrow (by omega)) (cwV 5 ht (gV kw_342 kw_344 kp_6 kw_1 kw_345) rfl rfl rfl yd_X9_write ⟨(Nat.le_of_ble_eq_true rfl), (Nat.le_of_ble_eq_true rfl)⟩) hP hE hS hX rfl rfl hl.1 rfl (Nat.le_of_ble_eq_true rfl) dX9_set_37 ⟨(Nat.le_of_ble_eq_true rfl), (Nat.le_of_ble_eq_true rfl)⟩ (fun v u H locs hp hP hz hS => ?_)
  obtain ⟨rfl, hA4, k4, k5, hR4⟩ := hp
  refine W.eq (g2 := F0 m 40 ls [.int (bI (opWr LK i f vv rw0))]) rfl ?_
  have ep : oSet no ns S LK x (nI o) (nI f) vv = (0, opWr LK i f vv rw0, if opWr LK i f vv rw0 = true then upN S i (sChg (S i) o (some (rwSet rw0 f vv))) else S) := by simp [oSet, hix, hox, hfx, hop, hrw]
  exact vx_ret (fh_zret hx hb hr hlocks (bI_n _) (⟨by rw [ep], by rw [ep], hA4, k4, ad, by rw [ep]; exact hR4⟩) hP hS (by first | exact (Nat.le_of_ble_eq_true rfl) | omega) (by first | exact (Nat.le_of_ble_eq_true rfl) | omega) dX9_set_40)

set_option maxRecDepth 100000 in
set_option maxHeartbeats 4000000 in
theorem p_at (l : Launch) (G : fG) (A : Nat → Prop) (h : FH) (sz : Nat) (hst : l.stackTraces = false) (hA : ∀ q, sz ≤ q → A q) (hAh : fh_A A h) {Kq : Nat} (xa : Nat) (ad : Ad) (no nv ns : Nat) (V : Nat → St) (S : Nat → Ses) (LK : List Ar) (RL : List (Nat × Nat × Int64)) (J : Nat) (C : CL) (M : Nat → Int32) (hR : RepC Kq h xa ad no nv ns V S LK RL J C M) (hB9 : Bd no nv ns S RL J C) (hK8 : Kq < 900000) (y z : Int32) : vx_Met l yX9_at wsX9_at { frames := 7, cells := 4, slots := 24, locals := 120 } (va_Pc [.ref xa, .int y, .int z] (fh_Pre G A h sz)) (fh_Q G (fun v u => (oAt no nv V y z).1 = 0 ∧ v = some (.long (oAt no nv V y z).2) ∧ fh_A A u ∧ kp kC h u ∧ ∃ ad2 : Ad, RepC Kq u xa ad no nv ns V S LK RL J C M) A) (fh_X G (fun E u => u = h ∧ ((E = xE1 ∧ (oAt no nv V y z).1 = 1) ∨ (E = xE2 ∧ (oAt no nv V y z).1 = 2))) A) 4 24 A := by
  refine fh_MetX [.ref xa, .int y, .int z] (by decide) rfl (Nat.le_of_ble_eq_true rfl) ?_
  intro p e s m below meth c hx hb hr hlocks hml hown hnm hts hsz hP hE hS htb ls hl
  have ht : ∀ w ∈ wB, w.before _ s = true := fun w h9 => hts w (List.mem_cons_of_mem _ h9)
  have hl : lv_has ls 3 [(0, .ref xa), (1, .int y), (2, .int z)] := hl
  have hA0 : ∀ q, s.heap.size ≤ q → A q := fun q hq => hA q (by rw [← hsz]; exact hq)
  obtain ⟨hX, hV, hSs, hL, hRl, hC, hM, hI⟩ := id hR
  obtain ⟨hno, hnv, hnv0, hns, hbs, hCl, hCb, hJ, hRn, hRb⟩ := id hB9
  obtain ⟨⟨fs, s1, s2⟩, s3⟩ := id hSs
  obtain ⟨⟨fv, v1, v2⟩, v3⟩ := id hV
  refine lv_aload_n hx hb dX9_at_0 rfl (lv_at hl 0 rfl) ?_
  refine lv_iload_n hx hb dX9_at_1 rfl (lv_at hl 1 rfl) ?_
  refine fh_cVX (q := (RX9, TX9, 11)) (As := [.int y]) (rest := []) (b := xa) ⟨hx, hb, hml, hown, ht⟩ (c_X_ckObj l G A h _ hst xa ad no nv ns RL.length hX hno y) (cwV 1 ht (gV kw_306 kw_308 kp_5 kw_1 kw_309) rfl rfl rfl yd_X9_checkObject ⟨(Nat.le_of_ble_eq_true rfl), (Nat.le_of_ble_eq_true rfl)⟩) hP hE hS hX rfl rfl hl.1 rfl (Nat.le_of_ble_eq_true rfl) dX9_at_2 ⟨(Nat.le_of_ble_eq_true rfl), (Nat.le_of_ble_eq_true rfl)⟩ (fun E9 u9 ⟨z1, z2, z3⟩ => ⟨z2, Or.inl ⟨z1, by simp only [oAt, z3]⟩⟩) htb hlocks (Nat.le_of_ble_eq_true rfl) (Nat.le_of_ble_eq_true rfl) (fun v u H locs hp hP hz hS => ?_)
  obtain ⟨rfl, eu, o, hox⟩ := hp
  rw [eu] at hP
  refine W.eq (g2 := F0 m 5 ls []) rfl ?_
  obtain ⟨ho, rfl⟩ := ix_of (by omega) hox
  refine lv_iload_n hx hb dX9_at_5 rfl (lv_at hl 2 rfl) ?_
  refine fh_cSX (As := [.int z]) (rest := []) ⟨hx, hb, hml, hown, ht⟩ (c_X_ckFld l G A h _ hst z) (va_cwS 1 ht (gS kw_311 kw_312 kw_1 kw_313) rfl rfl rfl yd_X9_checkField.2 ⟨(Nat.le_of_ble_eq_true rfl), (Nat.le_of_ble_eq_true rfl)⟩) hP hE hS rfl hl.1 rfl (Nat.le_of_ble_eq_true rfl) dX9_at_6 ⟨(Nat.le_of_ble_eq_true rfl), (Nat.le_of_ble_eq_true rfl)⟩ (fun E9 u9 ⟨z1, z2, z3⟩ => ⟨z2, Or.inl ⟨z1, by simp only [oAt, hox, z3]⟩⟩) htb hlocks (Nat.le_of_ble_eq_true rfl) (Nat.le_of_ble_eq_true rfl) (fun v u H locs hp hP hz hS => ?_)
  obtain ⟨rfl, eu, f, hfx⟩ := hp
  rw [eu] at hP
  refine W.eq (g2 := F0 m 9 ls []) rfl ?_
  obtain ⟨hf, rfl⟩ := ix_of (by omega) hfx
  refine lv_aload_n hx hb dX9_at_9 rfl (lv_at hl 0 rfl) ?_
  refine fh_get (C := RX9) (T := TX9) (N := 11) hx hb ht inX9 hown hE.1 hP hX rfl 2 (by decide) (ht _ kw_77) (fun _ h9 => h9) (v := .ref (ad 1 (nv - 1))) rfl dX9_at_10 ?_
  refine lv_iload_n hx hb dX9_at_13 rfl (lv_at hl 1 rfl) ?_
  have ho60 : o < 60 := by omega
  refine fh_cSX (As := [.ref (ad 1 (nv - 1)), .int (nI o)]) (rest := []) ⟨hx, hb, hml, hown, ht⟩ (c_X_rowOf l G A h _ hst (ad 1 (nv - 1)) (ad 2 (nv - 1)) (V (nv - 1)) (v3 _ (by omega)) o ho60) (va_cwS 2 ht (gS kw_334 kw_335 kw_1 kw_336) rfl rfl rfl yd_X9_rowOf.2 ⟨(Nat.le_of_ble_eq_true rfl), (Nat.le_of_ble_eq_true rfl)⟩) hP hE hS rfl hl.1 rfl (Nat.le_of_ble_eq_true rfl) dX9_at_14 ⟨(Nat.le_of_ble_eq_true rfl), (Nat.le_of_ble_eq_true rfl)⟩ (fun E9 u9 ⟨z1, z2, z3⟩ => ⟨z2, Or.inr ⟨z1, by simp [oAt, hox, hfx, z3]⟩⟩) htb hlocks (Nat.le_of_ble_eq_true rfl) (Nat.le_of_ble_eq_true rfl) (fun v u H locs hp hP hz hS => ?_)
  obtain ⟨r, rw0, rfl, eu, hrw, hrow⟩ := hp
  rw [eu] at hP
  refine W.eq (g2 := F0 m 17 ls [.ref r]) rfl ?_
  obtain ⟨y9, g0, r1, r2, r3⟩ := id hrow
  refine lv_iload_n hx hb dX9_at_17 rfl (lv_at hl 2 rfl) ?_
  refine fh_cV (q := (RX5, TX5, 1)) (As := [.int (nI f)]) (rest := []) (b := r) ⟨hx, hb, hml, hown, ht⟩ (c_Row_value l G A h _ r y9 f g0 r1 r2 hf) (cwV 1 ht (gV kw_346 kw_347 kw_348 kw_10 kw_349) rfl rfl rfl yd_X5_value ⟨(Nat.le_of_ble_eq_true rfl), (Nat.le_of_ble_eq_true rfl)⟩) hP hE hS r1 rfl rfl hl.1 rfl (Nat.le_of_ble_eq_true rfl) dX9_at_18 ⟨(Nat.le_of_ble_eq_true rfl), (Nat.le_of_ble_eq_true rfl)⟩ (fun v u H locs hp hP hz hS => ?_)
  obtain ⟨rfl, eu⟩ := hp
  rw [eu] at hP
  refine W.eq (g2 := F0 m 21 ls [.long (g0 f)]) rfl ?_
  have ep : oAt no nv V (nI o) (nI f) = (0, rw0 f) := by simp [oAt, hox, hfx, hrw]
  exact vx_ret (fh_lret hx hb hr hlocks (⟨by rw [ep], by rw [ep]; exact congrArg (fun z => some (Value.long z)) (r3 f hf), hAh, kp.rf, ad, hR⟩) hP hS (by first | exact (Nat.le_of_ble_eq_true rfl) | omega) (by first | exact (Nat.le_of_ble_eq_true rfl) | omega) dX9_at_21)
