set_option maxRecDepth 100000 in
set_option maxHeartbeats 4000000 in
theorem p_drop (l : Launch) (G : fG) (A : Nat → Prop) (h : FH) (sz : Nat) (hst : l.stackTraces = false) (hA : ∀ q, sz ≤ q → A q) (hAh : fh_A A h) {Kq : Nat} (xa : Nat) (ad : Ad) (no nv ns : Nat) (V : Nat → St) (S : Nat → Ses) (LK : List Ar) (RL : List (Nat × Nat × Int64)) (J : Nat) (C : CL) (M : Nat → Int32) (hR : RepC Kq h xa ad no nv ns V S LK RL J C M) (hB9 : Bd no nv ns S RL J C) (hK8 : Kq < 900000) (x y : Int32) : vx_Met l yX9_drop wsX9_drop { frames := 7, cells := 8, slots := 44, locals := 120 } (va_Pc [.ref xa, .int x, .int y] (fh_Pre G A h sz)) (fh_Q G (fun v u => (oDrop no ns S LK x y).1 = 0 ∧ v = some (.int (bI (oDrop no ns S LK x y).2.1)) ∧ fh_A A u ∧ kp kC h u ∧ ∃ ad2 : Ad, RepC (Kq + 1) u xa ad2 no nv ns V ((oDrop no ns S LK x y).2.2) LK RL J C M) A) (fh_X G (fun E u => u = h ∧ ((E = xE1 ∧ (oDrop no ns S LK x y).1 = 1) ∨ (E = xE2 ∧ (oDrop no ns S LK x y).1 = 2))) A) 8 44 A := by
  refine fh_MetX [.ref xa, .int x, .int y] (by decide) rfl (Nat.le_of_ble_eq_true rfl) ?_
  intro p e s m below meth c hx hb hr hlocks hml hown hnm hts hsz hP hE hS htb ls hl
  have ht : ∀ w ∈ wB, w.before _ s = true := fun w h9 => hts w (List.mem_cons_of_mem _ h9)
  have hl : lv_has ls 4 [(0, .ref xa), (1, .int x), (2, .int y)] := hl
  have hA0 : ∀ q, s.heap.size ≤ q → A q := fun q hq => hA q (by rw [← hsz]; exact hq)
  obtain ⟨hX, hV, hSs, hL, hRl, hC, hM, hI⟩ := id hR
  obtain ⟨hno, hnv, hnv0, hns, hbs, hCl, hCb, hJ, hRn, hRb⟩ := id hB9
  obtain ⟨⟨fs, s1, s2⟩, s3⟩ := id hSs
  obtain ⟨⟨fv, v1, v2⟩, v3⟩ := id hV
  refine lv_aload_n hx hb dX9_drop_0 rfl (lv_at hl 0 rfl) ?_
  refine lv_iload_n hx hb dX9_drop_1 rfl (lv_at hl 1 rfl) ?_
  refine fh_cVX (q := (RX9, TX9, 11)) (As := [.int x]) (rest := []) (b := xa) ⟨hx, hb, hml, hown, ht⟩ (c_X_sesOf l G A h _ hst xa ad no nv ns RL.length hX fs s1 (fun i => ad (3 + i) 0) s2 hns x) (cwV 1 ht (gV kw_286 kw_288 kp_4 kw_1 kw_289) rfl rfl rfl yd_X9_sessionOf ⟨(Nat.le_of_ble_eq_true rfl), (Nat.le_of_ble_eq_true rfl)⟩) hP hE hS hX rfl rfl hl.1 rfl (Nat.le_of_ble_eq_true rfl) dX9_drop_2 ⟨(Nat.le_of_ble_eq_true rfl), (Nat.le_of_ble_eq_true rfl)⟩ (fun E9 u9 ⟨z1, z2, z3⟩ => ⟨z2, Or.inl ⟨z1, by simp only [oDrop, z3]⟩⟩) htb hlocks (Nat.le_of_ble_eq_true rfl) (Nat.le_of_ble_eq_true rfl) (fun v u H locs hp hP hz hS => ?_)
  obtain ⟨i, hix, rfl, eu⟩ := hp
  rw [eu] at hP
  refine W.eq (g2 := F0 m 5 ls [.ref (ad (3 + i) 0)]) rfl ?_
  have hi := (ix_of (by omega) hix).1
  obtain ⟨q0, ⟨q1, fn, q2, q2b⟩, q6, nx, fo, fr, q3, q4, q5, q7, q8, q9⟩ := hSs.2 i hi
  refine lv_astore_n (lv' := [(3, .ref (ad (3 + i) 0)), (0, .ref xa), (1, .int x), (2, .int y)]) hx hb dX9_drop_5 rfl hl (by decide) rfl (fun ls hl => ?_)
  refine lv_aload_n hx hb dX9_drop_6 rfl (lv_at hl 1 rfl) ?_
  refine lv_iload_n hx hb dX9_drop_7 rfl (lv_at hl 3 rfl) ?_
  refine fh_cVX (q := (RX9, TX9, 11)) (As := [.int y]) (rest := []) (b := xa) ⟨hx, hb, hml, hown, ht⟩ (c_X_ckObj l G A h _ hst xa ad no nv ns RL.length hX hno y) (cwV 1 ht (gV kw_306 kw_308 kp_5 kw_1 kw_309) rfl rfl rfl yd_X9_checkObject ⟨(Nat.le_of_ble_eq_true rfl), (Nat.le_of_ble_eq_true rfl)⟩) hP hE hS hX rfl rfl hl.1 rfl (Nat.le_of_ble_eq_true rfl) dX9_drop_8 ⟨(Nat.le_of_ble_eq_true rfl), (Nat.le_of_ble_eq_true rfl)⟩ (fun E9 u9 ⟨z1, z2, z3⟩ => ⟨z2, Or.inl ⟨z1, by simp only [oDrop, hix, z3]⟩⟩) htb hlocks (Nat.le_of_ble_eq_true rfl) (Nat.le_of_ble_eq_true rfl) (fun v u H locs hp hP hz hS => ?_)
  obtain ⟨rfl, eu, o, hox⟩ := hp
  rw [eu] at hP
  refine W.eq (g2 := F0 m 11 ls []) rfl ?_
  obtain ⟨ho, rfl⟩ := ix_of (by omega) hox
  refine lv_aload_n hx hb dX9_drop_11 rfl (lv_at hl 0 rfl) ?_
  refine fh_cSX (As := [.ref (ad (3 + i) 0)]) (rest := []) ⟨hx, hb, hml, hown, ht⟩ (c_X_ckOpen l G A h _ hst (ad (3 + i) 0) (ad 1 (S i).1) (ad (3 + i) 1) (ad (3 + i) 3) (ad (3 + i) 6) (nI i) (S i).2.2.1 q0) (va_cwS 1 ht (gS kw_315 kw_316 kw_1 kw_317) rfl rfl rfl yd_X9_checkOpen.2 ⟨(Nat.le_of_ble_eq_true rfl), (Nat.le_of_ble_eq_true rfl)⟩) hP hE hS rfl hl.1 rfl (Nat.le_of_ble_eq_true rfl) dX9_drop_12 ⟨(Nat.le_of_ble_eq_true rfl), (Nat.le_of_ble_eq_true rfl)⟩ (fun E9 u9 ⟨z1, z2, z3⟩ => ⟨z2, Or.inr (⟨z1, by simp [oDrop, hix, hox, z3]⟩)⟩) htb hlocks (Nat.le_of_ble_eq_true rfl) (Nat.le_of_ble_eq_true rfl) (fun v u H locs hp hP hz hS => ?_)
  obtain ⟨rfl, eu, hop⟩ := hp
  rw [eu] at hP
  refine W.eq (g2 := F0 m 15 ls []) rfl ?_
  obtain ⟨fa, ar, l1, l2, l3, l4⟩ := id hL
  refine lv_aload_n hx hb dX9_drop_15 rfl (lv_at hl 1 rfl) ?_
  refine fh_get (C := RX9) (T := TX9) (N := 11) hx hb ht inX9 hown hE.1 hP hX rfl 6 (by decide) (ht _ kw_81) (fun _ h9 => h9) (v := .ref (ad 0 2)) rfl dX9_drop_16 ?_
  refine lv_aload_n hx hb dX9_drop_19 rfl (lv_at hl 0 rfl) ?_
  refine fh_get (C := RX7) (T := TX7) (N := 6) hx hb ht inX7 hown hE.1 hP q0 rfl 0 (by decide) (ht _ kw_149) (fun _ h9 => h9) (v := .int (nI i)) rfl dX9_drop_20 ?_
  refine lv_aload_n hx hb dX9_drop_23 rfl (lv_at hl 0 rfl) ?_
  refine fh_get (C := RX7) (T := TX7) (N := 6) hx hb ht inX7 hown hE.1 hP q0 rfl 2 (by decide) (ht _ kw_152) (fun _ h9 => h9) (v := .ref (ad (3 + i) 1)) rfl dX9_drop_24 ?_
  refine lv_iload_n hx hb dX9_drop_27 rfl (lv_at hl 3 rfl) ?_
  have ho60 : o < 60 := by omega
  refine fh_cSX (As := [.ref (ad (3 + i) 1), .int (nI o)]) (rest := [.int (nI i), .ref (ad 0 2)]) ⟨hx, hb, hml, hown, ht⟩ (c_X_rowOf l G A h _ hst (ad (3 + i) 1) (ad (3 + i) 2) (S i).2.1 ⟨q1, fn, q2, q2b⟩ o ho60) (va_cwS 2 ht (gS kw_334 kw_335 kw_1 kw_336) rfl rfl rfl yd_X9_rowOf.2 ⟨(Nat.le_of_ble_eq_true rfl), (Nat.le_of_ble_eq_true rfl)⟩) hP hE hS rfl hl.1 rfl (Nat.le_of_ble_eq_true rfl) dX9_drop_28 ⟨(Nat.le_of_ble_eq_true rfl), (Nat.le_of_ble_eq_true rfl)⟩ (fun E9 u9 ⟨z1, z2, z3⟩ => ⟨z2, Or.inr ⟨z1, by simp [oDrop, hix, hox, hop, z3]⟩⟩) htb hlocks (Nat.le_of_ble_eq_true rfl) (Nat.le_of_ble_eq_true rfl) (fun v u H locs hp hP hz hS => ?_)
  obtain ⟨r, rw0, rfl, eu, hrw, hrow⟩ := hp
  rw [eu] at hP
  refine W.eq (g2 := F0 m 31 ls [.ref r, .int (nI i), .ref (ad 0 2)]) rfl ?_
  refine fh_cV (q := (RX4, TX4, 1)) (As := [.int (nI i), .ref r]) (rest := []) (b := (ad 0 2)) ⟨hx, hb, hml, hown, ht⟩ (c_Lk_bar l G A h _ (ad 0 2) (ad 0 3) fa ar l1 l2 l3 (nI i) r rw0 hrow) (cwV 2 ht (gV kw_350 kw_351 kw_352 kw_3 kw_353) rfl rfl rfl yd_X4_bar ⟨(Nat.le_of_ble_eq_true rfl), (Nat.le_of_ble_eq_true rfl)⟩) hP hE hS l1 rfl rfl hl.1 rfl (Nat.le_of_ble_eq_true rfl) dX9_drop_31 ⟨(Nat.le_of_ble_eq_true rfl), (Nat.le_of_ble_eq_true rfl)⟩ (fun v u H locs hp hP hz hS => ?_)
  rw [lkBar_eq l4] at hp
  obtain ⟨rfl, eu⟩ := hp
  rw [eu] at hP
  refine W.eq (g2 := F0 m 34 ls [.int (bI (barred LK i (rw0 0) (rw0 1)))]) rfl ?_
  refine lv_if_eq (tgt := 39) hx hb dX9_drop_34 (by decide) (fun c2 => ?_) (fun c2 => ?_)
  · refine lv_aload_n hx hb dX9_drop_39 rfl (lv_at hl 0 rfl) ?_
    refine lv_iload_n hx hb dX9_drop_40 rfl (lv_at hl 3 rfl) ?_
    refine lv_null hx hb dX9_drop_41 ?_
    have hK9 : Kq < 1000000 := by omega
    obtain ⟨hXa, hVa, hSsa, hLa, hRla, hCa, hMa, hIa⟩ := id hR
    obtain ⟨q0a, ⟨q1a, fna, q2a, q2ba⟩, q6a, nxa, foa, fra, q3a, q4a, q5a, q7a, q8a, q9a⟩ := hSsa.2 i hi
    refine fh_cV (q := (RX7, TX7, 6)) (As := [.int (nI o), .null]) (rest := []) (b := (ad (3 + i) 0)) ⟨hx, hb, hml, hown, ht⟩ (c_Ses_change l G A h _ (ad (3 + i) 0) (ad 1 (S i).1) (ad (3 + i) 1) (ad (3 + i) 3) (ad (3 + i) 6) (ad (3 + i) 2) (ad (3 + i) 4) (ad (3 + i) 5) nxa (S i).2.2.2.1.length (nI i) (bI (S i).2.2.1) fna foa fra q0a q1a q2a q3a q4a q5a (Nat.lt_of_le_of_lt q7a.1 hK9) q8a (hAh _ _ q3a) (hAh _ _ q4a) (hAh _ _ q5a) (hAh _ _ q2a) o ho60 none (pRo_cell' (q2ba o ho60)) (pRo_cell' (show pRo h none none from trivial))) (cwV 2 ht (gV kw_365 kw_366 kw_367 kw_11 kw_368) rfl rfl rfl yd_X7_change ⟨(Nat.le_of_ble_eq_true rfl), (Nat.le_of_ble_eq_true rfl)⟩) hP hE hS q0a rfl rfl hl.1 rfl (Nat.le_of_ble_eq_true rfl) dX9_drop_42 ⟨(Nat.le_of_ble_eq_true rfl), (Nat.le_of_ble_eq_true rfl)⟩ (fun v u2 H locs hp hP hz hS => ?_)
    obtain ⟨rfl, eu2⟩ := hp
    refine W.eq (g2 := F0 m 45 ls []) rfl ?_
    obtain ⟨z1, z2, z3⟩ := ses_chg q0a q1a q2a q2ba q6a q3a q4a q5a q7a q8a q9a ho60 (show pRo h none none from trivial) eu2
    have hAu2 : fh_A A u2 := by rw [eu2]; exact (((hAh.up (hAh _ _ q4a)).up (hAh _ _ q5a)).up (hAh _ _ q3a)).up (hAh _ _ q2a)
    have hRu2 := (hR.mono (Nat.le_succ Kq)).ses (s' := sChg (S i) o none) hi z2 (z3.oth hIa hi) rfl z1
    refine lv_iconst (v := (nI 1)) hx hb dX9_drop_45 (by decide) ?_
    have ep : oDrop no ns S LK x (nI o) = (0, true, upN S i (sChg (S i) o none)) := by simp [oDrop, hix, hox, hop, hrw, bI_eq.mp c2]
    exact vx_ret (fh_zret hx hb hr hlocks rfl (⟨by rw [ep], by rw [ep]; rfl, hAu2, z2.C rfl, ad, by rw [ep]; exact hRu2⟩) hP hS (by first | exact (Nat.le_of_ble_eq_true rfl) | omega) (by first | exact (Nat.le_of_ble_eq_true rfl) | omega) dX9_drop_46)
  · refine lv_iconst (v := (nI 0)) hx hb dX9_drop_37 (by decide) ?_
    have ep : oDrop no ns S LK x (nI o) = (0, false, S) := by simp [oDrop, hix, hox, hop, hrw, bI_nz c2]
    exact vx_ret (fh_zret hx hb hr hlocks rfl (⟨by rw [ep], by rw [ep]; rfl, hAh, kp.rf, ad, by rw [ep]; exact hR.mono (Nat.le_succ Kq)⟩) hP hS (by first | exact (Nat.le_of_ble_eq_true rfl) | omega) (by first | exact (Nat.le_of_ble_eq_true rfl) | omega) dX9_drop_38)

set_option maxRecDepth 100000 in
set_option maxHeartbeats 4000000 in
theorem p_make (l : Launch) (G : fG) (A : Nat → Prop) (h : FH) (sz : Nat) (hst : l.stackTraces = false) (hA : ∀ q, sz ≤ q → A q) (hAh : fh_A A h) {Kq : Nat} (xa : Nat) (ad : Ad) (no nv ns : Nat) (V : Nat → St) (S : Nat → Ses) (LK : List Ar) (RL : List (Nat × Nat × Int64)) (J : Nat) (C : CL) (M : Nat → Int32) (hR : RepC Kq h xa ad no nv ns V S LK RL J C M) (hB9 : Bd no nv ns S RL J C) (hK8 : Kq < 900000) (x k : Int32) : vx_Met l yX9_make wsX9_make { frames := 7, cells := 8, slots := 44, locals := 120 } (va_Pc [.ref xa, .int x, .int k] (fh_Pre G A h sz)) (fh_Q G (fun v u => (oMake no ns S x k).1 = 0 ∧ v = some (.int (oMake no ns S x k).2.1) ∧ fh_A A u ∧ kp kC h u ∧ ∃ ad2 : Ad, RepC (Kq + 1) u xa ad2 ((oMake no ns S x k).2.2.1) nv ns V ((oMake no ns S x k).2.2.2) LK RL J C M) A) (fh_X G (fun E u => u = h ∧ ((E = xE1 ∧ (oMake no ns S x k).1 = 1) ∨ (E = xE2 ∧ (oMake no ns S x k).1 = 2) ∨ (E = xE0 ∧ (oMake no ns S x k).1 = 3))) A) 8 44 A := by
  refine fh_MetX [.ref xa, .int x, .int k] (by decide) rfl (Nat.le_of_ble_eq_true rfl) ?_
  intro p e s m below meth c hx hb hr hlocks hml hown hnm hts hsz hP hE hS htb ls hl
  have ht : ∀ w ∈ wB, w.before _ s = true := fun w h9 => hts w (List.mem_cons_of_mem _ h9)
  have hl : lv_has ls 5 [(0, .ref xa), (1, .int x), (2, .int k)] := hl
  have hA0 : ∀ q, s.heap.size ≤ q → A q := fun q hq => hA q (by rw [← hsz]; exact hq)
  obtain ⟨hX, hV, hSs, hL, hRl, hC, hM, hI⟩ := id hR
  obtain ⟨hno, hnv, hnv0, hns, hbs, hCl, hCb, hJ, hRn, hRb⟩ := id hB9
  obtain ⟨⟨fs, s1, s2⟩, s3⟩ := id hSs
  obtain ⟨⟨fv, v1, v2⟩, v3⟩ := id hV
  refine lv_aload_n hx hb dX9_make_0 rfl (lv_at hl 0 rfl) ?_
  refine lv_iload_n hx hb dX9_make_1 rfl (lv_at hl 1 rfl) ?_
  refine fh_cVX (q := (RX9, TX9, 11)) (As := [.int x]) (rest := []) (b := xa) ⟨hx, hb, hml, hown, ht⟩ (c_X_sesOf l G A h _ hst xa ad no nv ns RL.length hX fs s1 (fun i => ad (3 + i) 0) s2 hns x) (cwV 1 ht (gV kw_286 kw_288 kp_4 kw_1 kw_289) rfl rfl rfl yd_X9_sessionOf ⟨(Nat.le_of_ble_eq_true rfl), (Nat.le_of_ble_eq_true rfl)⟩) hP hE hS hX rfl rfl hl.1 rfl (Nat.le_of_ble_eq_true rfl) dX9_make_2 ⟨(Nat.le_of_ble_eq_true rfl), (Nat.le_of_ble_eq_true rfl)⟩ (fun E9 u9 ⟨z1, z2, z3⟩ => ⟨z2, Or.inl ⟨z1, by simp only [oMake, z3]⟩⟩) htb hlocks (Nat.le_of_ble_eq_true rfl) (Nat.le_of_ble_eq_true rfl) (fun v u H locs hp hP hz hS => ?_)
  obtain ⟨i, hix, rfl, eu⟩ := hp
  rw [eu] at hP
  refine W.eq (g2 := F0 m 5 ls [.ref (ad (3 + i) 0)]) rfl ?_
  have hi := (ix_of (by omega) hix).1
  obtain ⟨q0, ⟨q1, fn, q2, q2b⟩, q6, nx, fo, fr, q3, q4, q5, q7, q8, q9⟩ := hSs.2 i hi
  refine lv_astore_n (lv' := [(3, .ref (ad (3 + i) 0)), (0, .ref xa), (1, .int x), (2, .int k)]) hx hb dX9_make_5 rfl hl (by decide) rfl (fun ls hl => ?_)
  refine lv_aload_n hx hb dX9_make_6 rfl (lv_at hl 0 rfl) ?_
  refine fh_cSX (As := [.ref (ad (3 + i) 0)]) (rest := []) ⟨hx, hb, hml, hown, ht⟩ (c_X_ckOpen l G A h _ hst (ad (3 + i) 0) (ad 1 (S i).1) (ad (3 + i) 1) (ad (3 + i) 3) (ad (3 + i) 6) (nI i) (S i).2.2.1 q0) (va_cwS 1 ht (gS kw_315 kw_316 kw_1 kw_317) rfl rfl rfl yd_X9_checkOpen.2 ⟨(Nat.le_of_ble_eq_true rfl), (Nat.le_of_ble_eq_true rfl)⟩) hP hE hS rfl hl.1 rfl (Nat.le_of_ble_eq_true rfl) dX9_make_7 ⟨(Nat.le_of_ble_eq_true rfl), (Nat.le_of_ble_eq_true rfl)⟩ (fun E9 u9 ⟨z1, z2, z3⟩ => ⟨z2, Or.inr (Or.inl ⟨z1, by simp [oMake, hix, z3]⟩)⟩) htb hlocks (Nat.le_of_ble_eq_true rfl) (Nat.le_of_ble_eq_true rfl) (fun v u H locs hp hP hz hS => ?_)
  obtain ⟨rfl, eu, hop⟩ := hp
  rw [eu] at hP
  refine W.eq (g2 := F0 m 10 ls []) rfl ?_
  refine lv_iload_n hx hb dX9_make_10 rfl (lv_at hl 3 rfl) ?_
  refine fh_cSX (As := [.int k]) (rest := []) ⟨hx, hb, hml, hown, ht⟩ (c_X_ckKind l G A h _ hst k) (va_cwS 1 ht (gS kw_183 kw_184 kw_1 kw_185) rfl rfl rfl yd_X9_checkKind.2 ⟨(Nat.le_of_ble_eq_true rfl), (Nat.le_of_ble_eq_true rfl)⟩) hP hE hS rfl hl.1 rfl (Nat.le_of_ble_eq_true rfl) dX9_make_11 ⟨(Nat.le_of_ble_eq_true rfl), (Nat.le_of_ble_eq_true rfl)⟩ (fun E9 u9 ⟨z1, z2, z3⟩ => ⟨z2, Or.inr (Or.inr ⟨z1, by simp [oMake, hix, hop, z3]⟩)⟩) htb hlocks (Nat.le_of_ble_eq_true rfl) (Nat.le_of_ble_eq_true rfl) (fun v u H locs hp hP hz hS => ?_)
  obtain ⟨rfl, eu, kk, hkx⟩ := hp
  rw [eu] at hP
  refine W.eq (g2 := F0 m 14 ls []) rfl ?_
  refine lv_aload_n hx hb dX9_make_14 rfl (lv_at hl 1 rfl) ?_
  refine fh_get (C := RX9) (T := TX9) (N := 11) hx hb ht inX9 hown hE.1 hP hX rfl 5 (by decide) (ht _ kw_80) (fun _ h9 => h9) (v := .int (nI no)) rfl dX9_make_15 ?_
  refine lv_bipush (v := (nI 60)) hx hb dX9_make_18 (by decide) ?_
  refine lv_icmp_lt (tgt := 25) hx hb dX9_make_20 (by decide) (fun c1 => ?_) (fun c1 => ?_)
  · have d1 : no < 60 := (nI_ltI (by omega) (by decide)).mp c1
    refine lv_aload_n hx hb dX9_make_25 rfl (lv_at hl 1 rfl) ?_
    refine fh_cV (q := (RX9, TX9, 11)) (As := []) (rest := []) (b := xa) ⟨hx, hb, hml, hown, ht⟩ (c_X_newNum l G A h _ xa ad (ad 1 (nv - 1)) no nv ns RL.length hX (hAh _ _ hX)) (cwV 0 ht (gV kw_253 kw_255 kp_2 kw_1 kw_256) rfl rfl rfl yd_X9_newNumber ⟨(Nat.le_of_ble_eq_true rfl), (Nat.le_of_ble_eq_true rfl)⟩) hP hE hS hX rfl rfl hl.1 rfl (Nat.le_of_ble_eq_true rfl) dX9_make_26 ⟨(Nat.le_of_ble_eq_true rfl), (Nat.le_of_ble_eq_true rfl)⟩ (fun v u H locs hp hP hz hS => ?_)
    obtain ⟨rfl, eu⟩ := hp
    refine W.eq (g2 := F0 m 29 ls [.int (nI no)]) rfl ?_
    have hR1 : RepC Kq u xa ad (no + 1) nv ns V S LK RL J C M := hR.num (no + 1) eu
    have k1 : kp [18] h u := by rw [eu]; exact kp.rf.up hX rfl
    have hA1 : fh_A A u := by rw [eu]; exact hAh.up (hAh _ _ hX)
    refine lv_istore (lv' := [(4, .int (nI no)), (3, .ref (ad (3 + i) 0)), (0, .ref xa), (1, .int x), (2, .int k)]) hx hb dX9_make_29 hl (by decide) rfl (fun ls hl => ?_)
    refine lv_aload_n hx hb dX9_make_31 rfl (lv_at hl 1 rfl) ?_
    refine lv_iload hx hb dX9_make_32 (lv_at hl 0 rfl) ?_
    have bdR := fun (a9 : Nat) (e9 : fe) (q9 : u a9 = some e9) => hP.lt q9
    have szR := hS.1
    have hge1 := hS.1
    have hlt1 := fun (a9 : Nat) (e9 : fe) (q9 : u a9 = some e9) => hP.lt q9
    refine fh_new (ci := 5) (C := RX5) (T := TX5) (N := 1) (fs := [.null]) hx hb ht inX5 tyX5 tyX5_ok hown (ht _ kw_258) (ht _ kw_259) (ht _ kw_10) hE.1 hP hS hA0 rfl (fun j hj => by rcases (show j = 0 by omega) with rfl <;> rfl) (Nat.le_of_ble_eq_true rfl) (Nat.le_of_ble_eq_true rfl) dX9_make_34 (fun r H er hAr hP hz_r hS => ?_)
    obtain ⟨h_2, eh_2⟩ : ∃ z, z = fh_up u r (.inr (5, [.null])) := ⟨_, rfl⟩
    have hP : fh_P G vwCl h_2 H := by rw [eh_2]; exact hP
    have f_2 : h_2 r = some (.inr (5, [.null])) := by rw [eh_2]; exact fh_up_self _ _ _
    have hsz_r : sz ≤ r := by rw [er, ← hsz]; exact hge1
    refine lv_dup hx hb dX9_make_37 rfl ?_
    refine fh_cIN (As := []) (rest := [.ref r, .int (nI no), .ref (ad (3 + i) 0)]) (b := r) ⟨hx, hb, hml, hown, ht⟩ (c_Row_init l G A h_2 _ (fun q hq => hA0 q (Nat.le_trans hS.1 hq)) r hAr f_2) (⟨va_cnB (host := "ObjectMerge") 0 ht (gB kw_262) rfl rfl rfl (hE.2.2.2.2.2.1 ("ObjectMerge", 71, ⟨"ObjectMerge$Row", "<init>", "()V"⟩, "ObjectMerge") (by decide)) (ht _ kw_10) yd_X5_init.2 ⟨(Nat.le_of_ble_eq_true rfl), (Nat.le_of_ble_eq_true rfl)⟩, rfl, (ht _ kw_261)⟩) hP hE hS rfl hl.1 rfl (Nat.le_of_ble_eq_true rfl) dX9_make_38 ⟨(Nat.le_of_ble_eq_true rfl), (Nat.le_of_ble_eq_true rfl)⟩ (fun v u1 H locs hp hP hz hS => ?_)
    obtain ⟨q9r, hq9r, rfl, eu1⟩ := hp
    refine W.eq (g2 := F0 m 41 ls [.ref r, .int (nI no), .ref (ad (3 + i) 0)]) rfl ?_
    have heR : fh_ext r u u1 := fun a9 h9 => by rw [eu1, fh_up_ne _ _ (by omega), fh_up_ne _ _ (by omega), eh_2, fh_up_ne _ _ (by omega)]
    have kR : kp [] u u1 := kp.ext heR (fun a9 e9 q9 => by rw [er]; exact bdR a9 e9 q9)
    have hrR : pRow u1 r (fun _ => 0) := ⟨q9r, _, by rw [eu1]; exact fh_up_self _ _ _, by rw [eu1, fh_up_ne _ _ (by omega)]; exact fh_up_self _ _ _, fun _ _ => rfl⟩
    have hAu1 : fh_A A u1 := hA1.ext heR (fun q hq => hA0 q (by omega))
    have hR2 := hR1.kp0 kR
    have hK9 : Kq < 1000000 := by omega
    obtain ⟨hXa, hVa, hSsa, hLa, hRla, hCa, hMa, hIa⟩ := id hR2
    obtain ⟨q0a, ⟨q1a, fna, q2a, q2ba⟩, q6a, nxa, foa, fra, q3a, q4a, q5a, q7a, q8a, q9a⟩ := hSsa.2 i hi
    refine fh_cV (q := (RX7, TX7, 6)) (As := [.int (nI no), .ref r]) (rest := []) (b := (ad (3 + i) 0)) ⟨hx, hb, hml, hown, ht⟩ (c_Ses_change l G A u1 _ (ad (3 + i) 0) (ad 1 (S i).1) (ad (3 + i) 1) (ad (3 + i) 3) (ad (3 + i) 6) (ad (3 + i) 2) (ad (3 + i) 4) (ad (3 + i) 5) nxa (S i).2.2.2.1.length (nI i) (bI (S i).2.2.1) fna foa fra q0a q1a q2a q3a q4a q5a (Nat.lt_of_le_of_lt q7a.1 hK9) q8a (hAu1 _ _ q3a) (hAu1 _ _ q4a) (hAu1 _ _ q5a) (hAu1 _ _ q2a) no d1 (some r) (pRo_cell' (q2ba no d1)) (pRo_cell' (show pRo u1 (some r) (some (fun _ => 0)) from hrR))) (cwV 2 ht (gV kw_365 kw_366 kw_367 kw_11 kw_368) rfl rfl rfl yd_X7_change ⟨(Nat.le_of_ble_eq_true rfl), (Nat.le_of_ble_eq_true rfl)⟩) hP hE hS q0a rfl rfl hl.1 rfl (Nat.le_of_ble_eq_true rfl) dX9_make_41 ⟨(Nat.le_of_ble_eq_true rfl), (Nat.le_of_ble_eq_true rfl)⟩ (fun v u2 H locs hp hP hz hS => ?_)
    obtain ⟨rfl, eu2⟩ := hp
    refine W.eq (g2 := F0 m 44 ls []) rfl ?_
    obtain ⟨z1, z2, z3⟩ := ses_chg q0a q1a q2a q2ba q6a q3a q4a q5a q7a q8a q9a d1 (show pRo u1 (some r) (some (fun _ => 0)) from hrR) eu2
    have hAu2 : fh_A A u2 := by rw [eu2]; exact (((hAu1.up (hAu1 _ _ q4a)).up (hAu1 _ _ q5a)).up (hAu1 _ _ q3a)).up (hAu1 _ _ q2a)
    have hRu2 := (hR2.mono (Nat.le_succ Kq)).ses (s' := sChg (S i) no (some (fun _ => 0))) hi z2 (z3.oth hIa hi) rfl z1
    refine lv_iload hx hb dX9_make_44 (lv_at hl 0 rfl) ?_
    have ep : oMake no ns S x k = (0, nI no, no + 1, upN S i (sChg (S i) no (some (fun _ => 0)))) := by simp [oMake, hix, hop, hkx, Nat.ne_of_lt d1]
    exact vx_ret (fh_iret hx hb hr hlocks (⟨by rw [ep], by rw [ep], hAu2, ((k1.C rfl).trans (kR.C rfl)).trans (z2.C rfl), ad, by rw [ep]; exact hRu2⟩) hP hS (by first | exact (Nat.le_of_ble_eq_true rfl) | omega) (by first | exact (Nat.le_of_ble_eq_true rfl) | omega) dX9_make_46)
  · have d1 : no = 60 := by
      rcases Nat.lt_or_ge no 60 with z | z
      · exact absurd (nI_lt z (by decide)) c1
      · omega
    refine lv_iconst (v := (-1)) hx hb dX9_make_23 (by decide) ?_
    have ep : oMake no ns S x k = (0, -1, no, S) := by simp [oMake, hix, hop, hkx, d1]
    exact vx_ret (fh_iret hx hb hr hlocks (⟨by rw [ep], by rw [ep], hAh, kp.rf, ad, by rw [ep]; exact hR.mono (Nat.le_succ Kq)⟩) hP hS (by first | exact (Nat.le_of_ble_eq_true rfl) | omega) (by first | exact (Nat.le_of_ble_eq_true rfl) | omega) dX9_make_24)

set_option maxRecDepth 100000 in
set_option maxHeartbeats 4000000 in
theorem p_undo (l : Launch) (G : fG) (A : Nat → Prop) (h : FH) (sz : Nat) (hst : l.stackTraces = false) (hA : ∀ q, sz ≤ q → A q) (hAh : fh_A A h) {Kq : Nat} (xa : Nat) (ad : Ad) (no nv ns : Nat) (V : Nat → St) (S : Nat → Ses) (LK : List Ar) (RL : List (Nat × Nat × Int64)) (J : Nat) (C : CL) (M : Nat → Int32) (hR : RepC Kq h xa ad no nv ns V S LK RL J C M) (hB9 : Bd no nv ns S RL J C) (hK8 : Kq < 900000) (x : Int32) : vx_Met l yX9_undo wsX9_undo { frames := 7, cells := 4, slots := 24, locals := 120 } (va_Pc [.ref xa, .int x] (fh_Pre G A h sz)) (fh_Q G (fun v u => (oUndo ns S x).1 = 0 ∧ v = some (.int (bI (oUndo ns S x).2.1)) ∧ fh_A A u ∧ kp kC h u ∧ ∃ ad2 : Ad, RepC Kq u xa ad2 no nv ns V ((oUndo ns S x).2.2) LK RL J C M) A) (fh_X G (fun E u => u = h ∧ ((E = xE1 ∧ (oUndo ns S x).1 = 1) ∨ (E = xE2 ∧ (oUndo ns S x).1 = 2))) A) 4 24 A := by
  refine fh_MetX [.ref xa, .int x] (by decide) rfl (Nat.le_of_ble_eq_true rfl) ?_
  intro p e s m below meth c hx hb hr hlocks hml hown hnm hts hsz hP hE hS htb ls hl
  have ht : ∀ w ∈ wB, w.before _ s = true := fun w h9 => hts w (List.mem_cons_of_mem _ h9)
  have hl : lv_has ls 3 [(0, .ref xa), (1, .int x)] := hl
  have hA0 : ∀ q, s.heap.size ≤ q → A q := fun q hq => hA q (by rw [← hsz]; exact hq)
  obtain ⟨hX, hV, hSs, hL, hRl, hC, hM, hI⟩ := id hR
  obtain ⟨hno, hnv, hnv0, hns, hbs, hCl, hCb, hJ, hRn, hRb⟩ := id hB9
  obtain ⟨⟨fs, s1, s2⟩, s3⟩ := id hSs
  obtain ⟨⟨fv, v1, v2⟩, v3⟩ := id hV
  refine lv_aload_n hx hb dX9_undo_0 rfl (lv_at hl 0 rfl) ?_
  refine lv_iload_n hx hb dX9_undo_1 rfl (lv_at hl 1 rfl) ?_
  refine fh_cVX (q := (RX9, TX9, 11)) (As := [.int x]) (rest := []) (b := xa) ⟨hx, hb, hml, hown, ht⟩ (c_X_sesOf l G A h _ hst xa ad no nv ns RL.length hX fs s1 (fun i => ad (3 + i) 0) s2 hns x) (cwV 1 ht (gV kw_286 kw_288 kp_4 kw_1 kw_289) rfl rfl rfl yd_X9_sessionOf ⟨(Nat.le_of_ble_eq_true rfl), (Nat.le_of_ble_eq_true rfl)⟩) hP hE hS hX rfl rfl hl.1 rfl (Nat.le_of_ble_eq_true rfl) dX9_undo_2 ⟨(Nat.le_of_ble_eq_true rfl), (Nat.le_of_ble_eq_true rfl)⟩ (fun E9 u9 ⟨z1, z2, z3⟩ => ⟨z2, Or.inl ⟨z1, by simp only [oUndo, z3]⟩⟩) htb hlocks (Nat.le_of_ble_eq_true rfl) (Nat.le_of_ble_eq_true rfl) (fun v u H locs hp hP hz hS => ?_)
  obtain ⟨i, hix, rfl, eu⟩ := hp
  rw [eu] at hP
  refine W.eq (g2 := F0 m 5 ls [.ref (ad (3 + i) 0)]) rfl ?_
  have hi := (ix_of (by omega) hix).1
  obtain ⟨q0, ⟨q1, fn, q2, q2b⟩, q6, nx, fo, fr, q3, q4, q5, q7, q8, q9⟩ := hSs.2 i hi
  refine lv_astore_n (lv' := [(2, .ref (ad (3 + i) 0)), (0, .ref xa), (1, .int x)]) hx hb dX9_undo_5 rfl hl (by decide) rfl (fun ls hl => ?_)
  refine lv_aload_n hx hb dX9_undo_6 rfl (lv_at hl 0 rfl) ?_
  refine fh_cSX (As := [.ref (ad (3 + i) 0)]) (rest := []) ⟨hx, hb, hml, hown, ht⟩ (c_X_ckOpen l G A h _ hst (ad (3 + i) 0) (ad 1 (S i).1) (ad (3 + i) 1) (ad (3 + i) 3) (ad (3 + i) 6) (nI i) (S i).2.2.1 q0) (va_cwS 1 ht (gS kw_315 kw_316 kw_1 kw_317) rfl rfl rfl yd_X9_checkOpen.2 ⟨(Nat.le_of_ble_eq_true rfl), (Nat.le_of_ble_eq_true rfl)⟩) hP hE hS rfl hl.1 rfl (Nat.le_of_ble_eq_true rfl) dX9_undo_7 ⟨(Nat.le_of_ble_eq_true rfl), (Nat.le_of_ble_eq_true rfl)⟩ (fun E9 u9 ⟨z1, z2, z3⟩ => ⟨z2, Or.inr (⟨z1, by simp [oUndo, hix, z3]⟩)⟩) htb hlocks (Nat.le_of_ble_eq_true rfl) (Nat.le_of_ble_eq_true rfl) (fun v u H locs hp hP hz hS => ?_)
  obtain ⟨rfl, eu, hop⟩ := hp
  rw [eu] at hP
  refine W.eq (g2 := F0 m 10 ls []) rfl ?_
  refine lv_aload_n hx hb dX9_undo_10 rfl (lv_at hl 0 rfl) ?_
  obtain ⟨oi, hoi⟩ : ∃ oi, 0 < (S i).2.2.2.1.length → fo ((nx - 1) % 40) = nI oi ∧ oi < 60 ∧ ∀ r, fr ((nx - 1) % 40) = some r → ∃ vs, h r = some (.inr (5, vs)) := by
    cases e9 : (S i).2.2.2.1 with
    | nil => exact ⟨0, fun z => absurd z (Nat.lt_irrefl 0)⟩
    | cons S0 Ss0 =>
      rw [e9] at q9
      obtain ⟨⟨o, g1, g2, g3, g4⟩, g5⟩ := q9
      exact ⟨o, fun _ => ⟨g2, g1, pRo_cell' g4⟩⟩
  refine fh_cV (q := (RX7, TX7, 6)) (As := []) (rest := []) (b := (ad (3 + i) 0)) ⟨hx, hb, hml, hown, ht⟩ (c_Ses_back l G A h _ (ad (3 + i) 0) (ad 1 (S i).1) (ad (3 + i) 1) (ad (3 + i) 3) (ad (3 + i) 6) (ad (3 + i) 2) (ad (3 + i) 4) (ad (3 + i) 5) nx (S i).2.2.2.1.length (nI i) (bI (S i).2.2.1) fn fo fr q0 q1 q2 q3 q4 q5 (by omega) q8 (hAh _ _ q3) (hAh _ _ q4) (hAh _ _ q5) (hAh _ _ q2) q7.2 oi hoi) (cwV 0 ht (gV kw_618 kw_619 kw_620 kw_11 kw_621) rfl rfl rfl yd_X7_takeBack ⟨(Nat.le_of_ble_eq_true rfl), (Nat.le_of_ble_eq_true rfl)⟩) hP hE hS q0 rfl rfl hl.1 rfl (Nat.le_of_ble_eq_true rfl) dX9_undo_11 ⟨(Nat.le_of_ble_eq_true rfl), (Nat.le_of_ble_eq_true rfl)⟩ (fun v u H locs hp hP hz hS => ?_)
  rcases hp with ⟨c0, rfl, eu⟩ | ⟨c0, rfl, eu⟩
  · rw [eu] at hP
    refine W.eq (g2 := F0 m 14 ls [.int 0]) rfl ?_
    have e0 : (S i).2.2.2.1 = [] := List.eq_nil_of_length_eq_zero c0
    have e1 : sBack (S i) = S i := by unfold sBack; rw [e0]
    have ep : oUndo ns S x = (0, false, S) := by simp [oUndo, hix, hop, e0, e1, upN_same]
    exact vx_ret (fh_zret hx hb hr hlocks rfl (⟨by rw [ep], by rw [ep]; rfl, hAh, kp.rf, ad, by rw [ep]; exact hR⟩) hP hS (by first | exact (Nat.le_of_ble_eq_true rfl) | omega) (by first | exact (Nat.le_of_ble_eq_true rfl) | omega) dX9_undo_14)
  · refine W.eq (g2 := F0 m 14 ls [.int 1]) rfl ?_
    obtain ⟨z1, z2, z3⟩ := ses_back q0 q1 q2 q2b q6 q3 q4 q5 q7 q8 q9 c0 (hoi c0).1 (hoi c0).2.1 eu
    have e1 : (S i).2.2.2.1.isEmpty = false := by cases e9 : (S i).2.2.2.1 with
      | nil => rw [e9] at c0; exact absurd c0 (Nat.lt_irrefl 0)
      | cons _ _ => rfl
    have ep : oUndo ns S x = (0, true, upN S i (sBack (S i))) := by simp [oUndo, hix, hop, e1]
    exact vx_ret (fh_zret hx hb hr hlocks rfl (⟨by rw [ep], by rw [ep]; rfl, by rw [eu]; exact (hAh.up (hAh _ _ q3)).up (hAh _ _ q2), z2.C rfl, ad, by rw [ep]; exact hR.ses hi z2 (z3.oth hI hi) (by unfold sBack; split <;> rfl) (by rw [show (sBack (S i)).1 = (S i).1 by unfold sBack; split <;> rfl]; exact z1)⟩) hP hS (by first | exact (Nat.le_of_ble_eq_true rfl) | omega) (by first | exact (Nat.le_of_ble_eq_true rfl) | omega) dX9_undo_14)
