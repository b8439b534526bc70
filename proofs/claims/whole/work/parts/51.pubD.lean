set_option maxRecDepth 100000 in
set_option maxHeartbeats 4000000 in
theorem p_conflict (l : Launch) (G : fG) (A : Nat → Prop) (h : FH) (sz : Nat) (hst : l.stackTraces = false) (hA : ∀ q, sz ≤ q → A q) (hAh : fh_A A h) {Kq : Nat} (xa : Nat) (ad : Ad) (no nv ns : Nat) (V : Nat → St) (S : Nat → Ses) (LK : List Ar) (RL : List (Nat × Nat × Int64)) (J : Nat) (C : CL) (M : Nat → Int32) (hR : RepC Kq h xa ad no nv ns V S LK RL J C M) (hB9 : Bd no nv ns S RL J C) (hK8 : Kq < 900000) (k ww : Int32) : vx_Met l yX9_conflict wsX9_conflict { frames := 7, cells := 4, slots := 24, locals := 120 } (va_Pc [.ref xa, .int k, .int ww] (fh_Pre G A h sz)) (fh_Q G (fun v u => (oConf S J C k ww).1 = 0 ∧ v = some (.int (oConf S J C k ww).2) ∧ fh_A A u ∧ kp kC h u ∧ ∃ ad2 : Ad, RepC Kq u xa ad no nv ns V S LK RL J C M) A) (fh_X G (fun E u => u = h ∧ ((E = xE1 ∧ (oConf S J C k ww).1 = 1))) A) 4 24 A := by
  refine fh_MetX [.ref xa, .int k, .int ww] (by decide) rfl (Nat.le_of_ble_eq_true rfl) ?_
  intro p e s m below meth c hx hb hr hlocks hml hown hnm hts hsz hP hE hS htb ls hl
  have ht : ∀ w ∈ wB, w.before _ s = true := fun w h9 => hts w (List.mem_cons_of_mem _ h9)
  have hl : lv_has ls 6 [(0, .ref xa), (1, .int k), (2, .int ww)] := hl
  have hA0 : ∀ q, s.heap.size ≤ q → A q := fun q hq => hA q (by rw [← hsz]; exact hq)
  obtain ⟨hX, hV, hSs, hL, hRl, hC, hM, hI⟩ := id hR
  obtain ⟨hno, hnv, hnv0, hns, hbs, hCl, hCb, hJ, hRn, hRb⟩ := id hB9
  obtain ⟨⟨fs, s1, s2⟩, s3⟩ := id hSs
  obtain ⟨⟨fv, v1, v2⟩, v3⟩ := id hV
  obtain ⟨ow, fc, c1, c2, c3, c4⟩ := id hC
  refine lv_aload_n hx hb dX9_conflict_0 rfl (lv_at hl 0 rfl) ?_
  refine lv_iload_n hx hb dX9_conflict_1 rfl (lv_at hl 1 rfl) ?_
  refine fh_cVX (q := (RX9, TX9, 11)) (As := [.int k]) (rest := []) (b := xa) ⟨hx, hb, hml, hown, ht⟩ (c_X_sesCon l G A h _ hst xa ad no nv ns RL.length hX ow C.length fc c1 c2 hCl (ad (3 + J) 0) (fun z => c4 (fun q => by rw [q] at z; exact absurd z (Nat.lt_irrefl 0))) k) (cwV 1 ht (gV kw_481 kw_483 kp_12 kw_1 kw_484) rfl rfl rfl yd_X9_sessionOfConflict ⟨(Nat.le_of_ble_eq_true rfl), (Nat.le_of_ble_eq_true rfl)⟩) hP hE hS hX rfl rfl hl.1 rfl (Nat.le_of_ble_eq_true rfl) dX9_conflict_2 ⟨(Nat.le_of_ble_eq_true rfl), (Nat.le_of_ble_eq_true rfl)⟩ (fun E9 u9 ⟨z1, z2, z3⟩ => ⟨z2, ⟨z1, by simp only [oConf, z3]⟩⟩) htb hlocks (Nat.le_of_ble_eq_true rfl) (Nat.le_of_ble_eq_true rfl) (fun v u H locs hp hP hz hS => ?_)
  obtain ⟨j, hjx, rfl, eu⟩ := hp
  rw [eu] at hP
  refine W.eq (g2 := F0 m 5 ls [.ref (ad (3 + J) 0)]) rfl ?_
  obtain ⟨hj, rfl⟩ := ix_of (by omega) hjx
  obtain ⟨o9, f9, hq⟩ : ∃ o9 f9, C[j]? = some (o9, f9) := ⟨_, _, List.getElem?_eq_getElem hj⟩
  have hq2 := hCb _ (List.mem_of_getElem? hq)
  have efc := c3 j _ hq
  have hgd : C.getD j (0, 0) = (o9, f9) := getD_of hq
  have hJn : J < ns := hJ (fun q => by rw [q] at hj; exact absurd hj (Nat.not_lt_zero j))
  obtain ⟨q0, ⟨q1, fn, q2, q2b⟩, q6, nx, fo, fr, q3, q4, q5, q7, q8, q9⟩ := hSs.2 J hJn
  refine lv_astore_n (lv' := [(3, .ref (ad (3 + J) 0)), (0, .ref xa), (1, .int (nI j)), (2, .int ww)]) hx hb dX9_conflict_5 rfl hl (by decide) rfl (fun ls hl => ?_)
  refine lv_aload_n hx hb dX9_conflict_6 rfl (lv_at hl 1 rfl) ?_
  refine fh_get (C := RX9) (T := TX9) (N := 11) hx hb ht inX9 hown hE.1 hP hX rfl 9 (by decide) (ht _ kw_84) (fun _ h9 => h9) (v := .ref (ad 0 5)) rfl dX9_conflict_7 ?_
  refine lv_iload_n hx hb dX9_conflict_10 rfl (lv_at hl 2 rfl) ?_
  refine fh_cV (q := (RX2, TX2, 3)) (As := [.int (nI j)]) (rest := []) (b := (ad 0 5)) ⟨hx, hb, hml, hown, ht⟩ (c_Con_obj l G A h _ (ad 0 5) (ad 0 6) ow C.length fc c1 c2 hCl j hj) (cwV 1 ht (gV kw_487 kw_437 kw_438 kw_4 kw_439) rfl rfl rfl yd_X2_objectOf ⟨(Nat.le_of_ble_eq_true rfl), (Nat.le_of_ble_eq_true rfl)⟩) hP hE hS c1 rfl rfl hl.1 rfl (Nat.le_of_ble_eq_true rfl) dX9_conflict_11 ⟨(Nat.le_of_ble_eq_true rfl), (Nat.le_of_ble_eq_true rfl)⟩ (fun v u H locs hp hP hz hS => ?_)
  obtain ⟨rfl, eu⟩ := hp
  rw [eu] at hP
  refine W.eq (g2 := F0 m 14 ls [.int (fc j / nI 8)]) rfl ?_
  refine lv_topi (fun z9 ez9 => ?_)
  rw [show z9 = nI o9 from ez9.trans (by rw [efc]; exact code_d hq2.1 hq2.2)]
  refine lv_istore (lv' := [(4, .int (nI o9)), (3, .ref (ad (3 + J) 0)), (0, .ref xa), (1, .int (nI j)), (2, .int ww)]) hx hb dX9_conflict_14 hl (by decide) rfl (fun ls hl => ?_)
  refine lv_aload_n hx hb dX9_conflict_16 rfl (lv_at hl 2 rfl) ?_
  refine fh_get (C := RX9) (T := TX9) (N := 11) hx hb ht inX9 hown hE.1 hP hX rfl 9 (by decide) (ht _ kw_84) (fun _ h9 => h9) (v := .ref (ad 0 5)) rfl dX9_conflict_17 ?_
  refine lv_iload_n hx hb dX9_conflict_20 rfl (lv_at hl 3 rfl) ?_
  refine fh_cV (q := (RX2, TX2, 3)) (As := [.int (nI j)]) (rest := []) (b := (ad 0 5)) ⟨hx, hb, hml, hown, ht⟩ (c_Con_fld l G A h _ (ad 0 5) (ad 0 6) ow C.length fc c1 c2 hCl j hj) (cwV 1 ht (gV kw_488 kw_445 kw_446 kw_4 kw_447) rfl rfl rfl yd_X2_fieldOf ⟨(Nat.le_of_ble_eq_true rfl), (Nat.le_of_ble_eq_true rfl)⟩) hP hE hS c1 rfl rfl hl.1 rfl (Nat.le_of_ble_eq_true rfl) dX9_conflict_21 ⟨(Nat.le_of_ble_eq_true rfl), (Nat.le_of_ble_eq_true rfl)⟩ (fun v u H locs hp hP hz hS => ?_)
  obtain ⟨rfl, eu⟩ := hp
  rw [eu] at hP
  refine W.eq (g2 := F0 m 24 ls [.int (fc j - fc j / nI 8 * nI 8)]) rfl ?_
  refine lv_topi (fun z9 ez9 => ?_)
  rw [show z9 = nI f9 from ez9.trans (by rw [efc]; exact code_r hq2.1 hq2.2)]
  refine lv_istore (lv' := [(5, .int (nI f9)), (4, .int (nI o9)), (3, .ref (ad (3 + J) 0)), (0, .ref xa), (1, .int (nI j)), (2, .int ww)]) hx hb dX9_conflict_24 hl (by decide) rfl (fun ls hl => ?_)
  refine lv_iload_n hx hb dX9_conflict_26 rfl (lv_at hl 5 rfl) ?_
  rcases pk_ix ww (n := 3) (by decide) with z | z | ⟨n9, hn9, rfl⟩
  · refine lv_tableOut (tgt := 67) hx hb dX9_conflict_27 (Or.inl (by rw [Int32.lt_iff_toInt_lt] at z; exact z)) (by decide) ?_
    refine W.eq (g2 := F0 m 67 ls []) rfl ?_
    exact fh_throwS hx hb hst ht hown (by decide +kernel) kw_290 kw_13 xg1 xb1 xo1 (text := "what is 0, 1 or 2") (by decide) hE hS hP (hl.1.trans hml.symm) dX9_conflict_67 dX9_conflict_70 dX9_conflict_71 dX9_conflict_73 dX9_conflict_76 htb (Nat.le_of_ble_eq_true rfl) (Nat.le_of_ble_eq_true rfl) (Nat.le_of_ble_eq_true rfl) (Nat.le_of_ble_eq_true rfl) hlocks (⟨rfl, ⟨rfl, by simp only [oConf, hjx, hq, ix_none (Or.inl z)]⟩⟩) (Nat.le_of_ble_eq_true rfl) (Nat.le_of_ble_eq_true rfl)
  · refine lv_tableOut (tgt := 67) hx hb dX9_conflict_27 (Or.inr (by rw [Int32.le_iff_toInt_le, nI_toInt (by decide)] at z; omega)) (by decide) ?_
    refine W.eq (g2 := F0 m 67 ls []) rfl ?_
    exact fh_throwS hx hb hst ht hown (by decide +kernel) kw_290 kw_13 xg1 xb1 xo1 (text := "what is 0, 1 or 2") (by decide) hE hS hP (hl.1.trans hml.symm) dX9_conflict_67 dX9_conflict_70 dX9_conflict_71 dX9_conflict_73 dX9_conflict_76 htb (Nat.le_of_ble_eq_true rfl) (Nat.le_of_ble_eq_true rfl) (Nat.le_of_ble_eq_true rfl) (Nat.le_of_ble_eq_true rfl) hlocks (⟨rfl, ⟨rfl, by simp only [oConf, hjx, hq, ix_none (Or.inr z)]⟩⟩) (Nat.le_of_ble_eq_true rfl) (Nat.le_of_ble_eq_true rfl)
  · rcases (show n9 = 0 ∨ n9 = 1 ∨ n9 = 2 by omega) with rfl | rfl | rfl
    · refine lv_tableIn (off := 25) (tgt := 52) hx hb dX9_conflict_27 (by decide) (by decide) (by decide) (by decide) ?_
      refine W.eq (g2 := F0 m 52 ls []) rfl ?_
      refine lv_iload hx hb dX9_conflict_52 (lv_at hl 1 rfl) ?_
      have ep : oConf S J C (nI j) (nI 0) = (0, nI o9) := by simp [oConf, hjx, hq, ix_some (show 0 < 3 by decide) (by decide)]
      exact vx_ret (fh_iret hx hb hr hlocks (⟨by rw [ep], by rw [ep], hAh, kp.rf, ad, hR⟩) hP hS (by first | exact (Nat.le_of_ble_eq_true rfl) | omega) (by first | exact (Nat.le_of_ble_eq_true rfl) | omega) dX9_conflict_54)
    · refine lv_tableIn (off := 28) (tgt := 55) hx hb dX9_conflict_27 (by decide) (by decide) (by decide) (by decide) ?_
      refine W.eq (g2 := F0 m 55 ls []) rfl ?_
      refine lv_iload hx hb dX9_conflict_55 (lv_at hl 0 rfl) ?_
      have ep : oConf S J C (nI j) (nI 1) = (0, nI f9) := by simp [oConf, hjx, hq, ix_some (show 1 < 3 by decide) (by decide)]
      exact vx_ret (fh_iret hx hb hr hlocks (⟨by rw [ep], by rw [ep], hAh, kp.rf, ad, hR⟩) hP hS (by first | exact (Nat.le_of_ble_eq_true rfl) | omega) (by first | exact (Nat.le_of_ble_eq_true rfl) | omega) dX9_conflict_57)
    · refine lv_tableIn (off := 31) (tgt := 58) hx hb dX9_conflict_27 (by decide) (by decide) (by decide) (by decide) ?_
      refine W.eq (g2 := F0 m 58 ls []) rfl ?_
      refine lv_aload_n hx hb dX9_conflict_58 rfl (lv_at hl 2 rfl) ?_
      refine lv_iload hx hb dX9_conflict_59 (lv_at hl 1 rfl) ?_
      refine lv_iload hx hb dX9_conflict_61 (lv_at hl 0 rfl) ?_
      refine fh_cV (q := (RX7, TX7, 6)) (As := [.int (nI o9), .int (nI f9)]) (rest := []) (b := (ad (3 + J) 0)) ⟨hx, hb, hml, hown, ht⟩ (c_Ses_side l G A h _ (ad (3 + J) 0) (ad 1 (S J).1) (ad (3 + J) 1) (ad (3 + J) 3) (ad (3 + J) 6) (nI J) (bI (S J).2.2.1) (S J).2.2.2.2 q0 q6 o9 f9 hq2.1 hq2.2) (cwV 2 ht (gV kw_489 kw_449 kw_450 kw_11 kw_451) rfl rfl rfl yd_X7_sideOf ⟨(Nat.le_of_ble_eq_true rfl), (Nat.le_of_ble_eq_true rfl)⟩) hP hE hS q0 rfl rfl hl.1 rfl (Nat.le_of_ble_eq_true rfl) dX9_conflict_63 ⟨(Nat.le_of_ble_eq_true rfl), (Nat.le_of_ble_eq_true rfl)⟩ (fun v u H locs hp hP hz hS => ?_)
      obtain ⟨rfl, eu⟩ := hp
      rw [eu] at hP
      refine W.eq (g2 := F0 m 66 ls [.int ((S J).2.2.2.2 (o9 * 7 + f9) - nI 1)]) rfl ?_
      have ep : oConf S J C (nI j) (nI 2) = (0, (S J).2.2.2.2 (o9 * 7 + f9) - nI 1) := by simp [oConf, hjx, hq, ix_some (show 2 < 3 by decide) (by decide)]
      exact vx_ret (fh_iret hx hb hr hlocks (⟨by rw [ep], by rw [ep], hAh, kp.rf, ad, hR⟩) hP hS (by first | exact (Nat.le_of_ble_eq_true rfl) | omega) (by first | exact (Nat.le_of_ble_eq_true rfl) | omega) dX9_conflict_66)

set_option maxRecDepth 100000 in
set_option maxHeartbeats 4000000 in
theorem p_settle (l : Launch) (G : fG) (A : Nat → Prop) (h : FH) (sz : Nat) (hst : l.stackTraces = false) (hA : ∀ q, sz ≤ q → A q) (hAh : fh_A A h) {Kq : Nat} (xa : Nat) (ad : Ad) (no nv ns : Nat) (V : Nat → St) (S : Nat → Ses) (LK : List Ar) (RL : List (Nat × Nat × Int64)) (J : Nat) (C : CL) (M : Nat → Int32) (hR : RepC Kq h xa ad no nv ns V S LK RL J C M) (hB9 : Bd no nv ns S RL J C) (hK8 : Kq < 900000) (k ww : Int32) : vx_Met l yX9_settle wsX9_settle { frames := 7, cells := 4, slots := 24, locals := 120 } (va_Pc [.ref xa, .int k, .int ww] (fh_Pre G A h sz)) (fh_Q G (fun v u => (oSettle S J C k ww).1 = 0 ∧ v = some (.int (bI (oSettle S J C k ww).2.1)) ∧ fh_A A u ∧ kp kC h u ∧ ∃ ad2 : Ad, RepC Kq u xa ad2 no nv ns V ((oSettle S J C k ww).2.2) LK RL J C M) A) (fh_X G (fun E u => u = h ∧ ((E = xE1 ∧ (oSettle S J C k ww).1 = 1) ∨ (E = xE2 ∧ (oSettle S J C k ww).1 = 2) ∨ (E = xE0 ∧ (oSettle S J C k ww).1 = 3))) A) 4 24 A := by
  refine fh_MetX [.ref xa, .int k, .int ww] (by decide) rfl (Nat.le_of_ble_eq_true rfl) ?_
  intro p e s m below meth c hx hb hr hlocks hml hown hnm hts hsz hP hE hS htb ls hl
  have ht : ∀ w ∈ wB, w.before _ s = true := fun w h9 => hts w (List.mem_cons_of_mem _ h9)
  have hl : lv_has ls 7 [(0, .ref xa), (1, .int k), (2, .int ww)] := hl
  have hA0 : ∀ q, s.heap.size ≤ q → A q := fun q hq => hA q (by rw [← hsz]; exact hq)
  obtain ⟨hX, hV, hSs, hL, hRl, hC, hM, hI⟩ := id hR
  obtain ⟨hno, hnv, hnv0, hns, hbs, hCl, hCb, hJ, hRn, hRb⟩ := id hB9
  obtain ⟨⟨fs, s1, s2⟩, s3⟩ := id hSs
  obtain ⟨⟨fv, v1, v2⟩, v3⟩ := id hV
  obtain ⟨ow, fc, c1, c2, c3, c4⟩ := id hC
  refine lv_aload_n hx hb dX9_settle_0 rfl (lv_at hl 0 rfl) ?_
  refine lv_iload_n hx hb dX9_settle_1 rfl (lv_at hl 1 rfl) ?_
  refine fh_cVX (q := (RX9, TX9, 11)) (As := [.int k]) (rest := []) (b := xa) ⟨hx, hb, hml, hown, ht⟩ (c_X_sesCon l G A h _ hst xa ad no nv ns RL.length hX ow C.length fc c1 c2 hCl (ad (3 + J) 0) (fun z => c4 (fun q => by rw [q] at z; exact absurd z (Nat.lt_irrefl 0))) k) (cwV 1 ht (gV kw_481 kw_483 kp_12 kw_1 kw_484) rfl rfl rfl yd_X9_sessionOfConflict ⟨(Nat.le_of_ble_eq_true rfl), (Nat.le_of_ble_eq_true rfl)⟩) hP hE hS hX rfl rfl hl.1 rfl (Nat.le_of_ble_eq_true rfl) dX9_settle_2 ⟨(Nat.le_of_ble_eq_true rfl), (Nat.le_of_ble_eq_true rfl)⟩ (fun E9 u9 ⟨z1, z2, z3⟩ => ⟨z2, Or.inl ⟨z1, by simp only [oSettle, z3]⟩⟩) htb hlocks (Nat.le_of_ble_eq_true rfl) (Nat.le_of_ble_eq_true rfl) (fun v u H locs hp hP hz hS => ?_)
  obtain ⟨j, hjx, rfl, eu⟩ := hp
  rw [eu] at hP
  refine W.eq (g2 := F0 m 5 ls [.ref (ad (3 + J) 0)]) rfl ?_
  obtain ⟨hj, rfl⟩ := ix_of (by omega) hjx
  obtain ⟨o9, f9, hq⟩ : ∃ o9 f9, C[j]? = some (o9, f9) := ⟨_, _, List.getElem?_eq_getElem hj⟩
  have hq2 := hCb _ (List.mem_of_getElem? hq)
  have efc := c3 j _ hq
  have hgd : C.getD j (0, 0) = (o9, f9) := getD_of hq
  have hJn : J < ns := hJ (fun q => by rw [q] at hj; exact absurd hj (Nat.not_lt_zero j))
  obtain ⟨q0, ⟨q1, fn, q2, q2b⟩, q6, nx, fo, fr, q3, q4, q5, q7, q8, q9⟩ := hSs.2 J hJn
  refine lv_astore_n (lv' := [(3, .ref (ad (3 + J) 0)), (0, .ref xa), (1, .int (nI j)), (2, .int ww)]) hx hb dX9_settle_5 rfl hl (by decide) rfl (fun ls hl => ?_)
  refine lv_aload_n hx hb dX9_settle_6 rfl (lv_at hl 0 rfl) ?_
  refine fh_cSX (As := [.ref (ad (3 + J) 0)]) (rest := []) ⟨hx, hb, hml, hown, ht⟩ (c_X_ckOpen l G A h _ hst (ad (3 + J) 0) (ad 1 (S J).1) (ad (3 + J) 1) (ad (3 + J) 3) (ad (3 + J) 6) (nI J) (S J).2.2.1 q0) (va_cwS 1 ht (gS kw_315 kw_316 kw_1 kw_317) rfl rfl rfl yd_X9_checkOpen.2 ⟨(Nat.le_of_ble_eq_true rfl), (Nat.le_of_ble_eq_true rfl)⟩) hP hE hS rfl hl.1 rfl (Nat.le_of_ble_eq_true rfl) dX9_settle_7 ⟨(Nat.le_of_ble_eq_true rfl), (Nat.le_of_ble_eq_true rfl)⟩ (fun E9 u9 ⟨z1, z2, z3⟩ => ⟨z2, Or.inr (Or.inl ⟨z1, by simp [oSettle, hjx, hq, z3]⟩)⟩) htb hlocks (Nat.le_of_ble_eq_true rfl) (Nat.le_of_ble_eq_true rfl) (fun v u H locs hp hP hz hS => ?_)
  obtain ⟨rfl, eu, hop⟩ := hp
  rw [eu] at hP
  refine W.eq (g2 := F0 m 10 ls []) rfl ?_
  refine lv_iload_n hx hb dX9_settle_10 rfl (lv_at hl 3 rfl) ?_
  refine lv_if_lt (tgt := 19) hx hb dX9_settle_11 (by decide) (fun d1 => ?_) (fun d1 => ?_)
  · exact fh_throwS hx hb hst ht hown (by decide +kernel) kw_186 kw_9 xg0 xb0 xo0 (text := "a side is 0 or 1") (by decide) hE hS hP (hl.1.trans hml.symm) dX9_settle_19 dX9_settle_22 dX9_settle_23 dX9_settle_25 dX9_settle_28 htb (Nat.le_of_ble_eq_true rfl) (Nat.le_of_ble_eq_true rfl) (Nat.le_of_ble_eq_true rfl) (Nat.le_of_ble_eq_true rfl) hlocks (⟨rfl, Or.inr (Or.inr (⟨rfl, by simp only [oSettle, hjx, hq, hop, if_true, ix_none (Or.inl d1)]⟩))⟩) (Nat.le_of_ble_eq_true rfl) (Nat.le_of_ble_eq_true rfl)
  · refine lv_iload_n hx hb dX9_settle_14 rfl (lv_at hl 3 rfl) ?_
    refine lv_iconst (v := (nI 2)) hx hb dX9_settle_15 (by decide) ?_
    refine lv_icmp_lt (tgt := 29) hx hb dX9_settle_16 (by decide) (fun d2 => ?_) (fun d2 => ?_)
    · obtain ⟨n9, hn9, rfl⟩ : ∃ n9, n9 < 2 ∧ ww = nI n9 := by
        rcases pk_ix ww (n := 2) (by decide) with q | q | q
        · exact absurd q d1
        · rw [Int32.le_iff_toInt_le] at q; rw [Int32.lt_iff_toInt_lt] at d2; omega
        · exact q
      refine lv_aload_n hx hb dX9_settle_29 rfl (lv_at hl 1 rfl) ?_
      refine fh_get (C := RX9) (T := TX9) (N := 11) hx hb ht inX9 hown hE.1 hP hX rfl 9 (by decide) (ht _ kw_84) (fun _ h9 => h9) (v := .ref (ad 0 5)) rfl dX9_settle_30 ?_
      refine lv_iload_n hx hb dX9_settle_33 rfl (lv_at hl 2 rfl) ?_
      refine fh_cV (q := (RX2, TX2, 3)) (As := [.int (nI j)]) (rest := []) (b := (ad 0 5)) ⟨hx, hb, hml, hown, ht⟩ (c_Con_obj l G A h _ (ad 0 5) (ad 0 6) ow C.length fc c1 c2 hCl j hj) (cwV 1 ht (gV kw_487 kw_437 kw_438 kw_4 kw_439) rfl rfl rfl yd_X2_objectOf ⟨(Nat.le_of_ble_eq_true rfl), (Nat.le_of_ble_eq_true rfl)⟩) hP hE hS c1 rfl rfl hl.1 rfl (Nat.le_of_ble_eq_true rfl) dX9_settle_34 ⟨(Nat.le_of_ble_eq_true rfl), (Nat.le_of_ble_eq_true rfl)⟩ (fun v u H locs hp hP hz hS => ?_)
      obtain ⟨rfl, eu⟩ := hp
      rw [eu] at hP
      refine W.eq (g2 := F0 m 37 ls [.int (fc j / nI 8)]) rfl ?_
      refine lv_topi (fun z9 ez9 => ?_)
      rw [show z9 = nI o9 from ez9.trans (by rw [efc]; exact code_d hq2.1 hq2.2)]
      refine lv_istore (lv' := [(4, .int (nI o9)), (3, .ref (ad (3 + J) 0)), (0, .ref xa), (1, .int (nI j)), (2, .int (nI n9))]) hx hb dX9_settle_37 hl (by decide) rfl (fun ls hl => ?_)
      refine lv_aload_n hx hb dX9_settle_39 rfl (lv_at hl 2 rfl) ?_
      refine fh_get (C := RX9) (T := TX9) (N := 11) hx hb ht inX9 hown hE.1 hP hX rfl 9 (by decide) (ht _ kw_84) (fun _ h9 => h9) (v := .ref (ad 0 5)) rfl dX9_settle_40 ?_
      refine lv_iload_n hx hb dX9_settle_43 rfl (lv_at hl 3 rfl) ?_
      refine fh_cV (q := (RX2, TX2, 3)) (As := [.int (nI j)]) (rest := []) (b := (ad 0 5)) ⟨hx, hb, hml, hown, ht⟩ (c_Con_fld l G A h _ (ad 0 5) (ad 0 6) ow C.length fc c1 c2 hCl j hj) (cwV 1 ht (gV kw_488 kw_445 kw_446 kw_4 kw_447) rfl rfl rfl yd_X2_fieldOf ⟨(Nat.le_of_ble_eq_true rfl), (Nat.le_of_ble_eq_true rfl)⟩) hP hE hS c1 rfl rfl hl.1 rfl (Nat.le_of_ble_eq_true rfl) dX9_settle_44 ⟨(Nat.le_of_ble_eq_true rfl), (Nat.le_of_ble_eq_true rfl)⟩ (fun v u H locs hp hP hz hS => ?_)
      obtain ⟨rfl, eu⟩ := hp
      rw [eu] at hP
      refine W.eq (g2 := F0 m 47 ls [.int (fc j - fc j / nI 8 * nI 8)]) rfl ?_
      refine lv_topi (fun z9 ez9 => ?_)
      rw [show z9 = nI f9 from ez9.trans (by rw [efc]; exact code_r hq2.1 hq2.2)]
      refine lv_istore (lv' := [(5, .int (nI f9)), (4, .int (nI o9)), (3, .ref (ad (3 + J) 0)), (0, .ref xa), (1, .int (nI j)), (2, .int (nI n9))]) hx hb dX9_settle_47 hl (by decide) rfl (fun ls hl => ?_)
      refine lv_aload_n hx hb dX9_settle_49 rfl (lv_at hl 2 rfl) ?_
      refine lv_iload hx hb dX9_settle_50 (lv_at hl 1 rfl) ?_
      refine lv_iload hx hb dX9_settle_52 (lv_at hl 0 rfl) ?_
      refine fh_cV (q := (RX7, TX7, 6)) (As := [.int (nI o9), .int (nI f9)]) (rest := []) (b := (ad (3 + J) 0)) ⟨hx, hb, hml, hown, ht⟩ (c_Ses_side l G A h _ (ad (3 + J) 0) (ad 1 (S J).1) (ad (3 + J) 1) (ad (3 + J) 3) (ad (3 + J) 6) (nI J) (bI (S J).2.2.1) (S J).2.2.2.2 q0 q6 o9 f9 hq2.1 hq2.2) (cwV 2 ht (gV kw_489 kw_449 kw_450 kw_11 kw_451) rfl rfl rfl yd_X7_sideOf ⟨(Nat.le_of_ble_eq_true rfl), (Nat.le_of_ble_eq_true rfl)⟩) hP hE hS q0 rfl rfl hl.1 rfl (Nat.le_of_ble_eq_true rfl) dX9_settle_54 ⟨(Nat.le_of_ble_eq_true rfl), (Nat.le_of_ble_eq_true rfl)⟩ (fun v u H locs hp hP hz hS => ?_)
      obtain ⟨rfl, eu⟩ := hp
      rw [eu] at hP
      refine W.eq (g2 := F0 m 57 ls [.int ((S J).2.2.2.2 (o9 * 7 + f9) - nI 1)]) rfl ?_
      refine lv_iload_n hx hb dX9_settle_57 rfl (lv_at hl 5 rfl) ?_
      refine lv_icmp_eq (tgt := 65) hx hb dX9_settle_58 (by decide) (fun d4 => ?_) (fun d4 => ?_)
      · refine lv_iconst (v := (nI 0)) hx hb dX9_settle_65 (by decide) ?_
        refine lv_istore (lv' := [(6, .int (nI 0)), (5, .int (nI f9)), (4, .int (nI o9)), (3, .ref (ad (3 + J) 0)), (0, .ref xa), (1, .int (nI j)), (2, .int (nI n9))]) hx hb dX9_settle_66 hl (by decide) rfl (fun ls hl => ?_)
        refine lv_aload_n hx hb dX9_settle_68 rfl (lv_at hl 3 rfl) ?_
        refine lv_iload hx hb dX9_settle_69 (lv_at hl 2 rfl) ?_
        refine lv_iload hx hb dX9_settle_71 (lv_at hl 1 rfl) ?_
        refine lv_iload_n hx hb dX9_settle_73 rfl (lv_at hl 6 rfl) ?_
        refine fh_cV (q := (RX7, TX7, 6)) (As := [.int (nI o9), .int (nI f9), .int (nI n9)]) (rest := []) (b := (ad (3 + J) 0)) ⟨hx, hb, hml, hown, ht⟩ (c_Ses_choose l G A h _ (ad (3 + J) 0) (ad 1 (S J).1) (ad (3 + J) 1) (ad (3 + J) 3) (ad (3 + J) 6) (nI J) (bI (S J).2.2.1) (S J).2.2.2.2 q0 q6 (hAh _ _ q6) o9 f9 n9 hq2.1 hq2.2 hn9) (cwV 3 ht (gV kw_499 kw_500 kw_501 kw_11 kw_502) rfl rfl rfl yd_X7_choose ⟨(Nat.le_of_ble_eq_true rfl), (Nat.le_of_ble_eq_true rfl)⟩) hP hE hS q0 rfl rfl hl.1 rfl (Nat.le_of_ble_eq_true rfl) dX9_settle_74 ⟨(Nat.le_of_ble_eq_true rfl), (Nat.le_of_ble_eq_true rfl)⟩ (fun v u H locs hp hP hz hS => ?_)
        obtain ⟨rfl, eu9⟩ := hp
        refine W.eq (g2 := F0 m 77 ls []) rfl ?_
        obtain ⟨hR2, k2⟩ := hR.side hJn eu9
        have d5 := (sub1_e _ _).mp d4
        refine lv_iload hx hb dX9_settle_77 (lv_at hl 0 rfl) ?_
        have ep : oSettle S J C (nI j) (nI n9) = (0, false, upN S J (sSide (S J) (o9 * 7 + f9) n9)) := by simp [oSettle, hjx, hq, hop, ix_some hn9 (by decide), d5]
        exact vx_ret (fh_zret hx hb hr hlocks rfl (⟨by rw [ep], by rw [ep]; rfl, by rw [eu9]; exact hAh.up (hAh _ _ q6), k2.C rfl, ad, by rw [ep]; exact hR2⟩) hP hS (by first | exact (Nat.le_of_ble_eq_true rfl) | omega) (by first | exact (Nat.le_of_ble_eq_true rfl) | omega) dX9_settle_79)
      · refine lv_iconst (v := (nI 1)) hx hb dX9_settle_61 (by decide) ?_
        refine lv_goto (tgt := 66) hx hb dX9_settle_62 (by decide) ?_
        refine lv_istore (lv' := [(6, .int (nI 1)), (5, .int (nI f9)), (4, .int (nI o9)), (3, .ref (ad (3 + J) 0)), (0, .ref xa), (1, .int (nI j)), (2, .int (nI n9))]) hx hb dX9_settle_66 hl (by decide) rfl (fun ls hl => ?_)
        refine lv_aload_n hx hb dX9_settle_68 rfl (lv_at hl 3 rfl) ?_
        refine lv_iload hx hb dX9_settle_69 (lv_at hl 2 rfl) ?_
        refine lv_iload hx hb dX9_settle_71 (lv_at hl 1 rfl) ?_
        refine lv_iload_n hx hb dX9_settle_73 rfl (lv_at hl 6 rfl) ?_
        refine fh_cV (q := (RX7, TX7, 6)) (As := [.int (nI o9), .int (nI f9), .int (nI n9)]) (rest := []) (b := (ad (3 + J) 0)) ⟨hx, hb, hml, hown, ht⟩ (c_Ses_choose l G A h _ (ad (3 + J) 0) (ad 1 (S J).1) (ad (3 + J) 1) (ad (3 + J) 3) (ad (3 + J) 6) (nI J) (bI (S J).2.2.1) (S J).2.2.2.2 q0 q6 (hAh _ _ q6) o9 f9 n9 hq2.1 hq2.2 hn9) (cwV 3 ht (gV kw_499 kw_500 kw_501 kw_11 kw_502) rfl rfl rfl yd_X7_choose ⟨(Nat.le_of_ble_eq_true rfl), (Nat.le_of_ble_eq_true rfl)⟩) hP hE hS q0 rfl rfl hl.1 rfl (Nat.le_of_ble_eq_true rfl) dX9_settle_74 ⟨(Nat.le_of_ble_eq_true rfl), (Nat.le_of_ble_eq_true rfl)⟩ (fun v u H locs hp hP hz hS => ?_)
        obtain ⟨rfl, eu9⟩ := hp
        refine W.eq (g2 := F0 m 77 ls []) rfl ?_
        obtain ⟨hR2, k2⟩ := hR.side hJn eu9
        have d5 : ¬ (S J).2.2.2.2 (o9 * 7 + f9) = nI (n9 + 1) := fun q => d4 ((sub1_e _ _).mpr q)
        refine lv_iload hx hb dX9_settle_77 (lv_at hl 0 rfl) ?_
        have ep : oSettle S J C (nI j) (nI n9) = (0, true, upN S J (sSide (S J) (o9 * 7 + f9) n9)) := by simp [oSettle, hjx, hq, hop, ix_some hn9 (by decide), d5]
        exact vx_ret (fh_zret hx hb hr hlocks rfl (⟨by rw [ep], by rw [ep]; rfl, by rw [eu9]; exact hAh.up (hAh _ _ q6), k2.C rfl, ad, by rw [ep]; exact hR2⟩) hP hS (by first | exact (Nat.le_of_ble_eq_true rfl) | omega) (by first | exact (Nat.le_of_ble_eq_true rfl) | omega) dX9_settle_79)
    · have d3 : nI 2 ≤ ww := by rw [Int32.le_iff_toInt_le]; rw [Int32.lt_iff_toInt_lt] at d2; omega
      exact fh_throwS hx hb hst ht hown (by decide +kernel) kw_186 kw_9 xg0 xb0 xo0 (text := "a side is 0 or 1") (by decide) hE hS hP (hl.1.trans hml.symm) dX9_settle_19 dX9_settle_22 dX9_settle_23 dX9_settle_25 dX9_settle_28 htb (Nat.le_of_ble_eq_true rfl) (Nat.le_of_ble_eq_true rfl) (Nat.le_of_ble_eq_true rfl) (Nat.le_of_ble_eq_true rfl) hlocks (⟨rfl, Or.inr (Or.inr (⟨rfl, by simp only [oSettle, hjx, hq, hop, if_true, ix_none (Or.inr d3)]⟩))⟩) (Nat.le_of_ble_eq_true rfl) (Nat.le_of_ble_eq_true rfl)

set_option maxRecDepth 100000 in
set_option maxHeartbeats 4000000 in
theorem p_lock (l : Launch) (G : fG) (A : Nat → Prop) (h : FH) (sz : Nat) (hst : l.stackTraces = false) (hA : ∀ q, sz ≤ q → A q) (hAh : fh_A A h) {Kq : Nat} (xa : Nat) (ad : Ad) (no nv ns : Nat) (V : Nat → St) (S : Nat → Ses) (LK : List Ar) (RL : List (Nat × Nat × Int64)) (J : Nat) (C : CL) (M : Nat → Int32) (hR : RepC Kq h xa ad no nv ns V S LK RL J C M) (hB9 : Bd no nv ns S RL J C) (hK8 : Kq < 900000) (x : Int32) (x0 y0 x1 y1 : Int64) : vx_Met l yX9_lock wsX9_lock { frames := 7, cells := 4, slots := 24, locals := 120 } (va_Pc [.ref xa, .int x, .long x0, .long y0, .long x1, .long y1] (fh_Pre G A h sz)) (fh_Q G (fun v u => (oLock ns S LK x x0 y0 x1 y1).1 = 0 ∧ v = some (.int (bI (oLock ns S LK x x0 y0 x1 y1).2.1)) ∧ fh_A A u ∧ kp kC h u ∧ ∃ ad2 : Ad, RepC Kq u xa ad2 no nv ns V S ((oLock ns S LK x x0 y0 x1 y1).2.2) RL J C M) A) (fh_X G (fun E u => u = h ∧ ((E = xE1 ∧ (oLock ns S LK x x0 y0 x1 y1).1 = 1) ∨ (E = xE2 ∧ (oLock ns S LK x x0 y0 x1 y1).1 = 2))) A) 4 24 A := by
  refine fh_MetX [.ref xa, .int x, .long x0, .long y0, .long x1, .long y1] (by decide) rfl (Nat.le_of_ble_eq_true rfl) ?_
  intro p e s m below meth c hx hb hr hlocks hml hown hnm hts hsz hP hE hS htb ls hl
  have ht : ∀ w ∈ wB, w.before _ s = true := fun w h9 => hts w (List.mem_cons_of_mem _ h9)
  have hl : lv_has ls 11 [(0, .ref xa), (1, .int x), (2, .long x0), (4, .long y0), (6, .long x1), (8, .long y1)] := hl
  have hA0 : ∀ q, s.heap.size ≤ q → A q := fun q hq => hA q (by rw [← hsz]; exact hq)
  obtain ⟨hX, hV, hSs, hL, hRl, hC, hM, hI⟩ := id hR
  obtain ⟨hno, hnv, hnv0, hns, hbs, hCl, hCb, hJ, hRn, hRb⟩ := id hB9
  obtain ⟨⟨fs, s1, s2⟩, s3⟩ := id hSs
  obtain ⟨⟨fv, v1, v2⟩, v3⟩ := id hV
  refine lv_aload_n hx hb dX9_lock_0 rfl (lv_at hl 0 rfl) ?_
  refine lv_iload_n hx hb dX9_lock_1 rfl (lv_at hl 1 rfl) ?_
  refine fh_cVX (q := (RX9, TX9, 11)) (As := [.int x]) (rest := []) (b := xa) ⟨hx, hb, hml, hown, ht⟩ (c_X_sesOf l G A h _ hst xa ad no nv ns RL.length hX fs s1 (fun i => ad (3 + i) 0) s2 hns x) (cwV 1 ht (gV kw_286 kw_288 kp_4 kw_1 kw_289) rfl rfl rfl yd_X9_sessionOf ⟨(Nat.le_of_ble_eq_true rfl), (Nat.le_of_ble_eq_true rfl)⟩) hP hE hS hX rfl rfl hl.1 rfl (Nat.le_of_ble_eq_true rfl) dX9_lock_2 ⟨(Nat.le_of_ble_eq_true rfl), (Nat.le_of_ble_eq_true rfl)⟩ (fun E9 u9 ⟨z1, z2, z3⟩ => ⟨z2, Or.inl ⟨z1, by simp only [oLock, z3]⟩⟩) htb hlocks (Nat.le_of_ble_eq_true rfl) (Nat.le_of_ble_eq_true rfl) (fun v u H locs hp hP hz hS => ?_)
  obtain ⟨i, hix, rfl, eu⟩ := hp
  rw [eu] at hP
  refine W.eq (g2 := F0 m 5 ls [.ref (ad (3 + i) 0)]) rfl ?_
  have hi := (ix_of (by omega) hix).1
  obtain ⟨q0, ⟨q1, fn, q2, q2b⟩, q6, nx, fo, fr, q3, q4, q5, q7, q8, q9⟩ := hSs.2 i hi
  refine lv_astore (lv' := [(10, .ref (ad (3 + i) 0)), (0, .ref xa), (1, .int x), (2, .long x0), (4, .long y0), (6, .long x1), (8, .long y1)]) hx hb dX9_lock_5 hl (by decide) rfl (fun ls hl => ?_)
  refine lv_aload hx hb dX9_lock_7 (lv_at hl 0 rfl) ?_
  refine fh_cSX (As := [.ref (ad (3 + i) 0)]) (rest := []) ⟨hx, hb, hml, hown, ht⟩ (c_X_ckOpen l G A h _ hst (ad (3 + i) 0) (ad 1 (S i).1) (ad (3 + i) 1) (ad (3 + i) 3) (ad (3 + i) 6) (nI i) (S i).2.2.1 q0) (va_cwS 1 ht (gS kw_315 kw_316 kw_1 kw_317) rfl rfl rfl yd_X9_checkOpen.2 ⟨(Nat.le_of_ble_eq_true rfl), (Nat.le_of_ble_eq_true rfl)⟩) hP hE hS rfl hl.1 rfl (Nat.le_of_ble_eq_true rfl) dX9_lock_9 ⟨(Nat.le_of_ble_eq_true rfl), (Nat.le_of_ble_eq_true rfl)⟩ (fun E9 u9 ⟨z1, z2, z3⟩ => ⟨z2, Or.inr (⟨z1, by simp [oLock, hix, z3]⟩)⟩) htb hlocks (Nat.le_of_ble_eq_true rfl) (Nat.le_of_ble_eq_true rfl) (fun v u H locs hp hP hz hS => ?_)
  obtain ⟨rfl, eu, hop⟩ := hp
  rw [eu] at hP
  refine W.eq (g2 := F0 m 12 ls []) rfl ?_
  obtain ⟨fa, ar, l1, l2, l3, l4⟩ := id hL
  refine lv_lload_n hx hb dX9_lock_12 rfl (lv_at hl 3 rfl) ?_
  refine lv_lload hx hb dX9_lock_13 (lv_at hl 5 rfl) ?_
  refine W.lcmp hx hb dX9_lock_15 ?_
  refine lv_if_gt (tgt := 60) hx hb dX9_lock_16 (by decide) (fun d1 => ?_) (fun d1 => ?_)
  · have e1 := (lg_cmp_gt _ _).mp d1
    refine lv_iconst (v := (nI 0)) hx hb dX9_lock_60 (by decide) ?_
    have ep : oLock ns S LK x x0 y0 x1 y1 = (0, false, LK) := by simp [oLock, hix, hop, e1]
    exact vx_ret (fh_zret hx hb hr hlocks rfl (⟨by rw [ep], by rw [ep]; rfl, hAh, kp.rf, ad, by rw [ep]; exact hR⟩) hP hS (by first | exact (Nat.le_of_ble_eq_true rfl) | omega) (by first | exact (Nat.le_of_ble_eq_true rfl) | omega) dX9_lock_61)
  · have e1 := mt (lg_cmp_gt _ _).mpr d1
    refine lv_lload hx hb dX9_lock_19 (lv_at hl 4 rfl) ?_
    refine lv_lload hx hb dX9_lock_21 (lv_at hl 6 rfl) ?_
    refine W.lcmp hx hb dX9_lock_23 ?_
    refine lv_if_gt (tgt := 60) hx hb dX9_lock_24 (by decide) (fun d2 => ?_) (fun d2 => ?_)
    · have e2 := (lg_cmp_gt _ _).mp d2
      refine lv_iconst (v := (nI 0)) hx hb dX9_lock_60 (by decide) ?_
      have ep : oLock ns S LK x x0 y0 x1 y1 = (0, false, LK) := by simp [oLock, hix, hop, e2]
      exact vx_ret (fh_zret hx hb hr hlocks rfl (⟨by rw [ep], by rw [ep]; rfl, hAh, kp.rf, ad, by rw [ep]; exact hR⟩) hP hS (by first | exact (Nat.le_of_ble_eq_true rfl) | omega) (by first | exact (Nat.le_of_ble_eq_true rfl) | omega) dX9_lock_61)
    · have e2 := mt (lg_cmp_gt _ _).mpr d2
      have bd1 := fun (a9 : Nat) (e9 : fe) (q9 : h a9 = some e9) => hP.lt q9
      have sz1 := hS.1
      refine lv_aload_n hx hb dX9_lock_27 rfl (lv_at hl 1 rfl) ?_
      refine fh_get (C := RX9) (T := TX9) (N := 11) hx hb ht inX9 hown hE.1 hP hX rfl 6 (by decide) (ht _ kw_81) (fun _ h9 => h9) (v := .ref (ad 0 2)) rfl dX9_lock_28 ?_
      have hge1 := hS.1
      have hlt1 := fun (a9 : Nat) (e9 : fe) (q9 : h a9 = some e9) => hP.lt q9
      refine fh_new (ci := 0) (C := RX0) (T := TX0) (N := 5) (fs := [.int 0, .long 0, .long 0, .long 0, .long 0]) hx hb ht inX0 tyX0 tyX0_ok hown (ht _ kw_517) (ht _ kw_518) (ht _ kw_16) hE.1 hP hS hA0 rfl (fun j hj => by rcases (show j = 0 ∨ j = 1 ∨ j = 2 ∨ j = 3 ∨ j = 4 by omega) with rfl | rfl | rfl | rfl | rfl <;> rfl) (Nat.le_of_ble_eq_true rfl) (Nat.le_of_ble_eq_true rfl) dX9_lock_31 (fun aa H eaa hAaa hP hz_aa hS => ?_)
      obtain ⟨h_2, eh_2⟩ : ∃ z, z = fh_up h aa (.inr (0, [.int 0, .long 0, .long 0, .long 0, .long 0])) := ⟨_, rfl⟩
      have g_2_0 := (congrFun eh_2 xa).trans (fh_keepN hX (Nat.ne_of_lt (by rw [eaa]; exact hlt1 _ _ hX)))
      have g_2_1 := (congrFun eh_2 (ad (3 + i) 0)).trans (fh_keepN q0 (Nat.ne_of_lt (by rw [eaa]; exact hlt1 _ _ q0)))
      have g_2_2 := (congrFun eh_2 (ad 0 2)).trans (fh_keepN l1 (Nat.ne_of_lt (by rw [eaa]; exact hlt1 _ _ l1)))
      have hP : fh_P G vwCl h_2 H := by rw [eh_2]; exact hP
      have f_2 : h_2 aa = some (.inr (0, [.int 0, .long 0, .long 0, .long 0, .long 0])) := by rw [eh_2]; exact fh_up_self _ _ _
      have hsz_aa : sz ≤ aa := by rw [eaa, ← hsz]; exact hge1
      refine lv_dup hx hb dX9_lock_34 rfl ?_
      refine lv_aload hx hb dX9_lock_35 (lv_at hl 0 rfl) ?_
      refine fh_get (C := RX7) (T := TX7) (N := 6) hx hb ht inX7 hown hE.1 hP g_2_1 rfl 0 (by decide) (ht _ kw_149) (fun _ h9 => h9) (v := .int (nI i)) rfl dX9_lock_37 ?_
      refine lv_lload_n hx hb dX9_lock_40 rfl (lv_at hl 3 rfl) ?_
      refine lv_lload hx hb dX9_lock_41 (lv_at hl 4 rfl) ?_
      refine lv_lload hx hb dX9_lock_43 (lv_at hl 5 rfl) ?_
      refine lv_lload hx hb dX9_lock_45 (lv_at hl 6 rfl) ?_
      refine fh_cI (As := [.int (nI i), .long x0, .long y0, .long x1, .long y1]) (rest := [.ref aa, .ref (ad 0 2)]) (b := aa) ⟨hx, hb, hml, hown, ht⟩ (c_Area_init l G A h_2 _ aa (nI i) x0 y0 x1 y1 hAaa f_2) (cwI 5 ht (gB kw_521) rfl rfl rfl (ht _ kw_16) (ht _ kw_519) (ht _ kw_520) rfl yd_X0_init.2 ⟨(Nat.le_of_ble_eq_true rfl), (Nat.le_of_ble_eq_true rfl)⟩) hP hE hS rfl hl.1 rfl (Nat.le_of_ble_eq_true rfl) dX9_lock_47 ⟨(Nat.le_of_ble_eq_true rfl), (Nat.le_of_ble_eq_true rfl)⟩ (fun v u1 H locs hp hP hz hS => ?_)
      obtain ⟨rfl, eu1⟩ := hp
      refine W.eq (g2 := F0 m 50 ls [.ref aa, .ref (ad 0 2)]) rfl ?_
      have he1 : fh_ext aa h u1 := fun a9 h9 => by rw [eu1, eh_2, fh_up_ne _ _ (by omega), fh_up_ne _ _ (by omega)]
      have k1 : kp [] h u1 := kp.ext he1 (fun a9 e9 q9 => by rw [eaa]; exact bd1 a9 e9 q9)
      have hd1 : u1 aa = some (oAr (nI i, x0, y0, x1, y1)) := by rw [eu1]; exact fh_up_self _ _ _
      have hA1 : fh_A A u1 := hAh.ext he1 (fun q hq => hA0 q (by omega))
      have hR1 := hR.kp0 k1
      have l11 := k1 _ _ l1 rfl
      have l21 := k1 _ _ l2 rfl
      have l31 : ∀ i, i < 10 → pAr u1 (fa i) (ar i) := fun i hi => pAr_kp k1 rfl (l3 i hi)
      refine fh_cV (q := (RX4, TX4, 1)) (As := [.ref aa]) (rest := []) (b := (ad 0 2)) ⟨hx, hb, hml, hown, ht⟩ (c_Lk_add l G A u1 _ (ad 0 2) (ad 0 3) fa ar l11 l21 (hAh _ _ l2) l31 aa (nI i, x0, y0, x1, y1) hd1) (cwV 1 ht (gV kw_540 kw_541 kw_542 kw_3 kw_543) rfl rfl rfl yd_X4_add ⟨(Nat.le_of_ble_eq_true rfl), (Nat.le_of_ble_eq_true rfl)⟩) hP hE hS l11 rfl rfl hl.1 rfl (Nat.le_of_ble_eq_true rfl) dX9_lock_50 ⟨(Nat.le_of_ble_eq_true rfl), (Nat.le_of_ble_eq_true rfl)⟩ (fun v u2 H locs hp hP hz hS => ?_)
      rw [lkClash_eq l4] at hp
      rcases hp with ⟨rfl, eu2, hcl⟩ | ⟨rfl, hcl, kf, hkf, hnf, eu2⟩
      · rw [eu2] at hP
        refine W.eq (g2 := F0 m 53 ls [.int 0]) rfl ?_
        refine lv_if_eq (tgt := 60) hx hb dX9_lock_53 (by decide) (fun _ => ?_) (fun c9 => absurd (rfl) c9)
        refine lv_iconst (v := (nI 0)) hx hb dX9_lock_60 (by decide) ?_
        have e3 : LK.length = 10 ∨ lkMeets LK (nI i, x0, y0, x1, y1) = true := by
          rcases hcl with q | q
          · exact Or.inr q
          · exact Or.inl (by rw [← l4.length_eq]; exact fm_len q)
        have ep : oLock ns S LK x x0 y0 x1 y1 = (0, false, LK) := by simp only [oLock, hix, hop, if_true]; rw [if_pos (Or.inr (Or.inr e3))]
        exact vx_ret (fh_zret hx hb hr hlocks rfl (⟨by rw [ep], by rw [ep]; rfl, hA1, k1.C rfl, ad, by rw [ep]; exact hR1⟩) hP hS (by first | exact (Nat.le_of_ble_eq_true rfl) | omega) (by first | exact (Nat.le_of_ble_eq_true rfl) | omega) dX9_lock_61)
      · refine W.eq (g2 := F0 m 53 ls [.int 1]) rfl ?_
        refine lv_if_eq (tgt := 60) hx hb dX9_lock_53 (by decide) (fun c9 => absurd c9 (by decide)) (fun _ => ?_)
        refine lv_iconst (v := (nI 1)) hx hb dX9_lock_56 (by decide) ?_
        refine lv_goto (tgt := 61) hx hb dX9_lock_57 (by decide) ?_
        obtain ⟨hL2, k2⟩ := pcL_add l11 l21 l31 l4 hd1 hkf hnf eu2
        have e3 : ¬ LK.length = 10 := by rw [← l4.length_eq]; exact Nat.ne_of_lt (fm_lt hkf hnf)
        have ep : oLock ns S LK x x0 y0 x1 y1 = (0, true, LK ++ [(nI i, x0, y0, x1, y1)]) := by simp [oLock, hix, hop, e1, e2, e3, hcl]
        exact vx_ret (fh_zret hx hb hr hlocks rfl (⟨by rw [ep], by rw [ep]; rfl, by rw [eu2]; exact hA1.up (hAh _ _ l2), (k1.C rfl).trans (k2.C rfl), ad, by rw [ep]; exact hR1.locks k2 hL2⟩) hP hS (by first | exact (Nat.le_of_ble_eq_true rfl) | omega) (by first | exact (Nat.le_of_ble_eq_true rfl) | omega) dX9_lock_61)

set_option maxRecDepth 100000 in
set_option maxHeartbeats 4000000 in
theorem p_apart (l : Launch) (G : fG) (A : Nat → Prop) (h : FH) (sz : Nat) (hst : l.stackTraces = false) (hA : ∀ q, sz ≤ q → A q) (hAh : fh_A A h) {Kq : Nat} (xa : Nat) (ad : Ad) (no nv ns : Nat) (V : Nat → St) (S : Nat → Ses) (LK : List Ar) (RL : List (Nat × Nat × Int64)) (J : Nat) (C : CL) (M : Nat → Int32) (hR : RepC Kq h xa ad no nv ns V S LK RL J C M) (hB9 : Bd no nv ns S RL J C) (hK8 : Kq < 900000) (x y : Int32) (d : Int64) : vx_Met l yX9_apart wsX9_apart { frames := 7, cells := 4, slots := 24, locals := 120 } (va_Pc [.ref xa, .int x, .int y, .long d] (fh_Pre G A h sz)) (fh_Q G (fun v u => (oApart no RL x y d).1 = 0 ∧ v = some (.int (bI (oApart no RL x y d).2.1)) ∧ fh_A A u ∧ kp kC h u ∧ ∃ ad2 : Ad, RepC Kq u xa ad2 no nv ns V S LK ((oApart no RL x y d).2.2) J C M) A) (fh_X G (fun E u => u = h ∧ ((E = xE1 ∧ (oApart no RL x y d).1 = 1) ∨ (E = xE0 ∧ (oApart no RL x y d).1 = 2))) A) 4 24 A := by
  refine fh_MetX [.ref xa, .int x, .int y, .long d] (by decide) rfl (Nat.le_of_ble_eq_true rfl) ?_
  intro p e s m below meth c hx hb hr hlocks hml hown hnm hts hsz hP hE hS htb ls hl
  have ht : ∀ w ∈ wB, w.before _ s = true := fun w h9 => hts w (List.mem_cons_of_mem _ h9)
  have hl : lv_has ls 5 [(0, .ref xa), (1, .int x), (2, .int y), (3, .long d)] := hl
  have hA0 : ∀ q, s.heap.size ≤ q → A q := fun q hq => hA q (by rw [← hsz]; exact hq)
  obtain ⟨hX, hV, hSs, hL, hRl, hC, hM, hI⟩ := id hR
  obtain ⟨hno, hnv, hnv0, hns, hbs, hCl, hCb, hJ, hRn, hRb⟩ := id hB9
  obtain ⟨⟨fs, s1, s2⟩, s3⟩ := id hSs
  obtain ⟨⟨fv, v1, v2⟩, v3⟩ := id hV
  refine lv_aload_n hx hb dX9_apart_0 rfl (lv_at hl 0 rfl) ?_
  refine lv_iload_n hx hb dX9_apart_1 rfl (lv_at hl 1 rfl) ?_
  refine fh_cVX (q := (RX9, TX9, 11)) (As := [.int x]) (rest := []) (b := xa) ⟨hx, hb, hml, hown, ht⟩ (c_X_ckObj l G A h _ hst xa ad no nv ns RL.length hX hno x) (cwV 1 ht (gV kw_306 kw_308 kp_5 kw_1 kw_309) rfl rfl rfl yd_X9_checkObject ⟨(Nat.le_of_ble_eq_true rfl), (Nat.le_of_ble_eq_true rfl)⟩) hP hE hS hX rfl rfl hl.1 rfl (Nat.le_of_ble_eq_true rfl) dX9_apart_2 ⟨(Nat.le_of_ble_eq_true rfl), (Nat.le_of_ble_eq_true rfl)⟩ (fun E9 u9 ⟨z1, z2, z3⟩ => ⟨z2, Or.inl ⟨z1, by simp only [oApart, z3]⟩⟩) htb hlocks (Nat.le_of_ble_eq_true rfl) (Nat.le_of_ble_eq_true rfl) (fun v u H locs hp hP hz hS => ?_)
  obtain ⟨rfl, eu, a9, ha9x⟩ := hp
  rw [eu] at hP
  refine W.eq (g2 := F0 m 5 ls []) rfl ?_
  obtain ⟨ha9, rfl⟩ := ix_of (by omega) ha9x
  refine lv_aload_n hx hb dX9_apart_5 rfl (lv_at hl 0 rfl) ?_
  refine lv_iload_n hx hb dX9_apart_6 rfl (lv_at hl 2 rfl) ?_
  refine fh_cVX (q := (RX9, TX9, 11)) (As := [.int y]) (rest := []) (b := xa) ⟨hx, hb, hml, hown, ht⟩ (c_X_ckObj l G A h _ hst xa ad no nv ns RL.length hX hno y) (cwV 1 ht (gV kw_306 kw_308 kp_5 kw_1 kw_309) rfl rfl rfl yd_X9_checkObject ⟨(Nat.le_of_ble_eq_true rfl), (Nat.le_of_ble_eq_true rfl)⟩) hP hE hS hX rfl rfl hl.1 rfl (Nat.le_of_ble_eq_true rfl) dX9_apart_7 ⟨(Nat.le_of_ble_eq_true rfl), (Nat.le_of_ble_eq_true rfl)⟩ (fun E9 u9 ⟨z1, z2, z3⟩ => ⟨z2, Or.inl ⟨z1, by simp only [oApart, ha9x, z3]⟩⟩) htb hlocks (Nat.le_of_ble_eq_true rfl) (Nat.le_of_ble_eq_true rfl) (fun v u H locs hp hP hz hS => ?_)
  obtain ⟨rfl, eu, b9, hb9x⟩ := hp
  rw [eu] at hP
  refine W.eq (g2 := F0 m 10 ls []) rfl ?_
  obtain ⟨hb9, rfl⟩ := ix_of (by omega) hb9x
  refine lv_lload_n hx hb dX9_apart_10 rfl (lv_at hl 3 rfl) ?_
  refine lv_lconst (v := 0) hx hb dX9_apart_11 (by decide) ?_
  refine W.lcmp hx hb dX9_apart_12 ?_
  refine lv_if_lt (tgt := 24) hx hb dX9_apart_13 (by decide) (fun d1 => ?_) (fun d1 => ?_)
  · have e1 := (lg_cmp_lt _ _).mp d1
    exact fh_throwS hx hb hst ht hown (by decide +kernel) kw_186 kw_9 xg0 xb0 xo0 (text := "a distance is 0 .. 1,000,000,000") (by decide) hE hS hP (hl.1.trans hml.symm) dX9_apart_24 dX9_apart_27 dX9_apart_28 dX9_apart_30 dX9_apart_33 htb (Nat.le_of_ble_eq_true rfl) (Nat.le_of_ble_eq_true rfl) (Nat.le_of_ble_eq_true rfl) (Nat.le_of_ble_eq_true rfl) hlocks (⟨rfl, Or.inr (⟨rfl, by simp only [oApart, ha9x, hb9x, if_pos (show d < 0 ∨ 1000000000 < d from Or.inl e1)]⟩)⟩) (Nat.le_of_ble_eq_true rfl) (Nat.le_of_ble_eq_true rfl)
  · have e1 := mt (lg_cmp_lt _ _).mpr d1
    refine lv_lload_n hx hb dX9_apart_16 rfl (lv_at hl 3 rfl) ?_
    refine lv_ldc2 (v := 1000000000) hx hb hown (ht _ kw_555) dX9_apart_17 ?_
    refine W.lcmp hx hb dX9_apart_20 ?_
    refine lv_if_le (tgt := 34) hx hb dX9_apart_21 (by decide) (fun d2 => ?_) (fun d2 => ?_)
    · have e2 : ¬ (1000000000 : Int64) < d := by have z := (lg_cmp_le _ _).mp d2; rw [Int64.le_iff_toInt_le] at z; rw [Int64.lt_iff_toInt_lt]; omega
      have e12 : ¬ (d < 0 ∨ 1000000000 < d) := fun q => q.elim e1 e2
      refine lv_iload_n hx hb dX9_apart_34 rfl (lv_at hl 1 rfl) ?_
      refine lv_iload_n hx hb dX9_apart_35 rfl (lv_at hl 2 rfl) ?_
      refine lv_icmp_eq (tgt := 48) hx hb dX9_apart_36 (by decide) (fun d3 => ?_) (fun d3 => ?_)
      · have e3 : a9 = b9 := (nI_eq (by omega) (by omega)).mp d3
        refine lv_iconst (v := (nI 0)) hx hb dX9_apart_48 (by decide) ?_
        have ep : oApart no RL (nI a9) (nI b9) d = (0, false, RL) := by simp only [oApart, ha9x, hb9x, if_neg e12, if_pos (show a9 = b9 ∨ RL.length = 20 from Or.inl e3)]
        exact vx_ret (fh_zret hx hb hr hlocks rfl (⟨by rw [ep], by rw [ep]; rfl, hAh, kp.rf, ad, by rw [ep]; exact hR⟩) hP hS (by first | exact (Nat.le_of_ble_eq_true rfl) | omega) (by first | exact (Nat.le_of_ble_eq_true rfl) | omega) dX9_apart_49)
      · have e3 : ¬ a9 = b9 := fun q => d3 (by rw [q])
        refine lv_aload_n hx hb dX9_apart_39 rfl (lv_at hl 0 rfl) ?_
        refine fh_get (C := RX9) (T := TX9) (N := 11) hx hb ht inX9 hown hE.1 hP hX rfl 8 (by decide) (ht _ kw_83) (fun _ h9 => h9) (v := .int (nI RL.length)) rfl dX9_apart_40 ?_
        refine lv_bipush (v := (nI 20)) hx hb dX9_apart_43 (by decide) ?_
        refine lv_icmp_lt (tgt := 50) hx hb dX9_apart_45 (by decide) (fun d4 => ?_) (fun d4 => ?_)
        · have e4 : RL.length < 20 := (nI_ltI (by omega) (by decide)).mp d4
          obtain ⟨fr, r1, r2⟩ := id hRl
          have bd1 := fun (a9 : Nat) (e9 : fe) (q9 : h a9 = some e9) => hP.lt q9
          have sz1 := hS.1
          refine lv_aload_n hx hb dX9_apart_50 rfl (lv_at hl 0 rfl) ?_
          refine fh_get (C := RX9) (T := TX9) (N := 11) hx hb ht inX9 hown hE.1 hP hX rfl 7 (by decide) (ht _ kw_82) (fun _ h9 => h9) (v := .ref (ad 0 4)) rfl dX9_apart_51 ?_
          refine lv_aload_n hx hb dX9_apart_54 rfl (lv_at hl 0 rfl) ?_
          refine fh_get (C := RX9) (T := TX9) (N := 11) hx hb ht inX9 hown hE.1 hP hX rfl 8 (by decide) (ht _ kw_83) (fun _ h9 => h9) (v := .int (nI RL.length)) rfl dX9_apart_55 ?_
          have hge1 := hS.1
          have hlt1 := fun (a9 : Nat) (e9 : fe) (q9 : h a9 = some e9) => hP.lt q9
          refine fh_new (ci := 6) (C := RX6) (T := TX6) (N := 3) (fs := [.int 0, .int 0, .long 0]) hx hb ht inX6 tyX6 tyX6_ok hown (ht _ kw_55) (ht _ kw_557) (ht _ kw_17) hE.1 hP hS hA0 rfl (fun j hj => by rcases (show j = 0 ∨ j = 1 ∨ j = 2 by omega) with rfl | rfl | rfl <;> rfl) (Nat.le_of_ble_eq_true rfl) (Nat.le_of_ble_eq_true rfl) dX9_apart_58 (fun rr H err hArr hP hz_rr hS => ?_)
          obtain ⟨h_2, eh_2⟩ : ∃ z, z = fh_up h rr (.inr (6, [.int 0, .int 0, .long 0])) := ⟨_, rfl⟩
          have g_2_0 := (congrFun eh_2 xa).trans (fh_keepN hX (Nat.ne_of_lt (by rw [err]; exact hlt1 _ _ hX)))
          have g_2_1 := (congrFun eh_2 (ad 0 4)).trans (fh_keepN r1 (Nat.ne_of_lt (by rw [err]; exact hlt1 _ _ r1)))
          have hP : fh_P G vwCl h_2 H := by rw [eh_2]; exact hP
          have f_2 : h_2 rr = some (.inr (6, [.int 0, .int 0, .long 0])) := by rw [eh_2]; exact fh_up_self _ _ _
          have hsz_rr : sz ≤ rr := by rw [err, ← hsz]; exact hge1
          refine lv_dup hx hb dX9_apart_61 rfl ?_
          refine lv_iload_n hx hb dX9_apart_62 rfl (lv_at hl 1 rfl) ?_
          refine lv_iload_n hx hb dX9_apart_63 rfl (lv_at hl 2 rfl) ?_
          refine lv_lload_n hx hb dX9_apart_64 rfl (lv_at hl 3 rfl) ?_
          refine fh_cI (As := [.int (nI a9), .int (nI b9), .long d]) (rest := [.ref rr, .int (nI RL.length), .ref (ad 0 4)]) (b := rr) ⟨hx, hb, hml, hown, ht⟩ (c_Rule_init l G A h_2 _ rr (nI a9) (nI b9) d hArr f_2) (cwI 3 ht (gB kw_560) rfl rfl rfl (ht _ kw_17) (ht _ kw_558) (ht _ kw_559) rfl yd_X6_init.2 ⟨(Nat.le_of_ble_eq_true rfl), (Nat.le_of_ble_eq_true rfl)⟩) hP hE hS rfl hl.1 rfl (Nat.le_of_ble_eq_true rfl) dX9_apart_65 ⟨(Nat.le_of_ble_eq_true rfl), (Nat.le_of_ble_eq_true rfl)⟩ (fun v u1 H locs hp hP hz hS => ?_)
          obtain ⟨rfl, eu1⟩ := hp
          refine W.eq (g2 := F0 m 68 ls [.ref rr, .int (nI RL.length), .ref (ad 0 4)]) rfl ?_
          have he1 : fh_ext rr h u1 := fun a9 h9 => by rw [eu1, eh_2, fh_up_ne _ _ (by omega), fh_up_ne _ _ (by omega)]
          have k1 : kp [] h u1 := kp.ext he1 (fun a9 e9 q9 => by rw [err]; exact bd1 a9 e9 q9)
          have hd1 : u1 rr = some (oRule (nI a9) (nI b9) d) := by rw [eu1]; exact fh_up_self _ _ _
          have hA1 : fh_A A u1 := hAh.ext he1 (fun q hq => hA0 q (by omega))
          have r11 := k1 _ _ r1 rfl
          have hX1 := k1 _ _ hX rfl
          refine fh_aast (k := RL.length) hx hb hE.1 hP hS r11 (hAh _ _ r1) rfl hd1 rfl (e4) (by decide) dX9_apart_68 (fun H locs hP hz hS => ?_)
          obtain ⟨h_3, eh_3⟩ : ∃ z, z = fh_up u1 (ad 0 4) (.inl (9, 20, .inr (.inr (.inr (.inr (va_up fr RL.length (some rr))))))) := ⟨_, rfl⟩
          have hP : fh_P G vwCl h_3 H := by rw [eh_3]; exact hP
          have f_3 : h_3 (ad 0 4) = some (.inl (9, 20, .inr (.inr (.inr (.inr (va_up fr RL.length (some rr))))))) := by rw [eh_3]; exact fh_up_self _ _ _
          have g_3_0 := (congrFun eh_3 xa).trans (fh_keep r11 hX1 rfl)
          have g_3_2 := (congrFun eh_3 rr).trans (fh_keep r11 hd1 rfl)
          refine lv_aload_n hx hb dX9_apart_69 rfl (lv_at hl 0 rfl) ?_
          refine lv_dup hx hb dX9_apart_70 rfl ?_
          refine fh_get (C := RX9) (T := TX9) (N := 11) hx hb ht inX9 hown hE.1 hP g_3_0 rfl 8 (by decide) (ht _ kw_83) (fun _ h9 => h9) (v := .int (nI RL.length)) rfl dX9_apart_71 ?_
          refine lv_iconst (v := (nI 1)) hx hb dX9_apart_74 (by decide) ?_
          refine lv_iadd hx hb dX9_apart_75 ?_
          refine lv_topi (fun z9 ez9 => ?_)
          rw [show z9 = nI (RL.length + 1) from ez9.trans (nI_add _ _)]
          refine fh_put (C := RX9) (T := TX9) (N := 11) (t := .int) hx hb ht inX9 tyX9 tyX9_ok nmX9 hown hE.1 hP hS g_3_0 (hAh _ _ hX) rfl 8 (by decide) (ht _ kw_83) (fun _ h9 => h9) rfl (by decide +kernel) rfl rfl (Nat.le_of_ble_eq_true rfl) dX9_apart_76 (fun H locs hP hz hS => ?_)
          obtain ⟨h_4, eh_4⟩ : ∃ z, z = fh_up h_3 xa (.inr (9, [.ref (ad 0 0), .int (nI nv), .ref (ad 1 (nv - 1)), .ref (ad 0 1), .int (nI ns), .int (nI no), .ref (ad 0 2), .ref (ad 0 4), .int (nI (RL.length + 1)), .ref (ad 0 5), .ref (ad 0 7)])) := ⟨_, rfl⟩
          have hP : fh_P G vwCl h_4 H := by rw [eh_4]; exact hP
          have f_4 : h_4 xa = some (.inr (9, [.ref (ad 0 0), .int (nI nv), .ref (ad 1 (nv - 1)), .ref (ad 0 1), .int (nI ns), .int (nI no), .ref (ad 0 2), .ref (ad 0 4), .int (nI (RL.length + 1)), .ref (ad 0 5), .ref (ad 0 7)])) := by rw [eh_4]; exact fh_up_self _ _ _
          have g_4_1 := (congrFun eh_4 rr).trans (fh_keep g_3_0 g_3_2 rfl)
          have g_4_2 := (congrFun eh_4 (ad 0 4)).trans (fh_keep g_3_0 f_3 rfl)
          refine lv_iconst (v := (nI 1)) hx hb dX9_apart_79 (by decide) ?_
          have k2 : kp [18, 19] h h_4 := by rw [eh_4, eh_3]; exact ((k1.mono (fun _ _ => rfl)).up r1 rfl).up hX rfl
          have ep : oApart no RL (nI a9) (nI b9) d = (0, true, RL ++ [(a9, b9, d)]) := by simp only [oApart, ha9x, hb9x, if_neg e12, if_neg (show ¬ (a9 = b9 ∨ RL.length = 20) from fun q => q.elim e3 (Nat.ne_of_lt e4))]
          exact vx_ret (fh_zret hx hb hr hlocks rfl (⟨by rw [ep], by rw [ep]; rfl, by rw [eh_4, eh_3]; exact (hA1.up (hAh _ _ r1)).up (hAh _ _ hX), k2.C rfl, ad, by rw [ep]; exact hR.rules k2 (by rw [List.length_append]; exact f_4) (pcR_add (fun j hj => r2 j hj) k2 g_4_1 e4 g_4_2)⟩) hP hS (by first | exact (Nat.le_of_ble_eq_true rfl) | omega) (by first | exact (Nat.le_of_ble_eq_true rfl) | omega) dX9_apart_80)
        · have e4 : RL.length = 20 := by
            rcases Nat.lt_or_ge RL.length 20 with z | z
            · exact absurd (nI_lt z (by decide)) d4
            · omega
          refine lv_iconst (v := (nI 0)) hx hb dX9_apart_48 (by decide) ?_
          have ep : oApart no RL (nI a9) (nI b9) d = (0, false, RL) := by simp only [oApart, ha9x, hb9x, if_neg e12, if_pos (show a9 = b9 ∨ RL.length = 20 from Or.inr e4)]
          exact vx_ret (fh_zret hx hb hr hlocks rfl (⟨by rw [ep], by rw [ep]; rfl, hAh, kp.rf, ad, by rw [ep]; exact hR⟩) hP hS (by first | exact (Nat.le_of_ble_eq_true rfl) | omega) (by first | exact (Nat.le_of_ble_eq_true rfl) | omega) dX9_apart_49)
    · have e2 : (1000000000 : Int64) < d := by have z := mt (lg_cmp_le _ _).mpr d2; rw [Int64.le_iff_toInt_le] at z; rw [Int64.lt_iff_toInt_lt]; omega
      exact fh_throwS hx hb hst ht hown (by decide +kernel) kw_186 kw_9 xg0 xb0 xo0 (text := "a distance is 0 .. 1,000,000,000") (by decide) hE hS hP (hl.1.trans hml.symm) dX9_apart_24 dX9_apart_27 dX9_apart_28 dX9_apart_30 dX9_apart_33 htb (Nat.le_of_ble_eq_true rfl) (Nat.le_of_ble_eq_true rfl) (Nat.le_of_ble_eq_true rfl) (Nat.le_of_ble_eq_true rfl) hlocks (⟨rfl, Or.inr (⟨rfl, by simp only [oApart, ha9x, hb9x, if_pos (show d < 0 ∨ 1000000000 < d from Or.inr e2)]⟩)⟩) (Nat.le_of_ble_eq_true rfl) (Nat.le_of_ble_eq_true rfl)
