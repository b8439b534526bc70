set_option maxRecDepth 100000 in
set_option maxHeartbeats 4000000 in
theorem c_X_ckObj (l : Launch) (G : fG) (A : Nat → Prop) (h : FH) (sz : Nat) (hst : l.stackTraces = false) (xa : Nat) (ad : Ad) (no nv ns nr : Nat) (hX : h xa = some (oX ad no nv ns nr)) (hno : no ≤ 60) (x : Int32) : vx_Met l yX9_checkObject wsX9_checkObject { frames := 6, cells := 1, slots := 6, locals := 90 } (va_Pc [.ref xa, .int x] (fh_Pre G A h sz)) (fh_Q G (fun v u => v = none ∧ u = h ∧ ∃ j, ix x no = some j) A) (fh_X G (fun E u => E = xE1 ∧ u = h ∧ ix x no = none) A) 1 6 A := by
  refine fh_MetX [.ref xa, .int x] (by decide) rfl (Nat.le_of_ble_eq_true rfl) ?_
  intro p e s m below meth c hx hb hr hlocks hml hown hnm hts hsz hP hE hS htb ls hl
  have ht : ∀ w ∈ wB, w.before _ s = true := fun w h9 => hts w (List.mem_cons_of_mem _ h9)
  have hl : lv_has ls 2 [(0, .ref xa), (1, .int x)] := hl
  refine lv_iload_n hx hb dX9_checkObject_0 rfl (lv_at hl 1 rfl) ?_
  refine lv_if_lt (tgt := 12) hx hb dX9_checkObject_1 (by decide) (fun c1 => ?_) (fun c1 => ?_)
  · exact fh_throwS hx hb hst ht hown (by decide +kernel) kw_290 kw_13 xg1 xb1 xo1 (text := "no such object") (by decide) hE hS hP (hl.1.trans hml.symm) dX9_checkObject_12 dX9_checkObject_15 dX9_checkObject_16 dX9_checkObject_18 dX9_checkObject_21 htb (Nat.le_of_ble_eq_true rfl) (Nat.le_of_ble_eq_true rfl) (Nat.le_of_ble_eq_true rfl) (Nat.le_of_ble_eq_true rfl) hlocks (⟨rfl, rfl, ix_none (Or.inl c1)⟩) (Nat.le_of_ble_eq_true rfl) (Nat.le_of_ble_eq_true rfl)
  · refine lv_iload_n hx hb dX9_checkObject_4 rfl (lv_at hl 1 rfl) ?_
    refine lv_aload_n hx hb dX9_checkObject_5 rfl (lv_at hl 0 rfl) ?_
    refine fh_get (C := RX9) (T := TX9) (N := 11) hx hb ht inX9 hown hE.1 hP hX rfl 5 (by decide) (ht _ kw_80) (fun _ h9 => h9) (v := .int (nI no)) rfl dX9_checkObject_6 ?_
    refine lv_icmp_lt (tgt := 22) hx hb dX9_checkObject_9 (by decide) (fun c2 => ?_) (fun c2 => ?_)
    · obtain ⟨j9, hj9, ej9⟩ : ∃ j9, j9 < no ∧ x = nI j9 := by
        rcases pk_ix x (n := no) (by omega) with q | q | q
        · exact absurd q c1
        · rw [Int32.le_iff_toInt_le] at q; rw [Int32.lt_iff_toInt_lt] at c2; omega
        · exact q
      exact vx_ret (fh_vret hx hb hr hlocks (⟨rfl, rfl, j9, by rw [ej9]; exact ix_some hj9 (by omega)⟩) hP hS (Nat.le_of_ble_eq_true rfl) (Nat.le_of_ble_eq_true rfl) dX9_checkObject_22)
    · have c3 : nI no ≤ x := by rw [Int32.le_iff_toInt_le]; rw [Int32.lt_iff_toInt_lt] at c2; omega
      exact fh_throwS hx hb hst ht hown (by decide +kernel) kw_290 kw_13 xg1 xb1 xo1 (text := "no such object") (by decide) hE hS hP (hl.1.trans hml.symm) dX9_checkObject_12 dX9_checkObject_15 dX9_checkObject_16 dX9_checkObject_18 dX9_checkObject_21 htb (Nat.le_of_ble_eq_true rfl) (Nat.le_of_ble_eq_true rfl) (Nat.le_of_ble_eq_true rfl) (Nat.le_of_ble_eq_true rfl) hlocks (⟨rfl, rfl, ix_none (Or.inr c3)⟩) (Nat.le_of_ble_eq_true rfl) (Nat.le_of_ble_eq_true rfl)

set_option maxRecDepth 100000 in
set_option maxHeartbeats 4000000 in
theorem c_X_ckFld (l : Launch) (G : fG) (A : Nat → Prop) (h : FH) (sz : Nat) (hst : l.stackTraces = false)  (x : Int32) : vx_Met l yX9_checkField wsX9_checkField { frames := 6, cells := 1, slots := 6, locals := 90 } (va_Pc [.int x] (fh_Pre G A h sz)) (fh_Q G (fun v u => v = none ∧ u = h ∧ ∃ j, ix x 6 = some j) A) (fh_X G (fun E u => E = xE1 ∧ u = h ∧ ix x 6 = none) A) 1 6 A := by
  refine fh_MetX [.int x] (by decide) rfl (Nat.le_of_ble_eq_true rfl) ?_
  intro p e s m below meth c hx hb hr hlocks hml hown hnm hts hsz hP hE hS htb ls hl
  have ht : ∀ w ∈ wB, w.before _ s = true := fun w h9 => hts w (List.mem_cons_of_mem _ h9)
  have hl : lv_has ls 1 [(0, .int x)] := hl
  refine lv_iload_n hx hb dX9_checkField_0 rfl (lv_at hl 0 rfl) ?_
  refine lv_if_lt (tgt := 10) hx hb dX9_checkField_1 (by decide) (fun c1 => ?_) (fun c1 => ?_)
  · exact fh_throwS hx hb hst ht hown (by decide +kernel) kw_290 kw_13 xg1 xb1 xo1 (text := "a field is 0 .. 5") (by decide) hE hS hP (hl.1.trans hml.symm) dX9_checkField_10 dX9_checkField_13 dX9_checkField_14 dX9_checkField_16 dX9_checkField_19 htb (Nat.le_of_ble_eq_true rfl) (Nat.le_of_ble_eq_true rfl) (Nat.le_of_ble_eq_true rfl) (Nat.le_of_ble_eq_true rfl) hlocks (⟨rfl, rfl, ix_none (Or.inl c1)⟩) (Nat.le_of_ble_eq_true rfl) (Nat.le_of_ble_eq_true rfl)
  · refine lv_iload_n hx hb dX9_checkField_4 rfl (lv_at hl 0 rfl) ?_
    refine lv_bipush (v := (nI 6)) hx hb dX9_checkField_5 (by decide) ?_
    refine lv_icmp_lt (tgt := 20) hx hb dX9_checkField_7 (by decide) (fun c2 => ?_) (fun c2 => ?_)
    · obtain ⟨j9, hj9, ej9⟩ : ∃ j9, j9 < 6 ∧ x = nI j9 := by
        rcases pk_ix x (n := 6) (by decide) with q | q | q
        · exact absurd q c1
        · rw [Int32.le_iff_toInt_le] at q; rw [Int32.lt_iff_toInt_lt] at c2; omega
        · exact q
      exact vx_ret (fh_vret hx hb hr hlocks (⟨rfl, rfl, j9, by rw [ej9]; exact ix_some hj9 (by decide)⟩) hP hS (Nat.le_of_ble_eq_true rfl) (Nat.le_of_ble_eq_true rfl) dX9_checkField_20)
    · have c3 : nI 6 ≤ x := by rw [Int32.le_iff_toInt_le]; rw [Int32.lt_iff_toInt_lt] at c2; omega
      exact fh_throwS hx hb hst ht hown (by decide +kernel) kw_290 kw_13 xg1 xb1 xo1 (text := "a field is 0 .. 5") (by decide) hE hS hP (hl.1.trans hml.symm) dX9_checkField_10 dX9_checkField_13 dX9_checkField_14 dX9_checkField_16 dX9_checkField_19 htb (Nat.le_of_ble_eq_true rfl) (Nat.le_of_ble_eq_true rfl) (Nat.le_of_ble_eq_true rfl) (Nat.le_of_ble_eq_true rfl) hlocks (⟨rfl, rfl, ix_none (Or.inr c3)⟩) (Nat.le_of_ble_eq_true rfl) (Nat.le_of_ble_eq_true rfl)

set_option maxRecDepth 100000 in
set_option maxHeartbeats 4000000 in
theorem c_X_ckKind (l : Launch) (G : fG) (A : Nat → Prop) (h : FH) (sz : Nat) (hst : l.stackTraces = false)  (x : Int32) : vx_Met l yX9_checkKind wsX9_checkKind { frames := 6, cells := 1, slots := 6, locals := 90 } (va_Pc [.int x] (fh_Pre G A h sz)) (fh_Q G (fun v u => v = none ∧ u = h ∧ ∃ j, ix x 10 = some j) A) (fh_X G (fun E u => E = xE0 ∧ u = h ∧ ix x 10 = none) A) 1 6 A := by
  refine fh_MetX [.int x] (by decide) rfl (Nat.le_of_ble_eq_true rfl) ?_
  intro p e s m below meth c hx hb hr hlocks hml hown hnm hts hsz hP hE hS htb ls hl
  have ht : ∀ w ∈ wB, w.before _ s = true := fun w h9 => hts w (List.mem_cons_of_mem _ h9)
  have hl : lv_has ls 1 [(0, .int x)] := hl
  refine lv_iload_n hx hb dX9_checkKind_0 rfl (lv_at hl 0 rfl) ?_
  refine lv_if_lt (tgt := 10) hx hb dX9_checkKind_1 (by decide) (fun c1 => ?_) (fun c1 => ?_)
  · exact fh_throwSW hx hb hst ht hown (by decide +kernel) kw_186 kw_9 xg0 xb0 xo0 (text := "a kind is 0 .. 9") (by decide) hE hS hP (hl.1.trans hml.symm) dX9_checkKind_10 dX9_checkKind_13 dX9_checkKind_14 dX9_checkKind_17 dX9_checkKind_20 htb (Nat.le_of_ble_eq_true rfl) (Nat.le_of_ble_eq_true rfl) (Nat.le_of_ble_eq_true rfl) (Nat.le_of_ble_eq_true rfl) hlocks (⟨rfl, rfl, ix_none (Or.inl c1)⟩) (Nat.le_of_ble_eq_true rfl) (Nat.le_of_ble_eq_true rfl)
  · refine lv_iload_n hx hb dX9_checkKind_4 rfl (lv_at hl 0 rfl) ?_
    refine lv_bipush (v := (nI 10)) hx hb dX9_checkKind_5 (by decide) ?_
    refine lv_icmp_lt (tgt := 21) hx hb dX9_checkKind_7 (by decide) (fun c2 => ?_) (fun c2 => ?_)
    · obtain ⟨j9, hj9, ej9⟩ : ∃ j9, j9 < 10 ∧ x = nI j9 := by
        rcases pk_ix x (n := 10) (by decide) with q | q | q
        · exact absurd q c1
        · rw [Int32.le_iff_toInt_le] at q; rw [Int32.lt_iff_toInt_lt] at c2; omega
        · exact q
      exact vx_ret (fh_vret hx hb hr hlocks (⟨rfl, rfl, j9, by rw [ej9]; exact ix_some hj9 (by decide)⟩) hP hS (Nat.le_of_ble_eq_true rfl) (Nat.le_of_ble_eq_true rfl) dX9_checkKind_21)
    · have c3 : nI 10 ≤ x := by rw [Int32.le_iff_toInt_le]; rw [Int32.lt_iff_toInt_lt] at c2; omega
      exact fh_throwSW hx hb hst ht hown (by decide +kernel) kw_186 kw_9 xg0 xb0 xo0 (text := "a kind is 0 .. 9") (by decide) hE hS hP (hl.1.trans hml.symm) dX9_checkKind_10 dX9_checkKind_13 dX9_checkKind_14 dX9_checkKind_17 dX9_checkKind_20 htb (Nat.le_of_ble_eq_true rfl) (Nat.le_of_ble_eq_true rfl) (Nat.le_of_ble_eq_true rfl) (Nat.le_of_ble_eq_true rfl) hlocks (⟨rfl, rfl, ix_none (Or.inr c3)⟩) (Nat.le_of_ble_eq_true rfl) (Nat.le_of_ble_eq_true rfl)

set_option maxRecDepth 100000 in
set_option maxHeartbeats 4000000 in
theorem c_X_ckOpen (l : Launch) (G : fG) (A : Nat → Prop) (h : FH) (sz : Nat) (hst : l.stackTraces = false) (a ba na ch sd : Nat) (num : Int32) (op : Bool) (ha : h a = some (oSes num ba na (bI op) ch sd)) : vx_Met l yX9_checkOpen wsX9_checkOpen { frames := 6, cells := 1, slots := 6, locals := 90 } (va_Pc [.ref a] (fh_Pre G A h sz)) (fh_Q G (fun v u => v = none ∧ u = h ∧ op = true) A) (fh_X G (fun E u => E = xE2 ∧ u = h ∧ op = false) A) 1 6 A := by
  refine fh_MetX [.ref a] (by decide) rfl (Nat.le_of_ble_eq_true rfl) ?_
  intro p e s m below meth c hx hb hr hlocks hml hown hnm hts hsz hP hE hS htb ls hl
  have ht : ∀ w ∈ wB, w.before _ s = true := fun w h9 => hts w (List.mem_cons_of_mem _ h9)
  have hl : lv_has ls 1 [(0, .ref a)] := hl
  refine lv_aload_n hx hb dX9_checkOpen_0 rfl (lv_at hl 0 rfl) ?_
  refine fh_get (C := RX7) (T := TX7) (N := 6) hx hb ht inX7 hown hE.1 hP ha rfl 3 (by decide) (ht _ kw_154) (fun _ h9 => h9) (v := .int (bI op)) rfl dX9_checkOpen_1 ?_
  refine lv_if_ne (tgt := 17) hx hb dX9_checkOpen_4 (by decide) (fun c1 => ?_) (fun c1 => ?_)
  · exact vx_ret (fh_vret hx hb hr hlocks (⟨rfl, rfl, bI_nz c1⟩) hP hS (Nat.le_of_ble_eq_true rfl) (Nat.le_of_ble_eq_true rfl) dX9_checkOpen_17)
  · exact fh_throwS hx hb hst ht hown (by decide +kernel) kw_318 kw_14 xg2 xb2 xo2 (text := "the session is not open") (by decide) hE hS hP (hl.1.trans hml.symm) dX9_checkOpen_7 dX9_checkOpen_10 dX9_checkOpen_11 dX9_checkOpen_13 dX9_checkOpen_16 htb (Nat.le_of_ble_eq_true rfl) (Nat.le_of_ble_eq_true rfl) (Nat.le_of_ble_eq_true rfl) (Nat.le_of_ble_eq_true rfl) hlocks (⟨rfl, rfl, bI_eq.mp c1⟩) (Nat.le_of_ble_eq_true rfl) (Nat.le_of_ble_eq_true rfl)

set_option maxRecDepth 100000 in
set_option maxHeartbeats 4000000 in
theorem c_X_rowOf (l : Launch) (G : fG) (A : Nat → Prop) (h : FH) (sz : Nat) (hst : l.stackTraces = false) (ta tb : Nat) (T : St) (hT : pSt h ta tb T) (i : Nat) (hi : i < 60) : vx_Met l yX9_rowOf wsX9_rowOf { frames := 6, cells := 1, slots := 6, locals := 90 } (va_Pc [.ref ta, .int (nI i)] (fh_Pre G A h sz)) (fh_Q G (fun v u => ∃ r f, v = some (.ref r) ∧ u = h ∧ T i = some f ∧ pRow h r f) A) (fh_X G (fun E u => E = xE2 ∧ u = h ∧ T i = none) A) 1 6 A := by
  refine fh_MetX [.ref ta, .int (nI i)] (by decide) rfl (Nat.le_of_ble_eq_true rfl) ?_
  intro p e s m below meth c hx hb hr hlocks hml hown hnm hts hsz hP hE hS htb ls hl
  have ht : ∀ w ∈ wB, w.before _ s = true := fun w h9 => hts w (List.mem_cons_of_mem _ h9)
  have hl : lv_has ls 3 [(0, .ref ta), (1, .int (nI i))] := hl
  obtain ⟨ht1, ft, ht2, ht3⟩ := hT
  refine lv_aload_n hx hb dX9_rowOf_0 rfl (lv_at hl 0 rfl) ?_
  refine lv_iload_n hx hb dX9_rowOf_1 rfl (lv_at hl 1 rfl) ?_
  refine fh_cV (q := (RX8, TX8, 1)) (As := [.int (nI i)]) (rest := []) (b := ta) ⟨hx, hb, hml, hown, ht⟩ (c_St_row l G A h _ ta tb i ft ht1 ht2 hi) (cwV 1 ht (gV kw_337 kw_338 kw_339 kw_2 kw_340) rfl rfl rfl yd_X8_row ⟨(Nat.le_of_ble_eq_true rfl), (Nat.le_of_ble_eq_true rfl)⟩) hP hE hS ht1 rfl rfl hl.1 rfl (Nat.le_of_ble_eq_true rfl) dX9_rowOf_2 ⟨(Nat.le_of_ble_eq_true rfl), (Nat.le_of_ble_eq_true rfl)⟩ (fun v u H locs hp hP hz hS => ?_)
  obtain ⟨rfl, eu⟩ := hp
  rw [eu] at hP
  refine W.eq (g2 := F0 m 5 ls [va_rf (ft i)]) rfl ?_
  refine fh_astore_n (lv' := [(2, va_rf (ft i)), (0, .ref ta), (1, .int (nI i))]) hx hb dX9_rowOf_5 rfl hl (by decide) rfl (fun ls hl => ?_)
  refine fh_aload_n hx hb dX9_rowOf_6 rfl (lv_at hl 0 rfl) ?_
  refine fh_ifnonnull (tgt := 20) hx hb dX9_rowOf_7 (by decide) (fun eo => ?_) (fun x eo => ?_)
  · exact fh_throwS hx hb hst ht hown (by decide +kernel) kw_318 kw_14 xg2 xb2 xo2 (text := "the object is not there") (by decide) hE hS hP (hl.1.trans hml.symm) dX9_rowOf_10 dX9_rowOf_13 dX9_rowOf_14 dX9_rowOf_16 dX9_rowOf_19 htb (Nat.le_of_ble_eq_true rfl) (Nat.le_of_ble_eq_true rfl) (Nat.le_of_ble_eq_true rfl) (Nat.le_of_ble_eq_true rfl) hlocks (⟨rfl, rfl, pRo_none (eo ▸ ht3 i hi)⟩) (Nat.le_of_ble_eq_true rfl) (Nat.le_of_ble_eq_true rfl)
  · obtain ⟨f4, e4, h4⟩ := pRo_some (eo ▸ ht3 i hi)
    have hl : lv_has ls 3 [(2, .ref x), (0, .ref ta), (1, .int (nI i))] := by rw [eo] at hl; exact hl
    refine lv_aload_n hx hb dX9_rowOf_20 rfl (lv_at hl 0 rfl) ?_
    exact vx_ret (fh_aret (o := some x) hx hb hr hlocks (⟨x, f4, rfl, rfl, e4, h4⟩) hP hS (Nat.le_of_ble_eq_true rfl) (Nat.le_of_ble_eq_true rfl) dX9_rowOf_21)

set_option maxRecDepth 100000 in
set_option maxHeartbeats 4000000 in
theorem c_X_sesOf (l : Launch) (G : fG) (A : Nat → Prop) (h : FH) (sz : Nat) (hst : l.stackTraces = false) (xa : Nat) (ad : Ad) (no nv ns nr : Nat) (hX : h xa = some (oX ad no nv ns nr)) (fs : Nat → Option Nat) (hs1 : h (ad 0 1) = some (aQ 8 20 fs)) (fa : Nat → Nat) (hs2 : ∀ i, i < ns → fs i = some (fa i)) (hns : ns ≤ 20) (x : Int32) : vx_Met l yX9_sessionOf wsX9_sessionOf { frames := 6, cells := 1, slots := 6, locals := 90 } (va_Pc [.ref xa, .int x] (fh_Pre G A h sz)) (fh_Q G (fun v u => ∃ j, ix x ns = some j ∧ v = some (.ref (fa j)) ∧ u = h) A) (fh_X G (fun E u => E = xE1 ∧ u = h ∧ ix x ns = none) A) 1 6 A := by
  refine fh_MetX [.ref xa, .int x] (by decide) rfl (Nat.le_of_ble_eq_true rfl) ?_
  intro p e s m below meth c hx hb hr hlocks hml hown hnm hts hsz hP hE hS htb ls hl
  have ht : ∀ w ∈ wB, w.before _ s = true := fun w h9 => hts w (List.mem_cons_of_mem _ h9)
  have hl : lv_has ls 3 [(0, .ref xa), (1, .int x)] := hl
  refine lv_iload_n hx hb dX9_sessionOf_0 rfl (lv_at hl 1 rfl) ?_
  refine lv_if_lt (tgt := 12) hx hb dX9_sessionOf_1 (by decide) (fun c1 => ?_) (fun c1 => ?_)
  · refine lv_null hx hb dX9_sessionOf_12 ?_
    refine lv_goto (tgt := 22) hx hb dX9_sessionOf_13 (by decide) ?_
    refine lv_astore_nN (lv' := [(2, .null), (0, .ref xa), (1, .int x)]) hx hb dX9_sessionOf_22 rfl hl (by decide) rfl (fun ls hl => ?_)
    refine lv_aload_nN hx hb dX9_sessionOf_23 rfl (lv_at hl 0 rfl) ?_
    refine lv_ifnonnullN hx hb dX9_sessionOf_24 ?_
    exact fh_throwS hx hb hst ht hown (by decide +kernel) kw_290 kw_13 xg1 xb1 xo1 (text := "no such session") (by decide) hE hS hP (hl.1.trans hml.symm) dX9_sessionOf_27 dX9_sessionOf_30 dX9_sessionOf_31 dX9_sessionOf_33 dX9_sessionOf_36 htb (Nat.le_of_ble_eq_true rfl) (Nat.le_of_ble_eq_true rfl) (Nat.le_of_ble_eq_true rfl) (Nat.le_of_ble_eq_true rfl) hlocks (⟨rfl, rfl, ix_none (Or.inl c1)⟩) (Nat.le_of_ble_eq_true rfl) (Nat.le_of_ble_eq_true rfl)
  · refine lv_iload_n hx hb dX9_sessionOf_4 rfl (lv_at hl 1 rfl) ?_
    refine lv_aload_n hx hb dX9_sessionOf_5 rfl (lv_at hl 0 rfl) ?_
    refine fh_get (C := RX9) (T := TX9) (N := 11) hx hb ht inX9 hown hE.1 hP hX rfl 4 (by decide) (ht _ kw_79) (fun _ h9 => h9) (v := .int (nI ns)) rfl dX9_sessionOf_6 ?_
    refine lv_icmp_lt (tgt := 16) hx hb dX9_sessionOf_9 (by decide) (fun c2 => ?_) (fun c2 => ?_)
    · obtain ⟨j9, hj9, ej9⟩ : ∃ j9, j9 < ns ∧ x = nI j9 := by
        rcases pk_ix x (n := ns) (by omega) with q | q | q
        · exact absurd q c1
        · rw [Int32.le_iff_toInt_le] at q; rw [Int32.lt_iff_toInt_lt] at c2; omega
        · exact q
      subst ej9
      refine lv_aload_n hx hb dX9_sessionOf_16 rfl (lv_at hl 0 rfl) ?_
      refine fh_get (C := RX9) (T := TX9) (N := 11) hx hb ht inX9 hown hE.1 hP hX rfl 3 (by decide) (ht _ kw_78) (fun _ h9 => h9) (v := .ref (ad 0 1)) rfl dX9_sessionOf_17 ?_
      refine lv_iload_n hx hb dX9_sessionOf_20 rfl (lv_at hl 1 rfl) ?_
      refine fh_aald (k := j9) hx hb hE.1 hP hs1 rfl (by omega) (by decide) dX9_sessionOf_21 ?_
      rw [hs2 j9 hj9]
      refine W.eq (g2 := F0 m 22 ls [.ref (fa j9)]) rfl ?_
      refine lv_astore_n (lv' := [(2, .ref (fa j9)), (0, .ref xa), (1, .int (nI j9))]) hx hb dX9_sessionOf_22 rfl hl (by decide) rfl (fun ls hl => ?_)
      refine lv_aload_n hx hb dX9_sessionOf_23 rfl (lv_at hl 0 rfl) ?_
      refine lv_ifnonnull (tgt := 37) hx hb dX9_sessionOf_24 (by decide) ?_
      refine lv_aload_n hx hb dX9_sessionOf_37 rfl (lv_at hl 0 rfl) ?_
      exact vx_ret (fh_aret (o := some (fa j9)) hx hb hr hlocks (⟨j9, ix_some hj9 (by omega), rfl, rfl⟩) hP hS (Nat.le_of_ble_eq_true rfl) (Nat.le_of_ble_eq_true rfl) dX9_sessionOf_38)
    · have c3 : nI ns ≤ x := by rw [Int32.le_iff_toInt_le]; rw [Int32.lt_iff_toInt_lt] at c2; omega
      refine lv_null hx hb dX9_sessionOf_12 ?_
      refine lv_goto (tgt := 22) hx hb dX9_sessionOf_13 (by decide) ?_
      refine lv_astore_nN (lv' := [(2, .null), (0, .ref xa), (1, .int x)]) hx hb dX9_sessionOf_22 rfl hl (by decide) rfl (fun ls hl => ?_)
      refine lv_aload_nN hx hb dX9_sessionOf_23 rfl (lv_at hl 0 rfl) ?_
      refine lv_ifnonnullN hx hb dX9_sessionOf_24 ?_
      exact fh_throwS hx hb hst ht hown (by decide +kernel) kw_290 kw_13 xg1 xb1 xo1 (text := "no such session") (by decide) hE hS hP (hl.1.trans hml.symm) dX9_sessionOf_27 dX9_sessionOf_30 dX9_sessionOf_31 dX9_sessionOf_33 dX9_sessionOf_36 htb (Nat.le_of_ble_eq_true rfl) (Nat.le_of_ble_eq_true rfl) (Nat.le_of_ble_eq_true rfl) (Nat.le_of_ble_eq_true rfl) hlocks (⟨rfl, rfl, ix_none (Or.inr c3)⟩) (Nat.le_of_ble_eq_true rfl) (Nat.le_of_ble_eq_true rfl)

set_option maxRecDepth 100000 in
set_option maxHeartbeats 4000000 in
theorem c_X_verOf (l : Launch) (G : fG) (A : Nat → Prop) (h : FH) (sz : Nat) (hst : l.stackTraces = false) (xa : Nat) (ad : Ad) (no nv ns nr : Nat) (hX : h xa = some (oX ad no nv ns nr)) (fs : Nat → Option Nat) (hs1 : h (ad 0 0) = some (aQ 7 40 fs)) (fa : Nat → Nat) (hs2 : ∀ i, i < nv → fs i = some (fa i)) (hns : nv ≤ 40) (x : Int32) : vx_Met l yX9_versionOf wsX9_versionOf { frames := 6, cells := 1, slots := 6, locals := 90 } (va_Pc [.ref xa, .int x] (fh_Pre G A h sz)) (fh_Q G (fun v u => ∃ j, ix x nv = some j ∧ v = some (.ref (fa j)) ∧ u = h) A) (fh_X G (fun E u => E = xE1 ∧ u = h ∧ ix x nv = none) A) 1 6 A := by
  refine fh_MetX [.ref xa, .int x] (by decide) rfl (Nat.le_of_ble_eq_true rfl) ?_
  intro p e s m below meth c hx hb hr hlocks hml hown hnm hts hsz hP hE hS htb ls hl
  have ht : ∀ w ∈ wB, w.before _ s = true := fun w h9 => hts w (List.mem_cons_of_mem _ h9)
  have hl : lv_has ls 3 [(0, .ref xa), (1, .int x)] := hl
  refine lv_iload_n hx hb dX9_versionOf_0 rfl (lv_at hl 1 rfl) ?_
  refine lv_if_lt (tgt := 12) hx hb dX9_versionOf_1 (by decide) (fun c1 => ?_) (fun c1 => ?_)
  · refine lv_null hx hb dX9_versionOf_12 ?_
    refine lv_goto (tgt := 22) hx hb dX9_versionOf_13 (by decide) ?_
    refine lv_astore_nN (lv' := [(2, .null), (0, .ref xa), (1, .int x)]) hx hb dX9_versionOf_22 rfl hl (by decide) rfl (fun ls hl => ?_)
    refine lv_aload_nN hx hb dX9_versionOf_23 rfl (lv_at hl 0 rfl) ?_
    refine lv_ifnonnullN hx hb dX9_versionOf_24 ?_
    exact fh_throwS hx hb hst ht hown (by decide +kernel) kw_290 kw_13 xg1 xb1 xo1 (text := "no such version") (by decide) hE hS hP (hl.1.trans hml.symm) dX9_versionOf_27 dX9_versionOf_30 dX9_versionOf_31 dX9_versionOf_33 dX9_versionOf_36 htb (Nat.le_of_ble_eq_true rfl) (Nat.le_of_ble_eq_true rfl) (Nat.le_of_ble_eq_true rfl) (Nat.le_of_ble_eq_true rfl) hlocks (⟨rfl, rfl, ix_none (Or.inl c1)⟩) (Nat.le_of_ble_eq_true rfl) (Nat.le_of_ble_eq_true rfl)
  · refine lv_iload_n hx hb dX9_versionOf_4 rfl (lv_at hl 1 rfl) ?_
    refine lv_aload_n hx hb dX9_versionOf_5 rfl (lv_at hl 0 rfl) ?_
    refine fh_get (C := RX9) (T := TX9) (N := 11) hx hb ht inX9 hown hE.1 hP hX rfl 1 (by decide) (ht _ kw_76) (fun _ h9 => h9) (v := .int (nI nv)) rfl dX9_versionOf_6 ?_
    refine lv_icmp_lt (tgt := 16) hx hb dX9_versionOf_9 (by decide) (fun c2 => ?_) (fun c2 => ?_)
    · obtain ⟨j9, hj9, ej9⟩ : ∃ j9, j9 < nv ∧ x = nI j9 := by
        rcases pk_ix x (n := nv) (by omega) with q | q | q
        · exact absurd q c1
        · rw [Int32.le_iff_toInt_le] at q; rw [Int32.lt_iff_toInt_lt] at c2; omega
        · exact q
      subst ej9
      refine lv_aload_n hx hb dX9_versionOf_16 rfl (lv_at hl 0 rfl) ?_
      refine fh_get (C := RX9) (T := TX9) (N := 11) hx hb ht inX9 hown hE.1 hP hX rfl 0 (by decide) (ht _ kw_75) (fun _ h9 => h9) (v := .ref (ad 0 0)) rfl dX9_versionOf_17 ?_
      refine lv_iload_n hx hb dX9_versionOf_20 rfl (lv_at hl 1 rfl) ?_
      refine fh_aald (k := j9) hx hb hE.1 hP hs1 rfl (by omega) (by decide) dX9_versionOf_21 ?_
      rw [hs2 j9 hj9]
      refine W.eq (g2 := F0 m 22 ls [.ref (fa j9)]) rfl ?_
      refine lv_astore_n (lv' := [(2, .ref (fa j9)), (0, .ref xa), (1, .int (nI j9))]) hx hb dX9_versionOf_22 rfl hl (by decide) rfl (fun ls hl => ?_)
      refine lv_aload_n hx hb dX9_versionOf_23 rfl (lv_at hl 0 rfl) ?_
      refine lv_ifnonnull (tgt := 37) hx hb dX9_versionOf_24 (by decide) ?_
      refine lv_aload_n hx hb dX9_versionOf_37 rfl (lv_at hl 0 rfl) ?_
      exact vx_ret (fh_aret (o := some (fa j9)) hx hb hr hlocks (⟨j9, ix_some hj9 (by omega), rfl, rfl⟩) hP hS (Nat.le_of_ble_eq_true rfl) (Nat.le_of_ble_eq_true rfl) dX9_versionOf_38)
    · have c3 : nI nv ≤ x := by rw [Int32.le_iff_toInt_le]; rw [Int32.lt_iff_toInt_lt] at c2; omega
      refine lv_null hx hb dX9_versionOf_12 ?_
      refine lv_goto (tgt := 22) hx hb dX9_versionOf_13 (by decide) ?_
      refine lv_astore_nN (lv' := [(2, .null), (0, .ref xa), (1, .int x)]) hx hb dX9_versionOf_22 rfl hl (by decide) rfl (fun ls hl => ?_)
      refine lv_aload_nN hx hb dX9_versionOf_23 rfl (lv_at hl 0 rfl) ?_
      refine lv_ifnonnullN hx hb dX9_versionOf_24 ?_
      exact fh_throwS hx hb hst ht hown (by decide +kernel) kw_290 kw_13 xg1 xb1 xo1 (text := "no such version") (by decide) hE hS hP (hl.1.trans hml.symm) dX9_versionOf_27 dX9_versionOf_30 dX9_versionOf_31 dX9_versionOf_33 dX9_versionOf_36 htb (Nat.le_of_ble_eq_true rfl) (Nat.le_of_ble_eq_true rfl) (Nat.le_of_ble_eq_true rfl) (Nat.le_of_ble_eq_true rfl) hlocks (⟨rfl, rfl, ix_none (Or.inr c3)⟩) (Nat.le_of_ble_eq_true rfl) (Nat.le_of_ble_eq_true rfl)

set_option maxRecDepth 100000 in
set_option maxHeartbeats 4000000 in
theorem c_X_sesCon (l : Launch) (G : fG) (A : Nat → Prop) (h : FH) (sz : Nat) (hst : l.stackTraces = false) (xa : Nat) (ad : Ad) (no nv ns nr : Nat) (hX : h xa = some (oX ad no nv ns nr)) (ow : Option Nat) (n : Nat) (fc : Nat → Int32) (hc1 : h (ad 0 5) = some (oCon ow (ad 0 6) (nI n))) (hc2 : h (ad 0 6) = some (aI 5 360 fc)) (hn : n ≤ 360) (sa : Nat) (how : 0 < n → ow = some sa) (x : Int32) : vx_Met l yX9_sessionOfConflict wsX9_sessionOfConflict { frames := 6, cells := 1, slots := 6, locals := 90 } (va_Pc [.ref xa, .int x] (fh_Pre G A h sz)) (fh_Q G (fun v u => ∃ j, ix x n = some j ∧ v = some (.ref sa) ∧ u = h) A) (fh_X G (fun E u => E = xE1 ∧ u = h ∧ ix x n = none) A) 1 6 A := by
  refine fh_MetX [.ref xa, .int x] (by decide) rfl (Nat.le_of_ble_eq_true rfl) ?_
  intro p e s m below meth c hx hb hr hlocks hml hown hnm hts hsz hP hE hS htb ls hl
  have ht : ∀ w ∈ wB, w.before _ s = true := fun w h9 => hts w (List.mem_cons_of_mem _ h9)
  have hl : lv_has ls 3 [(0, .ref xa), (1, .int x)] := hl
  refine lv_aload_n hx hb dX9_sessionOfConflict_0 rfl (lv_at hl 0 rfl) ?_
  refine fh_get (C := RX9) (T := TX9) (N := 11) hx hb ht inX9 hown hE.1 hP hX rfl 9 (by decide) (ht _ kw_84) (fun _ h9 => h9) (v := .ref (ad 0 5)) rfl dX9_sessionOfConflict_1 ?_
  refine lv_iload_n hx hb dX9_sessionOfConflict_4 rfl (lv_at hl 1 rfl) ?_
  refine fh_cV (q := (RX2, TX2, 3)) (As := [.int x]) (rest := []) (b := (ad 0 5)) ⟨hx, hb, hml, hown, ht⟩ (c_Con_has l G A h _ (ad 0 5) (ad 0 6) ow n fc hc1 hc2 hn x) (cwV 1 ht (gV kw_485 kw_441 kw_442 kw_4 kw_443) rfl rfl rfl yd_X2_has ⟨(Nat.le_of_ble_eq_true rfl), (Nat.le_of_ble_eq_true rfl)⟩) hP hE hS hc1 rfl rfl hl.1 rfl (Nat.le_of_ble_eq_true rfl) dX9_sessionOfConflict_5 ⟨(Nat.le_of_ble_eq_true rfl), (Nat.le_of_ble_eq_true rfl)⟩ (fun v u H locs hp hP hz hS => ?_)
  rcases hp with ⟨rfl, ⟨j9, hj9, rfl⟩, eu⟩ | ⟨rfl, hno, eu⟩
  · rw [eu] at hP
    refine W.eq (g2 := F0 m 8 ls [.int 1]) rfl ?_
    refine lv_if_eq (tgt := 21) hx hb dX9_sessionOfConflict_8 (by decide) (fun c9 => absurd c9 (by decide)) (fun _ => ?_)
    refine lv_aload_n hx hb dX9_sessionOfConflict_11 rfl (lv_at hl 0 rfl) ?_
    refine fh_get (C := RX9) (T := TX9) (N := 11) hx hb ht inX9 hown hE.1 hP hX rfl 9 (by decide) (ht _ kw_84) (fun _ h9 => h9) (v := .ref (ad 0 5)) rfl dX9_sessionOfConflict_12 ?_
    refine fh_get (C := RX2) (T := TX2) (N := 3) hx hb ht inX2 hown hE.1 hP hc1 rfl 0 (by decide) (ht _ kw_64) (fun _ h9 => h9) (v := va_rf ow) rfl dX9_sessionOfConflict_15 ?_
    refine lv_goto (tgt := 22) hx hb dX9_sessionOfConflict_18 (by decide) ?_
    refine fh_astore_n (lv' := [(2, va_rf ow), (0, .ref xa), (1, .int (nI j9))]) hx hb dX9_sessionOfConflict_22 rfl hl (by decide) rfl (fun ls hl => ?_)
    refine fh_aload_n hx hb dX9_sessionOfConflict_23 rfl (lv_at hl 0 rfl) ?_
    rw [how (by omega)] at hl ⊢
    refine W.eq (g2 := F0 m 24 ls [.ref sa]) rfl ?_
    refine lv_ifnonnull (tgt := 37) hx hb dX9_sessionOfConflict_24 (by decide) ?_
    refine lv_aload_n hx hb dX9_sessionOfConflict_37 rfl (lv_at hl 0 rfl) ?_
    exact vx_ret (fh_aret (o := some sa) hx hb hr hlocks (⟨j9, ix_some hj9 (by omega), rfl, rfl⟩) hP hS (Nat.le_of_ble_eq_true rfl) (Nat.le_of_ble_eq_true rfl) dX9_sessionOfConflict_38)
  · rw [eu] at hP
    refine W.eq (g2 := F0 m 8 ls [.int 0]) rfl ?_
    refine lv_if_eq (tgt := 21) hx hb dX9_sessionOfConflict_8 (by decide) (fun _ => ?_) (fun c9 => absurd (rfl) c9)
    refine lv_null hx hb dX9_sessionOfConflict_21 ?_
    refine lv_astore_nN (lv' := [(2, .null), (0, .ref xa), (1, .int x)]) hx hb dX9_sessionOfConflict_22 rfl hl (by decide) rfl (fun ls hl => ?_)
    refine lv_aload_nN hx hb dX9_sessionOfConflict_23 rfl (lv_at hl 0 rfl) ?_
    refine lv_ifnonnullN hx hb dX9_sessionOfConflict_24 ?_
    exact fh_throwS hx hb hst ht hown (by decide +kernel) kw_290 kw_13 xg1 xb1 xo1 (text := "no such conflict") (by decide) hE hS hP (hl.1.trans hml.symm) dX9_sessionOfConflict_27 dX9_sessionOfConflict_30 dX9_sessionOfConflict_31 dX9_sessionOfConflict_33 dX9_sessionOfConflict_36 htb (Nat.le_of_ble_eq_true rfl) (Nat.le_of_ble_eq_true rfl) (Nat.le_of_ble_eq_true rfl) (Nat.le_of_ble_eq_true rfl) hlocks (⟨rfl, rfl, (pk_ix x (n := n) (by omega)).elim (fun q => ix_none (Or.inl q)) (fun q => q.elim (fun q => ix_none (Or.inr q)) (fun ⟨j, hj, ej⟩ => absurd ej (hno j hj)))⟩) (Nat.le_of_ble_eq_true rfl) (Nat.le_of_ble_eq_true rfl)
