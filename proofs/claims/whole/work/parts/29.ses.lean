set_option maxRecDepth 100000 in
set_option maxHeartbeats 4000000 in
theorem c_Ses_changed (l : Launch) (G : fG) (A : Nat → Prop) (h : FH) (sz : Nat) (a ba na ch sd bb nb : Nat) (num opn : Int32) (B N : St) (ha : h a = some (oSes num ba na opn ch sd)) (hB : pSt h ba bb B) (hN : pSt h na nb N) (i : Nat) (hi : i < 60) : Met l yX7_changed wsX7_changed { frames := 1, cells := 0, slots := 0, locals := 24 } (va_Pc [.ref a, .int (nI i)] (fh_Pre G A h sz)) (fh_Q G (fun v u => v = some (.int (bI (!alikeO (B i) (N i)))) ∧ u = h) A) 0 0 A := by
  refine fh_Met [.ref a, .int (nI i)] (by decide) rfl (Nat.le_of_ble_eq_true rfl) ?_
  intro p e s m below meth c hx hb hr hlocks hml hown hnm hts hsz hP hE hS ls hl
  have ht : ∀ w ∈ wB, w.before _ s = true := fun w h9 => hts w (List.mem_cons_of_mem _ h9)
  have hl : lv_has ls 2 [(0, .ref a), (1, .int (nI i))] := hl
  obtain ⟨hb1, fb, hb2, hb3⟩ := hB
  obtain ⟨hn1, fn, hn2, hn3⟩ := hN
  refine lv_aload_n hx hb dX7_changed_0 rfl (lv_at hl 0 rfl) ?_
  refine fh_get (C := RX7) (T := TX7) (N := 6) hx hb ht inX7 hown hE.1 hP ha rfl 1 (by decide) (ht _ kw_150) (fun _ h9 => h9) (v := .ref ba) rfl dX7_changed_1 ?_
  refine lv_iload_n hx hb dX7_changed_4 rfl (lv_at hl 1 rfl) ?_
  refine fh_cV (q := (RX8, TX8, 1)) (As := [.int (nI i)]) (rest := []) (b := ba) ⟨hx, hb, hml, hown, ht⟩ (c_St_row l G A h _ ba bb i fb hb1 hb2 hi) (cwV 1 ht (gV kw_369 kw_338 kw_339 kw_2 kw_340) rfl rfl rfl yd_X8_row ⟨(Nat.le_of_ble_eq_true rfl), (Nat.le_of_ble_eq_true rfl)⟩) hP hE hS hb1 rfl rfl hl.1 rfl (Nat.le_of_ble_eq_true rfl) dX7_changed_5 ⟨(Nat.le_of_ble_eq_true rfl), (Nat.le_of_ble_eq_true rfl)⟩ (fun v u H locs hp hP hz hS => ?_)
  obtain ⟨rfl, eu⟩ := hp
  rw [eu] at hP
  refine W.eq (g2 := F0 m 8 ls [va_rf (fb i)]) rfl ?_
  refine lv_aload_n hx hb dX7_changed_8 rfl (lv_at hl 0 rfl) ?_
  refine fh_get (C := RX7) (T := TX7) (N := 6) hx hb ht inX7 hown hE.1 hP ha rfl 2 (by decide) (ht _ kw_151) (fun _ h9 => h9) (v := .ref na) rfl dX7_changed_9 ?_
  refine lv_iload_n hx hb dX7_changed_12 rfl (lv_at hl 1 rfl) ?_
  refine fh_cV (q := (RX8, TX8, 1)) (As := [.int (nI i)]) (rest := [va_rf (fb i)]) (b := na) ⟨hx, hb, hml, hown, ht⟩ (c_St_row l G A h _ na nb i fn hn1 hn2 hi) (cwV 1 ht (gV kw_369 kw_338 kw_339 kw_2 kw_340) rfl rfl rfl yd_X8_row ⟨(Nat.le_of_ble_eq_true rfl), (Nat.le_of_ble_eq_true rfl)⟩) hP hE hS hn1 rfl rfl hl.1 rfl (Nat.le_trans (catsum _) (Nat.le_of_ble_eq_true rfl)) dX7_changed_13 ⟨(Nat.le_of_ble_eq_true rfl), (Nat.le_of_ble_eq_true rfl)⟩ (fun v u H locs hp hP hz hS => ?_)
  obtain ⟨rfl, eu⟩ := hp
  rw [eu] at hP
  refine W.eq (g2 := F0 m 16 ls [va_rf (fn i), va_rf (fb i)]) rfl ?_
  refine fh_cS (As := [va_rf (fb i), va_rf (fn i)]) (rest := []) ⟨hx, hb, hml, hown, ht⟩ (c_Row_alike l G A h _ (fb i) (fn i) (B i) (N i) (hb3 i hi) (hn3 i hi)) (va_cwS 2 ht (gS kw_418 kw_419 kw_10 kw_420) rfl rfl rfl yd_X5_alike.2 ⟨(Nat.le_of_ble_eq_true rfl), (Nat.le_of_ble_eq_true rfl)⟩) hP hE hS rfl hl.1 rfl (Nat.le_of_ble_eq_true rfl) dX7_changed_16 ⟨(Nat.le_of_ble_eq_true rfl), (Nat.le_of_ble_eq_true rfl)⟩ (fun v u H locs hp hP hz hS => ?_)
  obtain ⟨rfl, eu⟩ := hp
  rw [eu] at hP
  refine W.eq (g2 := F0 m 19 ls [.int (bI (alikeO (B i) (N i)))]) rfl ?_
  refine lv_if_ne (tgt := 26) hx hb dX7_changed_19 (by decide) (fun c1 => ?_) (fun c1 => ?_)
  · refine lv_iconst (v := (nI 0)) hx hb dX7_changed_26 (by decide) ?_
    exact fh_zret hx hb hr hlocks rfl (⟨congrArg (fun z => some (Value.int z)) (bI_n0 c1), rfl⟩) hP hS (Nat.le_of_ble_eq_true rfl) (Nat.le_of_ble_eq_true rfl) dX7_changed_27
  · refine lv_iconst (v := (nI 1)) hx hb dX7_changed_22 (by decide) ?_
    refine lv_goto (tgt := 27) hx hb dX7_changed_23 (by decide) ?_
    exact fh_zret hx hb hr hlocks rfl (⟨congrArg (fun z => some (Value.int z)) (bI_n1 c1), rfl⟩) hP hS (Nat.le_of_ble_eq_true rfl) (Nat.le_of_ble_eq_true rfl) dX7_changed_27

set_option maxRecDepth 100000 in
set_option maxHeartbeats 4000000 in
theorem c_Ses_side (l : Launch) (G : fG) (A : Nat → Prop) (h : FH) (sz : Nat) (a ba na ch sd : Nat) (num opn : Int32) (sf : Nat → Int32) (ha : h a = some (oSes num ba na opn ch sd)) (hs : h sd = some (aI 4 420 sf)) (i k : Nat) (hi : i < 60) (hk : k < 7) : Met l yX7_sideOf wsX7_sideOf { frames := 0, cells := 0, slots := 0, locals := 0 } (va_Pc [.ref a, .int (nI i), .int (nI k)] (fh_Pre G A h sz)) (fh_Q G (fun v u => v = some (.int (sf (i * 7 + k) - nI 1)) ∧ u = h) A) 0 0 A := by
  refine fh_Met [.ref a, .int (nI i), .int (nI k)] (by decide) rfl (Nat.le_of_ble_eq_true rfl) ?_
  intro p e s m below meth c hx hb hr hlocks hml hown hnm hts hsz hP hE hS ls hl
  have ht : ∀ w ∈ wB, w.before _ s = true := fun w h9 => hts w (List.mem_cons_of_mem _ h9)
  have hl : lv_has ls 4 [(0, .ref a), (1, .int (nI i)), (2, .int (nI k))] := hl
  refine lv_iload_n hx hb dX7_sideOf_0 rfl (lv_at hl 1 rfl) ?_
  refine lv_bipush (v := (nI 7)) hx hb dX7_sideOf_1 (by decide) ?_
  refine lv_imul hx hb dX7_sideOf_3 ?_
  refine lv_topi (fun z9 ez9 => ?_)
  rw [show z9 = nI (i * 7) from ez9.trans (pk_mul _ _)]
  refine lv_iload_n hx hb dX7_sideOf_4 rfl (lv_at hl 2 rfl) ?_
  refine lv_iadd hx hb dX7_sideOf_5 ?_
  refine lv_topi (fun z9 ez9 => ?_)
  rw [show z9 = nI ((i * 7) + k) from ez9.trans (nI_add _ _)]
  refine lv_istore_n (lv' := [(3, .int (nI ((i * 7) + k))), (0, .ref a), (1, .int (nI i)), (2, .int (nI k))]) hx hb dX7_sideOf_6 rfl hl (by decide) rfl (fun ls hl => ?_)
  refine lv_iload_n hx hb dX7_sideOf_7 rfl (lv_at hl 0 rfl) ?_
  refine lv_if_lt (tgt := 20) hx hb dX7_sideOf_8 (by decide) (fun c9 => absurd c9 (nI_pos (by omega))) (fun _ => ?_)
  refine lv_iload_n hx hb dX7_sideOf_11 rfl (lv_at hl 0 rfl) ?_
  refine lv_aload_n hx hb dX7_sideOf_12 rfl (lv_at hl 1 rfl) ?_
  refine fh_get (C := RX7) (T := TX7) (N := 6) hx hb ht inX7 hown hE.1 hP ha rfl 5 (by decide) (ht _ kw_156) (fun _ h9 => h9) (v := .ref sd) rfl dX7_sideOf_13 ?_
  refine fh_alen hx hb hE.1 hP hs rfl dX7_sideOf_16 ?_
  refine lv_icmp_lt (tgt := 24) hx hb dX7_sideOf_17 (by decide) (fun _ => ?_) (fun c9 => absurd (nI_lt (by omega) (by decide)) c9)
  refine lv_aload_n hx hb dX7_sideOf_24 rfl (lv_at hl 1 rfl) ?_
  refine fh_get (C := RX7) (T := TX7) (N := 6) hx hb ht inX7 hown hE.1 hP ha rfl 5 (by decide) (ht _ kw_156) (fun _ h9 => h9) (v := .ref sd) rfl dX7_sideOf_25 ?_
  refine lv_iload_n hx hb dX7_sideOf_28 rfl (lv_at hl 0 rfl) ?_
  refine fh_bald (k := ((i * 7) + k)) hx hb hE.1 hP hs rfl (by omega) (by decide) dX7_sideOf_29 ?_
  refine lv_iconst (v := (nI 1)) hx hb dX7_sideOf_30 (by decide) ?_
  refine lv_isub hx hb dX7_sideOf_31 ?_
  exact fh_iret hx hb hr hlocks (⟨rfl, rfl⟩) hP hS (Nat.le_of_ble_eq_true rfl) (Nat.le_of_ble_eq_true rfl) dX7_sideOf_32

set_option maxRecDepth 100000 in
set_option maxHeartbeats 4000000 in
theorem c_Ses_choose (l : Launch) (G : fG) (A : Nat → Prop) (h : FH) (sz : Nat) (a ba na ch sd : Nat) (num opn : Int32) (sf : Nat → Int32) (ha : h a = some (oSes num ba na opn ch sd)) (hs : h sd = some (aI 4 420 sf)) (hAs : A sd) (i k x : Nat) (hi : i < 60) (hk : k < 7) (hx2 : x < 2) : Met l yX7_choose wsX7_choose { frames := 0, cells := 0, slots := 0, locals := 0 } (va_Pc [.ref a, .int (nI i), .int (nI k), .int (nI x)] (fh_Pre G A h sz)) (fh_Q G (fun v u => v = none ∧ u = fh_up h sd (aI 4 420 (upd sf (i * 7 + k) (nI (x + 1))))) A) 0 0 A := by
  refine fh_Met [.ref a, .int (nI i), .int (nI k), .int (nI x)] (by decide) rfl (Nat.le_of_ble_eq_true rfl) ?_
  intro p e s m below meth c hx hb hr hlocks hml hown hnm hts hsz hP hE hS ls hl
  have ht : ∀ w ∈ wB, w.before _ s = true := fun w h9 => hts w (List.mem_cons_of_mem _ h9)
  have hl : lv_has ls 5 [(0, .ref a), (1, .int (nI i)), (2, .int (nI k)), (3, .int (nI x))] := hl
  refine lv_iload_n hx hb dX7_choose_0 rfl (lv_at hl 1 rfl) ?_
  refine lv_bipush (v := (nI 7)) hx hb dX7_choose_1 (by decide) ?_
  refine lv_imul hx hb dX7_choose_3 ?_
  refine lv_topi (fun z9 ez9 => ?_)
  rw [show z9 = nI (i * 7) from ez9.trans (pk_mul _ _)]
  refine lv_iload_n hx hb dX7_choose_4 rfl (lv_at hl 2 rfl) ?_
  refine lv_iadd hx hb dX7_choose_5 ?_
  refine lv_topi (fun z9 ez9 => ?_)
  rw [show z9 = nI ((i * 7) + k) from ez9.trans (nI_add _ _)]
  refine lv_istore (lv' := [(4, .int (nI ((i * 7) + k))), (0, .ref a), (1, .int (nI i)), (2, .int (nI k)), (3, .int (nI x))]) hx hb dX7_choose_6 hl (by decide) rfl (fun ls hl => ?_)
  refine lv_iload hx hb dX7_choose_8 (lv_at hl 0 rfl) ?_
  refine lv_if_lt (tgt := 34) hx hb dX7_choose_10 (by decide) (fun c9 => absurd c9 (nI_pos (by omega))) (fun _ => ?_)
  refine lv_iload hx hb dX7_choose_13 (lv_at hl 0 rfl) ?_
  refine lv_aload_n hx hb dX7_choose_15 rfl (lv_at hl 1 rfl) ?_
  refine fh_get (C := RX7) (T := TX7) (N := 6) hx hb ht inX7 hown hE.1 hP ha rfl 5 (by decide) (ht _ kw_156) (fun _ h9 => h9) (v := .ref sd) rfl dX7_choose_16 ?_
  refine fh_alen hx hb hE.1 hP hs rfl dX7_choose_19 ?_
  refine lv_icmp_ge (tgt := 34) hx hb dX7_choose_20 (by decide) (fun c9 => absurd c9 (nI_ge (by omega) (by decide))) (fun _ => ?_)
  refine lv_aload_n hx hb dX7_choose_23 rfl (lv_at hl 1 rfl) ?_
  refine fh_get (C := RX7) (T := TX7) (N := 6) hx hb ht inX7 hown hE.1 hP ha rfl 5 (by decide) (ht _ kw_156) (fun _ h9 => h9) (v := .ref sd) rfl dX7_choose_24 ?_
  refine lv_iload hx hb dX7_choose_27 (lv_at hl 0 rfl) ?_
  refine lv_iload_n hx hb dX7_choose_29 rfl (lv_at hl 4 rfl) ?_
  refine lv_iconst (v := (nI 1)) hx hb dX7_choose_30 (by decide) ?_
  refine lv_iadd hx hb dX7_choose_31 ?_
  refine lv_topi (fun z9 ez9 => ?_)
  rw [show z9 = nI (x + 1) from ez9.trans (nI_add _ _)]
  refine lv_i2b (v := (nI (x + 1)).toInt8.toInt32) hx hb dX7_choose_32 rfl ?_
  refine fh_bast (k := ((i * 7) + k)) hx hb hE.1 hP hS hs (hAs) rfl (by omega) (by decide) dX7_choose_33 (fun H locs hP hz hS => ?_)
  obtain ⟨h_1, eh_1⟩ : ∃ z, z = fh_up h sd (.inl (4, 420, .inl (upd sf ((i * 7) + k) (vp_nar .byte ((nI (x + 1)).toInt8.toInt32))))) := ⟨_, rfl⟩
  have hP : fh_P G vwCl h_1 H := by rw [eh_1]; exact hP
  have f_1 : h_1 sd = some (.inl (4, 420, .inl (upd sf ((i * 7) + k) (vp_nar .byte ((nI (x + 1)).toInt8.toInt32))))) := by rw [eh_1]; exact fh_up_self _ _ _
  have g_1_0 := (congrFun eh_1 a).trans (fh_keep hs ha rfl)
  exact fh_vret hx hb hr hlocks (⟨rfl, by rw [eh_1, nar12 hx2]⟩) hP hS (Nat.le_of_ble_eq_true rfl) (Nat.le_of_ble_eq_true rfl) dX7_choose_34

set_option maxRecDepth 100000 in
set_option maxHeartbeats 4000000 in
theorem c_Ses_clashes (l : Launch) (G : fG) (A : Nat → Prop) (h : FH) (sz : Nat) (a ba na ch sd bb nb : Nat) (num opn : Int32) (B N : St) (ha : h a = some (oSes num ba na opn ch sd)) (hB : pSt h ba bb B) (hN : pSt h na nb N) (ta tb : Nat) (T : St) (hT : pSt h ta tb T) (i k : Nat) (hi : i < 60) (hk : k < 7) : Met l yX7_clashes wsX7_clashes { frames := 1, cells := 0, slots := 0, locals := 26 } (va_Pc [.ref a, .int (nI i), .int (nI k), .ref ta] (fh_Pre G A h sz)) (fh_Q G (fun v u => v = some (.int (bI (seClash (B i) (N i) (T i) k))) ∧ u = h) A) 0 0 A := by
  refine fh_Met [.ref a, .int (nI i), .int (nI k), .ref ta] (by decide) rfl (Nat.le_of_ble_eq_true rfl) ?_
  intro p e s m below meth c hx hb hr hlocks hml hown hnm hts hsz hP hE hS ls hl
  have ht : ∀ w ∈ wB, w.before _ s = true := fun w h9 => hts w (List.mem_cons_of_mem _ h9)
  have hl : lv_has ls 7 [(0, .ref a), (1, .int (nI i)), (2, .int (nI k)), (3, .ref ta)] := hl
  obtain ⟨hb1, fb, hb2, hb3⟩ := hB
  obtain ⟨hn1, fn, hn2, hn3⟩ := hN
  obtain ⟨ht1, ft, ht2, ht3⟩ := hT
  refine lv_aload_n hx hb dX7_clashes_0 rfl (lv_at hl 0 rfl) ?_
  refine fh_get (C := RX7) (T := TX7) (N := 6) hx hb ht inX7 hown hE.1 hP ha rfl 1 (by decide) (ht _ kw_150) (fun _ h9 => h9) (v := .ref ba) rfl dX7_clashes_1 ?_
  refine lv_iload_n hx hb dX7_clashes_4 rfl (lv_at hl 1 rfl) ?_
  refine fh_cV (q := (RX8, TX8, 1)) (As := [.int (nI i)]) (rest := []) (b := ba) ⟨hx, hb, hml, hown, ht⟩ (c_St_row l G A h _ ba bb i fb hb1 hb2 hi) (cwV 1 ht (gV kw_369 kw_338 kw_339 kw_2 kw_340) rfl rfl rfl yd_X8_row ⟨(Nat.le_of_ble_eq_true rfl), (Nat.le_of_ble_eq_true rfl)⟩) hP hE hS hb1 rfl rfl hl.1 rfl (Nat.le_of_ble_eq_true rfl) dX7_clashes_5 ⟨(Nat.le_of_ble_eq_true rfl), (Nat.le_of_ble_eq_true rfl)⟩ (fun v u H locs hp hP hz hS => ?_)
  obtain ⟨rfl, eu⟩ := hp
  rw [eu] at hP
  refine W.eq (g2 := F0 m 8 ls [va_rf (fb i)]) rfl ?_
  refine fh_astore (lv' := [(4, va_rf (fb i)), (0, .ref a), (1, .int (nI i)), (2, .int (nI k)), (3, .ref ta)]) hx hb dX7_clashes_8 hl (by decide) rfl (fun ls hl => ?_)
  refine lv_aload_n hx hb dX7_clashes_10 rfl (lv_at hl 1 rfl) ?_
  refine fh_get (C := RX7) (T := TX7) (N := 6) hx hb ht inX7 hown hE.1 hP ha rfl 2 (by decide) (ht _ kw_151) (fun _ h9 => h9) (v := .ref na) rfl dX7_clashes_11 ?_
  refine lv_iload_n hx hb dX7_clashes_14 rfl (lv_at hl 2 rfl) ?_
  refine fh_cV (q := (RX8, TX8, 1)) (As := [.int (nI i)]) (rest := []) (b := na) ⟨hx, hb, hml, hown, ht⟩ (c_St_row l G A h _ na nb i fn hn1 hn2 hi) (cwV 1 ht (gV kw_369 kw_338 kw_339 kw_2 kw_340) rfl rfl rfl yd_X8_row ⟨(Nat.le_of_ble_eq_true rfl), (Nat.le_of_ble_eq_true rfl)⟩) hP hE hS hn1 rfl rfl hl.1 rfl (Nat.le_of_ble_eq_true rfl) dX7_clashes_15 ⟨(Nat.le_of_ble_eq_true rfl), (Nat.le_of_ble_eq_true rfl)⟩ (fun v u H locs hp hP hz hS => ?_)
  obtain ⟨rfl, eu⟩ := hp
  rw [eu] at hP
  refine W.eq (g2 := F0 m 18 ls [va_rf (fn i)]) rfl ?_
  refine fh_astore (lv' := [(5, va_rf (fn i)), (4, va_rf (fb i)), (0, .ref a), (1, .int (nI i)), (2, .int (nI k)), (3, .ref ta)]) hx hb dX7_clashes_18 hl (by decide) (by generalize (fb i) = o90; generalize (fn i) = o91; cases o90 <;> cases o91 <;> rfl) (fun ls hl => ?_)
  refine lv_aload_n hx hb dX7_clashes_20 rfl (lv_at hl 5 rfl) ?_
  refine lv_iload_n hx hb dX7_clashes_21 rfl (lv_at hl 3 rfl) ?_
  refine fh_cV (q := (RX8, TX8, 1)) (As := [.int (nI i)]) (rest := []) (b := ta) ⟨hx, hb, hml, hown, ht⟩ (c_St_row l G A h _ ta tb i ft ht1 ht2 hi) (cwV 1 ht (gV kw_369 kw_338 kw_339 kw_2 kw_340) rfl rfl rfl yd_X8_row ⟨(Nat.le_of_ble_eq_true rfl), (Nat.le_of_ble_eq_true rfl)⟩) hP hE hS ht1 rfl rfl hl.1 rfl (Nat.le_of_ble_eq_true rfl) dX7_clashes_22 ⟨(Nat.le_of_ble_eq_true rfl), (Nat.le_of_ble_eq_true rfl)⟩ (fun v u H locs hp hP hz hS => ?_)
  obtain ⟨rfl, eu⟩ := hp
  rw [eu] at hP
  refine W.eq (g2 := F0 m 25 ls [va_rf (ft i)]) rfl ?_
  refine fh_astore (lv' := [(6, va_rf (ft i)), (5, va_rf (fn i)), (4, va_rf (fb i)), (0, .ref a), (1, .int (nI i)), (2, .int (nI k)), (3, .ref ta)]) hx hb dX7_clashes_25 hl (by decide) (by generalize (fn i) = o90; generalize (fb i) = o91; generalize (ft i) = o92; cases o90 <;> cases o91 <;> cases o92 <;> rfl) (fun ls hl => ?_)
  refine fh_aload hx hb dX7_clashes_27 (lv_at hl 2 rfl) ?_
  refine fh_ifnonnull (tgt := 34) hx hb dX7_clashes_29 (by decide) (fun eo => ?_) (fun x4 eo => ?_)
  · have e4 := pRo_none (eo ▸ hb3 i hi)
    refine lv_iconst (v := (nI 0)) hx hb dX7_clashes_32 (by decide) ?_
    exact fh_zret hx hb hr hlocks rfl (⟨congrArg (fun z => some (Value.int z)) (by rw [e4]; rfl), rfl⟩) hP hS (Nat.le_of_ble_eq_true rfl) (Nat.le_of_ble_eq_true rfl) dX7_clashes_33
  · obtain ⟨f4, e4, -⟩ := pRo_some (eo ▸ hb3 i hi)
    refine lv_iload_n hx hb dX7_clashes_34 rfl (lv_at hl 5 rfl) ?_
    refine lv_bipush (v := (nI 6)) hx hb dX7_clashes_35 (by decide) ?_
    refine lv_icmp_ne (tgt := 79) hx hb dX7_clashes_37 (by decide) (fun c1 => ?_) (fun c1 => ?_)
    · have k6 : ¬ k = 6 := fun q => c1 (by rw [q])
      refine fh_aload hx hb dX7_clashes_79 (lv_at hl 1 rfl) ?_
      refine fh_aload hx hb dX7_clashes_81 (lv_at hl 2 rfl) ?_
      refine lv_iload_n hx hb dX7_clashes_83 rfl (lv_at hl 5 rfl) ?_
      refine fh_cS (As := [va_rf (fn i), va_rf (fb i), .int (nI k)]) (rest := []) ⟨hx, hb, hml, hown, ht⟩ (c_Row_differ l G A h _ (fn i) (fb i) (N i) (B i) k (by omega) (hn3 i hi) (hb3 i hi)) (va_cwS 3 ht (gS kw_429 kw_430 kw_10 kw_431) rfl rfl rfl yd_X5_differ.2 ⟨(Nat.le_of_ble_eq_true rfl), (Nat.le_of_ble_eq_true rfl)⟩) hP hE hS rfl hl.1 rfl (Nat.le_of_ble_eq_true rfl) dX7_clashes_84 ⟨(Nat.le_of_ble_eq_true rfl), (Nat.le_of_ble_eq_true rfl)⟩ (fun v u H locs hp hP hz hS => ?_)
      obtain ⟨rfl, eu⟩ := hp
      rw [eu] at hP
      refine W.eq (g2 := F0 m 87 ls [.int (bI (differO (N i) (B i) k))]) rfl ?_
      refine lv_if_eq (tgt := 116) hx hb dX7_clashes_87 (by decide) (fun d0 => ?_) (fun d0 => ?_)
      · refine lv_iconst (v := (nI 0)) hx hb dX7_clashes_116 (by decide) ?_
        exact fh_zret hx hb hr hlocks rfl (⟨congrArg (fun z => some (Value.int z)) (bI_0 (fun q => by rw [e4] at q d0; simp [seClash, k6, bI_eq.mp d0] at q)), rfl⟩) hP hS (Nat.le_of_ble_eq_true rfl) (Nat.le_of_ble_eq_true rfl) dX7_clashes_117
      · refine fh_aload hx hb dX7_clashes_90 (lv_at hl 0 rfl) ?_
        refine fh_aload hx hb dX7_clashes_92 (lv_at hl 2 rfl) ?_
        refine lv_iload_n hx hb dX7_clashes_94 rfl (lv_at hl 5 rfl) ?_
        refine fh_cS (As := [va_rf (ft i), va_rf (fb i), .int (nI k)]) (rest := []) ⟨hx, hb, hml, hown, ht⟩ (c_Row_differ l G A h _ (ft i) (fb i) (T i) (B i) k (by omega) (ht3 i hi) (hb3 i hi)) (va_cwS 3 ht (gS kw_429 kw_430 kw_10 kw_431) rfl rfl rfl yd_X5_differ.2 ⟨(Nat.le_of_ble_eq_true rfl), (Nat.le_of_ble_eq_true rfl)⟩) hP hE hS rfl hl.1 rfl (Nat.le_of_ble_eq_true rfl) dX7_clashes_95 ⟨(Nat.le_of_ble_eq_true rfl), (Nat.le_of_ble_eq_true rfl)⟩ (fun v u H locs hp hP hz hS => ?_)
        obtain ⟨rfl, eu⟩ := hp
        rw [eu] at hP
        refine W.eq (g2 := F0 m 98 ls [.int (bI (differO (T i) (B i) k))]) rfl ?_
        refine lv_if_eq (tgt := 116) hx hb dX7_clashes_98 (by decide) (fun d1 => ?_) (fun d1 => ?_)
        · refine lv_iconst (v := (nI 0)) hx hb dX7_clashes_116 (by decide) ?_
          exact fh_zret hx hb hr hlocks rfl (⟨congrArg (fun z => some (Value.int z)) (bI_0 (fun q => by rw [e4] at q d1; simp [seClash, k6, bI_eq.mp d1] at q)), rfl⟩) hP hS (Nat.le_of_ble_eq_true rfl) (Nat.le_of_ble_eq_true rfl) dX7_clashes_117
        · refine fh_aload hx hb dX7_clashes_101 (lv_at hl 0 rfl) ?_
          refine fh_aload hx hb dX7_clashes_103 (lv_at hl 1 rfl) ?_
          refine lv_iload_n hx hb dX7_clashes_105 rfl (lv_at hl 5 rfl) ?_
          refine fh_cS (As := [va_rf (ft i), va_rf (fn i), .int (nI k)]) (rest := []) ⟨hx, hb, hml, hown, ht⟩ (c_Row_differ l G A h _ (ft i) (fn i) (T i) (N i) k (by omega) (ht3 i hi) (hn3 i hi)) (va_cwS 3 ht (gS kw_429 kw_430 kw_10 kw_431) rfl rfl rfl yd_X5_differ.2 ⟨(Nat.le_of_ble_eq_true rfl), (Nat.le_of_ble_eq_true rfl)⟩) hP hE hS rfl hl.1 rfl (Nat.le_of_ble_eq_true rfl) dX7_clashes_106 ⟨(Nat.le_of_ble_eq_true rfl), (Nat.le_of_ble_eq_true rfl)⟩ (fun v u H locs hp hP hz hS => ?_)
          obtain ⟨rfl, eu⟩ := hp
          rw [eu] at hP
          refine W.eq (g2 := F0 m 109 ls [.int (bI (differO (T i) (N i) k))]) rfl ?_
          refine lv_if_eq (tgt := 116) hx hb dX7_clashes_109 (by decide) (fun d2 => ?_) (fun d2 => ?_)
          · refine lv_iconst (v := (nI 0)) hx hb dX7_clashes_116 (by decide) ?_
            exact fh_zret hx hb hr hlocks rfl (⟨congrArg (fun z => some (Value.int z)) (bI_0 (fun q => by rw [e4] at q; simp [seClash, k6, bI_eq.mp d2] at q)), rfl⟩) hP hS (Nat.le_of_ble_eq_true rfl) (Nat.le_of_ble_eq_true rfl) dX7_clashes_117
          · refine lv_iconst (v := (nI 1)) hx hb dX7_clashes_112 (by decide) ?_
            refine lv_goto (tgt := 117) hx hb dX7_clashes_113 (by decide) ?_
            exact fh_zret hx hb hr hlocks rfl (⟨congrArg (fun z => some (Value.int z)) (bI_1 (by have z0 := bI_nz d0; have z1 := bI_nz d1; have z2 := bI_nz d2; rw [e4] at z0 z1 ⊢; simp [seClash, k6, z0, z1, z2])), rfl⟩) hP hS (Nat.le_of_ble_eq_true rfl) (Nat.le_of_ble_eq_true rfl) dX7_clashes_117
    · have k6 : k = 6 := (nI_eq (by omega) (by decide)).mp c1
      subst k6
      refine fh_aload hx hb dX7_clashes_40 (lv_at hl 1 rfl) ?_
      refine fh_ifnonnull (tgt := 68) hx hb dX7_clashes_42 (by decide) (fun eo => ?_) (fun x5 eo => ?_)
      · have e5 := pRo_none (eo ▸ hn3 i hi)
        refine fh_aload hx hb dX7_clashes_45 (lv_at hl 0 rfl) ?_
        refine fh_ifnull (tgt := 64) hx hb dX7_clashes_47 (by decide) (fun eo => ?_) (fun x6 eo => ?_)
        · have e6 := pRo_none (eo ▸ ht3 i hi)
          refine lv_iconst (v := (nI 0)) hx hb dX7_clashes_64 (by decide) ?_
          refine lv_goto (tgt := 78) hx hb dX7_clashes_65 (by decide) ?_
          exact fh_zret hx hb hr hlocks rfl (⟨congrArg (fun z => some (Value.int z)) (by rw [e4, e5, e6]; rfl), rfl⟩) hP hS (Nat.le_of_ble_eq_true rfl) (Nat.le_of_ble_eq_true rfl) dX7_clashes_78
        · obtain ⟨f6, e6, -⟩ := pRo_some (eo ▸ ht3 i hi)
          refine fh_aload hx hb dX7_clashes_50 (lv_at hl 0 rfl) ?_
          refine fh_aload hx hb dX7_clashes_52 (lv_at hl 2 rfl) ?_
          refine fh_cS (As := [va_rf (ft i), va_rf (fb i)]) (rest := []) ⟨hx, hb, hml, hown, ht⟩ (c_Row_alike l G A h _ (ft i) (fb i) (T i) (B i) (ht3 i hi) (hb3 i hi)) (va_cwS 2 ht (gS kw_418 kw_419 kw_10 kw_420) rfl rfl rfl yd_X5_alike.2 ⟨(Nat.le_of_ble_eq_true rfl), (Nat.le_of_ble_eq_true rfl)⟩) hP hE hS rfl hl.1 rfl (Nat.le_of_ble_eq_true rfl) dX7_clashes_54 ⟨(Nat.le_of_ble_eq_true rfl), (Nat.le_of_ble_eq_true rfl)⟩ (fun v u H locs hp hP hz hS => ?_)
          obtain ⟨rfl, eu⟩ := hp
          rw [eu] at hP
          refine W.eq (g2 := F0 m 57 ls [.int (bI (alikeO (T i) (B i)))]) rfl ?_
          refine lv_if_ne (tgt := 64) hx hb dX7_clashes_57 (by decide) (fun c2 => ?_) (fun c2 => ?_)
          · refine lv_iconst (v := (nI 0)) hx hb dX7_clashes_64 (by decide) ?_
            refine lv_goto (tgt := 78) hx hb dX7_clashes_65 (by decide) ?_
            exact fh_zret hx hb hr hlocks rfl (⟨congrArg (fun z => some (Value.int z)) (by rw [e4, e5]; rw [e4] at c2; rw [e6] at c2 ⊢; exact bI_n0 c2), rfl⟩) hP hS (Nat.le_of_ble_eq_true rfl) (Nat.le_of_ble_eq_true rfl) dX7_clashes_78
          · refine lv_iconst (v := (nI 1)) hx hb dX7_clashes_60 (by decide) ?_
            refine lv_goto (tgt := 78) hx hb dX7_clashes_61 (by decide) ?_
            exact fh_zret hx hb hr hlocks rfl (⟨congrArg (fun z => some (Value.int z)) (by rw [e4, e5]; rw [e4] at c2; rw [e6] at c2 ⊢; exact bI_n1 c2), rfl⟩) hP hS (Nat.le_of_ble_eq_true rfl) (Nat.le_of_ble_eq_true rfl) dX7_clashes_78
      · obtain ⟨f5, e5, -⟩ := pRo_some (eo ▸ hn3 i hi)
        refine fh_aload hx hb dX7_clashes_68 (lv_at hl 0 rfl) ?_
        refine fh_ifnonnull (tgt := 77) hx hb dX7_clashes_70 (by decide) (fun eo => ?_) (fun x6 eo => ?_)
        · have e6 := pRo_none (eo ▸ ht3 i hi)
          refine lv_iconst (v := (nI 1)) hx hb dX7_clashes_73 (by decide) ?_
          refine lv_goto (tgt := 78) hx hb dX7_clashes_74 (by decide) ?_
          exact fh_zret hx hb hr hlocks rfl (⟨congrArg (fun z => some (Value.int z)) (by rw [e4, e5, e6]; rfl), rfl⟩) hP hS (Nat.le_of_ble_eq_true rfl) (Nat.le_of_ble_eq_true rfl) dX7_clashes_78
        · obtain ⟨f6, e6, -⟩ := pRo_some (eo ▸ ht3 i hi)
          refine lv_iconst (v := (nI 0)) hx hb dX7_clashes_77 (by decide) ?_
          exact fh_zret hx hb hr hlocks rfl (⟨congrArg (fun z => some (Value.int z)) (by rw [e4, e5, e6]; rfl), rfl⟩) hP hS (Nat.le_of_ble_eq_true rfl) (Nat.le_of_ble_eq_true rfl) dX7_clashes_78
