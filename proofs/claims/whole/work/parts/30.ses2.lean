set_option maxRecDepth 100000 in
set_option maxHeartbeats 4000000 in
theorem c_Ses_takes (l : Launch) (G : fG) (A : Nat → Prop) (h : FH) (sz : Nat) (a ba na ch sd bb nb : Nat) (num opn : Int32) (B N : St) (ha : h a = some (oSes num ba na opn ch sd)) (hB : pSt h ba bb B) (hN : pSt h na nb N) (sf : Nat → Int32) (hs : h sd = some (aI 4 420 sf)) (ta tb : Nat) (T : St) (hT : pSt h ta tb T) (i : Nat) (hi : i < 60) (k : Nat) (hk : k < 7) : Met l yX7_takes wsX7_takes { frames := 2, cells := 0, slots := 0, locals := 52 } (va_Pc [.ref a, .int (nI i), .int (nI k), .ref ta] (fh_Pre G A h sz)) (fh_Q G (fun v u => v = some (.int (bI (seTakes (B i) (N i) (T i) k (sf (i * 7 + k) - nI 1)))) ∧ u = h) A) 0 0 A := by
  refine fh_Met [.ref a, .int (nI i), .int (nI k), .ref ta] (by decide) rfl (Nat.le_of_ble_eq_true rfl) ?_
  intro p e s m below meth c hx hb hr hlocks hml hown hnm hts hsz hP hE hS ls hl
  have ht : ∀ w ∈ wB, w.before _ s = true := fun w h9 => hts w (List.mem_cons_of_mem _ h9)
  have hl : lv_has ls 5 [(0, .ref a), (1, .int (nI i)), (2, .int (nI k)), (3, .ref ta)] := hl
  have hB0 := hB; have hN0 := hN; have hT0 := hT
  obtain ⟨hb1, fb, hb2, hb3⟩ := hB
  obtain ⟨hn1, fn, hn2, hn3⟩ := hN
  obtain ⟨ht1, ft, ht2, ht3⟩ := hT
  refine lv_aload_n hx hb dX7_takes_0 rfl (lv_at hl 0 rfl) ?_
  refine fh_get (C := RX7) (T := TX7) (N := 6) hx hb ht inX7 hown hE.1 hP ha rfl 2 (by decide) (ht _ kw_151) (fun _ h9 => h9) (v := .ref na) rfl dX7_takes_1 ?_
  refine lv_iload_n hx hb dX7_takes_4 rfl (lv_at hl 1 rfl) ?_
  refine fh_cV (q := (RX8, TX8, 1)) (As := [.int (nI i)]) (rest := []) (b := na) ⟨hx, hb, hml, hown, ht⟩ (c_St_row l G A h _ na nb i fn hn1 hn2 hi) (cwV 1 ht (gV kw_369 kw_338 kw_339 kw_2 kw_340) rfl rfl rfl yd_X8_row ⟨(Nat.le_of_ble_eq_true rfl), (Nat.le_of_ble_eq_true rfl)⟩) hP hE hS hn1 rfl rfl hl.1 rfl (Nat.le_of_ble_eq_true rfl) dX7_takes_5 ⟨(Nat.le_of_ble_eq_true rfl), (Nat.le_of_ble_eq_true rfl)⟩ (fun v u H locs hp hP hz hS => ?_)
  obtain ⟨rfl, eu⟩ := hp
  rw [eu] at hP
  refine W.eq (g2 := F0 m 8 ls [va_rf (fn i)]) rfl ?_
  refine fh_astore (lv' := [(4, va_rf (fn i)), (0, .ref a), (1, .int (nI i)), (2, .int (nI k)), (3, .ref ta)]) hx hb dX7_takes_8 hl (by decide) rfl (fun ls hl => ?_)
  refine fh_aload hx hb dX7_takes_10 (lv_at hl 0 rfl) ?_
  refine lv_aload_n hx hb dX7_takes_12 rfl (lv_at hl 1 rfl) ?_
  refine fh_get (C := RX7) (T := TX7) (N := 6) hx hb ht inX7 hown hE.1 hP ha rfl 1 (by decide) (ht _ kw_150) (fun _ h9 => h9) (v := .ref ba) rfl dX7_takes_13 ?_
  refine lv_iload_n hx hb dX7_takes_16 rfl (lv_at hl 2 rfl) ?_
  refine fh_cV (q := (RX8, TX8, 1)) (As := [.int (nI i)]) (rest := [va_rf (fn i)]) (b := ba) ⟨hx, hb, hml, hown, ht⟩ (c_St_row l G A h _ ba bb i fb hb1 hb2 hi) (cwV 1 ht (gV kw_369 kw_338 kw_339 kw_2 kw_340) rfl rfl rfl yd_X8_row ⟨(Nat.le_of_ble_eq_true rfl), (Nat.le_of_ble_eq_true rfl)⟩) hP hE hS hb1 rfl rfl hl.1 rfl (Nat.le_trans (catsum _) (Nat.le_of_ble_eq_true rfl)) dX7_takes_17 ⟨(Nat.le_of_ble_eq_true rfl), (Nat.le_of_ble_eq_true rfl)⟩ (fun v u H locs hp hP hz hS => ?_)
  obtain ⟨rfl, eu⟩ := hp
  rw [eu] at hP
  refine W.eq (g2 := F0 m 20 ls [va_rf (fb i), va_rf (fn i)]) rfl ?_
  refine lv_iload_n hx hb dX7_takes_20 rfl (lv_at hl 3 rfl) ?_
  refine fh_cS (As := [va_rf (fn i), va_rf (fb i), .int (nI k)]) (rest := []) ⟨hx, hb, hml, hown, ht⟩ (c_Row_differ l G A h _ (fn i) (fb i) (N i) (B i) k (by omega) (hn3 i hi) (hb3 i hi)) (va_cwS 3 ht (gS kw_429 kw_430 kw_10 kw_431) rfl rfl rfl yd_X5_differ.2 ⟨(Nat.le_of_ble_eq_true rfl), (Nat.le_of_ble_eq_true rfl)⟩) hP hE hS rfl hl.1 rfl (Nat.le_of_ble_eq_true rfl) dX7_takes_21 ⟨(Nat.le_of_ble_eq_true rfl), (Nat.le_of_ble_eq_true rfl)⟩ (fun v u H locs hp hP hz hS => ?_)
  obtain ⟨rfl, eu⟩ := hp
  rw [eu] at hP
  refine W.eq (g2 := F0 m 24 ls [.int (bI (differO (N i) (B i) k))]) rfl ?_
  refine lv_if_eq (tgt := 65) hx hb dX7_takes_24 (by decide) (fun d0 => ?_) (fun d0 => ?_)
  · refine lv_iconst (v := (nI 0)) hx hb dX7_takes_65 (by decide) ?_
    exact fh_zret hx hb hr hlocks rfl (⟨congrArg (fun z => some (Value.int z)) (bI_0 (fun q => by simp [seTakes, bI_eq.mp d0] at q)), rfl⟩) hP hS (Nat.le_of_ble_eq_true rfl) (Nat.le_of_ble_eq_true rfl) dX7_takes_66
  · refine fh_aload hx hb dX7_takes_27 (lv_at hl 0 rfl) ?_
    refine lv_aload_n hx hb dX7_takes_29 rfl (lv_at hl 4 rfl) ?_
    refine lv_iload_n hx hb dX7_takes_30 rfl (lv_at hl 2 rfl) ?_
    refine fh_cV (q := (RX8, TX8, 1)) (As := [.int (nI i)]) (rest := [va_rf (fn i)]) (b := ta) ⟨hx, hb, hml, hown, ht⟩ (c_St_row l G A h _ ta tb i ft ht1 ht2 hi) (cwV 1 ht (gV kw_369 kw_338 kw_339 kw_2 kw_340) rfl rfl rfl yd_X8_row ⟨(Nat.le_of_ble_eq_true rfl), (Nat.le_of_ble_eq_true rfl)⟩) hP hE hS ht1 rfl rfl hl.1 rfl (Nat.le_trans (catsum _) (Nat.le_of_ble_eq_true rfl)) dX7_takes_31 ⟨(Nat.le_of_ble_eq_true rfl), (Nat.le_of_ble_eq_true rfl)⟩ (fun v u H locs hp hP hz hS => ?_)
    obtain ⟨rfl, eu⟩ := hp
    rw [eu] at hP
    refine W.eq (g2 := F0 m 34 ls [va_rf (ft i), va_rf (fn i)]) rfl ?_
    refine lv_iload_n hx hb dX7_takes_34 rfl (lv_at hl 3 rfl) ?_
    refine fh_cS (As := [va_rf (fn i), va_rf (ft i), .int (nI k)]) (rest := []) ⟨hx, hb, hml, hown, ht⟩ (c_Row_differ l G A h _ (fn i) (ft i) (N i) (T i) k (by omega) (hn3 i hi) (ht3 i hi)) (va_cwS 3 ht (gS kw_429 kw_430 kw_10 kw_431) rfl rfl rfl yd_X5_differ.2 ⟨(Nat.le_of_ble_eq_true rfl), (Nat.le_of_ble_eq_true rfl)⟩) hP hE hS rfl hl.1 rfl (Nat.le_of_ble_eq_true rfl) dX7_takes_35 ⟨(Nat.le_of_ble_eq_true rfl), (Nat.le_of_ble_eq_true rfl)⟩ (fun v u H locs hp hP hz hS => ?_)
    obtain ⟨rfl, eu⟩ := hp
    rw [eu] at hP
    refine W.eq (g2 := F0 m 38 ls [.int (bI (differO (N i) (T i) k))]) rfl ?_
    refine lv_if_eq (tgt := 65) hx hb dX7_takes_38 (by decide) (fun d1 => ?_) (fun d1 => ?_)
    · refine lv_iconst (v := (nI 0)) hx hb dX7_takes_65 (by decide) ?_
      exact fh_zret hx hb hr hlocks rfl (⟨congrArg (fun z => some (Value.int z)) (bI_0 (fun q => by simp [seTakes, bI_eq.mp d1] at q)), rfl⟩) hP hS (Nat.le_of_ble_eq_true rfl) (Nat.le_of_ble_eq_true rfl) dX7_takes_66
    · refine lv_aload_n hx hb dX7_takes_41 rfl (lv_at hl 1 rfl) ?_
      refine lv_iload_n hx hb dX7_takes_42 rfl (lv_at hl 2 rfl) ?_
      refine lv_iload_n hx hb dX7_takes_43 rfl (lv_at hl 3 rfl) ?_
      refine lv_aload_n hx hb dX7_takes_44 rfl (lv_at hl 4 rfl) ?_
      refine fh_cV (q := (RX7, TX7, 6)) (As := [.int (nI i), .int (nI k), .ref ta]) (rest := []) (b := a) ⟨hx, hb, hml, hown, ht⟩ (c_Ses_clashes l G A h _ a ba na ch sd bb nb num opn B N ha hB0 hN0 ta tb T hT0 i k hi hk) (cwV 3 ht (gV kw_461 kw_426 kw_427 kw_11 kw_428) rfl rfl rfl yd_X7_clashes ⟨(Nat.le_of_ble_eq_true rfl), (Nat.le_of_ble_eq_true rfl)⟩) hP hE hS ha rfl rfl hl.1 rfl (Nat.le_of_ble_eq_true rfl) dX7_takes_45 ⟨(Nat.le_of_ble_eq_true rfl), (Nat.le_of_ble_eq_true rfl)⟩ (fun v u H locs hp hP hz hS => ?_)
      obtain ⟨rfl, eu⟩ := hp
      rw [eu] at hP
      refine W.eq (g2 := F0 m 48 ls [.int (bI (seClash (B i) (N i) (T i) k))]) rfl ?_
      refine lv_if_eq (tgt := 61) hx hb dX7_takes_48 (by decide) (fun d2 => ?_) (fun d2 => ?_)
      · refine lv_iconst (v := (nI 1)) hx hb dX7_takes_61 (by decide) ?_
        refine lv_goto (tgt := 66) hx hb dX7_takes_62 (by decide) ?_
        exact fh_zret hx hb hr hlocks rfl (⟨congrArg (fun z => some (Value.int z)) (bI_1 (by simp [seTakes, bI_nz d0, bI_nz d1, bI_eq.mp d2])), rfl⟩) hP hS (Nat.le_of_ble_eq_true rfl) (Nat.le_of_ble_eq_true rfl) dX7_takes_66
      · refine lv_aload_n hx hb dX7_takes_51 rfl (lv_at hl 1 rfl) ?_
        refine lv_iload_n hx hb dX7_takes_52 rfl (lv_at hl 2 rfl) ?_
        refine lv_iload_n hx hb dX7_takes_53 rfl (lv_at hl 3 rfl) ?_
        refine fh_cV (q := (RX7, TX7, 6)) (As := [.int (nI i), .int (nI k)]) (rest := []) (b := a) ⟨hx, hb, hml, hown, ht⟩ (c_Ses_side l G A h _ a ba na ch sd num opn sf ha hs i k hi hk) (cwV 2 ht (gV kw_462 kw_449 kw_450 kw_11 kw_451) rfl rfl rfl yd_X7_sideOf ⟨(Nat.le_of_ble_eq_true rfl), (Nat.le_of_ble_eq_true rfl)⟩) hP hE hS ha rfl rfl hl.1 rfl (Nat.le_of_ble_eq_true rfl) dX7_takes_54 ⟨(Nat.le_of_ble_eq_true rfl), (Nat.le_of_ble_eq_true rfl)⟩ (fun v u H locs hp hP hz hS => ?_)
        obtain ⟨rfl, eu⟩ := hp
        rw [eu] at hP
        refine W.eq (g2 := F0 m 57 ls [.int (sf (i * 7 + k) - nI 1)]) rfl ?_
        refine lv_iconst (v := (nI 1)) hx hb dX7_takes_57 (by decide) ?_
        refine lv_icmp_ne (tgt := 65) hx hb dX7_takes_58 (by decide) (fun d3 => ?_) (fun d3 => ?_)
        · refine lv_iconst (v := (nI 0)) hx hb dX7_takes_65 (by decide) ?_
          exact fh_zret hx hb hr hlocks rfl (⟨congrArg (fun z => some (Value.int z)) (bI_0 (fun q => by simp [seTakes, bI_nz d2, d3] at q)), rfl⟩) hP hS (Nat.le_of_ble_eq_true rfl) (Nat.le_of_ble_eq_true rfl) dX7_takes_66
        · refine lv_iconst (v := (nI 1)) hx hb dX7_takes_61 (by decide) ?_
          refine lv_goto (tgt := 66) hx hb dX7_takes_62 (by decide) ?_
          exact fh_zret hx hb hr hlocks rfl (⟨congrArg (fun z => some (Value.int z)) (bI_1 (by simp [seTakes, bI_nz d0, bI_nz d1, d3])), rfl⟩) hP hS (Nat.le_of_ble_eq_true rfl) (Nat.le_of_ble_eq_true rfl) dX7_takes_66

set_option maxRecDepth 100000 in
set_option maxHeartbeats 4000000 in
theorem c_Ses_merged (l : Launch) (G : fG) (A : Nat → Prop) (h : FH) (sz : Nat) (hA : ∀ q, sz ≤ q → A q) (a ba na ch sd bb nb : Nat) (num opn : Int32) (B N : St) (ha : h a = some (oSes num ba na opn ch sd)) (hB : pSt h ba bb B) (hN : pSt h na nb N) (sf : Nat → Int32) (hs : h sd = some (aI 4 420 sf)) (ta tb : Nat) (T : St) (hT : pSt h ta tb T) (i : Nat) (hi : i < 60) : Met l yX7_merged wsX7_merged { frames := 3, cells := 12, slots := 42, locals := 80 } (va_Pc [.ref a, .int (nI i), .ref ta] (fh_Pre G A h sz)) (fh_Q G (fun v u => ∃ o, v = some (va_rf o) ∧ fh_ext sz h u ∧ pRo u o (seMerged (B i) (N i) (T i) (fun k => sf (i * 7 + k) - nI 1))) A) 12 42 A := by
  refine fh_Met [.ref a, .int (nI i), .ref ta] (by decide) rfl (Nat.le_of_ble_eq_true rfl) ?_
  intro p e s m below meth c hx hb hr hlocks hml hown hnm hts hsz hP hE hS ls hl
  have ht : ∀ w ∈ wB, w.before _ s = true := fun w h9 => hts w (List.mem_cons_of_mem _ h9)
  have hl : lv_has ls 8 [(0, .ref a), (1, .int (nI i)), (2, .ref ta)] := hl
  have hA0 : ∀ q, s.heap.size ≤ q → A q := fun q hq => hA q (by rw [← hsz]; exact hq)
  have hlt0 : ∀ a e, h a = some e → a < sz := fun a9 e9 q9 => by rw [← hsz]; exact hP.lt q9
  have hB0 := hB; have hN0 := hN; have hT0 := hT
  obtain ⟨hb1, fb, hb2, hb3⟩ := hB
  obtain ⟨hn1, fn, hn2, hn3⟩ := hN
  obtain ⟨ht1, ft, ht2, ht3⟩ := hT
  refine lv_aload_n hx hb dX7_merged_0 rfl (lv_at hl 0 rfl) ?_
  refine fh_get (C := RX7) (T := TX7) (N := 6) hx hb ht inX7 hown hE.1 hP ha rfl 1 (by decide) (ht _ kw_150) (fun _ h9 => h9) (v := .ref ba) rfl dX7_merged_1 ?_
  refine lv_iload_n hx hb dX7_merged_4 rfl (lv_at hl 1 rfl) ?_
  refine fh_cV (q := (RX8, TX8, 1)) (As := [.int (nI i)]) (rest := []) (b := ba) ⟨hx, hb, hml, hown, ht⟩ (c_St_row l G A h _ ba bb i fb hb1 hb2 hi) (cwV 1 ht (gV kw_369 kw_338 kw_339 kw_2 kw_340) rfl rfl rfl yd_X8_row ⟨(Nat.le_of_ble_eq_true rfl), (Nat.le_of_ble_eq_true rfl)⟩) hP hE hS hb1 rfl rfl hl.1 rfl (Nat.le_of_ble_eq_true rfl) dX7_merged_5 ⟨(Nat.le_of_ble_eq_true rfl), (Nat.le_of_ble_eq_true rfl)⟩ (fun v u H locs hp hP hz hS => ?_)
  obtain ⟨rfl, eu⟩ := hp
  rw [eu] at hP
  refine W.eq (g2 := F0 m 8 ls [va_rf (fb i)]) rfl ?_
  refine fh_astore_n (lv' := [(3, va_rf (fb i)), (0, .ref a), (1, .int (nI i)), (2, .ref ta)]) hx hb dX7_merged_8 rfl hl (by decide) rfl (fun ls hl => ?_)
  refine lv_aload_n hx hb dX7_merged_9 rfl (lv_at hl 1 rfl) ?_
  refine fh_get (C := RX7) (T := TX7) (N := 6) hx hb ht inX7 hown hE.1 hP ha rfl 2 (by decide) (ht _ kw_151) (fun _ h9 => h9) (v := .ref na) rfl dX7_merged_10 ?_
  refine lv_iload_n hx hb dX7_merged_13 rfl (lv_at hl 2 rfl) ?_
  refine fh_cV (q := (RX8, TX8, 1)) (As := [.int (nI i)]) (rest := []) (b := na) ⟨hx, hb, hml, hown, ht⟩ (c_St_row l G A h _ na nb i fn hn1 hn2 hi) (cwV 1 ht (gV kw_369 kw_338 kw_339 kw_2 kw_340) rfl rfl rfl yd_X8_row ⟨(Nat.le_of_ble_eq_true rfl), (Nat.le_of_ble_eq_true rfl)⟩) hP hE hS hn1 rfl rfl hl.1 rfl (Nat.le_of_ble_eq_true rfl) dX7_merged_14 ⟨(Nat.le_of_ble_eq_true rfl), (Nat.le_of_ble_eq_true rfl)⟩ (fun v u H locs hp hP hz hS => ?_)
  obtain ⟨rfl, eu⟩ := hp
  rw [eu] at hP
  refine W.eq (g2 := F0 m 17 ls [va_rf (fn i)]) rfl ?_
  refine fh_astore (lv' := [(4, va_rf (fn i)), (3, va_rf (fb i)), (0, .ref a), (1, .int (nI i)), (2, .ref ta)]) hx hb dX7_merged_17 hl (by decide) (by generalize (fb i) = o90; generalize (fn i) = o91; cases o90 <;> cases o91 <;> rfl) (fun ls hl => ?_)
  refine lv_aload_n hx hb dX7_merged_19 rfl (lv_at hl 4 rfl) ?_
  refine lv_iload_n hx hb dX7_merged_20 rfl (lv_at hl 3 rfl) ?_
  refine fh_cV (q := (RX8, TX8, 1)) (As := [.int (nI i)]) (rest := []) (b := ta) ⟨hx, hb, hml, hown, ht⟩ (c_St_row l G A h _ ta tb i ft ht1 ht2 hi) (cwV 1 ht (gV kw_369 kw_338 kw_339 kw_2 kw_340) rfl rfl rfl yd_X8_row ⟨(Nat.le_of_ble_eq_true rfl), (Nat.le_of_ble_eq_true rfl)⟩) hP hE hS ht1 rfl rfl hl.1 rfl (Nat.le_of_ble_eq_true rfl) dX7_merged_21 ⟨(Nat.le_of_ble_eq_true rfl), (Nat.le_of_ble_eq_true rfl)⟩ (fun v u H locs hp hP hz hS => ?_)
  obtain ⟨rfl, eu⟩ := hp
  rw [eu] at hP
  refine W.eq (g2 := F0 m 24 ls [va_rf (ft i)]) rfl ?_
  refine fh_astore (lv' := [(5, va_rf (ft i)), (4, va_rf (fn i)), (3, va_rf (fb i)), (0, .ref a), (1, .int (nI i)), (2, .ref ta)]) hx hb dX7_merged_24 hl (by decide) (by generalize (fn i) = o90; generalize (fb i) = o91; generalize (ft i) = o92; cases o90 <;> cases o91 <;> cases o92 <;> rfl) (fun ls hl => ?_)
  refine lv_aload_n hx hb dX7_merged_26 rfl (lv_at hl 3 rfl) ?_
  refine lv_iload_n hx hb dX7_merged_27 rfl (lv_at hl 4 rfl) ?_
  refine fh_cV (q := (RX7, TX7, 6)) (As := [.int (nI i)]) (rest := []) (b := a) ⟨hx, hb, hml, hown, ht⟩ (c_Ses_changed l G A h _ a ba na ch sd bb nb num opn B N ha hB0 hN0 i hi) (cwV 1 ht (gV kw_460 kw_415 kw_416 kw_11 kw_417) rfl rfl rfl yd_X7_changed ⟨(Nat.le_of_ble_eq_true rfl), (Nat.le_of_ble_eq_true rfl)⟩) hP hE hS ha rfl rfl hl.1 rfl (Nat.le_of_ble_eq_true rfl) dX7_merged_28 ⟨(Nat.le_of_ble_eq_true rfl), (Nat.le_of_ble_eq_true rfl)⟩ (fun v u H locs hp hP hz hS => ?_)
  obtain ⟨rfl, eu⟩ := hp
  rw [eu] at hP
  refine W.eq (g2 := F0 m 31 ls [.int (bI (!alikeO (B i) (N i)))]) rfl ?_
  refine lv_if_ne (tgt := 37) hx hb dX7_merged_31 (by decide) (fun c1 => ?_) (fun c1 => ?_)
  · have e1 : ¬ alikeO (B i) (N i) = true := by have z := bI_nz c1; revert z; cases alikeO (B i) (N i) <;> decide
    refine lv_aload_n hx hb dX7_merged_37 rfl (lv_at hl 3 rfl) ?_
    refine lv_iload_n hx hb dX7_merged_38 rfl (lv_at hl 4 rfl) ?_
    refine lv_bipush (v := (nI 6)) hx hb dX7_merged_39 (by decide) ?_
    refine lv_aload_n hx hb dX7_merged_41 rfl (lv_at hl 5 rfl) ?_
    refine fh_cV (q := (RX7, TX7, 6)) (As := [.int (nI i), .int (nI 6), .ref ta]) (rest := []) (b := a) ⟨hx, hb, hml, hown, ht⟩ (c_Ses_clashes l G A h _ a ba na ch sd bb nb num opn B N ha hB0 hN0 ta tb T hT0 i 6 hi (by decide)) (cwV 3 ht (gV kw_461 kw_426 kw_427 kw_11 kw_428) rfl rfl rfl yd_X7_clashes ⟨(Nat.le_of_ble_eq_true rfl), (Nat.le_of_ble_eq_true rfl)⟩) hP hE hS ha rfl rfl hl.1 rfl (Nat.le_of_ble_eq_true rfl) dX7_merged_42 ⟨(Nat.le_of_ble_eq_true rfl), (Nat.le_of_ble_eq_true rfl)⟩ (fun v u H locs hp hP hz hS => ?_)
    obtain ⟨rfl, eu⟩ := hp
    rw [eu] at hP
    refine W.eq (g2 := F0 m 45 ls [.int (bI (seClash (B i) (N i) (T i) 6))]) rfl ?_
    refine lv_if_eq (tgt := 67) hx hb dX7_merged_45 (by decide) (fun c2 => ?_) (fun c2 => ?_)
    · have e2 : ¬ seClash (B i) (N i) (T i) 6 = true := by rw [bI_eq.mp c2]; decide
      refine fh_aload hx hb dX7_merged_67 (lv_at hl 1 rfl) ?_
      refine fh_ifnull (tgt := 86) hx hb dX7_merged_69 (by decide) (fun eo => ?_) (fun x4 eo => ?_)
      · have e4 := pRo_none (eo ▸ hn3 i hi)
        refine fh_aload hx hb dX7_merged_86 (lv_at hl 1 rfl) ?_
        exact fh_aret (o := (fn i)) hx hb hr hlocks (⟨fn i, rfl, fh_ext.rf, by rw [seM4 e1 e2 (Or.inl e4)]; exact hn3 i hi⟩) hP hS (Nat.le_of_ble_eq_true rfl) (Nat.le_of_ble_eq_true rfl) dX7_merged_88
      · obtain ⟨m4, e4, hm4⟩ := pRo_some (eo ▸ hn3 i hi)
        have hl : lv_has ls 8 [(5, va_rf (ft i)), (4, .ref x4), (3, va_rf (fb i)), (0, .ref a), (1, .int (nI i)), (2, .ref ta)] := by rw [eo] at hl; exact hl
        have hro4 : pRo h (some x4) (N i) := eo ▸ hn3 i hi
        refine fh_aload hx hb dX7_merged_72 (lv_at hl 0 rfl) ?_
        refine fh_ifnull (tgt := 86) hx hb dX7_merged_74 (by decide) (fun eo => ?_) (fun x5 eo => ?_)
        · have e5 := pRo_none (eo ▸ ht3 i hi)
          refine lv_aload hx hb dX7_merged_86 (lv_at hl 1 rfl) ?_
          exact fh_aret (o := some x4) hx hb hr hlocks (⟨some x4, rfl, fh_ext.rf, by rw [seM4 e1 e2 (Or.inr e5)]; exact hro4⟩) hP hS (Nat.le_of_ble_eq_true rfl) (Nat.le_of_ble_eq_true rfl) dX7_merged_88
        · obtain ⟨m5, e5, hm5⟩ := pRo_some (eo ▸ ht3 i hi)
          have hl : lv_has ls 8 [(5, .ref x5), (4, .ref x4), (3, va_rf (fb i)), (0, .ref a), (1, .int (nI i)), (2, .ref ta)] := by rw [eo] at hl; exact hl
          refine lv_aload hx hb dX7_merged_77 (lv_at hl 0 rfl) ?_
          refine fh_aload_n hx hb dX7_merged_79 rfl (lv_at hl 2 rfl) ?_
          have hro5 : pRo h (some x5) (T i) := eo ▸ ht3 i hi
          refine fh_cS (As := [.ref x5, va_rf (fb i)]) (rest := []) ⟨hx, hb, hml, hown, ht⟩ (c_Row_alike l G A h _ (some x5) (fb i) (T i) (B i) hro5 (hb3 i hi)) (va_cwS 2 ht (gS kw_418 kw_419 kw_10 kw_420) rfl rfl rfl yd_X5_alike.2 ⟨(Nat.le_of_ble_eq_true rfl), (Nat.le_of_ble_eq_true rfl)⟩) hP hE hS rfl hl.1 rfl (Nat.le_of_ble_eq_true rfl) dX7_merged_80 ⟨(Nat.le_of_ble_eq_true rfl), (Nat.le_of_ble_eq_true rfl)⟩ (fun v u H locs hp hP hz hS => ?_)
          obtain ⟨rfl, eu⟩ := hp
          rw [eu] at hP
          refine W.eq (g2 := F0 m 83 ls [.int (bI (alikeO (T i) (B i)))]) rfl ?_
          refine lv_if_eq (tgt := 89) hx hb dX7_merged_83 (by decide) (fun c6 => ?_) (fun c6 => ?_)
          · have e6 : ¬ alikeO (T i) (B i) = true := by rw [bI_eq.mp c6]; decide
            refine lv_aload hx hb dX7_merged_89 (lv_at hl 0 rfl) ?_
            refine lv_astore (lv' := [(6, .ref x5), (5, .ref x5), (4, .ref x4), (3, va_rf (fb i)), (0, .ref a), (1, .int (nI i)), (2, .ref ta)]) hx hb dX7_merged_91 hl (by decide) rfl (fun ls hl => ?_)
            refine lv_iconst (v := (nI 0)) hx hb dX7_merged_93 (by decide) ?_
            refine lv_istore (lv' := [(7, .int (nI 0)), (6, .ref x5), (5, .ref x5), (4, .ref x4), (3, va_rf (fb i)), (0, .ref a), (1, .int (nI i)), (2, .ref ta)]) hx hb dX7_merged_94 hl (by decide) rfl (fun ls hl => ?_)
            have loop : ∀ (n j : Nat), j + n = 6 → ∀ (hh : FH) (cr : Nat) (gg : Rw) (_ : fh_ext sz h hh) (_ : pRow hh cr gg) (_ : ∀ k, k < j → gg k = if seTakes (B i) (N i) (T i) k (sf (i * 7 + k) - nI 1) = true then m4 k else m5 k) (_ : ∀ k, j ≤ k → k < 6 → gg k = m5 k), ∀ (H : Heap) (locs : List Loc) (ls : Array Slot), fh_P G vwCl hh H → va_S A s.heap H locs → lv_has ls 8 [(7, .int (nI j)), (6, .ref cr), (5, .ref x5), (4, .ref x4), (3, va_rf (fb i)), (0, .ref a), (1, .int (nI i)), (2, .ref ta)] → W p l e (headSpec wsX7_merged { frames := 3, cells := 12, slots := 42, locals := 80 }).room s m [.ref a, .int (nI i), .ref ta].toArray below meth c H locs (2 * j) (7 * j) (MQ below (fh_Q G (fun v u => ∃ o, v = some (va_rf o) ∧ fh_ext sz h u ∧ pRo u o (seMerged (B i) (N i) (T i) (fun k => sf (i * 7 + k) - nI 1))) A) [.ref a, .int (nI i), .ref ta].toArray s 12 42 A) (F0 m 96 ls []) := by
              intro n
              induction n with
              | zero =>
                intro j hin hh cr gg he hcr h1 h2 H locs ls hP hS hl
                refine lv_iload hx hb dX7_merged_96 (lv_at hl 0 rfl) ?_
                refine lv_bipush (v := (nI 6)) hx hb dX7_merged_98 (by decide) ?_
                refine lv_icmp_ge (tgt := 136) hx hb dX7_merged_100 (by decide) (fun _ => ?_) (fun c9 => absurd (nI_le (by omega) (by omega)) c9)
                refine lv_aload hx hb dX7_merged_136 (lv_at hl 1 rfl) ?_
                exact fh_aret (o := some cr) hx hb hr hlocks (⟨some cr, rfl, he, by rw [e4] at e1 e2 h1 ⊢; rw [e5] at e2 e6 h1 ⊢; rw [seM7 e1 e2 e6]; exact pRow_eq hcr (fun k hk => h1 k (by omega))⟩) hP hS (by omega) (by omega) dX7_merged_138
              | succ n ih =>
                intro j hin hh cr gg he hcr h1 h2 H locs ls hP hS hl
                have hs0 : hh sd = some (aI 4 420 sf) := he.at hs (hlt0 _ _ hs)
                have ha0 : hh a = some (oSes num ba na opn ch sd) := he.at ha (hlt0 _ _ ha)
                refine lv_iload hx hb dX7_merged_96 (lv_at hl 0 rfl) ?_
                refine lv_bipush (v := (nI 6)) hx hb dX7_merged_98 (by decide) ?_
                refine lv_icmp_ge (tgt := 136) hx hb dX7_merged_100 (by decide) (fun c9 => absurd c9 (nI_ge (by omega) (by decide))) (fun _ => ?_)
                refine lv_aload_n hx hb dX7_merged_103 rfl (lv_at hl 5 rfl) ?_
                refine lv_iload_n hx hb dX7_merged_104 rfl (lv_at hl 6 rfl) ?_
                refine lv_iload hx hb dX7_merged_105 (lv_at hl 0 rfl) ?_
                refine lv_aload_n hx hb dX7_merged_107 rfl (lv_at hl 7 rfl) ?_
                refine fh_cV (q := (RX7, TX7, 6)) (As := [.int (nI i), .int (nI j), .ref ta]) (rest := []) (b := a) ⟨hx, hb, hml, hown, ht⟩ (c_Ses_takes l G A hh _ a ba na ch sd bb nb num opn B N ha0 (pSt_ext he hlt0 hB0) (pSt_ext he hlt0 hN0) sf hs0 ta tb T (pSt_ext he hlt0 hT0) i hi j (by omega)) (cwV 3 ht (gV kw_463 kw_465 kp_11 kw_11 kw_466) rfl rfl rfl yd_X7_takes ⟨(Nat.le_of_ble_eq_true rfl), (Nat.le_of_ble_eq_true rfl)⟩) hP hE hS ha0 rfl rfl hl.1 rfl (Nat.le_of_ble_eq_true rfl) dX7_merged_108 ⟨(by show _ ≤ 12; omega), (by show _ ≤ 42; omega)⟩ (fun v u H locs hp hP hz hS => ?_)
                obtain ⟨rfl, eu⟩ := hp
                rw [eu] at hP
                refine W.eq (g2 := F0 m 111 ls [.int (bI (seTakes (B i) (N i) (T i) j (sf (i * 7 + j) - nI 1)))]) rfl ?_
                refine lv_if_eq (tgt := 130) hx hb dX7_merged_111 (by decide) (fun c7 => ?_) (fun c7 => ?_)
                · refine lv_iinc (v := nI (j + 1)) (lv' := [(7, .int (nI (j + 1))), (6, .ref cr), (5, .ref x5), (4, .ref x4), (3, va_rf (fb i)), (0, .ref a), (1, .int (nI i)), (2, .ref ta)]) hx hb dX7_merged_130 hl (k := 0) rfl (nI_1 _) (by decide) rfl (fun ls hl => ?_)
                  refine lv_goto (tgt := 96) hx hb dX7_merged_133 (by decide) ?_
                  refine W.widen (k := 2 * (j + 1)) (n := 7 * (j + 1)) (by omega) (by omega) ?_
                  exact ih (j + 1) (by omega) hh cr gg he hcr (lt_s h1 (by rw [bI_eq.mp c7]; exact h2 j (Nat.le_refl j) (by omega))) (fun k hk => h2 k (by omega)) H locs ls hP hS (lv_sub hl [0, 1, 2, 3, 4, 5, 6, 7] rfl)
                · have hm4u : pRow hh x4 m4 := pRow_ext he hlt0 hm4
                  obtain ⟨y4, g4, hy1, hy2, hy3⟩ := hm4u
                  have hcr0 := hcr
                  obtain ⟨yc, gc, hc1, hc2, hc3⟩ := hcr0
                  refine lv_aload hx hb dX7_merged_114 (lv_at hl 1 rfl) ?_
                  refine lv_iload hx hb dX7_merged_116 (lv_at hl 0 rfl) ?_
                  refine lv_aload hx hb dX7_merged_118 (lv_at hl 3 rfl) ?_
                  refine lv_iload hx hb dX7_merged_120 (lv_at hl 0 rfl) ?_
                  refine fh_cV (q := (RX5, TX5, 1)) (As := [.int (nI j)]) (rest := [.int (nI j), .ref cr]) (b := x4) ⟨hx, hb, hml, hown, ht⟩ (c_Row_value l G A hh _ x4 y4 j g4 hy1 hy2 (by omega)) (cwV 1 ht (gV kw_467 kw_347 kw_348 kw_10 kw_349) rfl rfl rfl yd_X5_value ⟨(Nat.le_of_ble_eq_true rfl), (Nat.le_of_ble_eq_true rfl)⟩) hP hE hS hy1 rfl rfl hl.1 rfl (Nat.le_of_ble_eq_true rfl) dX7_merged_122 ⟨(by show _ ≤ 12; omega), (by show _ ≤ 42; omega)⟩ (fun v u H locs hp hP hz hS => ?_)
                  obtain ⟨rfl, eu⟩ := hp
                  rw [eu] at hP
                  refine W.eq (g2 := F0 m 125 ls [.long (g4 j), .int (nI j), .ref cr]) rfl ?_
                  have hS9 := hS.1
                  refine fh_cV (q := (RX5, TX5, 1)) (As := [.int (nI j), .long (g4 j)]) (rest := []) (b := cr) ⟨hx, hb, hml, hown, ht⟩ (c_Row_with l G A hh _ (fun q hq => hA0 q (Nat.le_trans hS.1 hq)) cr j (g4 j) gg hcr (by omega)) (cwV 2 ht (gV kw_468 kw_360 kw_361 kw_10 kw_362) rfl rfl rfl yd_X5_with ⟨(Nat.le_of_ble_eq_true rfl), (Nat.le_of_ble_eq_true rfl)⟩) hP hE hS hc1 rfl rfl hl.1 rfl (Nat.le_of_ble_eq_true rfl) dX7_merged_125 ⟨(by show _ ≤ 12; omega), (by show _ ≤ 42; omega)⟩ (fun v u H locs hp hP hz hS => ?_)
                  obtain ⟨r, hr9, rfl, he9, hr8⟩ := hp
                  refine W.eq (g2 := F0 m 128 ls [.ref r]) rfl ?_
                  refine lv_astore (lv' := [(6, .ref r), (7, .int (nI j)), (5, .ref x5), (4, .ref x4), (3, va_rf (fb i)), (0, .ref a), (1, .int (nI i)), (2, .ref ta)]) hx hb dX7_merged_128 hl (by decide) rfl (fun ls hl => ?_)
                  refine lv_iinc (v := nI (j + 1)) (lv' := [(7, .int (nI (j + 1))), (6, .ref r), (5, .ref x5), (4, .ref x4), (3, va_rf (fb i)), (0, .ref a), (1, .int (nI i)), (2, .ref ta)]) hx hb dX7_merged_130 hl (k := 1) rfl (nI_1 _) (by decide) rfl (fun ls hl => ?_)
                  refine lv_goto (tgt := 96) hx hb dX7_merged_133 (by decide) ?_
                  refine W.widen (k := 2 * (j + 1)) (n := 7 * (j + 1)) (by omega) (by omega) ?_
                  exact ih (j + 1) (by omega) u r (rwSet gg j (g4 j)) (he.trans he9 (by rw [← hsz]; exact Nat.le_trans hS9 (Nat.le_refl _))) hr8 (lt_s (fun k hk => (rwSet_n (by omega)).trans (h1 k hk)) (by rw [rwSet_s, if_pos (bI_nz c7)]; exact hy3 j (by omega))) (fun k hk h6 => (rwSet_n (by omega)).trans (h2 k (by omega) h6)) H locs ls hP hS (lv_sub hl [0, 1, 2, 3, 4, 5, 6, 7] rfl)
            exact loop 6 0 (by omega) h x5 m5 fh_ext.rf hm5 (fun k hk => absurd hk (Nat.not_lt_zero k)) (fun _ _ _ => rfl) _ _ _ hP hS hl
          · refine lv_aload hx hb dX7_merged_86 (lv_at hl 1 rfl) ?_
            have e6 := bI_nz c6
            exact fh_aret (o := some x4) hx hb hr hlocks (⟨some x4, rfl, fh_ext.rf, by rw [e4] at e1 e2 hro4 ⊢; rw [e5] at e2 e6 ⊢; rw [seM6 e1 e2 e6]; exact hro4⟩) hP hS (Nat.le_of_ble_eq_true rfl) (Nat.le_of_ble_eq_true rfl) dX7_merged_88
    · have e2 := bI_nz c2
      refine lv_aload_n hx hb dX7_merged_48 rfl (lv_at hl 3 rfl) ?_
      refine lv_iload_n hx hb dX7_merged_49 rfl (lv_at hl 4 rfl) ?_
      refine lv_bipush (v := (nI 6)) hx hb dX7_merged_50 (by decide) ?_
      refine fh_cV (q := (RX7, TX7, 6)) (As := [.int (nI i), .int (nI 6)]) (rest := []) (b := a) ⟨hx, hb, hml, hown, ht⟩ (c_Ses_side l G A h _ a ba na ch sd num opn sf ha hs i 6 hi (by decide)) (cwV 2 ht (gV kw_462 kw_449 kw_450 kw_11 kw_451) rfl rfl rfl yd_X7_sideOf ⟨(Nat.le_of_ble_eq_true rfl), (Nat.le_of_ble_eq_true rfl)⟩) hP hE hS ha rfl rfl hl.1 rfl (Nat.le_of_ble_eq_true rfl) dX7_merged_52 ⟨(Nat.le_of_ble_eq_true rfl), (Nat.le_of_ble_eq_true rfl)⟩ (fun v u H locs hp hP hz hS => ?_)
      obtain ⟨rfl, eu⟩ := hp
      rw [eu] at hP
      refine W.eq (g2 := F0 m 55 ls [.int (sf (i * 7 + 6) - nI 1)]) rfl ?_
      refine lv_iconst (v := (nI 1)) hx hb dX7_merged_55 (by decide) ?_
      refine lv_icmp_ne (tgt := 64) hx hb dX7_merged_56 (by decide) (fun c3 => ?_) (fun c3 => ?_)
      · refine fh_aload hx hb dX7_merged_64 (lv_at hl 0 rfl) ?_
        exact fh_aret (o := (ft i)) hx hb hr hlocks (⟨ft i, rfl, fh_ext.rf, by rw [seM3 e1 e2 c3]; exact ht3 i hi⟩) hP hS (Nat.le_of_ble_eq_true rfl) (Nat.le_of_ble_eq_true rfl) dX7_merged_66
      · refine fh_aload hx hb dX7_merged_59 (lv_at hl 1 rfl) ?_
        refine lv_goto (tgt := 66) hx hb dX7_merged_61 (by decide) ?_
        exact fh_aret (o := (fn i)) hx hb hr hlocks (⟨fn i, rfl, fh_ext.rf, by rw [seM2 e1 e2 c3]; exact hn3 i hi⟩) hP hS (Nat.le_of_ble_eq_true rfl) (Nat.le_of_ble_eq_true rfl) dX7_merged_66
  · have e1 : alikeO (B i) (N i) = true := by have z := bI_eq.mp c1; revert z; cases alikeO (B i) (N i) <;> decide
    refine fh_aload hx hb dX7_merged_34 (lv_at hl 0 rfl) ?_
    exact fh_aret (o := (ft i)) hx hb hr hlocks (⟨ft i, rfl, fh_ext.rf, by rw [seM1 e1]; exact ht3 i hi⟩) hP hS (Nat.le_of_ble_eq_true rfl) (Nat.le_of_ble_eq_true rfl) dX7_merged_36
