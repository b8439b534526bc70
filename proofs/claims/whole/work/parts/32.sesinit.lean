set_option maxRecDepth 100000 in
set_option maxHeartbeats 4000000 in
theorem c_Rule_broken (l : Launch) (G : fG) (A : Nat → Prop) (h : FH) (sz : Nat) (a ta tb i j : Nat) (d : Int64) (T : St) (ha : h a = some (oRule (nI i) (nI j) d)) (hT : pSt h ta tb T) (hi : i < 60) (hj : j < 60) : Met l yX6_brokenIn wsX6_brokenIn { frames := 2, cells := 0, slots := 0, locals := 46 } (va_Pc [.ref a, .ref ta] (fh_Pre G A h sz)) (fh_Q G (fun v u => v = some (.int (bI (rlBroken (T i) (T j) d))) ∧ u = h) A) 0 0 A := by
  refine fh_Met [.ref a, .ref ta] (by decide) rfl (Nat.le_of_ble_eq_true rfl) ?_
  intro p e s m below meth c hx hb hr hlocks hml hown hnm hts hsz hP hE hS ls hl
  have ht : ∀ w ∈ wB, w.before _ s = true := fun w h9 => hts w (List.mem_cons_of_mem _ h9)
  have hl : lv_has ls 4 [(0, .ref a), (1, .ref ta)] := hl
  obtain ⟨ht1, ft, ht2, ht3⟩ := hT
  refine lv_aload_n hx hb dX6_brokenIn_0 rfl (lv_at hl 1 rfl) ?_
  refine lv_aload_n hx hb dX6_brokenIn_1 rfl (lv_at hl 0 rfl) ?_
  refine fh_get (C := RX6) (T := TX6) (N := 3) hx hb ht inX6 hown hE.1 hP ha rfl 0 (by decide) (ht _ kw_562) (fun _ h9 => h9) (v := .int (nI i)) rfl dX6_brokenIn_2 ?_
  refine fh_cV (q := (RX8, TX8, 1)) (As := [.int (nI i)]) (rest := []) (b := ta) ⟨hx, hb, hml, hown, ht⟩ (c_St_row l G A h _ ta tb i ft ht1 ht2 hi) (cwV 1 ht (gV kw_586 kw_338 kw_339 kw_2 kw_340) rfl rfl rfl yd_X8_row ⟨(Nat.le_of_ble_eq_true rfl), (Nat.le_of_ble_eq_true rfl)⟩) hP hE hS ht1 rfl rfl hl.1 rfl (Nat.le_of_ble_eq_true rfl) dX6_brokenIn_5 ⟨(Nat.le_of_ble_eq_true rfl), (Nat.le_of_ble_eq_true rfl)⟩ (fun v u H locs hp hP hz hS => ?_)
  obtain ⟨rfl, eu⟩ := hp
  rw [eu] at hP
  refine W.eq (g2 := F0 m 8 ls [va_rf (ft i)]) rfl ?_
  refine fh_astore_n (lv' := [(2, va_rf (ft i)), (0, .ref a), (1, .ref ta)]) hx hb dX6_brokenIn_8 rfl hl (by decide) rfl (fun ls hl => ?_)
  refine lv_aload_n hx hb dX6_brokenIn_9 rfl (lv_at hl 2 rfl) ?_
  refine lv_aload_n hx hb dX6_brokenIn_10 rfl (lv_at hl 1 rfl) ?_
  refine fh_get (C := RX6) (T := TX6) (N := 3) hx hb ht inX6 hown hE.1 hP ha rfl 1 (by decide) (ht _ kw_564) (fun _ h9 => h9) (v := .int (nI j)) rfl dX6_brokenIn_11 ?_
  refine fh_cV (q := (RX8, TX8, 1)) (As := [.int (nI j)]) (rest := []) (b := ta) ⟨hx, hb, hml, hown, ht⟩ (c_St_row l G A h _ ta tb j ft ht1 ht2 hj) (cwV 1 ht (gV kw_586 kw_338 kw_339 kw_2 kw_340) rfl rfl rfl yd_X8_row ⟨(Nat.le_of_ble_eq_true rfl), (Nat.le_of_ble_eq_true rfl)⟩) hP hE hS ht1 rfl rfl hl.1 rfl (Nat.le_of_ble_eq_true rfl) dX6_brokenIn_14 ⟨(Nat.le_of_ble_eq_true rfl), (Nat.le_of_ble_eq_true rfl)⟩ (fun v u H locs hp hP hz hS => ?_)
  obtain ⟨rfl, eu⟩ := hp
  rw [eu] at hP
  refine W.eq (g2 := F0 m 17 ls [va_rf (ft j)]) rfl ?_
  refine fh_astore_n (lv' := [(3, va_rf (ft j)), (2, va_rf (ft i)), (0, .ref a), (1, .ref ta)]) hx hb dX6_brokenIn_17 rfl hl (by decide) (by generalize (ft i) = o90; generalize (ft j) = o91; cases o90 <;> cases o91 <;> rfl) (fun ls hl => ?_)
  refine fh_aload_n hx hb dX6_brokenIn_18 rfl (lv_at hl 1 rfl) ?_
  refine fh_ifnull (tgt := 26) hx hb dX6_brokenIn_19 (by decide) (fun eo => ?_) (fun x eo => ?_)
  · have e4 := pRo_none (eo ▸ ht3 i hi)
    refine lv_iconst (v := (nI 0)) hx hb dX6_brokenIn_26 (by decide) ?_
    exact fh_zret hx hb hr hlocks rfl (⟨congrArg (fun z => some (Value.int z)) (by rw [e4]; rfl), rfl⟩) hP hS (Nat.le_of_ble_eq_true rfl) (Nat.le_of_ble_eq_true rfl) dX6_brokenIn_27
  · have eo1 := eo
    obtain ⟨f4, e4, y4, g4, hx1, hx2, hx3⟩ := pRo_some (eo ▸ ht3 i hi)
    have hl : lv_has ls 4 [(3, va_rf (ft j)), (2, .ref x), (0, .ref a), (1, .ref ta)] := by rw [eo] at hl; exact hl
    refine fh_aload_n hx hb dX6_brokenIn_22 rfl (lv_at hl 0 rfl) ?_
    refine fh_ifnonnull (tgt := 28) hx hb dX6_brokenIn_23 (by decide) (fun eo => ?_) (fun y eo => ?_)
    · have e5 := pRo_none (eo ▸ ht3 j hj)
      refine lv_iconst (v := (nI 0)) hx hb dX6_brokenIn_26 (by decide) ?_
      exact fh_zret hx hb hr hlocks rfl (⟨congrArg (fun z => some (Value.int z)) (by rw [e4, e5]; rfl), rfl⟩) hP hS (Nat.le_of_ble_eq_true rfl) (Nat.le_of_ble_eq_true rfl) dX6_brokenIn_27
    · obtain ⟨f5, e5, y5, g5, hy1, hy2, hy3⟩ := pRo_some (eo ▸ ht3 j hj)
      have hl : lv_has ls 4 [(3, .ref y), (2, .ref x), (0, .ref a), (1, .ref ta)] := by rw [eo] at hl; exact hl
      refine lv_aload_n hx hb dX6_brokenIn_28 rfl (lv_at hl 1 rfl) ?_
      refine lv_iconst (v := (nI 0)) hx hb dX6_brokenIn_29 (by decide) ?_
      refine fh_cV (q := (RX5, TX5, 1)) (As := [.int (nI 0)]) (rest := []) (b := x) ⟨hx, hb, hml, hown, ht⟩ (c_Row_value l G A h _ x y4 0 g4 hx1 hx2 (by decide)) (cwV 1 ht (gV kw_587 kw_347 kw_348 kw_10 kw_349) rfl rfl rfl yd_X5_value ⟨(Nat.le_of_ble_eq_true rfl), (Nat.le_of_ble_eq_true rfl)⟩) hP hE hS hx1 rfl rfl hl.1 rfl (Nat.le_of_ble_eq_true rfl) dX6_brokenIn_30 ⟨(Nat.le_of_ble_eq_true rfl), (Nat.le_of_ble_eq_true rfl)⟩ (fun v u H locs hp hP hz hS => ?_)
      obtain ⟨rfl, eu⟩ := hp
      rw [eu] at hP
      refine W.eq (g2 := F0 m 33 ls [.long (g4 0)]) rfl ?_
      refine lv_aload_n hx hb dX6_brokenIn_33 rfl (lv_at hl 0 rfl) ?_
      refine lv_iconst (v := (nI 0)) hx hb dX6_brokenIn_34 (by decide) ?_
      refine fh_cV (q := (RX5, TX5, 1)) (As := [.int (nI 0)]) (rest := [.long (g4 0)]) (b := y) ⟨hx, hb, hml, hown, ht⟩ (c_Row_value l G A h _ y y5 0 g5 hy1 hy2 (by decide)) (cwV 1 ht (gV kw_587 kw_347 kw_348 kw_10 kw_349) rfl rfl rfl yd_X5_value ⟨(Nat.le_of_ble_eq_true rfl), (Nat.le_of_ble_eq_true rfl)⟩) hP hE hS hy1 rfl rfl hl.1 rfl (Nat.le_of_ble_eq_true rfl) dX6_brokenIn_35 ⟨(Nat.le_of_ble_eq_true rfl), (Nat.le_of_ble_eq_true rfl)⟩ (fun v u H locs hp hP hz hS => ?_)
      obtain ⟨rfl, eu⟩ := hp
      rw [eu] at hP
      refine W.eq (g2 := F0 m 38 ls [.long (g5 0), .long (g4 0)]) rfl ?_
      refine fh_cS (As := [.long (g4 0), .long (g5 0)]) (rest := []) ⟨hx, hb, hml, hown, ht⟩ (c_Rule_gap l G A h _ (g4 0) (g5 0)) (va_cwS 2 ht (gS kw_588 kw_589 kw_17 kw_590) rfl rfl rfl yd_X6_gap.2 ⟨(Nat.le_of_ble_eq_true rfl), (Nat.le_of_ble_eq_true rfl)⟩) hP hE hS rfl hl.1 rfl (Nat.le_of_ble_eq_true rfl) dX6_brokenIn_38 ⟨(Nat.le_of_ble_eq_true rfl), (Nat.le_of_ble_eq_true rfl)⟩ (fun v u H locs hp hP hz hS => ?_)
      obtain ⟨rfl, eu⟩ := hp
      rw [eu] at hP
      refine W.eq (g2 := F0 m 41 ls [.long (gapL (g4 0) (g5 0))]) rfl ?_
      refine lv_aload_n hx hb dX6_brokenIn_41 rfl (lv_at hl 1 rfl) ?_
      refine lv_iconst (v := (nI 1)) hx hb dX6_brokenIn_42 (by decide) ?_
      refine fh_cV (q := (RX5, TX5, 1)) (As := [.int (nI 1)]) (rest := [.long (gapL (g4 0) (g5 0))]) (b := x) ⟨hx, hb, hml, hown, ht⟩ (c_Row_value l G A h _ x y4 1 g4 hx1 hx2 (by decide)) (cwV 1 ht (gV kw_587 kw_347 kw_348 kw_10 kw_349) rfl rfl rfl yd_X5_value ⟨(Nat.le_of_ble_eq_true rfl), (Nat.le_of_ble_eq_true rfl)⟩) hP hE hS hx1 rfl rfl hl.1 rfl (Nat.le_of_ble_eq_true rfl) dX6_brokenIn_43 ⟨(Nat.le_of_ble_eq_true rfl), (Nat.le_of_ble_eq_true rfl)⟩ (fun v u H locs hp hP hz hS => ?_)
      obtain ⟨rfl, eu⟩ := hp
      rw [eu] at hP
      refine W.eq (g2 := F0 m 46 ls [.long (g4 1), .long (gapL (g4 0) (g5 0))]) rfl ?_
      refine lv_aload_n hx hb dX6_brokenIn_46 rfl (lv_at hl 0 rfl) ?_
      refine lv_iconst (v := (nI 1)) hx hb dX6_brokenIn_47 (by decide) ?_
      refine fh_cV (q := (RX5, TX5, 1)) (As := [.int (nI 1)]) (rest := [.long (g4 1), .long (gapL (g4 0) (g5 0))]) (b := y) ⟨hx, hb, hml, hown, ht⟩ (c_Row_value l G A h _ y y5 1 g5 hy1 hy2 (by decide)) (cwV 1 ht (gV kw_587 kw_347 kw_348 kw_10 kw_349) rfl rfl rfl yd_X5_value ⟨(Nat.le_of_ble_eq_true rfl), (Nat.le_of_ble_eq_true rfl)⟩) hP hE hS hy1 rfl rfl hl.1 rfl (Nat.le_of_ble_eq_true rfl) dX6_brokenIn_48 ⟨(Nat.le_of_ble_eq_true rfl), (Nat.le_of_ble_eq_true rfl)⟩ (fun v u H locs hp hP hz hS => ?_)
      obtain ⟨rfl, eu⟩ := hp
      rw [eu] at hP
      refine W.eq (g2 := F0 m 51 ls [.long (g5 1), .long (g4 1), .long (gapL (g4 0) (g5 0))]) rfl ?_
      refine fh_cS (As := [.long (g4 1), .long (g5 1)]) (rest := [.long (gapL (g4 0) (g5 0))]) ⟨hx, hb, hml, hown, ht⟩ (c_Rule_gap l G A h _ (g4 1) (g5 1)) (va_cwS 2 ht (gS kw_588 kw_589 kw_17 kw_590) rfl rfl rfl yd_X6_gap.2 ⟨(Nat.le_of_ble_eq_true rfl), (Nat.le_of_ble_eq_true rfl)⟩) hP hE hS rfl hl.1 rfl (Nat.le_of_ble_eq_true rfl) dX6_brokenIn_51 ⟨(Nat.le_of_ble_eq_true rfl), (Nat.le_of_ble_eq_true rfl)⟩ (fun v u H locs hp hP hz hS => ?_)
      obtain ⟨rfl, eu⟩ := hp
      rw [eu] at hP
      refine W.eq (g2 := F0 m 54 ls [.long (gapL (g4 1) (g5 1)), .long (gapL (g4 0) (g5 0))]) rfl ?_
      refine lv_ladd hx hb dX6_brokenIn_54 ?_
      refine lv_aload_n hx hb dX6_brokenIn_55 rfl (lv_at hl 2 rfl) ?_
      refine fh_get (C := RX6) (T := TX6) (N := 3) hx hb ht inX6 hown hE.1 hP ha rfl 2 (by decide) (ht _ kw_566) (fun _ h9 => h9) (v := .long d) rfl dX6_brokenIn_56 ?_
      refine W.lcmp hx hb dX6_brokenIn_59 ?_
      refine lv_if_ge (tgt := 67) hx hb dX6_brokenIn_60 (by decide) (fun c1 => ?_) (fun c1 => ?_)
      · refine lv_iconst (v := (nI 0)) hx hb dX6_brokenIn_67 (by decide) ?_
        exact fh_zret hx hb hr hlocks rfl (⟨congrArg (fun z => some (Value.int z)) (by rw [e4, e5]; exact bI_0 (fun q => by have z := of_decide_eq_true q; rw [← hx3 0 (by decide), ← hx3 1 (by decide), ← hy3 0 (by decide), ← hy3 1 (by decide), Int64.lt_iff_toInt_lt] at z; have z2 := (lg_cmp_ge _ _).mp c1; rw [Int64.le_iff_toInt_le] at z2; omega)), rfl⟩) hP hS (Nat.le_of_ble_eq_true rfl) (Nat.le_of_ble_eq_true rfl) dX6_brokenIn_68
      · refine lv_iconst (v := (nI 1)) hx hb dX6_brokenIn_63 (by decide) ?_
        refine lv_goto (tgt := 68) hx hb dX6_brokenIn_64 (by decide) ?_
        exact fh_zret hx hb hr hlocks rfl (⟨congrArg (fun z => some (Value.int z)) (by rw [e4, e5]; exact bI_1 (decide_eq_true (by rw [← hx3 0 (by decide), ← hx3 1 (by decide), ← hy3 0 (by decide), ← hy3 1 (by decide)]; rw [Int64.lt_iff_toInt_lt]; have z2 := mt (lg_cmp_ge _ _).mpr c1; rw [Int64.le_iff_toInt_le] at z2; omega))), rfl⟩) hP hS (Nat.le_of_ble_eq_true rfl) (Nat.le_of_ble_eq_true rfl) dX6_brokenIn_68

set_option maxRecDepth 100000 in
set_option maxHeartbeats 4000000 in
theorem c_Ses_init (l : Launch) (G : fG) (A : Nat → Prop) (h : FH) (sz : Nat) (hA : ∀ q, sz ≤ q → A q) (a ba bb : Nat) (num : Int32) (f : Nat → Option Nat) (hAa : A a) (ha : h a = some (.inr (7, [.int 0, .null, .null, .int 0, .null, .null]))) (hb1 : h ba = some (oSt bb)) (hb2 : h bb = some (aQ 1 60 f)) (hf : ∀ i, i < 60 → ∀ r, f i = some r → ∃ vs, h r = some (.inr (5, vs))) : Met l yX7_init wsX7_init { frames := 3, cells := 6, slots := 565, locals := 60 } (va_Pc [.ref a, .int num, .ref ba] (fh_Pre G A h sz)) (fh_Q G (fun v u => ∃ ch ob rw sd na nb gn, sz ≤ ch ∧ sz ≤ ob ∧ sz ≤ rw ∧ sz ≤ sd ∧ sz ≤ na ∧ sz ≤ nb ∧ v = none ∧ u a = some (oSes num ba na (nI 1) ch sd) ∧ u ch = some (oChg ob rw 0 0) ∧ u ob = some (aI 2 40 (fun _ => 0)) ∧ u rw = some (aQ 3 40 (fun _ => none)) ∧ u sd = some (aI 4 420 (fun _ => 0)) ∧ u na = some (oSt nb) ∧ u nb = some (aQ 1 60 gn) ∧ (∀ k, k < 60 → gn k = f k) ∧ ∀ q, q < sz → q ≠ a → u q = h q) A) 6 565 A := by
  refine fh_Met [.ref a, .int num, .ref ba] (by decide) rfl (Nat.le_of_ble_eq_true rfl) ?_
  intro p e s m below meth c hx hb hr hlocks hml hown hnm hts hsz hP hE hS ls hl
  have ht : ∀ w ∈ wB, w.before _ s = true := fun w h9 => hts w (List.mem_cons_of_mem _ h9)
  have hl : lv_has ls 3 [(0, .ref a), (1, .int num), (2, .ref ba)] := hl
  have hA0 : ∀ q, s.heap.size ≤ q → A q := fun q hq => hA q (by rw [← hsz]; exact hq)
  have hlt0 : ∀ a e, h a = some e → a < sz := fun a9 e9 q9 => by rw [← hsz]; exact hP.lt q9
  have la := hlt0 _ _ ha
  have lba := hlt0 _ _ hb1
  have lbb := hlt0 _ _ hb2
  refine lv_aload_n hx hb dX7_init_0 rfl (lv_at hl 0 rfl) ?_
  refine W.objInit hx hb hown (ht _ kw_121) (ht _ kw_26) (ht _ kw_27) rfl (by rw [hml]; exact hl.1) rfl dX7_init_1 (Nat.le_of_ble_eq_true rfl) (Nat.le_of_ble_eq_true rfl) ?_
  refine W.eq (g2 := F0 m 4 ls []) rfl ?_
  refine lv_aload_n hx hb dX7_init_4 rfl (lv_at hl 0 rfl) ?_
  refine lv_iconst (v := (nI 1)) hx hb dX7_init_5 (by decide) ?_
  refine fh_put (C := RX7) (T := TX7) (N := 6) (t := .boolean) hx hb ht inX7 tyX7 tyX7_ok nmX7 hown hE.1 hP hS ha (hAa) rfl 3 (by decide) (ht _ kw_153) (fun _ h9 => h9) rfl (by decide +kernel) rfl rfl (Nat.le_of_ble_eq_true rfl) dX7_init_6 (fun H locs hP hz hS => ?_)
  obtain ⟨h_1, eh_1⟩ : ∃ z, z = fh_up h a (.inr (7, [.int 0, .null, .null, .int (nI 1), .null, .null])) := ⟨_, rfl⟩
  have hP : fh_P G vwCl h_1 H := by rw [eh_1]; exact hP
  have f_1 : h_1 a = some (.inr (7, [.int 0, .null, .null, .int (nI 1), .null, .null])) := by rw [eh_1]; exact fh_up_self _ _ _
  have g_1_1 := (congrFun eh_1 ba).trans (fh_keep ha hb1 rfl)
  have g_1_2 := (congrFun eh_1 bb).trans (fh_keep ha hb2 rfl)
  have x1 : ∀ q, q < sz → q ≠ a → h_1 q = h q := fun q _ hq => by rw [eh_1]; exact fh_up_ne _ _ hq
  refine lv_aload_n hx hb dX7_init_9 rfl (lv_at hl 0 rfl) ?_
  have hge2 := hS.1
  have hlt2 := fun (a9 : Nat) (e9 : fe) (q9 : h_1 a9 = some e9) => hP.lt q9
  refine fh_new (ci := 1) (C := RX1) (T := TX1) (N := 4) (fs := [.null, .null, .int 0, .int 0]) hx hb ht inX1 tyX1 tyX1_ok hown (ht _ kw_122) (ht _ kw_123) (ht _ kw_12) hE.1 hP hS hA0 rfl (fun j hj => by rcases (show j = 0 ∨ j = 1 ∨ j = 2 ∨ j = 3 by omega) with rfl | rfl | rfl | rfl <;> rfl) (Nat.le_of_ble_eq_true rfl) (Nat.le_of_ble_eq_true rfl) dX7_init_10 (fun ch H ech hAch hP hz_ch hS => ?_)
  obtain ⟨h_3, eh_3⟩ : ∃ z, z = fh_up h_1 ch (.inr (1, [.null, .null, .int 0, .int 0])) := ⟨_, rfl⟩
  have g_3_0 := (congrFun eh_3 ba).trans (fh_keepN g_1_1 (Nat.ne_of_lt (by rw [ech]; exact hlt2 _ _ g_1_1)))
  have g_3_1 := (congrFun eh_3 bb).trans (fh_keepN g_1_2 (Nat.ne_of_lt (by rw [ech]; exact hlt2 _ _ g_1_2)))
  have g_3_2 := (congrFun eh_3 a).trans (fh_keepN f_1 (Nat.ne_of_lt (by rw [ech]; exact hlt2 _ _ f_1)))
  have hP : fh_P G vwCl h_3 H := by rw [eh_3]; exact hP
  have f_3 : h_3 ch = some (.inr (1, [.null, .null, .int 0, .int 0])) := by rw [eh_3]; exact fh_up_self _ _ _
  have hsz_ch : sz ≤ ch := by rw [ech, ← hsz]; exact hge2
  have x2 : ∀ q, q < sz → q ≠ a → h_3 q = h q := fun q h9 hq => by rw [eh_3, fh_up_ne _ _ (by omega)]; exact x1 q h9 hq
  refine lv_dup hx hb dX7_init_13 rfl ?_
  refine fh_cIN (As := []) (rest := [.ref ch, .ref a]) (b := ch) ⟨hx, hb, hml, hown, ht⟩ (c_Chg_init l G A _ _ (fun q hq => hA0 q (Nat.le_trans hS.1 hq)) ch hAch f_3) (⟨va_cnB (host := "ObjectMerge") 0 ht (gB kw_126) rfl rfl rfl (hE.2.2.2.2.2.1 ("ObjectMerge$Session", 17, ⟨"ObjectMerge$Changes", "<init>", "()V"⟩, "ObjectMerge") (by decide)) (ht _ kw_12) yd_X1_init.2 ⟨(Nat.le_of_ble_eq_true rfl), (Nat.le_of_ble_eq_true rfl)⟩, rfl, (ht _ kw_125)⟩) hP hE hS rfl hl.1 rfl (Nat.le_of_ble_eq_true rfl) dX7_init_14 ⟨(Nat.le_of_ble_eq_true rfl), (Nat.le_of_ble_eq_true rfl)⟩ (fun v u H locs hp hP hz hS => ?_)
  obtain ⟨ob, rw9, hob, hrw9, rfl, eu⟩ := hp
  refine W.eq (g2 := F0 m 17 ls [.ref ch, .ref a]) rfl ?_
  have hS3 := hS.1
  have k3a := (congrFun eu a).trans ((fh_up_ne _ _ (show a ≠ ch by omega)).trans ((fh_up_ne _ _ (show a ≠ rw9 by omega)).trans ((fh_up_ne _ _ (show a ≠ ob by omega)).trans g_3_2)))
  have k3ba := (congrFun eu ba).trans ((fh_up_ne _ _ (show ba ≠ ch by omega)).trans ((fh_up_ne _ _ (show ba ≠ rw9 by omega)).trans ((fh_up_ne _ _ (show ba ≠ ob by omega)).trans g_3_0)))
  have k3bb := (congrFun eu bb).trans ((fh_up_ne _ _ (show bb ≠ ch by omega)).trans ((fh_up_ne _ _ (show bb ≠ rw9 by omega)).trans ((fh_up_ne _ _ (show bb ≠ ob by omega)).trans g_3_1)))
  have k3ch := (congrFun eu ch).trans (fh_up_self _ _ _)
  have k3rw := (congrFun eu rw9).trans ((fh_up_ne _ _ (show rw9 ≠ ch by omega)).trans (fh_up_self _ _ _))
  have k3ob := (congrFun eu ob).trans ((fh_up_ne _ _ (show ob ≠ ch by omega)).trans ((fh_up_ne _ _ (show ob ≠ rw9 by omega)).trans (fh_up_self _ _ _)))
  have x3 : ∀ q, q < sz → q ≠ a → u q = h q := fun q h9 hq => by rw [eu, fh_up_ne _ _ (by omega), fh_up_ne _ _ (by omega), fh_up_ne _ _ (by omega)]; exact x2 q h9 hq
  have hbnd := fun (a9 : Nat) (e9 : fe) (q9 : u a9 = some e9) => hP.lt q9
  have lch := hbnd _ _ k3ch
  have lob := hbnd _ _ k3ob
  have lrw := hbnd _ _ k3rw
  refine fh_putF (C := RX7) (T := TX7) (N := 6) (t := (.object "ObjectMerge$Changes")) hx hb ht inX7 tyX7 tyX7_ok nmX7 hown hE.1 hP hS k3a (hAa) rfl 4 (by decide) (ht _ kw_155) (fun _ h9 => h9) rfl hnm rfl (by decide +kernel) rfl rfl (Nat.le_of_ble_eq_true rfl) dX7_init_17 (fun H locs hP hz hS => ?_)
  obtain ⟨h_4, eh_4⟩ : ∃ z, z = fh_up u a (.inr (7, [.int 0, .null, .null, .int (nI 1), .ref ch, .null])) := ⟨_, rfl⟩
  have hP : fh_P G vwCl h_4 H := by rw [eh_4]; exact hP
  have f_4 : h_4 a = some (.inr (7, [.int 0, .null, .null, .int (nI 1), .ref ch, .null])) := by rw [eh_4]; exact fh_up_self _ _ _
  have g_4_1 := (congrFun eh_4 ba).trans (fh_keep k3a k3ba rfl)
  have g_4_2 := (congrFun eh_4 bb).trans (fh_keep k3a k3bb rfl)
  have g_4_3 := (congrFun eh_4 ch).trans (fh_keep k3a k3ch rfl)
  have g_4_4 := (congrFun eh_4 ob).trans (fh_keep k3a k3ob rfl)
  have g_4_5 := (congrFun eh_4 rw9).trans (fh_keep k3a k3rw rfl)
  have x4 : ∀ q, q < sz → q ≠ a → h_4 q = h q := fun q h9 hq => by rw [eh_4, fh_up_ne _ _ hq]; exact x3 q h9 hq
  refine lv_aload_n hx hb dX7_init_20 rfl (lv_at hl 0 rfl) ?_
  refine lv_sipush (v := (nI 420)) hx hb dX7_init_21 (by decide) ?_
  have hge5 := hS.1
  have hlt5 := fun (a9 : Nat) (e9 : fe) (q9 : h_4 a9 = some e9) => hP.lt q9
  refine fh_newa (atype := .byte) (t0 := .byte) (N' := 420) (a0 := (420, .inl (fun _ => 0))) hx hb (ht _ kw_170) rfl hE.1 hP hS hA0 4 rfl (fun _ => rfl) (by decide) (by decide) (by decide) (Nat.le_of_ble_eq_true rfl) (Nat.le_of_ble_eq_true rfl) dX7_init_24 (fun sd H esd hAsd hP hz_sd hS => ?_)
  obtain ⟨h_6, eh_6⟩ : ∃ z, z = fh_up h_4 sd (.inl (4, 420, .inl (fun _ => 0))) := ⟨_, rfl⟩
  have g_6_0 := (congrFun eh_6 ba).trans (fh_keepN g_4_1 (Nat.ne_of_lt (by rw [esd]; exact hlt5 _ _ g_4_1)))
  have g_6_1 := (congrFun eh_6 bb).trans (fh_keepN g_4_2 (Nat.ne_of_lt (by rw [esd]; exact hlt5 _ _ g_4_2)))
  have g_6_2 := (congrFun eh_6 ch).trans (fh_keepN g_4_3 (Nat.ne_of_lt (by rw [esd]; exact hlt5 _ _ g_4_3)))
  have g_6_3 := (congrFun eh_6 ob).trans (fh_keepN g_4_4 (Nat.ne_of_lt (by rw [esd]; exact hlt5 _ _ g_4_4)))
  have g_6_4 := (congrFun eh_6 rw9).trans (fh_keepN g_4_5 (Nat.ne_of_lt (by rw [esd]; exact hlt5 _ _ g_4_5)))
  have g_6_5 := (congrFun eh_6 a).trans (fh_keepN f_4 (Nat.ne_of_lt (by rw [esd]; exact hlt5 _ _ f_4)))
  have hP : fh_P G vwCl h_6 H := by rw [eh_6]; exact hP
  have f_6 : h_6 sd = some (.inl (4, 420, .inl (fun _ => 0))) := by rw [eh_6]; exact fh_up_self _ _ _
  have hsz_sd : sz ≤ sd := by rw [esd, ← hsz]; exact hge5
  have x5 : ∀ q, q < sz → q ≠ a → h_6 q = h q := fun q h9 hq => by rw [eh_6, fh_up_ne _ _ (by omega)]; exact x4 q h9 hq
  refine fh_putF (C := RX7) (T := TX7) (N := 6) (t := (.array .byte)) hx hb ht inX7 tyX7 tyX7_ok nmX7 hown hE.1 hP hS g_6_5 (hAa) rfl 5 (by decide) (ht _ kw_156) (fun _ h9 => h9) rfl hnm rfl (by decide +kernel) rfl rfl (Nat.le_of_ble_eq_true rfl) dX7_init_26 (fun H locs hP hz hS => ?_)
  obtain ⟨h_7, eh_7⟩ : ∃ z, z = fh_up h_6 a (.inr (7, [.int 0, .null, .null, .int (nI 1), .ref ch, .ref sd])) := ⟨_, rfl⟩
  have hP : fh_P G vwCl h_7 H := by rw [eh_7]; exact hP
  have f_7 : h_7 a = some (.inr (7, [.int 0, .null, .null, .int (nI 1), .ref ch, .ref sd])) := by rw [eh_7]; exact fh_up_self _ _ _
  have g_7_0 := (congrFun eh_7 ba).trans (fh_keep g_6_5 g_6_0 rfl)
  have g_7_1 := (congrFun eh_7 bb).trans (fh_keep g_6_5 g_6_1 rfl)
  have g_7_2 := (congrFun eh_7 ch).trans (fh_keep g_6_5 g_6_2 rfl)
  have g_7_3 := (congrFun eh_7 ob).trans (fh_keep g_6_5 g_6_3 rfl)
  have g_7_4 := (congrFun eh_7 rw9).trans (fh_keep g_6_5 g_6_4 rfl)
  have g_7_6 := (congrFun eh_7 sd).trans (fh_keep g_6_5 f_6 rfl)
  refine lv_aload_n hx hb dX7_init_29 rfl (lv_at hl 0 rfl) ?_
  refine lv_iload_n hx hb dX7_init_30 rfl (lv_at hl 1 rfl) ?_
  refine fh_putF (C := RX7) (T := TX7) (N := 6) (t := .int) hx hb ht inX7 tyX7 tyX7_ok nmX7 hown hE.1 hP hS f_7 (hAa) rfl 0 (by decide) (ht _ kw_148) (fun _ h9 => h9) rfl hnm rfl (by decide +kernel) rfl rfl (Nat.le_of_ble_eq_true rfl) dX7_init_31 (fun H locs hP hz hS => ?_)
  obtain ⟨h_8, eh_8⟩ : ∃ z, z = fh_up h_7 a (.inr (7, [.int num, .null, .null, .int (nI 1), .ref ch, .ref sd])) := ⟨_, rfl⟩
  have hP : fh_P G vwCl h_8 H := by rw [eh_8]; exact hP
  have f_8 : h_8 a = some (.inr (7, [.int num, .null, .null, .int (nI 1), .ref ch, .ref sd])) := by rw [eh_8]; exact fh_up_self _ _ _
  have g_8_0 := (congrFun eh_8 ba).trans (fh_keep f_7 g_7_0 rfl)
  have g_8_1 := (congrFun eh_8 bb).trans (fh_keep f_7 g_7_1 rfl)
  have g_8_2 := (congrFun eh_8 ch).trans (fh_keep f_7 g_7_2 rfl)
  have g_8_3 := (congrFun eh_8 ob).trans (fh_keep f_7 g_7_3 rfl)
  have g_8_4 := (congrFun eh_8 rw9).trans (fh_keep f_7 g_7_4 rfl)
  have g_8_5 := (congrFun eh_8 sd).trans (fh_keep f_7 g_7_6 rfl)
  refine lv_aload_n hx hb dX7_init_34 rfl (lv_at hl 0 rfl) ?_
  refine lv_aload_n hx hb dX7_init_35 rfl (lv_at hl 2 rfl) ?_
  refine fh_putF (C := RX7) (T := TX7) (N := 6) (t := (.object "ObjectMerge$State")) hx hb ht inX7 tyX7 tyX7_ok nmX7 hown hE.1 hP hS f_8 (hAa) rfl 1 (by decide) (ht _ kw_150) (fun _ h9 => h9) rfl hnm rfl (by decide +kernel) rfl rfl (Nat.le_of_ble_eq_true rfl) dX7_init_36 (fun H locs hP hz hS => ?_)
  obtain ⟨h_9, eh_9⟩ : ∃ z, z = fh_up h_8 a (.inr (7, [.int num, .ref ba, .null, .int (nI 1), .ref ch, .ref sd])) := ⟨_, rfl⟩
  have hP : fh_P G vwCl h_9 H := by rw [eh_9]; exact hP
  have f_9 : h_9 a = some (.inr (7, [.int num, .ref ba, .null, .int (nI 1), .ref ch, .ref sd])) := by rw [eh_9]; exact fh_up_self _ _ _
  have g_9_0 := (congrFun eh_9 ba).trans (fh_keep f_8 g_8_0 rfl)
  have g_9_1 := (congrFun eh_9 bb).trans (fh_keep f_8 g_8_1 rfl)
  have g_9_2 := (congrFun eh_9 ch).trans (fh_keep f_8 g_8_2 rfl)
  have g_9_3 := (congrFun eh_9 ob).trans (fh_keep f_8 g_8_3 rfl)
  have g_9_4 := (congrFun eh_9 rw9).trans (fh_keep f_8 g_8_4 rfl)
  have g_9_5 := (congrFun eh_9 sd).trans (fh_keep f_8 g_8_5 rfl)
  have x8 : ∀ q, q < sz → q ≠ a → h_9 q = h q := fun q h9 hq => by rw [eh_9, eh_8, eh_7, fh_up_ne _ _ hq, fh_up_ne _ _ hq, fh_up_ne _ _ hq]; exact x5 q h9 hq
  refine lv_aload_n hx hb dX7_init_39 rfl (lv_at hl 0 rfl) ?_
  refine lv_aload_n hx hb dX7_init_40 rfl (lv_at hl 2 rfl) ?_
  have hbnd8 := fun (a9 : Nat) (e9 : fe) (q9 : h_9 a9 = some e9) => hP.lt q9
  have hS8 := hS.1
  refine fh_cV (q := (RX8, TX8, 1)) (As := []) (rest := [.ref a]) (b := ba) ⟨hx, hb, hml, hown, ht⟩ (c_St_copy l G A h_9 _ (fun q hq => hA0 q (Nat.le_trans hS.1 hq)) ba bb f g_9_0 g_9_1 (fun i hi r er => by obtain ⟨vs, h9⟩ := hf i hi r er; exact ⟨vs, (x8 r (hlt0 _ _ h9) (fh_ne h9 ha rfl)).trans h9⟩)) (cwV 0 ht (gV kw_142 kw_143 kw_144 kw_2 kw_145) rfl rfl rfl yd_X8_copy ⟨(Nat.le_of_ble_eq_true rfl), (Nat.le_of_ble_eq_true rfl)⟩) hP hE hS g_9_0 rfl rfl hl.1 rfl (Nat.le_of_ble_eq_true rfl) dX7_init_41 ⟨(Nat.le_of_ble_eq_true rfl), (Nat.le_of_ble_eq_true rfl)⟩ (fun v u9 H locs hp hP hz hS => ?_)
  obtain ⟨na, nb, gn, hna, hnb, rfl, he9, hna1, hnb1, hgn⟩ := hp
  refine W.eq (g2 := F0 m 44 ls [.ref na, .ref a]) rfl ?_
  have k9a := he9.at f_9 (hbnd8 _ _ f_9)
  have k9ch := he9.at g_9_2 (hbnd8 _ _ g_9_2)
  have k9ob := he9.at g_9_3 (hbnd8 _ _ g_9_3)
  have k9rw9 := he9.at g_9_4 (hbnd8 _ _ g_9_4)
  have k9sd := he9.at g_9_5 (hbnd8 _ _ g_9_5)
  have lsd := hbnd8 _ _ g_9_5
  have l8a := hbnd8 _ _ f_9
  refine fh_putF (C := RX7) (T := TX7) (N := 6) (t := (.object "ObjectMerge$State")) hx hb ht inX7 tyX7 tyX7_ok nmX7 hown hE.1 hP hS k9a (hAa) rfl 2 (by decide) (ht _ kw_151) (fun _ h9 => h9) rfl hnm rfl (by decide +kernel) rfl rfl (Nat.le_of_ble_eq_true rfl) dX7_init_44 (fun H locs hP hz hS => ?_)
  obtain ⟨h_10, eh_10⟩ : ∃ z, z = fh_up u9 a (.inr (7, [.int num, .ref ba, .ref na, .int (nI 1), .ref ch, .ref sd])) := ⟨_, rfl⟩
  have hP : fh_P G vwCl h_10 H := by rw [eh_10]; exact hP
  have f_10 : h_10 a = some (.inr (7, [.int num, .ref ba, .ref na, .int (nI 1), .ref ch, .ref sd])) := by rw [eh_10]; exact fh_up_self _ _ _
  have g_10_1 := (congrFun eh_10 ch).trans (fh_keep k9a k9ch rfl)
  have g_10_2 := (congrFun eh_10 ob).trans (fh_keep k9a k9ob rfl)
  have g_10_3 := (congrFun eh_10 rw9).trans (fh_keep k9a k9rw9 rfl)
  have g_10_4 := (congrFun eh_10 sd).trans (fh_keep k9a k9sd rfl)
  have g_10_5 := (congrFun eh_10 na).trans (fh_keep k9a hna1 rfl)
  have g_10_6 := (congrFun eh_10 nb).trans (fh_keep k9a hnb1 rfl)
  have x9 : ∀ q, q < sz → q ≠ a → h_10 q = h q := fun q h9 hq => by rw [eh_10, fh_up_ne _ _ hq, he9 q (by omega)]; exact x8 q h9 hq
  exact fh_vret hx hb hr hlocks (⟨ch, ob, rw9, sd, na, nb, gn, hsz_ch, by omega, by omega, by omega, by omega, by omega, rfl, f_10, g_10_1, g_10_2, g_10_3, g_10_4, g_10_5, g_10_6, hgn, x9⟩) hP hS (Nat.le_of_ble_eq_true rfl) (Nat.le_of_ble_eq_true rfl) dX7_init_47
