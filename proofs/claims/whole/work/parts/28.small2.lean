set_option maxRecDepth 100000 in
set_option maxHeartbeats 4000000 in
theorem c_Chg_keep (l : Launch) (G : fG) (A : Nat → Prop) (h : FH) (sz : Nat) (a ob rw nx ct : Nat) (fo : Nat → Int32) (fr : Nat → Option Nat) (ha : h a = some (oChg ob rw (nI nx) (nI ct))) (ho : h ob = some (aI 2 40 fo)) (hr0 : h rw = some (aQ 3 40 fr)) (hn : nx < 1000000) (hc : ct ≤ 40) (hAa : A a) (hAo : A ob) (hAr : A rw) (x : Int32) (o : Option Nat) (hov : ∀ r, o = some r → ∃ vs, h r = some (.inr (5, vs))) : Met l yX1_keep wsX1_keep { frames := 2, cells := 0, slots := 0, locals := 42 } (va_Pc [.ref a, .int x, va_rf o] (fh_Pre G A h sz)) (fh_Q G (fun v u => v = none ∧ u = fh_up (fh_up (fh_up h ob (aI 2 40 (upd fo (nx % 40) x))) rw (aQ 3 40 (va_up fr (nx % 40) o))) a (oChg ob rw (nI (nx + 1)) (nI (if ct < 40 then ct + 1 else 40)))) A) 0 0 A := by
  refine fh_Met [.ref a, .int x, va_rf o] (by decide) rfl (by cases o <;> exact (Nat.le_of_ble_eq_true rfl)) ?_
  intro p e s m below meth c hx hb hr hlocks hml hown hnm hts hsz hP hE hS ls hl
  have ht : ∀ w ∈ wB, w.before _ s = true := fun w h9 => hts w (List.mem_cons_of_mem _ h9)
  have e9 : lv_args 0 [.ref a, .int x, va_rf o] = [(0, .ref a), (1, .int x), (2, va_rf o)] := by cases o <;> rfl
  rw [e9] at hl
  refine lv_aload_n hx hb dX1_keep_0 rfl (lv_at hl 0 rfl) ?_
  refine fh_cV (q := (RX1, TX1, 4)) (As := []) (rest := []) (b := a) ⟨hx, hb, hml, hown, ht⟩ (c_Chg_place l G A h _ a ob rw nx (nI ct) ha hn) (cwV 0 ht (gV kw_374 kw_376 kp_7 kw_12 kw_377) rfl rfl rfl yd_X1_place ⟨(Nat.le_of_ble_eq_true rfl), (Nat.le_of_ble_eq_true rfl)⟩) hP hE hS ha rfl rfl hl.1 rfl (Nat.le_of_ble_eq_true rfl) dX1_keep_1 ⟨(Nat.le_of_ble_eq_true rfl), (Nat.le_of_ble_eq_true rfl)⟩ (fun v u H locs hp hP hz hS => ?_)
  obtain ⟨rfl, eu⟩ := hp
  rw [eu] at hP
  refine W.eq (g2 := F0 m 4 ls [.int (nI (nx % 40))]) rfl ?_
  refine lv_istore_n (lv' := [(3, .int (nI (nx % 40))), (0, .ref a), (1, .int x), (2, va_rf o)]) hx hb dX1_keep_4 rfl hl (by decide) (by generalize o = o90; cases o90 <;> rfl) (fun ls hl => ?_)
  refine lv_aload_n hx hb dX1_keep_5 rfl (lv_at hl 1 rfl) ?_
  refine fh_get (C := RX1) (T := TX1) (N := 4) hx hb ht inX1 hown hE.1 hP ha rfl 0 (by decide) (ht _ kw_129) (fun _ h9 => h9) (v := .ref ob) rfl dX1_keep_6 ?_
  refine lv_iload_n hx hb dX1_keep_9 rfl (lv_at hl 0 rfl) ?_
  refine lv_iload_n hx hb dX1_keep_10 rfl (lv_at hl 2 rfl) ?_
  refine fh_iast (k := (nx % 40)) hx hb hE.1 hP hS ho (hAo) rfl ((Nat.mod_lt _ (by decide))) (by decide) dX1_keep_11 (fun H locs hP hz hS => ?_)
  obtain ⟨h_1, eh_1⟩ : ∃ z, z = fh_up h ob (.inl (2, 40, .inl (upd fo (nx % 40) x))) := ⟨_, rfl⟩
  have hP : fh_P G vwCl h_1 H := by rw [eh_1]; exact hP
  have f_1 : h_1 ob = some (.inl (2, 40, .inl (upd fo (nx % 40) x))) := by rw [eh_1]; exact fh_up_self _ _ _
  have g_1_0 := (congrFun eh_1 a).trans (fh_keep ho ha rfl)
  have g_1_2 := (congrFun eh_1 rw).trans (fh_keep ho hr0 rfl)
  have hov1 : ∀ r, o = some r → ∃ vs, h_1 r = some (.inr (5, vs)) := fun r er => by obtain ⟨vs, h9⟩ := hov r er; exact ⟨vs, (congrFun eh_1 r).trans (fh_keep ho h9 rfl)⟩
  refine lv_aload_n hx hb dX1_keep_12 rfl (lv_at hl 1 rfl) ?_
  refine fh_get (C := RX1) (T := TX1) (N := 4) hx hb ht inX1 hown hE.1 hP g_1_0 rfl 1 (by decide) (ht _ kw_130) (fun _ h9 => h9) (v := .ref rw) rfl dX1_keep_13 ?_
  refine lv_iload_n hx hb dX1_keep_16 rfl (lv_at hl 0 rfl) ?_
  refine fh_aload_n hx hb dX1_keep_17 rfl (lv_at hl 3 rfl) ?_
  refine fh_aastO (k := (nx % 40)) hx hb hE.1 hP hS g_1_2 (hAr) rfl (hov1) rfl ((Nat.mod_lt _ (by decide))) (by decide) dX1_keep_18 (fun H locs hP hz hS => ?_)
  obtain ⟨h_2, eh_2⟩ : ∃ z, z = fh_up h_1 rw (.inl (3, 40, .inr (.inr (.inr (.inr (va_up fr (nx % 40) o)))))) := ⟨_, rfl⟩
  have hP : fh_P G vwCl h_2 H := by rw [eh_2]; exact hP
  have f_2 : h_2 rw = some (.inl (3, 40, .inr (.inr (.inr (.inr (va_up fr (nx % 40) o)))))) := by rw [eh_2]; exact fh_up_self _ _ _
  have g_2_0 := (congrFun eh_2 a).trans (fh_keep g_1_2 g_1_0 rfl)
  have g_2_2 := (congrFun eh_2 ob).trans (fh_keep g_1_2 f_1 rfl)
  refine lv_aload_n hx hb dX1_keep_19 rfl (lv_at hl 1 rfl) ?_
  refine lv_dup hx hb dX1_keep_20 rfl ?_
  refine fh_get (C := RX1) (T := TX1) (N := 4) hx hb ht inX1 hown hE.1 hP g_2_0 rfl 2 (by decide) (ht _ kw_131) (fun _ h9 => h9) (v := .int (nI nx)) rfl dX1_keep_21 ?_
  refine lv_iconst (v := (nI 1)) hx hb dX1_keep_24 (by decide) ?_
  refine lv_iadd hx hb dX1_keep_25 ?_
  refine lv_topi (fun z9 ez9 => ?_)
  rw [show z9 = nI (nx + 1) from ez9.trans (nI_add _ _)]
  refine fh_put (C := RX1) (T := TX1) (N := 4) (t := .int) hx hb ht inX1 tyX1 tyX1_ok nmX1 hown hE.1 hP hS g_2_0 (hAa) rfl 2 (by decide) (ht _ kw_131) (fun _ h9 => h9) rfl (by decide +kernel) rfl rfl (Nat.le_of_ble_eq_true rfl) dX1_keep_26 (fun H locs hP hz hS => ?_)
  obtain ⟨h_3, eh_3⟩ : ∃ z, z = fh_up h_2 a (.inr (1, [.ref ob, .ref rw, .int (nI (nx + 1)), .int (nI ct)])) := ⟨_, rfl⟩
  have hP : fh_P G vwCl h_3 H := by rw [eh_3]; exact hP
  have f_3 : h_3 a = some (.inr (1, [.ref ob, .ref rw, .int (nI (nx + 1)), .int (nI ct)])) := by rw [eh_3]; exact fh_up_self _ _ _
  have g_3_1 := (congrFun eh_3 ob).trans (fh_keep g_2_0 g_2_2 rfl)
  have g_3_2 := (congrFun eh_3 rw).trans (fh_keep g_2_0 f_2 rfl)
  refine lv_aload_n hx hb dX1_keep_29 rfl (lv_at hl 1 rfl) ?_
  refine lv_aload_n hx hb dX1_keep_30 rfl (lv_at hl 1 rfl) ?_
  refine fh_get (C := RX1) (T := TX1) (N := 4) hx hb ht inX1 hown hE.1 hP f_3 rfl 3 (by decide) (ht _ kw_132) (fun _ h9 => h9) (v := .int (nI ct)) rfl dX1_keep_31 ?_
  refine lv_iconst (v := (nI 1)) hx hb dX1_keep_34 (by decide) ?_
  refine lv_iadd hx hb dX1_keep_35 ?_
  refine lv_topi (fun z9 ez9 => ?_)
  rw [show z9 = nI (ct + 1) from ez9.trans (nI_add _ _)]
  refine lv_bipush (v := (nI 40)) hx hb dX1_keep_36 (by decide) ?_
  refine va_mmin hx hb (hml.trans hl.1.symm) hown (ht _ kw_381) (ht _ kw_382) (ht _ kw_15) (ht _ kw_383) (Nat.le_of_ble_eq_true rfl) (Nat.le_of_ble_eq_true rfl) (Nat.le_of_ble_eq_true rfl) (Nat.le_of_ble_eq_true rfl) dX1_keep_38 ?_
  rw [min40 hc]
  refine fh_put (C := RX1) (T := TX1) (N := 4) (t := .int) hx hb ht inX1 tyX1 tyX1_ok nmX1 hown hE.1 hP hS f_3 (hAa) rfl 3 (by decide) (ht _ kw_132) (fun _ h9 => h9) rfl (by decide +kernel) rfl rfl (Nat.le_of_ble_eq_true rfl) dX1_keep_41 (fun H locs hP hz hS => ?_)
  obtain ⟨h_4, eh_4⟩ : ∃ z, z = fh_up h_3 a (.inr (1, [.ref ob, .ref rw, .int (nI (nx + 1)), .int (nI (if ct < 40 then ct + 1 else 40))])) := ⟨_, rfl⟩
  have hP : fh_P G vwCl h_4 H := by rw [eh_4]; exact hP
  have f_4 : h_4 a = some (.inr (1, [.ref ob, .ref rw, .int (nI (nx + 1)), .int (nI (if ct < 40 then ct + 1 else 40))])) := by rw [eh_4]; exact fh_up_self _ _ _
  have g_4_0 := (congrFun eh_4 ob).trans (fh_keep f_3 g_3_1 rfl)
  have g_4_1 := (congrFun eh_4 rw).trans (fh_keep f_3 g_3_2 rfl)
  exact fh_vret hx hb hr hlocks (⟨rfl, by rw [eh_4, eh_3, eh_2, eh_1, fh_upup]⟩) hP hS (Nat.le_of_ble_eq_true rfl) (Nat.le_of_ble_eq_true rfl) dX1_keep_44

set_option maxRecDepth 100000 in
set_option maxHeartbeats 4000000 in
theorem c_Chg_back (l : Launch) (G : fG) (A : Nat → Prop) (h : FH) (sz : Nat) (a ob rw nx ct : Nat) (fo : Nat → Int32) (fr : Nat → Option Nat) (ha : h a = some (oChg ob rw (nI nx) (nI ct))) (ho : h ob = some (aI 2 40 fo)) (hr0 : h rw = some (aQ 3 40 fr)) (hn : nx < 1000000) (hc : ct ≤ 40) (hAa : A a) (hcn : ct ≤ nx) : Met l yX1_stepBack wsX1_stepBack { frames := 0, cells := 0, slots := 0, locals := 0 } (va_Pc [.ref a] (fh_Pre G A h sz)) (fh_Q G (fun v u => (ct = 0 ∧ v = some (.int 0) ∧ u = h) ∨ (0 < ct ∧ v = some (.int 1) ∧ u = fh_up h a (oChg ob rw (nI (nx - 1)) (nI (ct - 1))))) A) 0 0 A := by
  refine fh_Met [.ref a] (by decide) rfl (Nat.le_of_ble_eq_true rfl) ?_
  intro p e s m below meth c hx hb hr hlocks hml hown hnm hts hsz hP hE hS ls hl
  have ht : ∀ w ∈ wB, w.before _ s = true := fun w h9 => hts w (List.mem_cons_of_mem _ h9)
  have hl : lv_has ls 1 [(0, .ref a)] := hl
  refine lv_aload_n hx hb dX1_stepBack_0 rfl (lv_at hl 0 rfl) ?_
  refine fh_get (C := RX1) (T := TX1) (N := 4) hx hb ht inX1 hown hE.1 hP ha rfl 3 (by decide) (ht _ kw_132) (fun _ h9 => h9) (v := .int (nI ct)) rfl dX1_stepBack_1 ?_
  refine lv_if_ne (tgt := 9) hx hb dX1_stepBack_4 (by decide) (fun c1 => ?_) (fun c1 => ?_)
  · have c0 : 0 < ct := Nat.pos_of_ne_zero (fun q => c1 (by rw [q]; rfl))
    refine lv_aload_n hx hb dX1_stepBack_9 rfl (lv_at hl 0 rfl) ?_
    refine lv_dup hx hb dX1_stepBack_10 rfl ?_
    refine fh_get (C := RX1) (T := TX1) (N := 4) hx hb ht inX1 hown hE.1 hP ha rfl 3 (by decide) (ht _ kw_132) (fun _ h9 => h9) (v := .int (nI ct)) rfl dX1_stepBack_11 ?_
    refine lv_iconst (v := (nI 1)) hx hb dX1_stepBack_14 (by decide) ?_
    refine lv_isub hx hb dX1_stepBack_15 ?_
    refine lv_topi (fun z9 ez9 => ?_)
    rw [show z9 = nI (ct - 1) from ez9.trans (pk_sub (by omega))]
    refine fh_put (C := RX1) (T := TX1) (N := 4) (t := .int) hx hb ht inX1 tyX1 tyX1_ok nmX1 hown hE.1 hP hS ha (hAa) rfl 3 (by decide) (ht _ kw_132) (fun _ h9 => h9) rfl (by decide +kernel) rfl rfl (Nat.le_of_ble_eq_true rfl) dX1_stepBack_16 (fun H locs hP hz hS => ?_)
    obtain ⟨h_1, eh_1⟩ : ∃ z, z = fh_up h a (.inr (1, [.ref ob, .ref rw, .int (nI nx), .int (nI (ct - 1))])) := ⟨_, rfl⟩
    have hP : fh_P G vwCl h_1 H := by rw [eh_1]; exact hP
    have f_1 : h_1 a = some (.inr (1, [.ref ob, .ref rw, .int (nI nx), .int (nI (ct - 1))])) := by rw [eh_1]; exact fh_up_self _ _ _
    have g_1_1 := (congrFun eh_1 ob).trans (fh_keep ha ho rfl)
    have g_1_2 := (congrFun eh_1 rw).trans (fh_keep ha hr0 rfl)
    refine lv_aload_n hx hb dX1_stepBack_19 rfl (lv_at hl 0 rfl) ?_
    refine lv_dup hx hb dX1_stepBack_20 rfl ?_
    refine fh_get (C := RX1) (T := TX1) (N := 4) hx hb ht inX1 hown hE.1 hP f_1 rfl 2 (by decide) (ht _ kw_131) (fun _ h9 => h9) (v := .int (nI nx)) rfl dX1_stepBack_21 ?_
    refine lv_iconst (v := (nI 1)) hx hb dX1_stepBack_24 (by decide) ?_
    refine lv_isub hx hb dX1_stepBack_25 ?_
    refine lv_topi (fun z9 ez9 => ?_)
    rw [show z9 = nI (nx - 1) from ez9.trans (pk_sub (by omega))]
    refine fh_put (C := RX1) (T := TX1) (N := 4) (t := .int) hx hb ht inX1 tyX1 tyX1_ok nmX1 hown hE.1 hP hS f_1 (hAa) rfl 2 (by decide) (ht _ kw_131) (fun _ h9 => h9) rfl (by decide +kernel) rfl rfl (Nat.le_of_ble_eq_true rfl) dX1_stepBack_26 (fun H locs hP hz hS => ?_)
    obtain ⟨h_2, eh_2⟩ : ∃ z, z = fh_up h_1 a (.inr (1, [.ref ob, .ref rw, .int (nI (nx - 1)), .int (nI (ct - 1))])) := ⟨_, rfl⟩
    have hP : fh_P G vwCl h_2 H := by rw [eh_2]; exact hP
    have f_2 : h_2 a = some (.inr (1, [.ref ob, .ref rw, .int (nI (nx - 1)), .int (nI (ct - 1))])) := by rw [eh_2]; exact fh_up_self _ _ _
    have g_2_0 := (congrFun eh_2 ob).trans (fh_keep f_1 g_1_1 rfl)
    have g_2_1 := (congrFun eh_2 rw).trans (fh_keep f_1 g_1_2 rfl)
    refine lv_iconst (v := (nI 1)) hx hb dX1_stepBack_29 (by decide) ?_
    exact fh_zret hx hb hr hlocks rfl (Or.inr ⟨c0, rfl, by rw [eh_2, eh_1, fh_upup]⟩) hP hS (Nat.le_of_ble_eq_true rfl) (Nat.le_of_ble_eq_true rfl) dX1_stepBack_30
  · have c0 : ct = 0 := (nI_eq (by omega) (by decide)).mp c1
    refine lv_iconst (v := (nI 0)) hx hb dX1_stepBack_7 (by decide) ?_
    exact fh_zret hx hb hr hlocks rfl (Or.inl ⟨c0, rfl, rfl⟩) hP hS (Nat.le_of_ble_eq_true rfl) (Nat.le_of_ble_eq_true rfl) dX1_stepBack_8

set_option maxRecDepth 100000 in
set_option maxHeartbeats 4000000 in
theorem c_Draw_below (l : Launch) (G : fG) (A : Nat → Prop) (h : FH) (sz : Nat) (a b : Nat) (x : Int64) (hAa : A a) (ha : h a = some (oDraw x)) (hb1 : 0 < b) (hb2 : b < 2 ^ 31) : Met l yX3_below wsX3_below { frames := 0, cells := 0, slots := 0, locals := 0 } (va_Pc [.ref a, .int (nI b)] (fh_Pre G A h sz)) (fh_Q G (fun v u => v = some (.int (drMod (drNext x) (nI b))) ∧ u = fh_up h a (oDraw (drNext x))) A) 0 0 A := by
  refine fh_Met [.ref a, .int (nI b)] (by decide) rfl (Nat.le_of_ble_eq_true rfl) ?_
  intro p e s m below meth c hx hb hr hlocks hml hown hnm hts hsz hP hE hS ls hl
  have ht : ∀ w ∈ wB, w.before _ s = true := fun w h9 => hts w (List.mem_cons_of_mem _ h9)
  have hl : lv_has ls 2 [(0, .ref a), (1, .int (nI b))] := hl
  refine lv_aload_n hx hb dX3_below_0 rfl (lv_at hl 0 rfl) ?_
  refine lv_aload_n hx hb dX3_below_1 rfl (lv_at hl 0 rfl) ?_
  refine fh_get (C := RX3) (T := TX3) (N := 1) hx hb ht inX3 hown hE.1 hP ha rfl 0 (by decide) (ht _ kw_655) (fun _ h9 => h9) (v := .long x) rfl dX3_below_2 ?_
  refine lv_ldc2 (v := 6364136223846793005) hx hb hown (ht _ kw_667) dX3_below_5 ?_
  refine lv_lmul hx hb dX3_below_8 ?_
  refine lv_ldc2 (v := 1442695040888963407) hx hb hown (ht _ kw_668) dX3_below_9 ?_
  refine lv_ladd hx hb dX3_below_12 ?_
  refine W.eq (g2 := F0 m 13 ls [.long (drNext x), .ref a]) rfl ?_
  refine fh_put (C := RX3) (T := TX3) (N := 1) (t := .long) hx hb ht inX3 tyX3 tyX3_ok nmX3 hown hE.1 hP hS ha (hAa) rfl 0 (by decide) (ht _ kw_655) (fun _ h9 => h9) rfl (by decide +kernel) rfl rfl (Nat.le_of_ble_eq_true rfl) dX3_below_13 (fun H locs hP hz hS => ?_)
  obtain ⟨h_1, eh_1⟩ : ∃ z, z = fh_up h a (.inr (3, [.long (drNext x)])) := ⟨_, rfl⟩
  have hP : fh_P G vwCl h_1 H := by rw [eh_1]; exact hP
  have f_1 : h_1 a = some (.inr (3, [.long (drNext x)])) := by rw [eh_1]; exact fh_up_self _ _ _
  refine lv_iload_n hx hb dX3_below_16 rfl (lv_at hl 1 rfl) ?_
  refine lv_if_gt (tgt := 24) hx hb dX3_below_17 (by decide) (fun _ => ?_) (fun c9 => absurd (nI_lt (a := 0) hb1 hb2) c9)
  refine lv_aload_n hx hb dX3_below_24 rfl (lv_at hl 0 rfl) ?_
  refine fh_get (C := RX3) (T := TX3) (N := 1) hx hb ht inX3 hown hE.1 hP f_1 rfl 0 (by decide) (ht _ kw_655) (fun _ h9 => h9) (v := .long (drNext x)) rfl dX3_below_25 ?_
  refine lv_bipush (v := (nI 33)) hx hb dX3_below_28 (by decide) ?_
  refine lv_lushr (v := ((drNext x).toUInt64 >>> (((nI 33) : Int32).toInt64.toUInt64 &&& Int64.toUInt64 63)).toInt64) hx hb dX3_below_30 rfl ?_
  refine lv_iload_n hx hb dX3_below_31 rfl (lv_at hl 1 rfl) ?_
  refine lv_i2l (v := (nI b : Int32).toInt64) hx hb dX3_below_32 rfl ?_
  refine lv_lrem hx hb dX3_below_33 (fun q => by have z := congrArg Int64.toInt q; rw [nI_l hb2, lN_toInt hb2] at z; simp at z; omega) ?_
  refine lv_l2i (v := ((((drNext x).toUInt64 >>> (((nI 33) : Int32).toInt64.toUInt64 &&& Int64.toUInt64 63)).toInt64) - (((drNext x).toUInt64 >>> (((nI 33) : Int32).toInt64.toUInt64 &&& Int64.toUInt64 63)).toInt64) / ((nI b : Int32).toInt64) * ((nI b : Int32).toInt64)).toInt32) hx hb dX3_below_34 rfl ?_
  exact fh_iret hx hb hr hlocks (⟨rfl, by rw [eh_1]⟩) hP hS (Nat.le_of_ble_eq_true rfl) (Nat.le_of_ble_eq_true rfl) dX3_below_35

set_option maxRecDepth 100000 in
set_option maxHeartbeats 4000000 in
theorem c_Rule_init (l : Launch) (G : fG) (A : Nat → Prop) (h : FH) (sz : Nat) (a : Nat) (x y : Int32) (d : Int64) (hAa : A a) (ha : h a = some (.inr (6, [.int 0, .int 0, .long 0]))) : Met l yX6_init wsX6_init { frames := 1, cells := 0, slots := 0, locals := 12 } (va_Pc [.ref a, .int x, .int y, .long d] (fh_Pre G A h sz)) (fh_Q G (fun v u => v = none ∧ u = fh_up h a (oRule x y d)) A) 0 0 A := by
  refine fh_Met [.ref a, .int x, .int y, .long d] (by decide) rfl (Nat.le_of_ble_eq_true rfl) ?_
  intro p e s m below meth c hx hb hr hlocks hml hown hnm hts hsz hP hE hS ls hl
  have ht : ∀ w ∈ wB, w.before _ s = true := fun w h9 => hts w (List.mem_cons_of_mem _ h9)
  have hl : lv_has ls 5 [(0, .ref a), (1, .int x), (2, .int y), (3, .long d)] := hl
  refine lv_aload_n hx hb dX6_init_0 rfl (lv_at hl 0 rfl) ?_
  refine W.objInit hx hb hown (ht _ kw_561) (ht _ kw_26) (ht _ kw_27) rfl (by rw [hml]; exact hl.1) rfl dX6_init_1 (Nat.le_of_ble_eq_true rfl) (Nat.le_of_ble_eq_true rfl) ?_
  refine W.eq (g2 := F0 m 4 ls []) rfl ?_
  refine lv_aload_n hx hb dX6_init_4 rfl (lv_at hl 0 rfl) ?_
  refine lv_iload_n hx hb dX6_init_5 rfl (lv_at hl 1 rfl) ?_
  refine fh_putF (C := RX6) (T := TX6) (N := 3) (t := .int) hx hb ht inX6 tyX6 tyX6_ok nmX6 hown hE.1 hP hS ha (hAa) rfl 0 (by decide) (ht _ kw_562) (fun _ h9 => h9) rfl hnm rfl (by decide +kernel) rfl rfl (Nat.le_of_ble_eq_true rfl) dX6_init_6 (fun H locs hP hz hS => ?_)
  obtain ⟨h_1, eh_1⟩ : ∃ z, z = fh_up h a (.inr (6, [.int x, .int 0, .long 0])) := ⟨_, rfl⟩
  have hP : fh_P G vwCl h_1 H := by rw [eh_1]; exact hP
  have f_1 : h_1 a = some (.inr (6, [.int x, .int 0, .long 0])) := by rw [eh_1]; exact fh_up_self _ _ _
  refine lv_aload_n hx hb dX6_init_9 rfl (lv_at hl 0 rfl) ?_
  refine lv_iload_n hx hb dX6_init_10 rfl (lv_at hl 2 rfl) ?_
  refine fh_putF (C := RX6) (T := TX6) (N := 3) (t := .int) hx hb ht inX6 tyX6 tyX6_ok nmX6 hown hE.1 hP hS f_1 (hAa) rfl 1 (by decide) (ht _ kw_564) (fun _ h9 => h9) rfl hnm rfl (by decide +kernel) rfl rfl (Nat.le_of_ble_eq_true rfl) dX6_init_11 (fun H locs hP hz hS => ?_)
  obtain ⟨h_2, eh_2⟩ : ∃ z, z = fh_up h_1 a (.inr (6, [.int x, .int y, .long 0])) := ⟨_, rfl⟩
  have hP : fh_P G vwCl h_2 H := by rw [eh_2]; exact hP
  have f_2 : h_2 a = some (.inr (6, [.int x, .int y, .long 0])) := by rw [eh_2]; exact fh_up_self _ _ _
  refine lv_aload_n hx hb dX6_init_14 rfl (lv_at hl 0 rfl) ?_
  refine lv_lload_n hx hb dX6_init_15 rfl (lv_at hl 3 rfl) ?_
  refine fh_putF (C := RX6) (T := TX6) (N := 3) (t := .long) hx hb ht inX6 tyX6 tyX6_ok nmX6 hown hE.1 hP hS f_2 (hAa) rfl 2 (by decide) (ht _ kw_566) (fun _ h9 => h9) rfl hnm rfl (by decide +kernel) rfl rfl (Nat.le_of_ble_eq_true rfl) dX6_init_16 (fun H locs hP hz hS => ?_)
  obtain ⟨h_3, eh_3⟩ : ∃ z, z = fh_up h_2 a (.inr (6, [.int x, .int y, .long d])) := ⟨_, rfl⟩
  have hP : fh_P G vwCl h_3 H := by rw [eh_3]; exact hP
  have f_3 : h_3 a = some (.inr (6, [.int x, .int y, .long d])) := by rw [eh_3]; exact fh_up_self _ _ _
  exact fh_vret hx hb hr hlocks (⟨rfl, by rw [eh_3, eh_2, eh_1]; simp only [fh_upup]⟩) hP hS (Nat.le_of_ble_eq_true rfl) (Nat.le_of_ble_eq_true rfl) dX6_init_19

set_option maxRecDepth 100000 in
set_option maxHeartbeats 4000000 in
theorem c_Rule_gap (l : Launch) (G : fG) (A : Nat → Prop) (h : FH) (sz : Nat) (x y : Int64) : Met l yX6_gap wsX6_gap { frames := 1, cells := 0, slots := 0, locals := 20 } (va_Pc [.long x, .long y] (fh_Pre G A h sz)) (fh_Q G (fun v u => v = some (.long (gapL x y)) ∧ u = h) A) 0 0 A := by
  refine fh_Met [.long x, .long y] (by decide) rfl (Nat.le_of_ble_eq_true rfl) ?_
  intro p e s m below meth c hx hb hr hlocks hml hown hnm hts hsz hP hE hS ls hl
  have ht : ∀ w ∈ wB, w.before _ s = true := fun w h9 => hts w (List.mem_cons_of_mem _ h9)
  have hl : lv_has ls 6 [(0, .long x), (2, .long y)] := hl
  refine lv_lload_n hx hb dX6_gap_0 rfl (lv_at hl 0 rfl) ?_
  refine lv_lload_n hx hb dX6_gap_1 rfl (lv_at hl 1 rfl) ?_
  refine va_mmax_long hx hb (hml.trans hl.1.symm) hown (ht _ kw_591) (ht _ kw_592) (ht _ kw_15) (ht _ kw_593) (Nat.le_of_ble_eq_true rfl) (Nat.le_of_ble_eq_true rfl) (Nat.le_of_ble_eq_true rfl) (Nat.le_of_ble_eq_true rfl) dX6_gap_2 ?_
  refine lv_lload_n hx hb dX6_gap_5 rfl (lv_at hl 0 rfl) ?_
  refine lv_lload_n hx hb dX6_gap_6 rfl (lv_at hl 1 rfl) ?_
  refine va_mmin_long hx hb (hml.trans hl.1.symm) hown (ht _ kw_594) (ht _ kw_595) (ht _ kw_15) (ht _ kw_596) (Nat.le_of_ble_eq_true rfl) (Nat.le_of_ble_eq_true rfl) (Nat.le_of_ble_eq_true rfl) (Nat.le_of_ble_eq_true rfl) dX6_gap_7 ?_
  refine lv_lsub hx hb dX6_gap_10 ?_
  refine lv_topl (fun k ek => ?_)
  refine lv_lstore (lv' := [(4, .long k), (0, .long x), (2, .long y)]) hx hb dX6_gap_11 hl (by decide) rfl (fun ls hl => ?_)
  refine lv_lload hx hb dX6_gap_13 (lv_at hl 0 rfl) ?_
  refine lv_lconst (v := 0) hx hb dX6_gap_15 (by decide) ?_
  refine W.lcmp hx hb dX6_gap_16 ?_
  refine lv_if_ge (tgt := 26) hx hb dX6_gap_17 (by decide) (fun c1 => ?_) (fun c1 => ?_)
  · have hk : ¬ k < 0 := by rw [Int64.lt_iff_toInt_lt]; have z := (lg_cmp_ge k 0).mp c1; rw [Int64.le_iff_toInt_le] at z; omega
    refine lv_lload hx hb dX6_gap_26 (lv_at hl 0 rfl) ?_
    refine lv_ldc2 (v := 1000000000) hx hb hown (ht _ kw_597) dX6_gap_28 ?_
    refine va_mmin_long hx hb (hml.trans hl.1.symm) hown (ht _ kw_594) (ht _ kw_595) (ht _ kw_15) (ht _ kw_596) (Nat.le_of_ble_eq_true rfl) (Nat.le_of_ble_eq_true rfl) (Nat.le_of_ble_eq_true rfl) (Nat.le_of_ble_eq_true rfl) dX6_gap_31 ?_
    exact fh_lret hx hb hr hlocks (⟨congrArg (fun z => some (Value.long z)) (by rw [gapL, ← ek, if_neg hk]), rfl⟩) hP hS (Nat.le_of_ble_eq_true rfl) (Nat.le_of_ble_eq_true rfl) dX6_gap_34
  · have hk : k < 0 := by rw [Int64.lt_iff_toInt_lt]; have z := mt (lg_cmp_ge k 0).mpr c1; rw [Int64.le_iff_toInt_le] at z; omega
    refine lv_ldc2 (v := 1000000000) hx hb hown (ht _ kw_597) dX6_gap_20 ?_
    refine lv_goto (tgt := 34) hx hb dX6_gap_23 (by decide) ?_
    exact fh_lret hx hb hr hlocks (⟨congrArg (fun z => some (Value.long z)) (by rw [gapL, ← ek, if_pos hk]), rfl⟩) hP hS (Nat.le_of_ble_eq_true rfl) (Nat.le_of_ble_eq_true rfl) dX6_gap_34
