set_option maxRecDepth 100000 in
set_option maxHeartbeats 4000000 in
theorem q_init (l : Launch) (G : fG) (A : Nat → Prop) (h : FH) (sz : Nat) (hA : ∀ q, sz ≤ q → A q) (hAh : fh_A A h) (ma : Nat) (hAm : A ma) (hm9 : h ma = some (.inr (10, [.int 0, .int 0, .null, .int 0, .null, .null, .int 0, .null, .null, .null, .null, .null, .null, .null, .null, .null, .null, .int 0, .int 0, .null, .int 0, .null, .null, .int 0, .null, .null, .null, .null]))) : Met l yX10_init wsX10_init { frames := 1, cells := 20, slots := 37510, locals := 12 } (va_Pc [.ref ma] (fh_Pre G A h sz)) (fh_Q G (fun v u => ∃ b : Nat → Nat, v = none ∧ kp kM h u ∧ RepM A u u ma b 0 0 1 0 (fun _ _ => none) (fun _ => (0, fun _ => none, false, [], fun _ => 0)) [] [] 0 [] (fun _ => 0)) A) 20 37510 A := by
  refine fh_Met [.ref ma] (by decide) rfl (Nat.le_of_ble_eq_true rfl) ?_
  intro p e s m below meth c hx hb hr hlocks hml hown hnm hts hsz hP hE hS ls hl
  have ht : ∀ w ∈ wB, w.before _ s = true := fun w h9 => hts w (List.mem_cons_of_mem _ h9)
  have hl : lv_has ls 1 [(0, .ref ma)] := hl
  have hA0 : ∀ q, s.heap.size ≤ q → A q := fun q hq => hA q (by rw [← hsz]; exact hq)
  have hlt0 : ∀ a e, h a = some e → a < sz := fun a9 e9 q9 => by rw [← hsz]; exact hP.lt q9
  have lx := hlt0 _ _ hm9
  have x_0 : ∀ q, q < sz → q ≠ ma → h q = h q := fun _ _ _ => rfl
  refine lv_aload_n hx hb dX10_init_0 rfl (lv_at hl 0 rfl) ?_
  refine W.objInit hx hb hown (ht _ kw_689) (ht _ kw_26) (ht _ kw_27) rfl (by rw [hml]; exact hl.1) rfl dX10_init_1 (Nat.le_of_ble_eq_true rfl) (Nat.le_of_ble_eq_true rfl) ?_
  refine W.eq (g2 := F0 m 4 ls []) rfl ?_
  refine lv_aload_n hx hb dX10_init_4 rfl (lv_at hl 0 rfl) ?_
  refine lv_bipush (v := (nI 60)) hx hb dX10_init_5 (by decide) ?_
  have hge1 := hS.1
  have hlt1 := fun (a9 : Nat) (e9 : fe) (q9 : h a9 = some e9) => hP.lt q9
  refine fh_newa (atype := .int) (t0 := .int) (N' := 60) (a0 := (60, .inl (fun _ => 0))) hx hb (ht _ kw_74) rfl hE.1 hP hS hA0 12 rfl (fun _ => rfl) (by decide) (by decide) (by decide) (Nat.le_of_ble_eq_true rfl) (Nat.le_of_ble_eq_true rfl) dX10_init_7 (fun b12 H eb12 hAb12 hP hz_b12 hS => ?_)
  obtain ⟨h_2, eh_2⟩ : ∃ z, z = fh_up h b12 (.inl (12, 60, .inl (fun _ => 0))) := ⟨_, rfl⟩
  have g_2_0 := (congrFun eh_2 ma).trans (fh_keepN hm9 (Nat.ne_of_lt (by rw [eb12]; exact hlt1 _ _ hm9)))
  have hP : fh_P G vwCl h_2 H := by rw [eh_2]; exact hP
  have f_2 : h_2 b12 = some (.inl (12, 60, .inl (fun _ => 0))) := by rw [eh_2]; exact fh_up_self _ _ _
  have hsz_b12 : sz ≤ b12 := by rw [eb12, ← hsz]; exact hge1
  have x_1 : ∀ q, q < sz → q ≠ ma → h_2 q = h q := fun q h9 hq => by rw [eh_2]; exact (fh_up_ne _ _ (by omega)).trans (x_0 q h9 hq)
  refine fh_putF (C := RX10) (T := TX10) (N := 28) (t := (.array .int)) hx hb ht inX10 tyX10 tyX10_ok nmX10 hown hE.1 hP hS g_2_0 (hAm) rfl 2 (by decide) (ht _ kw_692) (fun _ h9 => h9) rfl hnm rfl (by decide +kernel) rfl rfl (Nat.le_of_ble_eq_true rfl) dX10_init_9 (fun H locs hP hz hS => ?_)
  obtain ⟨h_3, eh_3⟩ : ∃ z, z = fh_up h_2 ma (.inr (10, [.int 0, .int 0, .ref b12, .int 0, .null, .null, .int 0, .null, .null, .null, .null, .null, .null, .null, .null, .null, .null, .int 0, .int 0, .null, .int 0, .null, .null, .int 0, .null, .null, .null, .null])) := ⟨_, rfl⟩
  have hP : fh_P G vwCl h_3 H := by rw [eh_3]; exact hP
  have f_3 : h_3 ma = some (.inr (10, [.int 0, .int 0, .ref b12, .int 0, .null, .null, .int 0, .null, .null, .null, .null, .null, .null, .null, .null, .null, .null, .int 0, .int 0, .null, .int 0, .null, .null, .int 0, .null, .null, .null, .null])) := by rw [eh_3]; exact fh_up_self _ _ _
  have g_3_1 := (congrFun eh_3 b12).trans (fh_keep g_2_0 f_2 rfl)
  have x_2 : ∀ q, q < sz → q ≠ ma → h_3 q = h q := fun q h9 hq => by rw [eh_3]; exact (fh_up_ne _ _ hq).trans (x_1 q h9 hq)
  refine lv_aload_n hx hb dX10_init_12 rfl (lv_at hl 0 rfl) ?_
  refine lv_iconst (v := (nI 1)) hx hb dX10_init_13 (by decide) ?_
  refine fh_put (C := RX10) (T := TX10) (N := 28) (t := .int) hx hb ht inX10 tyX10 tyX10_ok nmX10 hown hE.1 hP hS f_3 (hAm) rfl 3 (by decide) (ht _ kw_693) (fun _ h9 => h9) rfl (by decide +kernel) rfl rfl (Nat.le_of_ble_eq_true rfl) dX10_init_14 (fun H locs hP hz hS => ?_)
  obtain ⟨h_4, eh_4⟩ : ∃ z, z = fh_up h_3 ma (.inr (10, [.int 0, .int 0, .ref b12, .int (nI 1), .null, .null, .int 0, .null, .null, .null, .null, .null, .null, .null, .null, .null, .null, .int 0, .int 0, .null, .int 0, .null, .null, .int 0, .null, .null, .null, .null])) := ⟨_, rfl⟩
  have hP : fh_P G vwCl h_4 H := by rw [eh_4]; exact hP
  have f_4 : h_4 ma = some (.inr (10, [.int 0, .int 0, .ref b12, .int (nI 1), .null, .null, .int 0, .null, .null, .null, .null, .null, .null, .null, .null, .null, .null, .int 0, .int 0, .null, .int 0, .null, .null, .int 0, .null, .null, .null, .null])) := by rw [eh_4]; exact fh_up_self _ _ _
  have g_4_0 := (congrFun eh_4 b12).trans (fh_keep f_3 g_3_1 rfl)
  have x_3 : ∀ q, q < sz → q ≠ ma → h_4 q = h q := fun q h9 hq => by rw [eh_4]; exact (fh_up_ne _ _ hq).trans (x_2 q h9 hq)
  refine lv_aload_n hx hb dX10_init_17 rfl (lv_at hl 0 rfl) ?_
  refine lv_sipush (v := (nI 2400)) hx hb dX10_init_18 (by decide) ?_
  have hge5 := hS.1
  have hlt5 := fun (a9 : Nat) (e9 : fe) (q9 : h_4 a9 = some e9) => hP.lt q9
  refine fh_newa (atype := .boolean) (t0 := .boolean) (N' := 2400) (a0 := (2400, .inl (fun _ => 0))) hx hb (ht _ kw_775) rfl hE.1 hP hS hA0 13 rfl (fun _ => rfl) (by decide) (by decide) (by decide) (Nat.le_of_ble_eq_true rfl) (Nat.le_of_ble_eq_true rfl) dX10_init_21 (fun b13 H eb13 hAb13 hP hz_b13 hS => ?_)
  obtain ⟨h_6, eh_6⟩ : ∃ z, z = fh_up h_4 b13 (.inl (13, 2400, .inl (fun _ => 0))) := ⟨_, rfl⟩
  have g_6_0 := (congrFun eh_6 b12).trans (fh_keepN g_4_0 (Nat.ne_of_lt (by rw [eb13]; exact hlt5 _ _ g_4_0)))
  have g_6_1 := (congrFun eh_6 ma).trans (fh_keepN f_4 (Nat.ne_of_lt (by rw [eb13]; exact hlt5 _ _ f_4)))
  have hP : fh_P G vwCl h_6 H := by rw [eh_6]; exact hP
  have f_6 : h_6 b13 = some (.inl (13, 2400, .inl (fun _ => 0))) := by rw [eh_6]; exact fh_up_self _ _ _
  have hsz_b13 : sz ≤ b13 := by rw [eb13, ← hsz]; exact hge5
  have x_4 : ∀ q, q < sz → q ≠ ma → h_6 q = h q := fun q h9 hq => by rw [eh_6]; exact (fh_up_ne _ _ (by omega)).trans (x_3 q h9 hq)
  refine fh_putF (C := RX10) (T := TX10) (N := 28) (t := (.array .boolean)) hx hb ht inX10 tyX10 tyX10_ok nmX10 hown hE.1 hP hS g_6_1 (hAm) rfl 4 (by decide) (ht _ kw_694) (fun _ h9 => h9) rfl hnm rfl (by decide +kernel) rfl rfl (Nat.le_of_ble_eq_true rfl) dX10_init_23 (fun H locs hP hz hS => ?_)
  obtain ⟨h_7, eh_7⟩ : ∃ z, z = fh_up h_6 ma (.inr (10, [.int 0, .int 0, .ref b12, .int (nI 1), .ref b13, .null, .int 0, .null, .null, .null, .null, .null, .null, .null, .null, .null, .null, .int 0, .int 0, .null, .int 0, .null, .null, .int 0, .null, .null, .null, .null])) := ⟨_, rfl⟩
  have hP : fh_P G vwCl h_7 H := by rw [eh_7]; exact hP
  have f_7 : h_7 ma = some (.inr (10, [.int 0, .int 0, .ref b12, .int (nI 1), .ref b13, .null, .int 0, .null, .null, .null, .null, .null, .null, .null, .null, .null, .null, .int 0, .int 0, .null, .int 0, .null, .null, .int 0, .null, .null, .null, .null])) := by rw [eh_7]; exact fh_up_self _ _ _
  have g_7_0 := (congrFun eh_7 b12).trans (fh_keep g_6_1 g_6_0 rfl)
  have g_7_2 := (congrFun eh_7 b13).trans (fh_keep g_6_1 f_6 rfl)
  have x_5 : ∀ q, q < sz → q ≠ ma → h_7 q = h q := fun q h9 hq => by rw [eh_7]; exact (fh_up_ne _ _ hq).trans (x_4 q h9 hq)
  refine lv_aload_n hx hb dX10_init_26 rfl (lv_at hl 0 rfl) ?_
  refine lv_sipush (v := (nI 14400)) hx hb dX10_init_27 (by decide) ?_
  have hge8 := hS.1
  have hlt8 := fun (a9 : Nat) (e9 : fe) (q9 : h_7 a9 = some e9) => hP.lt q9
  refine fh_newa (atype := .long) (t0 := .long) (N' := 14400) (a0 := (14400, .inr (.inl (fun _ => 0)))) hx hb (ht _ kw_268) rfl hE.1 hP hS hA0 14 rfl (fun _ => rfl) (by decide) (by decide) (by decide) (Nat.le_of_ble_eq_true rfl) (Nat.le_of_ble_eq_true rfl) dX10_init_30 (fun b14 H eb14 hAb14 hP hz_b14 hS => ?_)
  obtain ⟨h_9, eh_9⟩ : ∃ z, z = fh_up h_7 b14 (.inl (14, 14400, .inr (.inl (fun _ => 0)))) := ⟨_, rfl⟩
  have g_9_0 := (congrFun eh_9 b12).trans (fh_keepN g_7_0 (Nat.ne_of_lt (by rw [eb14]; exact hlt8 _ _ g_7_0)))
  have g_9_1 := (congrFun eh_9 b13).trans (fh_keepN g_7_2 (Nat.ne_of_lt (by rw [eb14]; exact hlt8 _ _ g_7_2)))
  have g_9_2 := (congrFun eh_9 ma).trans (fh_keepN f_7 (Nat.ne_of_lt (by rw [eb14]; exact hlt8 _ _ f_7)))
  have hP : fh_P G vwCl h_9 H := by rw [eh_9]; exact hP
  have f_9 : h_9 b14 = some (.inl (14, 14400, .inr (.inl (fun _ => 0)))) := by rw [eh_9]; exact fh_up_self _ _ _
  have hsz_b14 : sz ≤ b14 := by rw [eb14, ← hsz]; exact hge8
  have x_6 : ∀ q, q < sz → q ≠ ma → h_9 q = h q := fun q h9 hq => by rw [eh_9]; exact (fh_up_ne _ _ (by omega)).trans (x_5 q h9 hq)
  refine fh_putF (C := RX10) (T := TX10) (N := 28) (t := (.array .long)) hx hb ht inX10 tyX10 tyX10_ok nmX10 hown hE.1 hP hS g_9_2 (hAm) rfl 5 (by decide) (ht _ kw_695) (fun _ h9 => h9) rfl hnm rfl (by decide +kernel) rfl rfl (Nat.le_of_ble_eq_true rfl) dX10_init_32 (fun H locs hP hz hS => ?_)
  obtain ⟨h_10, eh_10⟩ : ∃ z, z = fh_up h_9 ma (.inr (10, [.int 0, .int 0, .ref b12, .int (nI 1), .ref b13, .ref b14, .int 0, .null, .null, .null, .null, .null, .null, .null, .null, .null, .null, .int 0, .int 0, .null, .int 0, .null, .null, .int 0, .null, .null, .null, .null])) := ⟨_, rfl⟩
  have hP : fh_P G vwCl h_10 H := by rw [eh_10]; exact hP
  have f_10 : h_10 ma = some (.inr (10, [.int 0, .int 0, .ref b12, .int (nI 1), .ref b13, .ref b14, .int 0, .null, .null, .null, .null, .null, .null, .null, .null, .null, .null, .int 0, .int 0, .null, .int 0, .null, .null, .int 0, .null, .null, .null, .null])) := by rw [eh_10]; exact fh_up_self _ _ _
  have g_10_0 := (congrFun eh_10 b12).trans (fh_keep g_9_2 g_9_0 rfl)
  have g_10_1 := (congrFun eh_10 b13).trans (fh_keep g_9_2 g_9_1 rfl)
  have g_10_3 := (congrFun eh_10 b14).trans (fh_keep g_9_2 f_9 rfl)
  have x_7 : ∀ q, q < sz → q ≠ ma → h_10 q = h q := fun q h9 hq => by rw [eh_10]; exact (fh_up_ne _ _ hq).trans (x_6 q h9 hq)
  refine lv_aload_n hx hb dX10_init_35 rfl (lv_at hl 0 rfl) ?_
  refine lv_bipush (v := (nI 20)) hx hb dX10_init_36 (by decide) ?_
  have hge11 := hS.1
  have hlt11 := fun (a9 : Nat) (e9 : fe) (q9 : h_10 a9 = some e9) => hP.lt q9
  refine fh_newa (atype := .int) (t0 := .int) (N' := 20) (a0 := (20, .inl (fun _ => 0))) hx hb (ht _ kw_74) rfl hE.1 hP hS hA0 15 rfl (fun _ => rfl) (by decide) (by decide) (by decide) (Nat.le_of_ble_eq_true rfl) (Nat.le_of_ble_eq_true rfl) dX10_init_38 (fun b15 H eb15 hAb15 hP hz_b15 hS => ?_)
  obtain ⟨h_12, eh_12⟩ : ∃ z, z = fh_up h_10 b15 (.inl (15, 20, .inl (fun _ => 0))) := ⟨_, rfl⟩
  have g_12_0 := (congrFun eh_12 b12).trans (fh_keepN g_10_0 (Nat.ne_of_lt (by rw [eb15]; exact hlt11 _ _ g_10_0)))
  have g_12_1 := (congrFun eh_12 b13).trans (fh_keepN g_10_1 (Nat.ne_of_lt (by rw [eb15]; exact hlt11 _ _ g_10_1)))
  have g_12_2 := (congrFun eh_12 b14).trans (fh_keepN g_10_3 (Nat.ne_of_lt (by rw [eb15]; exact hlt11 _ _ g_10_3)))
  have g_12_3 := (congrFun eh_12 ma).trans (fh_keepN f_10 (Nat.ne_of_lt (by rw [eb15]; exact hlt11 _ _ f_10)))
  have hP : fh_P G vwCl h_12 H := by rw [eh_12]; exact hP
  have f_12 : h_12 b15 = some (.inl (15, 20, .inl (fun _ => 0))) := by rw [eh_12]; exact fh_up_self _ _ _
  have hsz_b15 : sz ≤ b15 := by rw [eb15, ← hsz]; exact hge11
  have x_8 : ∀ q, q < sz → q ≠ ma → h_12 q = h q := fun q h9 hq => by rw [eh_12]; exact (fh_up_ne _ _ (by omega)).trans (x_7 q h9 hq)
  refine fh_putF (C := RX10) (T := TX10) (N := 28) (t := (.array .int)) hx hb ht inX10 tyX10 tyX10_ok nmX10 hown hE.1 hP hS g_12_3 (hAm) rfl 7 (by decide) (ht _ kw_697) (fun _ h9 => h9) rfl hnm rfl (by decide +kernel) rfl rfl (Nat.le_of_ble_eq_true rfl) dX10_init_40 (fun H locs hP hz hS => ?_)
  obtain ⟨h_13, eh_13⟩ : ∃ z, z = fh_up h_12 ma (.inr (10, [.int 0, .int 0, .ref b12, .int (nI 1), .ref b13, .ref b14, .int 0, .ref b15, .null, .null, .null, .null, .null, .null, .null, .null, .null, .int 0, .int 0, .null, .int 0, .null, .null, .int 0, .null, .null, .null, .null])) := ⟨_, rfl⟩
  have hP : fh_P G vwCl h_13 H := by rw [eh_13]; exact hP
  have f_13 : h_13 ma = some (.inr (10, [.int 0, .int 0, .ref b12, .int (nI 1), .ref b13, .ref b14, .int 0, .ref b15, .null, .null, .null, .null, .null, .null, .null, .null, .null, .int 0, .int 0, .null, .int 0, .null, .null, .int 0, .null, .null, .null, .null])) := by rw [eh_13]; exact fh_up_self _ _ _
  have g_13_0 := (congrFun eh_13 b12).trans (fh_keep g_12_3 g_12_0 rfl)
  have g_13_1 := (congrFun eh_13 b13).trans (fh_keep g_12_3 g_12_1 rfl)
  have g_13_2 := (congrFun eh_13 b14).trans (fh_keep g_12_3 g_12_2 rfl)
  have g_13_4 := (congrFun eh_13 b15).trans (fh_keep g_12_3 f_12 rfl)
  have x_9 : ∀ q, q < sz → q ≠ ma → h_13 q = h q := fun q h9 hq => by rw [eh_13]; exact (fh_up_ne _ _ hq).trans (x_8 q h9 hq)
  refine lv_aload_n hx hb dX10_init_43 rfl (lv_at hl 0 rfl) ?_
  refine lv_bipush (v := (nI 20)) hx hb dX10_init_44 (by decide) ?_
  have hge14 := hS.1
  have hlt14 := fun (a9 : Nat) (e9 : fe) (q9 : h_13 a9 = some e9) => hP.lt q9
  refine fh_newa (atype := .boolean) (t0 := .boolean) (N' := 20) (a0 := (20, .inl (fun _ => 0))) hx hb (ht _ kw_775) rfl hE.1 hP hS hA0 16 rfl (fun _ => rfl) (by decide) (by decide) (by decide) (Nat.le_of_ble_eq_true rfl) (Nat.le_of_ble_eq_true rfl) dX10_init_46 (fun b16 H eb16 hAb16 hP hz_b16 hS => ?_)
  obtain ⟨h_15, eh_15⟩ : ∃ z, z = fh_up h_13 b16 (.inl (16, 20, .inl (fun _ => 0))) := ⟨_, rfl⟩
  have g_15_0 := (congrFun eh_15 b12).trans (fh_keepN g_13_0 (Nat.ne_of_lt (by rw [eb16]; exact hlt14 _ _ g_13_0)))
  have g_15_1 := (congrFun eh_15 b13).trans (fh_keepN g_13_1 (Nat.ne_of_lt (by rw [eb16]; exact hlt14 _ _ g_13_1)))
  have g_15_2 := (congrFun eh_15 b14).trans (fh_keepN g_13_2 (Nat.ne_of_lt (by rw [eb16]; exact hlt14 _ _ g_13_2)))
  have g_15_3 := (congrFun eh_15 b15).trans (fh_keepN g_13_4 (Nat.ne_of_lt (by rw [eb16]; exact hlt14 _ _ g_13_4)))
  have g_15_4 := (congrFun eh_15 ma).trans (fh_keepN f_13 (Nat.ne_of_lt (by rw [eb16]; exact hlt14 _ _ f_13)))
  have hP : fh_P G vwCl h_15 H := by rw [eh_15]; exact hP
  have f_15 : h_15 b16 = some (.inl (16, 20, .inl (fun _ => 0))) := by rw [eh_15]; exact fh_up_self _ _ _
  have hsz_b16 : sz ≤ b16 := by rw [eb16, ← hsz]; exact hge14
  have x_10 : ∀ q, q < sz → q ≠ ma → h_15 q = h q := fun q h9 hq => by rw [eh_15]; exact (fh_up_ne _ _ (by omega)).trans (x_9 q h9 hq)
  refine fh_putF (C := RX10) (T := TX10) (N := 28) (t := (.array .boolean)) hx hb ht inX10 tyX10 tyX10_ok nmX10 hown hE.1 hP hS g_15_4 (hAm) rfl 8 (by decide) (ht _ kw_698) (fun _ h9 => h9) rfl hnm rfl (by decide +kernel) rfl rfl (Nat.le_of_ble_eq_true rfl) dX10_init_48 (fun H locs hP hz hS => ?_)
  obtain ⟨h_16, eh_16⟩ : ∃ z, z = fh_up h_15 ma (.inr (10, [.int 0, .int 0, .ref b12, .int (nI 1), .ref b13, .ref b14, .int 0, .ref b15, .ref b16, .null, .null, .null, .null, .null, .null, .null, .null, .int 0, .int 0, .null, .int 0, .null, .null, .int 0, .null, .null, .null, .null])) := ⟨_, rfl⟩
  have hP : fh_P G vwCl h_16 H := by rw [eh_16]; exact hP
  have f_16 : h_16 ma = some (.inr (10, [.int 0, .int 0, .ref b12, .int (nI 1), .ref b13, .ref b14, .int 0, .ref b15, .ref b16, .null, .null, .null, .null, .null, .null, .null, .null, .int 0, .int 0, .null, .int 0, .null, .null, .int 0, .null, .null, .null, .null])) := by rw [eh_16]; exact fh_up_self _ _ _
  have g_16_0 := (congrFun eh_16 b12).trans (fh_keep g_15_4 g_15_0 rfl)
  have g_16_1 := (congrFun eh_16 b13).trans (fh_keep g_15_4 g_15_1 rfl)
  have g_16_2 := (congrFun eh_16 b14).trans (fh_keep g_15_4 g_15_2 rfl)
  have g_16_3 := (congrFun eh_16 b15).trans (fh_keep g_15_4 g_15_3 rfl)
  have g_16_5 := (congrFun eh_16 b16).trans (fh_keep g_15_4 f_15 rfl)
  have x_11 : ∀ q, q < sz → q ≠ ma → h_16 q = h q := fun q h9 hq => by rw [eh_16]; exact (fh_up_ne _ _ hq).trans (x_10 q h9 hq)
  refine lv_aload_n hx hb dX10_init_51 rfl (lv_at hl 0 rfl) ?_
  refine lv_sipush (v := (nI 1200)) hx hb dX10_init_52 (by decide) ?_
  have hge17 := hS.1
  have hlt17 := fun (a9 : Nat) (e9 : fe) (q9 : h_16 a9 = some e9) => hP.lt q9
  refine fh_newa (atype := .boolean) (t0 := .boolean) (N' := 1200) (a0 := (1200, .inl (fun _ => 0))) hx hb (ht _ kw_775) rfl hE.1 hP hS hA0 17 rfl (fun _ => rfl) (by decide) (by decide) (by decide) (Nat.le_of_ble_eq_true rfl) (Nat.le_of_ble_eq_true rfl) dX10_init_55 (fun b17 H eb17 hAb17 hP hz_b17 hS => ?_)
  obtain ⟨h_18, eh_18⟩ : ∃ z, z = fh_up h_16 b17 (.inl (17, 1200, .inl (fun _ => 0))) := ⟨_, rfl⟩
  have g_18_0 := (congrFun eh_18 b12).trans (fh_keepN g_16_0 (Nat.ne_of_lt (by rw [eb17]; exact hlt17 _ _ g_16_0)))
  have g_18_1 := (congrFun eh_18 b13).trans (fh_keepN g_16_1 (Nat.ne_of_lt (by rw [eb17]; exact hlt17 _ _ g_16_1)))
  have g_18_2 := (congrFun eh_18 b14).trans (fh_keepN g_16_2 (Nat.ne_of_lt (by rw [eb17]; exact hlt17 _ _ g_16_2)))
  have g_18_3 := (congrFun eh_18 b15).trans (fh_keepN g_16_3 (Nat.ne_of_lt (by rw [eb17]; exact hlt17 _ _ g_16_3)))
  have g_18_4 := (congrFun eh_18 b16).trans (fh_keepN g_16_5 (Nat.ne_of_lt (by rw [eb17]; exact hlt17 _ _ g_16_5)))
  have g_18_5 := (congrFun eh_18 ma).trans (fh_keepN f_16 (Nat.ne_of_lt (by rw [eb17]; exact hlt17 _ _ f_16)))
  have hP : fh_P G vwCl h_18 H := by rw [eh_18]; exact hP
  have f_18 : h_18 b17 = some (.inl (17, 1200, .inl (fun _ => 0))) := by rw [eh_18]; exact fh_up_self _ _ _
  have hsz_b17 : sz ≤ b17 := by rw [eb17, ← hsz]; exact hge17
  have x_12 : ∀ q, q < sz → q ≠ ma → h_18 q = h q := fun q h9 hq => by rw [eh_18]; exact (fh_up_ne _ _ (by omega)).trans (x_11 q h9 hq)
  refine fh_putF (C := RX10) (T := TX10) (N := 28) (t := (.array .boolean)) hx hb ht inX10 tyX10 tyX10_ok nmX10 hown hE.1 hP hS g_18_5 (hAm) rfl 9 (by decide) (ht _ kw_699) (fun _ h9 => h9) rfl hnm rfl (by decide +kernel) rfl rfl (Nat.le_of_ble_eq_true rfl) dX10_init_57 (fun H locs hP hz hS => ?_)
  obtain ⟨h_19, eh_19⟩ : ∃ z, z = fh_up h_18 ma (.inr (10, [.int 0, .int 0, .ref b12, .int (nI 1), .ref b13, .ref b14, .int 0, .ref b15, .ref b16, .ref b17, .null, .null, .null, .null, .null, .null, .null, .int 0, .int 0, .null, .int 0, .null, .null, .int 0, .null, .null, .null, .null])) := ⟨_, rfl⟩
  have hP : fh_P G vwCl h_19 H := by rw [eh_19]; exact hP
  have f_19 : h_19 ma = some (.inr (10, [.int 0, .int 0, .ref b12, .int (nI 1), .ref b13, .ref b14, .int 0, .ref b15, .ref b16, .ref b17, .null, .null, .null, .null, .null, .null, .null, .int 0, .int 0, .null, .int 0, .null, .null, .int 0, .null, .null, .null, .null])) := by rw [eh_19]; exact fh_up_self _ _ _
  have g_19_0 := (congrFun eh_19 b12).trans (fh_keep g_18_5 g_18_0 rfl)
  have g_19_1 := (congrFun eh_19 b13).trans (fh_keep g_18_5 g_18_1 rfl)
  have g_19_2 := (congrFun eh_19 b14).trans (fh_keep g_18_5 g_18_2 rfl)
  have g_19_3 := (congrFun eh_19 b15).trans (fh_keep g_18_5 g_18_3 rfl)
  have g_19_4 := (congrFun eh_19 b16).trans (fh_keep g_18_5 g_18_4 rfl)
  have g_19_6 := (congrFun eh_19 b17).trans (fh_keep g_18_5 f_18 rfl)
  have x_13 : ∀ q, q < sz → q ≠ ma → h_19 q = h q := fun q h9 hq => by rw [eh_19]; exact (fh_up_ne _ _ hq).trans (x_12 q h9 hq)
  refine lv_aload_n hx hb dX10_init_60 rfl (lv_at hl 0 rfl) ?_
  refine lv_sipush (v := (nI 7200)) hx hb dX10_init_61 (by decide) ?_
  have hge20 := hS.1
  have hlt20 := fun (a9 : Nat) (e9 : fe) (q9 : h_19 a9 = some e9) => hP.lt q9
  refine fh_newa (atype := .long) (t0 := .long) (N' := 7200) (a0 := (7200, .inr (.inl (fun _ => 0)))) hx hb (ht _ kw_268) rfl hE.1 hP hS hA0 18 rfl (fun _ => rfl) (by decide) (by decide) (by decide) (Nat.le_of_ble_eq_true rfl) (Nat.le_of_ble_eq_true rfl) dX10_init_64 (fun b18 H eb18 hAb18 hP hz_b18 hS => ?_)
  obtain ⟨h_21, eh_21⟩ : ∃ z, z = fh_up h_19 b18 (.inl (18, 7200, .inr (.inl (fun _ => 0)))) := ⟨_, rfl⟩
  have g_21_0 := (congrFun eh_21 b12).trans (fh_keepN g_19_0 (Nat.ne_of_lt (by rw [eb18]; exact hlt20 _ _ g_19_0)))
  have g_21_1 := (congrFun eh_21 b13).trans (fh_keepN g_19_1 (Nat.ne_of_lt (by rw [eb18]; exact hlt20 _ _ g_19_1)))
  have g_21_2 := (congrFun eh_21 b14).trans (fh_keepN g_19_2 (Nat.ne_of_lt (by rw [eb18]; exact hlt20 _ _ g_19_2)))
  have g_21_3 := (congrFun eh_21 b15).trans (fh_keepN g_19_3 (Nat.ne_of_lt (by rw [eb18]; exact hlt20 _ _ g_19_3)))
  have g_21_4 := (congrFun eh_21 b16).trans (fh_keepN g_19_4 (Nat.ne_of_lt (by rw [eb18]; exact hlt20 _ _ g_19_4)))
  have g_21_5 := (congrFun eh_21 b17).trans (fh_keepN g_19_6 (Nat.ne_of_lt (by rw [eb18]; exact hlt20 _ _ g_19_6)))
  have g_21_6 := (congrFun eh_21 ma).trans (fh_keepN f_19 (Nat.ne_of_lt (by rw [eb18]; exact hlt20 _ _ f_19)))
  have hP : fh_P G vwCl h_21 H := by rw [eh_21]; exact hP
  have f_21 : h_21 b18 = some (.inl (18, 7200, .inr (.inl (fun _ => 0)))) := by rw [eh_21]; exact fh_up_self _ _ _
  have hsz_b18 : sz ≤ b18 := by rw [eb18, ← hsz]; exact hge20
  have x_14 : ∀ q, q < sz → q ≠ ma → h_21 q = h q := fun q h9 hq => by rw [eh_21]; exact (fh_up_ne _ _ (by omega)).trans (x_13 q h9 hq)
  refine fh_putF (C := RX10) (T := TX10) (N := 28) (t := (.array .long)) hx hb ht inX10 tyX10 tyX10_ok nmX10 hown hE.1 hP hS g_21_6 (hAm) rfl 10 (by decide) (ht _ kw_700) (fun _ h9 => h9) rfl hnm rfl (by decide +kernel) rfl rfl (Nat.le_of_ble_eq_true rfl) dX10_init_66 (fun H locs hP hz hS => ?_)
  obtain ⟨h_22, eh_22⟩ : ∃ z, z = fh_up h_21 ma (.inr (10, [.int 0, .int 0, .ref b12, .int (nI 1), .ref b13, .ref b14, .int 0, .ref b15, .ref b16, .ref b17, .ref b18, .null, .null, .null, .null, .null, .null, .int 0, .int 0, .null, .int 0, .null, .null, .int 0, .null, .null, .null, .null])) := ⟨_, rfl⟩
  have hP : fh_P G vwCl h_22 H := by rw [eh_22]; exact hP
  have f_22 : h_22 ma = some (.inr (10, [.int 0, .int 0, .ref b12, .int (nI 1), .ref b13, .ref b14, .int 0, .ref b15, .ref b16, .ref b17, .ref b18, .null, .null, .null, .null, .null, .null, .int 0, .int 0, .null, .int 0, .null, .null, .int 0, .null, .null, .null, .null])) := by rw [eh_22]; exact fh_up_self _ _ _
  have g_22_0 := (congrFun eh_22 b12).trans (fh_keep g_21_6 g_21_0 rfl)
  have g_22_1 := (congrFun eh_22 b13).trans (fh_keep g_21_6 g_21_1 rfl)
  have g_22_2 := (congrFun eh_22 b14).trans (fh_keep g_21_6 g_21_2 rfl)
  have g_22_3 := (congrFun eh_22 b15).trans (fh_keep g_21_6 g_21_3 rfl)
  have g_22_4 := (congrFun eh_22 b16).trans (fh_keep g_21_6 g_21_4 rfl)
  have g_22_5 := (congrFun eh_22 b17).trans (fh_keep g_21_6 g_21_5 rfl)
  have g_22_7 := (congrFun eh_22 b18).trans (fh_keep g_21_6 f_21 rfl)
  have x_15 : ∀ q, q < sz → q ≠ ma → h_22 q = h q := fun q h9 hq => by rw [eh_22]; exact (fh_up_ne _ _ hq).trans (x_14 q h9 hq)
  refine lv_aload_n hx hb dX10_init_69 rfl (lv_at hl 0 rfl) ?_
  refine lv_bipush (v := (nI 20)) hx hb dX10_init_70 (by decide) ?_
  have hge23 := hS.1
  have hlt23 := fun (a9 : Nat) (e9 : fe) (q9 : h_22 a9 = some e9) => hP.lt q9
  refine fh_newa (atype := .int) (t0 := .int) (N' := 20) (a0 := (20, .inl (fun _ => 0))) hx hb (ht _ kw_74) rfl hE.1 hP hS hA0 19 rfl (fun _ => rfl) (by decide) (by decide) (by decide) (Nat.le_of_ble_eq_true rfl) (Nat.le_of_ble_eq_true rfl) dX10_init_72 (fun b19 H eb19 hAb19 hP hz_b19 hS => ?_)
  obtain ⟨h_24, eh_24⟩ : ∃ z, z = fh_up h_22 b19 (.inl (19, 20, .inl (fun _ => 0))) := ⟨_, rfl⟩
  have g_24_0 := (congrFun eh_24 b12).trans (fh_keepN g_22_0 (Nat.ne_of_lt (by rw [eb19]; exact hlt23 _ _ g_22_0)))
  have g_24_1 := (congrFun eh_24 b13).trans (fh_keepN g_22_1 (Nat.ne_of_lt (by rw [eb19]; exact hlt23 _ _ g_22_1)))
  have g_24_2 := (congrFun eh_24 b14).trans (fh_keepN g_22_2 (Nat.ne_of_lt (by rw [eb19]; exact hlt23 _ _ g_22_2)))
  have g_24_3 := (congrFun eh_24 b15).trans (fh_keepN g_22_3 (Nat.ne_of_lt (by rw [eb19]; exact hlt23 _ _ g_22_3)))
  have g_24_4 := (congrFun eh_24 b16).trans (fh_keepN g_22_4 (Nat.ne_of_lt (by rw [eb19]; exact hlt23 _ _ g_22_4)))
  have g_24_5 := (congrFun eh_24 b17).trans (fh_keepN g_22_5 (Nat.ne_of_lt (by rw [eb19]; exact hlt23 _ _ g_22_5)))
  have g_24_6 := (congrFun eh_24 b18).trans (fh_keepN g_22_7 (Nat.ne_of_lt (by rw [eb19]; exact hlt23 _ _ g_22_7)))
  have g_24_7 := (congrFun eh_24 ma).trans (fh_keepN f_22 (Nat.ne_of_lt (by rw [eb19]; exact hlt23 _ _ f_22)))
  have hP : fh_P G vwCl h_24 H := by rw [eh_24]; exact hP
  have f_24 : h_24 b19 = some (.inl (19, 20, .inl (fun _ => 0))) := by rw [eh_24]; exact fh_up_self _ _ _
  have hsz_b19 : sz ≤ b19 := by rw [eb19, ← hsz]; exact hge23
  have x_16 : ∀ q, q < sz → q ≠ ma → h_24 q = h q := fun q h9 hq => by rw [eh_24]; exact (fh_up_ne _ _ (by omega)).trans (x_15 q h9 hq)
  refine fh_putF (C := RX10) (T := TX10) (N := 28) (t := (.array .int)) hx hb ht inX10 tyX10 tyX10_ok nmX10 hown hE.1 hP hS g_24_7 (hAm) rfl 11 (by decide) (ht _ kw_701) (fun _ h9 => h9) rfl hnm rfl (by decide +kernel) rfl rfl (Nat.le_of_ble_eq_true rfl) dX10_init_74 (fun H locs hP hz hS => ?_)
  obtain ⟨h_25, eh_25⟩ : ∃ z, z = fh_up h_24 ma (.inr (10, [.int 0, .int 0, .ref b12, .int (nI 1), .ref b13, .ref b14, .int 0, .ref b15, .ref b16, .ref b17, .ref b18, .ref b19, .null, .null, .null, .null, .null, .int 0, .int 0, .null, .int 0, .null, .null, .int 0, .null, .null, .null, .null])) := ⟨_, rfl⟩
  have hP : fh_P G vwCl h_25 H := by rw [eh_25]; exact hP
  have f_25 : h_25 ma = some (.inr (10, [.int 0, .int 0, .ref b12, .int (nI 1), .ref b13, .ref b14, .int 0, .ref b15, .ref b16, .ref b17, .ref b18, .ref b19, .null, .null, .null, .null, .null, .int 0, .int 0, .null, .int 0, .null, .null, .int 0, .null, .null, .null, .null])) := by rw [eh_25]; exact fh_up_self _ _ _
  have g_25_0 := (congrFun eh_25 b12).trans (fh_keep g_24_7 g_24_0 rfl)
  have g_25_1 := (congrFun eh_25 b13).trans (fh_keep g_24_7 g_24_1 rfl)
  have g_25_2 := (congrFun eh_25 b14).trans (fh_keep g_24_7 g_24_2 rfl)
  have g_25_3 := (congrFun eh_25 b15).trans (fh_keep g_24_7 g_24_3 rfl)
  have g_25_4 := (congrFun eh_25 b16).trans (fh_keep g_24_7 g_24_4 rfl)
  have g_25_5 := (congrFun eh_25 b17).trans (fh_keep g_24_7 g_24_5 rfl)
  have g_25_6 := (congrFun eh_25 b18).trans (fh_keep g_24_7 g_24_6 rfl)
  have g_25_8 := (congrFun eh_25 b19).trans (fh_keep g_24_7 f_24 rfl)
  have x_17 : ∀ q, q < sz → q ≠ ma → h_25 q = h q := fun q h9 hq => by rw [eh_25]; exact (fh_up_ne _ _ hq).trans (x_16 q h9 hq)
  refine lv_aload_n hx hb dX10_init_77 rfl (lv_at hl 0 rfl) ?_
  refine lv_sipush (v := (nI 800)) hx hb dX10_init_78 (by decide) ?_
  have hge26 := hS.1
  have hlt26 := fun (a9 : Nat) (e9 : fe) (q9 : h_25 a9 = some e9) => hP.lt q9
  refine fh_newa (atype := .int) (t0 := .int) (N' := 800) (a0 := (800, .inl (fun _ => 0))) hx hb (ht _ kw_74) rfl hE.1 hP hS hA0 20 rfl (fun _ => rfl) (by decide) (by decide) (by decide) (Nat.le_of_ble_eq_true rfl) (Nat.le_of_ble_eq_true rfl) dX10_init_81 (fun b20 H eb20 hAb20 hP hz_b20 hS => ?_)
  obtain ⟨h_27, eh_27⟩ : ∃ z, z = fh_up h_25 b20 (.inl (20, 800, .inl (fun _ => 0))) := ⟨_, rfl⟩
  have g_27_0 := (congrFun eh_27 b12).trans (fh_keepN g_25_0 (Nat.ne_of_lt (by rw [eb20]; exact hlt26 _ _ g_25_0)))
  have g_27_1 := (congrFun eh_27 b13).trans (fh_keepN g_25_1 (Nat.ne_of_lt (by rw [eb20]; exact hlt26 _ _ g_25_1)))
  have g_27_2 := (congrFun eh_27 b14).trans (fh_keepN g_25_2 (Nat.ne_of_lt (by rw [eb20]; exact hlt26 _ _ g_25_2)))
  have g_27_3 := (congrFun eh_27 b15).trans (fh_keepN g_25_3 (Nat.ne_of_lt (by rw [eb20]; exact hlt26 _ _ g_25_3)))
  have g_27_4 := (congrFun eh_27 b16).trans (fh_keepN g_25_4 (Nat.ne_of_lt (by rw [eb20]; exact hlt26 _ _ g_25_4)))
  have g_27_5 := (congrFun eh_27 b17).trans (fh_keepN g_25_5 (Nat.ne_of_lt (by rw [eb20]; exact hlt26 _ _ g_25_5)))
  have g_27_6 := (congrFun eh_27 b18).trans (fh_keepN g_25_6 (Nat.ne_of_lt (by rw [eb20]; exact hlt26 _ _ g_25_6)))
  have g_27_7 := (congrFun eh_27 b19).trans (fh_keepN g_25_8 (Nat.ne_of_lt (by rw [eb20]; exact hlt26 _ _ g_25_8)))
  have g_27_8 := (congrFun eh_27 ma).trans (fh_keepN f_25 (Nat.ne_of_lt (by rw [eb20]; exact hlt26 _ _ f_25)))
  have hP : fh_P G vwCl h_27 H := by rw [eh_27]; exact hP
  have f_27 : h_27 b20 = some (.inl (20, 800, .inl (fun _ => 0))) := by rw [eh_27]; exact fh_up_self _ _ _
  have hsz_b20 : sz ≤ b20 := by rw [eb20, ← hsz]; exact hge26
  have x_18 : ∀ q, q < sz → q ≠ ma → h_27 q = h q := fun q h9 hq => by rw [eh_27]; exact (fh_up_ne _ _ (by omega)).trans (x_17 q h9 hq)
  refine fh_putF (C := RX10) (T := TX10) (N := 28) (t := (.array .int)) hx hb ht inX10 tyX10 tyX10_ok nmX10 hown hE.1 hP hS g_27_8 (hAm) rfl 12 (by decide) (ht _ kw_702) (fun _ h9 => h9) rfl hnm rfl (by decide +kernel) rfl rfl (Nat.le_of_ble_eq_true rfl) dX10_init_83 (fun H locs hP hz hS => ?_)
  obtain ⟨h_28, eh_28⟩ : ∃ z, z = fh_up h_27 ma (.inr (10, [.int 0, .int 0, .ref b12, .int (nI 1), .ref b13, .ref b14, .int 0, .ref b15, .ref b16, .ref b17, .ref b18, .ref b19, .ref b20, .null, .null, .null, .null, .int 0, .int 0, .null, .int 0, .null, .null, .int 0, .null, .null, .null, .null])) := ⟨_, rfl⟩
  have hP : fh_P G vwCl h_28 H := by rw [eh_28]; exact hP
  have f_28 : h_28 ma = some (.inr (10, [.int 0, .int 0, .ref b12, .int (nI 1), .ref b13, .ref b14, .int 0, .ref b15, .ref b16, .ref b17, .ref b18, .ref b19, .ref b20, .null, .null, .null, .null, .int 0, .int 0, .null, .int 0, .null, .null, .int 0, .null, .null, .null, .null])) := by rw [eh_28]; exact fh_up_self _ _ _
  have g_28_0 := (congrFun eh_28 b12).trans (fh_keep g_27_8 g_27_0 rfl)
  have g_28_1 := (congrFun eh_28 b13).trans (fh_keep g_27_8 g_27_1 rfl)
  have g_28_2 := (congrFun eh_28 b14).trans (fh_keep g_27_8 g_27_2 rfl)
  have g_28_3 := (congrFun eh_28 b15).trans (fh_keep g_27_8 g_27_3 rfl)
  have g_28_4 := (congrFun eh_28 b16).trans (fh_keep g_27_8 g_27_4 rfl)
  have g_28_5 := (congrFun eh_28 b17).trans (fh_keep g_27_8 g_27_5 rfl)
  have g_28_6 := (congrFun eh_28 b18).trans (fh_keep g_27_8 g_27_6 rfl)
  have g_28_7 := (congrFun eh_28 b19).trans (fh_keep g_27_8 g_27_7 rfl)
  have g_28_9 := (congrFun eh_28 b20).trans (fh_keep g_27_8 f_27 rfl)
  have x_19 : ∀ q, q < sz → q ≠ ma → h_28 q = h q := fun q h9 hq => by rw [eh_28]; exact (fh_up_ne _ _ hq).trans (x_18 q h9 hq)
  refine lv_aload_n hx hb dX10_init_86 rfl (lv_at hl 0 rfl) ?_
  refine lv_sipush (v := (nI 800)) hx hb dX10_init_87 (by decide) ?_
  have hge29 := hS.1
  have hlt29 := fun (a9 : Nat) (e9 : fe) (q9 : h_28 a9 = some e9) => hP.lt q9
  refine fh_newa (atype := .int) (t0 := .int) (N' := 800) (a0 := (800, .inl (fun _ => 0))) hx hb (ht _ kw_74) rfl hE.1 hP hS hA0 21 rfl (fun _ => rfl) (by decide) (by decide) (by decide) (Nat.le_of_ble_eq_true rfl) (Nat.le_of_ble_eq_true rfl) dX10_init_90 (fun b21 H eb21 hAb21 hP hz_b21 hS => ?_)
  obtain ⟨h_30, eh_30⟩ : ∃ z, z = fh_up h_28 b21 (.inl (21, 800, .inl (fun _ => 0))) := ⟨_, rfl⟩
  have g_30_0 := (congrFun eh_30 b12).trans (fh_keepN g_28_0 (Nat.ne_of_lt (by rw [eb21]; exact hlt29 _ _ g_28_0)))
  have g_30_1 := (congrFun eh_30 b13).trans (fh_keepN g_28_1 (Nat.ne_of_lt (by rw [eb21]; exact hlt29 _ _ g_28_1)))
  have g_30_2 := (congrFun eh_30 b14).trans (fh_keepN g_28_2 (Nat.ne_of_lt (by rw [eb21]; exact hlt29 _ _ g_28_2)))
  have g_30_3 := (congrFun eh_30 b15).trans (fh_keepN g_28_3 (Nat.ne_of_lt (by rw [eb21]; exact hlt29 _ _ g_28_3)))
  have g_30_4 := (congrFun eh_30 b16).trans (fh_keepN g_28_4 (Nat.ne_of_lt (by rw [eb21]; exact hlt29 _ _ g_28_4)))
  have g_30_5 := (congrFun eh_30 b17).trans (fh_keepN g_28_5 (Nat.ne_of_lt (by rw [eb21]; exact hlt29 _ _ g_28_5)))
  have g_30_6 := (congrFun eh_30 b18).trans (fh_keepN g_28_6 (Nat.ne_of_lt (by rw [eb21]; exact hlt29 _ _ g_28_6)))
  have g_30_7 := (congrFun eh_30 b19).trans (fh_keepN g_28_7 (Nat.ne_of_lt (by rw [eb21]; exact hlt29 _ _ g_28_7)))
  have g_30_8 := (congrFun eh_30 b20).trans (fh_keepN g_28_9 (Nat.ne_of_lt (by rw [eb21]; exact hlt29 _ _ g_28_9)))
  have g_30_9 := (congrFun eh_30 ma).trans (fh_keepN f_28 (Nat.ne_of_lt (by rw [eb21]; exact hlt29 _ _ f_28)))
  have hP : fh_P G vwCl h_30 H := by rw [eh_30]; exact hP
  have f_30 : h_30 b21 = some (.inl (21, 800, .inl (fun _ => 0))) := by rw [eh_30]; exact fh_up_self _ _ _
  have hsz_b21 : sz ≤ b21 := by rw [eb21, ← hsz]; exact hge29
  have x_20 : ∀ q, q < sz → q ≠ ma → h_30 q = h q := fun q h9 hq => by rw [eh_30]; exact (fh_up_ne _ _ (by omega)).trans (x_19 q h9 hq)
  refine fh_putF (C := RX10) (T := TX10) (N := 28) (t := (.array .int)) hx hb ht inX10 tyX10 tyX10_ok nmX10 hown hE.1 hP hS g_30_9 (hAm) rfl 13 (by decide) (ht _ kw_703) (fun _ h9 => h9) rfl hnm rfl (by decide +kernel) rfl rfl (Nat.le_of_ble_eq_true rfl) dX10_init_92 (fun H locs hP hz hS => ?_)
  obtain ⟨h_31, eh_31⟩ : ∃ z, z = fh_up h_30 ma (.inr (10, [.int 0, .int 0, .ref b12, .int (nI 1), .ref b13, .ref b14, .int 0, .ref b15, .ref b16, .ref b17, .ref b18, .ref b19, .ref b20, .ref b21, .null, .null, .null, .int 0, .int 0, .null, .int 0, .null, .null, .int 0, .null, .null, .null, .null])) := ⟨_, rfl⟩
  have hP : fh_P G vwCl h_31 H := by rw [eh_31]; exact hP
  have f_31 : h_31 ma = some (.inr (10, [.int 0, .int 0, .ref b12, .int (nI 1), .ref b13, .ref b14, .int 0, .ref b15, .ref b16, .ref b17, .ref b18, .ref b19, .ref b20, .ref b21, .null, .null, .null, .int 0, .int 0, .null, .int 0, .null, .null, .int 0, .null, .null, .null, .null])) := by rw [eh_31]; exact fh_up_self _ _ _
  have g_31_0 := (congrFun eh_31 b12).trans (fh_keep g_30_9 g_30_0 rfl)
  have g_31_1 := (congrFun eh_31 b13).trans (fh_keep g_30_9 g_30_1 rfl)
  have g_31_2 := (congrFun eh_31 b14).trans (fh_keep g_30_9 g_30_2 rfl)
  have g_31_3 := (congrFun eh_31 b15).trans (fh_keep g_30_9 g_30_3 rfl)
  have g_31_4 := (congrFun eh_31 b16).trans (fh_keep g_30_9 g_30_4 rfl)
  have g_31_5 := (congrFun eh_31 b17).trans (fh_keep g_30_9 g_30_5 rfl)
  have g_31_6 := (congrFun eh_31 b18).trans (fh_keep g_30_9 g_30_6 rfl)
  have g_31_7 := (congrFun eh_31 b19).trans (fh_keep g_30_9 g_30_7 rfl)
  have g_31_8 := (congrFun eh_31 b20).trans (fh_keep g_30_9 g_30_8 rfl)
  have g_31_10 := (congrFun eh_31 b21).trans (fh_keep g_30_9 f_30 rfl)
  have x_21 : ∀ q, q < sz → q ≠ ma → h_31 q = h q := fun q h9 hq => by rw [eh_31]; exact (fh_up_ne _ _ hq).trans (x_20 q h9 hq)
  refine lv_aload_n hx hb dX10_init_95 rfl (lv_at hl 0 rfl) ?_
  refine lv_sipush (v := (nI 800)) hx hb dX10_init_96 (by decide) ?_
  have hge32 := hS.1
  have hlt32 := fun (a9 : Nat) (e9 : fe) (q9 : h_31 a9 = some e9) => hP.lt q9
  refine fh_newa (atype := .boolean) (t0 := .boolean) (N' := 800) (a0 := (800, .inl (fun _ => 0))) hx hb (ht _ kw_775) rfl hE.1 hP hS hA0 22 rfl (fun _ => rfl) (by decide) (by decide) (by decide) (Nat.le_of_ble_eq_true rfl) (Nat.le_of_ble_eq_true rfl) dX10_init_99 (fun b22 H eb22 hAb22 hP hz_b22 hS => ?_)
  obtain ⟨h_33, eh_33⟩ : ∃ z, z = fh_up h_31 b22 (.inl (22, 800, .inl (fun _ => 0))) := ⟨_, rfl⟩
  have g_33_0 := (congrFun eh_33 b12).trans (fh_keepN g_31_0 (Nat.ne_of_lt (by rw [eb22]; exact hlt32 _ _ g_31_0)))
  have g_33_1 := (congrFun eh_33 b13).trans (fh_keepN g_31_1 (Nat.ne_of_lt (by rw [eb22]; exact hlt32 _ _ g_31_1)))
  have g_33_2 := (congrFun eh_33 b14).trans (fh_keepN g_31_2 (Nat.ne_of_lt (by rw [eb22]; exact hlt32 _ _ g_31_2)))
  have g_33_3 := (congrFun eh_33 b15).trans (fh_keepN g_31_3 (Nat.ne_of_lt (by rw [eb22]; exact hlt32 _ _ g_31_3)))
  have g_33_4 := (congrFun eh_33 b16).trans (fh_keepN g_31_4 (Nat.ne_of_lt (by rw [eb22]; exact hlt32 _ _ g_31_4)))
  have g_33_5 := (congrFun eh_33 b17).trans (fh_keepN g_31_5 (Nat.ne_of_lt (by rw [eb22]; exact hlt32 _ _ g_31_5)))
  have g_33_6 := (congrFun eh_33 b18).trans (fh_keepN g_31_6 (Nat.ne_of_lt (by rw [eb22]; exact hlt32 _ _ g_31_6)))
  have g_33_7 := (congrFun eh_33 b19).trans (fh_keepN g_31_7 (Nat.ne_of_lt (by rw [eb22]; exact hlt32 _ _ g_31_7)))
  have g_33_8 := (congrFun eh_33 b20).trans (fh_keepN g_31_8 (Nat.ne_of_lt (by rw [eb22]; exact hlt32 _ _ g_31_8)))
  have g_33_9 := (congrFun eh_33 b21).trans (fh_keepN g_31_10 (Nat.ne_of_lt (by rw [eb22]; exact hlt32 _ _ g_31_10)))
  have g_33_10 := (congrFun eh_33 ma).trans (fh_keepN f_31 (Nat.ne_of_lt (by rw [eb22]; exact hlt32 _ _ f_31)))
  have hP : fh_P G vwCl h_33 H := by rw [eh_33]; exact hP
  have f_33 : h_33 b22 = some (.inl (22, 800, .inl (fun _ => 0))) := by rw [eh_33]; exact fh_up_self _ _ _
  have hsz_b22 : sz ≤ b22 := by rw [eb22, ← hsz]; exact hge32
  have x_22 : ∀ q, q < sz → q ≠ ma → h_33 q = h q := fun q h9 hq => by rw [eh_33]; exact (fh_up_ne _ _ (by omega)).trans (x_21 q h9 hq)
  refine fh_putF (C := RX10) (T := TX10) (N := 28) (t := (.array .boolean)) hx hb ht inX10 tyX10 tyX10_ok nmX10 hown hE.1 hP hS g_33_10 (hAm) rfl 14 (by decide) (ht _ kw_704) (fun _ h9 => h9) rfl hnm rfl (by decide +kernel) rfl rfl (Nat.le_of_ble_eq_true rfl) dX10_init_101 (fun H locs hP hz hS => ?_)
  obtain ⟨h_34, eh_34⟩ : ∃ z, z = fh_up h_33 ma (.inr (10, [.int 0, .int 0, .ref b12, .int (nI 1), .ref b13, .ref b14, .int 0, .ref b15, .ref b16, .ref b17, .ref b18, .ref b19, .ref b20, .ref b21, .ref b22, .null, .null, .int 0, .int 0, .null, .int 0, .null, .null, .int 0, .null, .null, .null, .null])) := ⟨_, rfl⟩
  have hP : fh_P G vwCl h_34 H := by rw [eh_34]; exact hP
  have f_34 : h_34 ma = some (.inr (10, [.int 0, .int 0, .ref b12, .int (nI 1), .ref b13, .ref b14, .int 0, .ref b15, .ref b16, .ref b17, .ref b18, .ref b19, .ref b20, .ref b21, .ref b22, .null, .null, .int 0, .int 0, .null, .int 0, .null, .null, .int 0, .null, .null, .null, .null])) := by rw [eh_34]; exact fh_up_self _ _ _
  have g_34_0 := (congrFun eh_34 b12).trans (fh_keep g_33_10 g_33_0 rfl)
  have g_34_1 := (congrFun eh_34 b13).trans (fh_keep g_33_10 g_33_1 rfl)
  have g_34_2 := (congrFun eh_34 b14).trans (fh_keep g_33_10 g_33_2 rfl)
  have g_34_3 := (congrFun eh_34 b15).trans (fh_keep g_33_10 g_33_3 rfl)
  have g_34_4 := (congrFun eh_34 b16).trans (fh_keep g_33_10 g_33_4 rfl)
  have g_34_5 := (congrFun eh_34 b17).trans (fh_keep g_33_10 g_33_5 rfl)
  have g_34_6 := (congrFun eh_34 b18).trans (fh_keep g_33_10 g_33_6 rfl)
  have g_34_7 := (congrFun eh_34 b19).trans (fh_keep g_33_10 g_33_7 rfl)
  have g_34_8 := (congrFun eh_34 b20).trans (fh_keep g_33_10 g_33_8 rfl)
  have g_34_9 := (congrFun eh_34 b21).trans (fh_keep g_33_10 g_33_9 rfl)
  have g_34_11 := (congrFun eh_34 b22).trans (fh_keep g_33_10 f_33 rfl)
  have x_23 : ∀ q, q < sz → q ≠ ma → h_34 q = h q := fun q h9 hq => by rw [eh_34]; exact (fh_up_ne _ _ hq).trans (x_22 q h9 hq)
  refine lv_aload_n hx hb dX10_init_104 rfl (lv_at hl 0 rfl) ?_
  refine lv_sipush (v := (nI 800)) hx hb dX10_init_105 (by decide) ?_
  have hge35 := hS.1
  have hlt35 := fun (a9 : Nat) (e9 : fe) (q9 : h_34 a9 = some e9) => hP.lt q9
  refine fh_newa (atype := .long) (t0 := .long) (N' := 800) (a0 := (800, .inr (.inl (fun _ => 0)))) hx hb (ht _ kw_268) rfl hE.1 hP hS hA0 23 rfl (fun _ => rfl) (by decide) (by decide) (by decide) (Nat.le_of_ble_eq_true rfl) (Nat.le_of_ble_eq_true rfl) dX10_init_108 (fun b23 H eb23 hAb23 hP hz_b23 hS => ?_)
  obtain ⟨h_36, eh_36⟩ : ∃ z, z = fh_up h_34 b23 (.inl (23, 800, .inr (.inl (fun _ => 0)))) := ⟨_, rfl⟩
  have g_36_0 := (congrFun eh_36 b12).trans (fh_keepN g_34_0 (Nat.ne_of_lt (by rw [eb23]; exact hlt35 _ _ g_34_0)))
  have g_36_1 := (congrFun eh_36 b13).trans (fh_keepN g_34_1 (Nat.ne_of_lt (by rw [eb23]; exact hlt35 _ _ g_34_1)))
  have g_36_2 := (congrFun eh_36 b14).trans (fh_keepN g_34_2 (Nat.ne_of_lt (by rw [eb23]; exact hlt35 _ _ g_34_2)))
  have g_36_3 := (congrFun eh_36 b15).trans (fh_keepN g_34_3 (Nat.ne_of_lt (by rw [eb23]; exact hlt35 _ _ g_34_3)))
  have g_36_4 := (congrFun eh_36 b16).trans (fh_keepN g_34_4 (Nat.ne_of_lt (by rw [eb23]; exact hlt35 _ _ g_34_4)))
  have g_36_5 := (congrFun eh_36 b17).trans (fh_keepN g_34_5 (Nat.ne_of_lt (by rw [eb23]; exact hlt35 _ _ g_34_5)))
  have g_36_6 := (congrFun eh_36 b18).trans (fh_keepN g_34_6 (Nat.ne_of_lt (by rw [eb23]; exact hlt35 _ _ g_34_6)))
  have g_36_7 := (congrFun eh_36 b19).trans (fh_keepN g_34_7 (Nat.ne_of_lt (by rw [eb23]; exact hlt35 _ _ g_34_7)))
  have g_36_8 := (congrFun eh_36 b20).trans (fh_keepN g_34_8 (Nat.ne_of_lt (by rw [eb23]; exact hlt35 _ _ g_34_8)))
  have g_36_9 := (congrFun eh_36 b21).trans (fh_keepN g_34_9 (Nat.ne_of_lt (by rw [eb23]; exact hlt35 _ _ g_34_9)))
  have g_36_10 := (congrFun eh_36 b22).trans (fh_keepN g_34_11 (Nat.ne_of_lt (by rw [eb23]; exact hlt35 _ _ g_34_11)))
  have g_36_11 := (congrFun eh_36 ma).trans (fh_keepN f_34 (Nat.ne_of_lt (by rw [eb23]; exact hlt35 _ _ f_34)))
  have hP : fh_P G vwCl h_36 H := by rw [eh_36]; exact hP
  have f_36 : h_36 b23 = some (.inl (23, 800, .inr (.inl (fun _ => 0)))) := by rw [eh_36]; exact fh_up_self _ _ _
  have hsz_b23 : sz ≤ b23 := by rw [eb23, ← hsz]; exact hge35
  have x_24 : ∀ q, q < sz → q ≠ ma → h_36 q = h q := fun q h9 hq => by rw [eh_36]; exact (fh_up_ne _ _ (by omega)).trans (x_23 q h9 hq)
  refine fh_putF (C := RX10) (T := TX10) (N := 28) (t := (.array .long)) hx hb ht inX10 tyX10 tyX10_ok nmX10 hown hE.1 hP hS g_36_11 (hAm) rfl 15 (by decide) (ht _ kw_705) (fun _ h9 => h9) rfl hnm rfl (by decide +kernel) rfl rfl (Nat.le_of_ble_eq_true rfl) dX10_init_110 (fun H locs hP hz hS => ?_)
  obtain ⟨h_37, eh_37⟩ : ∃ z, z = fh_up h_36 ma (.inr (10, [.int 0, .int 0, .ref b12, .int (nI 1), .ref b13, .ref b14, .int 0, .ref b15, .ref b16, .ref b17, .ref b18, .ref b19, .ref b20, .ref b21, .ref b22, .ref b23, .null, .int 0, .int 0, .null, .int 0, .null, .null, .int 0, .null, .null, .null, .null])) := ⟨_, rfl⟩
  have hP : fh_P G vwCl h_37 H := by rw [eh_37]; exact hP
  have f_37 : h_37 ma = some (.inr (10, [.int 0, .int 0, .ref b12, .int (nI 1), .ref b13, .ref b14, .int 0, .ref b15, .ref b16, .ref b17, .ref b18, .ref b19, .ref b20, .ref b21, .ref b22, .ref b23, .null, .int 0, .int 0, .null, .int 0, .null, .null, .int 0, .null, .null, .null, .null])) := by rw [eh_37]; exact fh_up_self _ _ _
  have g_37_0 := (congrFun eh_37 b12).trans (fh_keep g_36_11 g_36_0 rfl)
  have g_37_1 := (congrFun eh_37 b13).trans (fh_keep g_36_11 g_36_1 rfl)
  have g_37_2 := (congrFun eh_37 b14).trans (fh_keep g_36_11 g_36_2 rfl)
  have g_37_3 := (congrFun eh_37 b15).trans (fh_keep g_36_11 g_36_3 rfl)
  have g_37_4 := (congrFun eh_37 b16).trans (fh_keep g_36_11 g_36_4 rfl)
  have g_37_5 := (congrFun eh_37 b17).trans (fh_keep g_36_11 g_36_5 rfl)
  have g_37_6 := (congrFun eh_37 b18).trans (fh_keep g_36_11 g_36_6 rfl)
  have g_37_7 := (congrFun eh_37 b19).trans (fh_keep g_36_11 g_36_7 rfl)
  have g_37_8 := (congrFun eh_37 b20).trans (fh_keep g_36_11 g_36_8 rfl)
  have g_37_9 := (congrFun eh_37 b21).trans (fh_keep g_36_11 g_36_9 rfl)
  have g_37_10 := (congrFun eh_37 b22).trans (fh_keep g_36_11 g_36_10 rfl)
  have g_37_12 := (congrFun eh_37 b23).trans (fh_keep g_36_11 f_36 rfl)
  have x_25 : ∀ q, q < sz → q ≠ ma → h_37 q = h q := fun q h9 hq => by rw [eh_37]; exact (fh_up_ne _ _ hq).trans (x_24 q h9 hq)
  refine lv_aload_n hx hb dX10_init_113 rfl (lv_at hl 0 rfl) ?_
  refine lv_sipush (v := (nI 8400)) hx hb dX10_init_114 (by decide) ?_
  have hge38 := hS.1
  have hlt38 := fun (a9 : Nat) (e9 : fe) (q9 : h_37 a9 = some e9) => hP.lt q9
  refine fh_newa (atype := .int) (t0 := .int) (N' := 8400) (a0 := (8400, .inl (fun _ => 0))) hx hb (ht _ kw_74) rfl hE.1 hP hS hA0 24 rfl (fun _ => rfl) (by decide) (by decide) (by decide) (Nat.le_of_ble_eq_true rfl) (Nat.le_of_ble_eq_true rfl) dX10_init_117 (fun b24 H eb24 hAb24 hP hz_b24 hS => ?_)
  obtain ⟨h_39, eh_39⟩ : ∃ z, z = fh_up h_37 b24 (.inl (24, 8400, .inl (fun _ => 0))) := ⟨_, rfl⟩
  have g_39_0 := (congrFun eh_39 b12).trans (fh_keepN g_37_0 (Nat.ne_of_lt (by rw [eb24]; exact hlt38 _ _ g_37_0)))
  have g_39_1 := (congrFun eh_39 b13).trans (fh_keepN g_37_1 (Nat.ne_of_lt (by rw [eb24]; exact hlt38 _ _ g_37_1)))
  have g_39_2 := (congrFun eh_39 b14).trans (fh_keepN g_37_2 (Nat.ne_of_lt (by rw [eb24]; exact hlt38 _ _ g_37_2)))
  have g_39_3 := (congrFun eh_39 b15).trans (fh_keepN g_37_3 (Nat.ne_of_lt (by rw [eb24]; exact hlt38 _ _ g_37_3)))
  have g_39_4 := (congrFun eh_39 b16).trans (fh_keepN g_37_4 (Nat.ne_of_lt (by rw [eb24]; exact hlt38 _ _ g_37_4)))
  have g_39_5 := (congrFun eh_39 b17).trans (fh_keepN g_37_5 (Nat.ne_of_lt (by rw [eb24]; exact hlt38 _ _ g_37_5)))
  have g_39_6 := (congrFun eh_39 b18).trans (fh_keepN g_37_6 (Nat.ne_of_lt (by rw [eb24]; exact hlt38 _ _ g_37_6)))
  have g_39_7 := (congrFun eh_39 b19).trans (fh_keepN g_37_7 (Nat.ne_of_lt (by rw [eb24]; exact hlt38 _ _ g_37_7)))
  have g_39_8 := (congrFun eh_39 b20).trans (fh_keepN g_37_8 (Nat.ne_of_lt (by rw [eb24]; exact hlt38 _ _ g_37_8)))
  have g_39_9 := (congrFun eh_39 b21).trans (fh_keepN g_37_9 (Nat.ne_of_lt (by rw [eb24]; exact hlt38 _ _ g_37_9)))
  have g_39_10 := (congrFun eh_39 b22).trans (fh_keepN g_37_10 (Nat.ne_of_lt (by rw [eb24]; exact hlt38 _ _ g_37_10)))
  have g_39_11 := (congrFun eh_39 b23).trans (fh_keepN g_37_12 (Nat.ne_of_lt (by rw [eb24]; exact hlt38 _ _ g_37_12)))
  have g_39_12 := (congrFun eh_39 ma).trans (fh_keepN f_37 (Nat.ne_of_lt (by rw [eb24]; exact hlt38 _ _ f_37)))
  have hP : fh_P G vwCl h_39 H := by rw [eh_39]; exact hP
  have f_39 : h_39 b24 = some (.inl (24, 8400, .inl (fun _ => 0))) := by rw [eh_39]; exact fh_up_self _ _ _
  have hsz_b24 : sz ≤ b24 := by rw [eb24, ← hsz]; exact hge38
  have x_26 : ∀ q, q < sz → q ≠ ma → h_39 q = h q := fun q h9 hq => by rw [eh_39]; exact (fh_up_ne _ _ (by omega)).trans (x_25 q h9 hq)
  refine fh_putF (C := RX10) (T := TX10) (N := 28) (t := (.array .int)) hx hb ht inX10 tyX10 tyX10_ok nmX10 hown hE.1 hP hS g_39_12 (hAm) rfl 16 (by decide) (ht _ kw_706) (fun _ h9 => h9) rfl hnm rfl (by decide +kernel) rfl rfl (Nat.le_of_ble_eq_true rfl) dX10_init_119 (fun H locs hP hz hS => ?_)
  obtain ⟨h_40, eh_40⟩ : ∃ z, z = fh_up h_39 ma (.inr (10, [.int 0, .int 0, .ref b12, .int (nI 1), .ref b13, .ref b14, .int 0, .ref b15, .ref b16, .ref b17, .ref b18, .ref b19, .ref b20, .ref b21, .ref b22, .ref b23, .ref b24, .int 0, .int 0, .null, .int 0, .null, .null, .int 0, .null, .null, .null, .null])) := ⟨_, rfl⟩
  have hP : fh_P G vwCl h_40 H := by rw [eh_40]; exact hP
  have f_40 : h_40 ma = some (.inr (10, [.int 0, .int 0, .ref b12, .int (nI 1), .ref b13, .ref b14, .int 0, .ref b15, .ref b16, .ref b17, .ref b18, .ref b19, .ref b20, .ref b21, .ref b22, .ref b23, .ref b24, .int 0, .int 0, .null, .int 0, .null, .null, .int 0, .null, .null, .null, .null])) := by rw [eh_40]; exact fh_up_self _ _ _
  have g_40_0 := (congrFun eh_40 b12).trans (fh_keep g_39_12 g_39_0 rfl)
  have g_40_1 := (congrFun eh_40 b13).trans (fh_keep g_39_12 g_39_1 rfl)
  have g_40_2 := (congrFun eh_40 b14).trans (fh_keep g_39_12 g_39_2 rfl)
  have g_40_3 := (congrFun eh_40 b15).trans (fh_keep g_39_12 g_39_3 rfl)
  have g_40_4 := (congrFun eh_40 b16).trans (fh_keep g_39_12 g_39_4 rfl)
  have g_40_5 := (congrFun eh_40 b17).trans (fh_keep g_39_12 g_39_5 rfl)
  have g_40_6 := (congrFun eh_40 b18).trans (fh_keep g_39_12 g_39_6 rfl)
  have g_40_7 := (congrFun eh_40 b19).trans (fh_keep g_39_12 g_39_7 rfl)
  have g_40_8 := (congrFun eh_40 b20).trans (fh_keep g_39_12 g_39_8 rfl)
  have g_40_9 := (congrFun eh_40 b21).trans (fh_keep g_39_12 g_39_9 rfl)
  have g_40_10 := (congrFun eh_40 b22).trans (fh_keep g_39_12 g_39_10 rfl)
  have g_40_11 := (congrFun eh_40 b23).trans (fh_keep g_39_12 g_39_11 rfl)
  have g_40_13 := (congrFun eh_40 b24).trans (fh_keep g_39_12 f_39 rfl)
  have x_27 : ∀ q, q < sz → q ≠ ma → h_40 q = h q := fun q h9 hq => by rw [eh_40]; exact (fh_up_ne _ _ hq).trans (x_26 q h9 hq)
  refine lv_aload_n hx hb dX10_init_122 rfl (lv_at hl 0 rfl) ?_
  refine lv_sipush (v := (nI 420)) hx hb dX10_init_123 (by decide) ?_
  have hge41 := hS.1
  have hlt41 := fun (a9 : Nat) (e9 : fe) (q9 : h_40 a9 = some e9) => hP.lt q9
  refine fh_newa (atype := .int) (t0 := .int) (N' := 420) (a0 := (420, .inl (fun _ => 0))) hx hb (ht _ kw_74) rfl hE.1 hP hS hA0 25 rfl (fun _ => rfl) (by decide) (by decide) (by decide) (Nat.le_of_ble_eq_true rfl) (Nat.le_of_ble_eq_true rfl) dX10_init_126 (fun b25 H eb25 hAb25 hP hz_b25 hS => ?_)
  obtain ⟨h_42, eh_42⟩ : ∃ z, z = fh_up h_40 b25 (.inl (25, 420, .inl (fun _ => 0))) := ⟨_, rfl⟩
  have g_42_0 := (congrFun eh_42 b12).trans (fh_keepN g_40_0 (Nat.ne_of_lt (by rw [eb25]; exact hlt41 _ _ g_40_0)))
  have g_42_1 := (congrFun eh_42 b13).trans (fh_keepN g_40_1 (Nat.ne_of_lt (by rw [eb25]; exact hlt41 _ _ g_40_1)))
  have g_42_2 := (congrFun eh_42 b14).trans (fh_keepN g_40_2 (Nat.ne_of_lt (by rw [eb25]; exact hlt41 _ _ g_40_2)))
  have g_42_3 := (congrFun eh_42 b15).trans (fh_keepN g_40_3 (Nat.ne_of_lt (by rw [eb25]; exact hlt41 _ _ g_40_3)))
  have g_42_4 := (congrFun eh_42 b16).trans (fh_keepN g_40_4 (Nat.ne_of_lt (by rw [eb25]; exact hlt41 _ _ g_40_4)))
  have g_42_5 := (congrFun eh_42 b17).trans (fh_keepN g_40_5 (Nat.ne_of_lt (by rw [eb25]; exact hlt41 _ _ g_40_5)))
  have g_42_6 := (congrFun eh_42 b18).trans (fh_keepN g_40_6 (Nat.ne_of_lt (by rw [eb25]; exact hlt41 _ _ g_40_6)))
  have g_42_7 := (congrFun eh_42 b19).trans (fh_keepN g_40_7 (Nat.ne_of_lt (by rw [eb25]; exact hlt41 _ _ g_40_7)))
  have g_42_8 := (congrFun eh_42 b20).trans (fh_keepN g_40_8 (Nat.ne_of_lt (by rw [eb25]; exact hlt41 _ _ g_40_8)))
  have g_42_9 := (congrFun eh_42 b21).trans (fh_keepN g_40_9 (Nat.ne_of_lt (by rw [eb25]; exact hlt41 _ _ g_40_9)))
  have g_42_10 := (congrFun eh_42 b22).trans (fh_keepN g_40_10 (Nat.ne_of_lt (by rw [eb25]; exact hlt41 _ _ g_40_10)))
  have g_42_11 := (congrFun eh_42 b23).trans (fh_keepN g_40_11 (Nat.ne_of_lt (by rw [eb25]; exact hlt41 _ _ g_40_11)))
  have g_42_12 := (congrFun eh_42 b24).trans (fh_keepN g_40_13 (Nat.ne_of_lt (by rw [eb25]; exact hlt41 _ _ g_40_13)))
  have g_42_13 := (congrFun eh_42 ma).trans (fh_keepN f_40 (Nat.ne_of_lt (by rw [eb25]; exact hlt41 _ _ f_40)))
  have hP : fh_P G vwCl h_42 H := by rw [eh_42]; exact hP
  have f_42 : h_42 b25 = some (.inl (25, 420, .inl (fun _ => 0))) := by rw [eh_42]; exact fh_up_self _ _ _
  have hsz_b25 : sz ≤ b25 := by rw [eb25, ← hsz]; exact hge41
  have x_28 : ∀ q, q < sz → q ≠ ma → h_42 q = h q := fun q h9 hq => by rw [eh_42]; exact (fh_up_ne _ _ (by omega)).trans (x_27 q h9 hq)
  refine fh_putF (C := RX10) (T := TX10) (N := 28) (t := (.array .int)) hx hb ht inX10 tyX10 tyX10_ok nmX10 hown hE.1 hP hS g_42_13 (hAm) rfl 19 (by decide) (ht _ kw_709) (fun _ h9 => h9) rfl hnm rfl (by decide +kernel) rfl rfl (Nat.le_of_ble_eq_true rfl) dX10_init_128 (fun H locs hP hz hS => ?_)
  obtain ⟨h_43, eh_43⟩ : ∃ z, z = fh_up h_42 ma (.inr (10, [.int 0, .int 0, .ref b12, .int (nI 1), .ref b13, .ref b14, .int 0, .ref b15, .ref b16, .ref b17, .ref b18, .ref b19, .ref b20, .ref b21, .ref b22, .ref b23, .ref b24, .int 0, .int 0, .ref b25, .int 0, .null, .null, .int 0, .null, .null, .null, .null])) := ⟨_, rfl⟩
  have hP : fh_P G vwCl h_43 H := by rw [eh_43]; exact hP
  have f_43 : h_43 ma = some (.inr (10, [.int 0, .int 0, .ref b12, .int (nI 1), .ref b13, .ref b14, .int 0, .ref b15, .ref b16, .ref b17, .ref b18, .ref b19, .ref b20, .ref b21, .ref b22, .ref b23, .ref b24, .int 0, .int 0, .ref b25, .int 0, .null, .null, .int 0, .null, .null, .null, .null])) := by rw [eh_43]; exact fh_up_self _ _ _
  have g_43_0 := (congrFun eh_43 b12).trans (fh_keep g_42_13 g_42_0 rfl)
  have g_43_1 := (congrFun eh_43 b13).trans (fh_keep g_42_13 g_42_1 rfl)
  have g_43_2 := (congrFun eh_43 b14).trans (fh_keep g_42_13 g_42_2 rfl)
  have g_43_3 := (congrFun eh_43 b15).trans (fh_keep g_42_13 g_42_3 rfl)
  have g_43_4 := (congrFun eh_43 b16).trans (fh_keep g_42_13 g_42_4 rfl)
  have g_43_5 := (congrFun eh_43 b17).trans (fh_keep g_42_13 g_42_5 rfl)
  have g_43_6 := (congrFun eh_43 b18).trans (fh_keep g_42_13 g_42_6 rfl)
  have g_43_7 := (congrFun eh_43 b19).trans (fh_keep g_42_13 g_42_7 rfl)
  have g_43_8 := (congrFun eh_43 b20).trans (fh_keep g_42_13 g_42_8 rfl)
  have g_43_9 := (congrFun eh_43 b21).trans (fh_keep g_42_13 g_42_9 rfl)
  have g_43_10 := (congrFun eh_43 b22).trans (fh_keep g_42_13 g_42_10 rfl)
  have g_43_11 := (congrFun eh_43 b23).trans (fh_keep g_42_13 g_42_11 rfl)
  have g_43_12 := (congrFun eh_43 b24).trans (fh_keep g_42_13 g_42_12 rfl)
  have g_43_14 := (congrFun eh_43 b25).trans (fh_keep g_42_13 f_42 rfl)
  have x_29 : ∀ q, q < sz → q ≠ ma → h_43 q = h q := fun q h9 hq => by rw [eh_43]; exact (fh_up_ne _ _ hq).trans (x_28 q h9 hq)
  refine lv_aload_n hx hb dX10_init_131 rfl (lv_at hl 0 rfl) ?_
  refine lv_bipush (v := (nI 10)) hx hb dX10_init_132 (by decide) ?_
  have hge44 := hS.1
  have hlt44 := fun (a9 : Nat) (e9 : fe) (q9 : h_43 a9 = some e9) => hP.lt q9
  refine fh_newa (atype := .int) (t0 := .int) (N' := 10) (a0 := (10, .inl (fun _ => 0))) hx hb (ht _ kw_74) rfl hE.1 hP hS hA0 26 rfl (fun _ => rfl) (by decide) (by decide) (by decide) (Nat.le_of_ble_eq_true rfl) (Nat.le_of_ble_eq_true rfl) dX10_init_134 (fun b26 H eb26 hAb26 hP hz_b26 hS => ?_)
  obtain ⟨h_45, eh_45⟩ : ∃ z, z = fh_up h_43 b26 (.inl (26, 10, .inl (fun _ => 0))) := ⟨_, rfl⟩
  have g_45_0 := (congrFun eh_45 b12).trans (fh_keepN g_43_0 (Nat.ne_of_lt (by rw [eb26]; exact hlt44 _ _ g_43_0)))
  have g_45_1 := (congrFun eh_45 b13).trans (fh_keepN g_43_1 (Nat.ne_of_lt (by rw [eb26]; exact hlt44 _ _ g_43_1)))
  have g_45_2 := (congrFun eh_45 b14).trans (fh_keepN g_43_2 (Nat.ne_of_lt (by rw [eb26]; exact hlt44 _ _ g_43_2)))
  have g_45_3 := (congrFun eh_45 b15).trans (fh_keepN g_43_3 (Nat.ne_of_lt (by rw [eb26]; exact hlt44 _ _ g_43_3)))
  have g_45_4 := (congrFun eh_45 b16).trans (fh_keepN g_43_4 (Nat.ne_of_lt (by rw [eb26]; exact hlt44 _ _ g_43_4)))
  have g_45_5 := (congrFun eh_45 b17).trans (fh_keepN g_43_5 (Nat.ne_of_lt (by rw [eb26]; exact hlt44 _ _ g_43_5)))
  have g_45_6 := (congrFun eh_45 b18).trans (fh_keepN g_43_6 (Nat.ne_of_lt (by rw [eb26]; exact hlt44 _ _ g_43_6)))
  have g_45_7 := (congrFun eh_45 b19).trans (fh_keepN g_43_7 (Nat.ne_of_lt (by rw [eb26]; exact hlt44 _ _ g_43_7)))
  have g_45_8 := (congrFun eh_45 b20).trans (fh_keepN g_43_8 (Nat.ne_of_lt (by rw [eb26]; exact hlt44 _ _ g_43_8)))
  have g_45_9 := (congrFun eh_45 b21).trans (fh_keepN g_43_9 (Nat.ne_of_lt (by rw [eb26]; exact hlt44 _ _ g_43_9)))
  have g_45_10 := (congrFun eh_45 b22).trans (fh_keepN g_43_10 (Nat.ne_of_lt (by rw [eb26]; exact hlt44 _ _ g_43_10)))
  have g_45_11 := (congrFun eh_45 b23).trans (fh_keepN g_43_11 (Nat.ne_of_lt (by rw [eb26]; exact hlt44 _ _ g_43_11)))
  have g_45_12 := (congrFun eh_45 b24).trans (fh_keepN g_43_12 (Nat.ne_of_lt (by rw [eb26]; exact hlt44 _ _ g_43_12)))
  have g_45_13 := (congrFun eh_45 b25).trans (fh_keepN g_43_14 (Nat.ne_of_lt (by rw [eb26]; exact hlt44 _ _ g_43_14)))
  have g_45_14 := (congrFun eh_45 ma).trans (fh_keepN f_43 (Nat.ne_of_lt (by rw [eb26]; exact hlt44 _ _ f_43)))
  have hP : fh_P G vwCl h_45 H := by rw [eh_45]; exact hP
  have f_45 : h_45 b26 = some (.inl (26, 10, .inl (fun _ => 0))) := by rw [eh_45]; exact fh_up_self _ _ _
  have hsz_b26 : sz ≤ b26 := by rw [eb26, ← hsz]; exact hge44
  have x_30 : ∀ q, q < sz → q ≠ ma → h_45 q = h q := fun q h9 hq => by rw [eh_45]; exact (fh_up_ne _ _ (by omega)).trans (x_29 q h9 hq)
  refine fh_putF (C := RX10) (T := TX10) (N := 28) (t := (.array .int)) hx hb ht inX10 tyX10 tyX10_ok nmX10 hown hE.1 hP hS g_45_14 (hAm) rfl 21 (by decide) (ht _ kw_711) (fun _ h9 => h9) rfl hnm rfl (by decide +kernel) rfl rfl (Nat.le_of_ble_eq_true rfl) dX10_init_136 (fun H locs hP hz hS => ?_)
  obtain ⟨h_46, eh_46⟩ : ∃ z, z = fh_up h_45 ma (.inr (10, [.int 0, .int 0, .ref b12, .int (nI 1), .ref b13, .ref b14, .int 0, .ref b15, .ref b16, .ref b17, .ref b18, .ref b19, .ref b20, .ref b21, .ref b22, .ref b23, .ref b24, .int 0, .int 0, .ref b25, .int 0, .ref b26, .null, .int 0, .null, .null, .null, .null])) := ⟨_, rfl⟩
  have hP : fh_P G vwCl h_46 H := by rw [eh_46]; exact hP
  have f_46 : h_46 ma = some (.inr (10, [.int 0, .int 0, .ref b12, .int (nI 1), .ref b13, .ref b14, .int 0, .ref b15, .ref b16, .ref b17, .ref b18, .ref b19, .ref b20, .ref b21, .ref b22, .ref b23, .ref b24, .int 0, .int 0, .ref b25, .int 0, .ref b26, .null, .int 0, .null, .null, .null, .null])) := by rw [eh_46]; exact fh_up_self _ _ _
  have g_46_0 := (congrFun eh_46 b12).trans (fh_keep g_45_14 g_45_0 rfl)
  have g_46_1 := (congrFun eh_46 b13).trans (fh_keep g_45_14 g_45_1 rfl)
  have g_46_2 := (congrFun eh_46 b14).trans (fh_keep g_45_14 g_45_2 rfl)
  have g_46_3 := (congrFun eh_46 b15).trans (fh_keep g_45_14 g_45_3 rfl)
  have g_46_4 := (congrFun eh_46 b16).trans (fh_keep g_45_14 g_45_4 rfl)
  have g_46_5 := (congrFun eh_46 b17).trans (fh_keep g_45_14 g_45_5 rfl)
  have g_46_6 := (congrFun eh_46 b18).trans (fh_keep g_45_14 g_45_6 rfl)
  have g_46_7 := (congrFun eh_46 b19).trans (fh_keep g_45_14 g_45_7 rfl)
  have g_46_8 := (congrFun eh_46 b20).trans (fh_keep g_45_14 g_45_8 rfl)
  have g_46_9 := (congrFun eh_46 b21).trans (fh_keep g_45_14 g_45_9 rfl)
  have g_46_10 := (congrFun eh_46 b22).trans (fh_keep g_45_14 g_45_10 rfl)
  have g_46_11 := (congrFun eh_46 b23).trans (fh_keep g_45_14 g_45_11 rfl)
  have g_46_12 := (congrFun eh_46 b24).trans (fh_keep g_45_14 g_45_12 rfl)
  have g_46_13 := (congrFun eh_46 b25).trans (fh_keep g_45_14 g_45_13 rfl)
  have g_46_15 := (congrFun eh_46 b26).trans (fh_keep g_45_14 f_45 rfl)
  have x_31 : ∀ q, q < sz → q ≠ ma → h_46 q = h q := fun q h9 hq => by rw [eh_46]; exact (fh_up_ne _ _ hq).trans (x_30 q h9 hq)
  refine lv_aload_n hx hb dX10_init_139 rfl (lv_at hl 0 rfl) ?_
  refine lv_bipush (v := (nI 40)) hx hb dX10_init_140 (by decide) ?_
  have hge47 := hS.1
  have hlt47 := fun (a9 : Nat) (e9 : fe) (q9 : h_46 a9 = some e9) => hP.lt q9
  refine fh_newa (atype := .long) (t0 := .long) (N' := 40) (a0 := (40, .inr (.inl (fun _ => 0)))) hx hb (ht _ kw_268) rfl hE.1 hP hS hA0 27 rfl (fun _ => rfl) (by decide) (by decide) (by decide) (Nat.le_of_ble_eq_true rfl) (Nat.le_of_ble_eq_true rfl) dX10_init_142 (fun b27 H eb27 hAb27 hP hz_b27 hS => ?_)
  obtain ⟨h_48, eh_48⟩ : ∃ z, z = fh_up h_46 b27 (.inl (27, 40, .inr (.inl (fun _ => 0)))) := ⟨_, rfl⟩
  have g_48_0 := (congrFun eh_48 b12).trans (fh_keepN g_46_0 (Nat.ne_of_lt (by rw [eb27]; exact hlt47 _ _ g_46_0)))
  have g_48_1 := (congrFun eh_48 b13).trans (fh_keepN g_46_1 (Nat.ne_of_lt (by rw [eb27]; exact hlt47 _ _ g_46_1)))
  have g_48_2 := (congrFun eh_48 b14).trans (fh_keepN g_46_2 (Nat.ne_of_lt (by rw [eb27]; exact hlt47 _ _ g_46_2)))
  have g_48_3 := (congrFun eh_48 b15).trans (fh_keepN g_46_3 (Nat.ne_of_lt (by rw [eb27]; exact hlt47 _ _ g_46_3)))
  have g_48_4 := (congrFun eh_48 b16).trans (fh_keepN g_46_4 (Nat.ne_of_lt (by rw [eb27]; exact hlt47 _ _ g_46_4)))
  have g_48_5 := (congrFun eh_48 b17).trans (fh_keepN g_46_5 (Nat.ne_of_lt (by rw [eb27]; exact hlt47 _ _ g_46_5)))
  have g_48_6 := (congrFun eh_48 b18).trans (fh_keepN g_46_6 (Nat.ne_of_lt (by rw [eb27]; exact hlt47 _ _ g_46_6)))
  have g_48_7 := (congrFun eh_48 b19).trans (fh_keepN g_46_7 (Nat.ne_of_lt (by rw [eb27]; exact hlt47 _ _ g_46_7)))
  have g_48_8 := (congrFun eh_48 b20).trans (fh_keepN g_46_8 (Nat.ne_of_lt (by rw [eb27]; exact hlt47 _ _ g_46_8)))
  have g_48_9 := (congrFun eh_48 b21).trans (fh_keepN g_46_9 (Nat.ne_of_lt (by rw [eb27]; exact hlt47 _ _ g_46_9)))
  have g_48_10 := (congrFun eh_48 b22).trans (fh_keepN g_46_10 (Nat.ne_of_lt (by rw [eb27]; exact hlt47 _ _ g_46_10)))
  have g_48_11 := (congrFun eh_48 b23).trans (fh_keepN g_46_11 (Nat.ne_of_lt (by rw [eb27]; exact hlt47 _ _ g_46_11)))
  have g_48_12 := (congrFun eh_48 b24).trans (fh_keepN g_46_12 (Nat.ne_of_lt (by rw [eb27]; exact hlt47 _ _ g_46_12)))
  have g_48_13 := (congrFun eh_48 b25).trans (fh_keepN g_46_13 (Nat.ne_of_lt (by rw [eb27]; exact hlt47 _ _ g_46_13)))
  have g_48_14 := (congrFun eh_48 b26).trans (fh_keepN g_46_15 (Nat.ne_of_lt (by rw [eb27]; exact hlt47 _ _ g_46_15)))
  have g_48_15 := (congrFun eh_48 ma).trans (fh_keepN f_46 (Nat.ne_of_lt (by rw [eb27]; exact hlt47 _ _ f_46)))
  have hP : fh_P G vwCl h_48 H := by rw [eh_48]; exact hP
  have f_48 : h_48 b27 = some (.inl (27, 40, .inr (.inl (fun _ => 0)))) := by rw [eh_48]; exact fh_up_self _ _ _
  have hsz_b27 : sz ≤ b27 := by rw [eb27, ← hsz]; exact hge47
  have x_32 : ∀ q, q < sz → q ≠ ma → h_48 q = h q := fun q h9 hq => by rw [eh_48]; exact (fh_up_ne _ _ (by omega)).trans (x_31 q h9 hq)
  refine fh_putF (C := RX10) (T := TX10) (N := 28) (t := (.array .long)) hx hb ht inX10 tyX10 tyX10_ok nmX10 hown hE.1 hP hS g_48_15 (hAm) rfl 22 (by decide) (ht _ kw_712) (fun _ h9 => h9) rfl hnm rfl (by decide +kernel) rfl rfl (Nat.le_of_ble_eq_true rfl) dX10_init_144 (fun H locs hP hz hS => ?_)
  obtain ⟨h_49, eh_49⟩ : ∃ z, z = fh_up h_48 ma (.inr (10, [.int 0, .int 0, .ref b12, .int (nI 1), .ref b13, .ref b14, .int 0, .ref b15, .ref b16, .ref b17, .ref b18, .ref b19, .ref b20, .ref b21, .ref b22, .ref b23, .ref b24, .int 0, .int 0, .ref b25, .int 0, .ref b26, .ref b27, .int 0, .null, .null, .null, .null])) := ⟨_, rfl⟩
  have hP : fh_P G vwCl h_49 H := by rw [eh_49]; exact hP
  have f_49 : h_49 ma = some (.inr (10, [.int 0, .int 0, .ref b12, .int (nI 1), .ref b13, .ref b14, .int 0, .ref b15, .ref b16, .ref b17, .ref b18, .ref b19, .ref b20, .ref b21, .ref b22, .ref b23, .ref b24, .int 0, .int 0, .ref b25, .int 0, .ref b26, .ref b27, .int 0, .null, .null, .null, .null])) := by rw [eh_49]; exact fh_up_self _ _ _
  have g_49_0 := (congrFun eh_49 b12).trans (fh_keep g_48_15 g_48_0 rfl)
  have g_49_1 := (congrFun eh_49 b13).trans (fh_keep g_48_15 g_48_1 rfl)
  have g_49_2 := (congrFun eh_49 b14).trans (fh_keep g_48_15 g_48_2 rfl)
  have g_49_3 := (congrFun eh_49 b15).trans (fh_keep g_48_15 g_48_3 rfl)
  have g_49_4 := (congrFun eh_49 b16).trans (fh_keep g_48_15 g_48_4 rfl)
  have g_49_5 := (congrFun eh_49 b17).trans (fh_keep g_48_15 g_48_5 rfl)
  have g_49_6 := (congrFun eh_49 b18).trans (fh_keep g_48_15 g_48_6 rfl)
  have g_49_7 := (congrFun eh_49 b19).trans (fh_keep g_48_15 g_48_7 rfl)
  have g_49_8 := (congrFun eh_49 b20).trans (fh_keep g_48_15 g_48_8 rfl)
  have g_49_9 := (congrFun eh_49 b21).trans (fh_keep g_48_15 g_48_9 rfl)
  have g_49_10 := (congrFun eh_49 b22).trans (fh_keep g_48_15 g_48_10 rfl)
  have g_49_11 := (congrFun eh_49 b23).trans (fh_keep g_48_15 g_48_11 rfl)
  have g_49_12 := (congrFun eh_49 b24).trans (fh_keep g_48_15 g_48_12 rfl)
  have g_49_13 := (congrFun eh_49 b25).trans (fh_keep g_48_15 g_48_13 rfl)
  have g_49_14 := (congrFun eh_49 b26).trans (fh_keep g_48_15 g_48_14 rfl)
  have g_49_16 := (congrFun eh_49 b27).trans (fh_keep g_48_15 f_48 rfl)
  have x_33 : ∀ q, q < sz → q ≠ ma → h_49 q = h q := fun q h9 hq => by rw [eh_49]; exact (fh_up_ne _ _ hq).trans (x_32 q h9 hq)
  refine lv_aload_n hx hb dX10_init_147 rfl (lv_at hl 0 rfl) ?_
  refine lv_bipush (v := (nI 20)) hx hb dX10_init_148 (by decide) ?_
  have hge50 := hS.1
  have hlt50 := fun (a9 : Nat) (e9 : fe) (q9 : h_49 a9 = some e9) => hP.lt q9
  refine fh_newa (atype := .int) (t0 := .int) (N' := 20) (a0 := (20, .inl (fun _ => 0))) hx hb (ht _ kw_74) rfl hE.1 hP hS hA0 28 rfl (fun _ => rfl) (by decide) (by decide) (by decide) (Nat.le_of_ble_eq_true rfl) (Nat.le_of_ble_eq_true rfl) dX10_init_150 (fun b28 H eb28 hAb28 hP hz_b28 hS => ?_)
  obtain ⟨h_51, eh_51⟩ : ∃ z, z = fh_up h_49 b28 (.inl (28, 20, .inl (fun _ => 0))) := ⟨_, rfl⟩
  have g_51_0 := (congrFun eh_51 b12).trans (fh_keepN g_49_0 (Nat.ne_of_lt (by rw [eb28]; exact hlt50 _ _ g_49_0)))
  have g_51_1 := (congrFun eh_51 b13).trans (fh_keepN g_49_1 (Nat.ne_of_lt (by rw [eb28]; exact hlt50 _ _ g_49_1)))
  have g_51_2 := (congrFun eh_51 b14).trans (fh_keepN g_49_2 (Nat.ne_of_lt (by rw [eb28]; exact hlt50 _ _ g_49_2)))
  have g_51_3 := (congrFun eh_51 b15).trans (fh_keepN g_49_3 (Nat.ne_of_lt (by rw [eb28]; exact hlt50 _ _ g_49_3)))
  have g_51_4 := (congrFun eh_51 b16).trans (fh_keepN g_49_4 (Nat.ne_of_lt (by rw [eb28]; exact hlt50 _ _ g_49_4)))
  have g_51_5 := (congrFun eh_51 b17).trans (fh_keepN g_49_5 (Nat.ne_of_lt (by rw [eb28]; exact hlt50 _ _ g_49_5)))
  have g_51_6 := (congrFun eh_51 b18).trans (fh_keepN g_49_6 (Nat.ne_of_lt (by rw [eb28]; exact hlt50 _ _ g_49_6)))
  have g_51_7 := (congrFun eh_51 b19).trans (fh_keepN g_49_7 (Nat.ne_of_lt (by rw [eb28]; exact hlt50 _ _ g_49_7)))
  have g_51_8 := (congrFun eh_51 b20).trans (fh_keepN g_49_8 (Nat.ne_of_lt (by rw [eb28]; exact hlt50 _ _ g_49_8)))
  have g_51_9 := (congrFun eh_51 b21).trans (fh_keepN g_49_9 (Nat.ne_of_lt (by rw [eb28]; exact hlt50 _ _ g_49_9)))
  have g_51_10 := (congrFun eh_51 b22).trans (fh_keepN g_49_10 (Nat.ne_of_lt (by rw [eb28]; exact hlt50 _ _ g_49_10)))
  have g_51_11 := (congrFun eh_51 b23).trans (fh_keepN g_49_11 (Nat.ne_of_lt (by rw [eb28]; exact hlt50 _ _ g_49_11)))
  have g_51_12 := (congrFun eh_51 b24).trans (fh_keepN g_49_12 (Nat.ne_of_lt (by rw [eb28]; exact hlt50 _ _ g_49_12)))
  have g_51_13 := (congrFun eh_51 b25).trans (fh_keepN g_49_13 (Nat.ne_of_lt (by rw [eb28]; exact hlt50 _ _ g_49_13)))
  have g_51_14 := (congrFun eh_51 b26).trans (fh_keepN g_49_14 (Nat.ne_of_lt (by rw [eb28]; exact hlt50 _ _ g_49_14)))
  have g_51_15 := (congrFun eh_51 b27).trans (fh_keepN g_49_16 (Nat.ne_of_lt (by rw [eb28]; exact hlt50 _ _ g_49_16)))
  have g_51_16 := (congrFun eh_51 ma).trans (fh_keepN f_49 (Nat.ne_of_lt (by rw [eb28]; exact hlt50 _ _ f_49)))
  have hP : fh_P G vwCl h_51 H := by rw [eh_51]; exact hP
  have f_51 : h_51 b28 = some (.inl (28, 20, .inl (fun _ => 0))) := by rw [eh_51]; exact fh_up_self _ _ _
  have hsz_b28 : sz ≤ b28 := by rw [eb28, ← hsz]; exact hge50
  have x_34 : ∀ q, q < sz → q ≠ ma → h_51 q = h q := fun q h9 hq => by rw [eh_51]; exact (fh_up_ne _ _ (by omega)).trans (x_33 q h9 hq)
  refine fh_putF (C := RX10) (T := TX10) (N := 28) (t := (.array .int)) hx hb ht inX10 tyX10 tyX10_ok nmX10 hown hE.1 hP hS g_51_16 (hAm) rfl 24 (by decide) (ht _ kw_714) (fun _ h9 => h9) rfl hnm rfl (by decide +kernel) rfl rfl (Nat.le_of_ble_eq_true rfl) dX10_init_152 (fun H locs hP hz hS => ?_)
  obtain ⟨h_52, eh_52⟩ : ∃ z, z = fh_up h_51 ma (.inr (10, [.int 0, .int 0, .ref b12, .int (nI 1), .ref b13, .ref b14, .int 0, .ref b15, .ref b16, .ref b17, .ref b18, .ref b19, .ref b20, .ref b21, .ref b22, .ref b23, .ref b24, .int 0, .int 0, .ref b25, .int 0, .ref b26, .ref b27, .int 0, .ref b28, .null, .null, .null])) := ⟨_, rfl⟩
  have hP : fh_P G vwCl h_52 H := by rw [eh_52]; exact hP
  have f_52 : h_52 ma = some (.inr (10, [.int 0, .int 0, .ref b12, .int (nI 1), .ref b13, .ref b14, .int 0, .ref b15, .ref b16, .ref b17, .ref b18, .ref b19, .ref b20, .ref b21, .ref b22, .ref b23, .ref b24, .int 0, .int 0, .ref b25, .int 0, .ref b26, .ref b27, .int 0, .ref b28, .null, .null, .null])) := by rw [eh_52]; exact fh_up_self _ _ _
  have g_52_0 := (congrFun eh_52 b12).trans (fh_keep g_51_16 g_51_0 rfl)
  have g_52_1 := (congrFun eh_52 b13).trans (fh_keep g_51_16 g_51_1 rfl)
  have g_52_2 := (congrFun eh_52 b14).trans (fh_keep g_51_16 g_51_2 rfl)
  have g_52_3 := (congrFun eh_52 b15).trans (fh_keep g_51_16 g_51_3 rfl)
  have g_52_4 := (congrFun eh_52 b16).trans (fh_keep g_51_16 g_51_4 rfl)
  have g_52_5 := (congrFun eh_52 b17).trans (fh_keep g_51_16 g_51_5 rfl)
  have g_52_6 := (congrFun eh_52 b18).trans (fh_keep g_51_16 g_51_6 rfl)
  have g_52_7 := (congrFun eh_52 b19).trans (fh_keep g_51_16 g_51_7 rfl)
  have g_52_8 := (congrFun eh_52 b20).trans (fh_keep g_51_16 g_51_8 rfl)
  have g_52_9 := (congrFun eh_52 b21).trans (fh_keep g_51_16 g_51_9 rfl)
  have g_52_10 := (congrFun eh_52 b22).trans (fh_keep g_51_16 g_51_10 rfl)
  have g_52_11 := (congrFun eh_52 b23).trans (fh_keep g_51_16 g_51_11 rfl)
  have g_52_12 := (congrFun eh_52 b24).trans (fh_keep g_51_16 g_51_12 rfl)
  have g_52_13 := (congrFun eh_52 b25).trans (fh_keep g_51_16 g_51_13 rfl)
  have g_52_14 := (congrFun eh_52 b26).trans (fh_keep g_51_16 g_51_14 rfl)
  have g_52_15 := (congrFun eh_52 b27).trans (fh_keep g_51_16 g_51_15 rfl)
  have g_52_17 := (congrFun eh_52 b28).trans (fh_keep g_51_16 f_51 rfl)
  have x_35 : ∀ q, q < sz → q ≠ ma → h_52 q = h q := fun q h9 hq => by rw [eh_52]; exact (fh_up_ne _ _ hq).trans (x_34 q h9 hq)
  refine lv_aload_n hx hb dX10_init_155 rfl (lv_at hl 0 rfl) ?_
  refine lv_bipush (v := (nI 20)) hx hb dX10_init_156 (by decide) ?_
  have hge53 := hS.1
  have hlt53 := fun (a9 : Nat) (e9 : fe) (q9 : h_52 a9 = some e9) => hP.lt q9
  refine fh_newa (atype := .int) (t0 := .int) (N' := 20) (a0 := (20, .inl (fun _ => 0))) hx hb (ht _ kw_74) rfl hE.1 hP hS hA0 29 rfl (fun _ => rfl) (by decide) (by decide) (by decide) (Nat.le_of_ble_eq_true rfl) (Nat.le_of_ble_eq_true rfl) dX10_init_158 (fun b29 H eb29 hAb29 hP hz_b29 hS => ?_)
  obtain ⟨h_54, eh_54⟩ : ∃ z, z = fh_up h_52 b29 (.inl (29, 20, .inl (fun _ => 0))) := ⟨_, rfl⟩
  have g_54_0 := (congrFun eh_54 b12).trans (fh_keepN g_52_0 (Nat.ne_of_lt (by rw [eb29]; exact hlt53 _ _ g_52_0)))
  have g_54_1 := (congrFun eh_54 b13).trans (fh_keepN g_52_1 (Nat.ne_of_lt (by rw [eb29]; exact hlt53 _ _ g_52_1)))
  have g_54_2 := (congrFun eh_54 b14).trans (fh_keepN g_52_2 (Nat.ne_of_lt (by rw [eb29]; exact hlt53 _ _ g_52_2)))
  have g_54_3 := (congrFun eh_54 b15).trans (fh_keepN g_52_3 (Nat.ne_of_lt (by rw [eb29]; exact hlt53 _ _ g_52_3)))
  have g_54_4 := (congrFun eh_54 b16).trans (fh_keepN g_52_4 (Nat.ne_of_lt (by rw [eb29]; exact hlt53 _ _ g_52_4)))
  have g_54_5 := (congrFun eh_54 b17).trans (fh_keepN g_52_5 (Nat.ne_of_lt (by rw [eb29]; exact hlt53 _ _ g_52_5)))
  have g_54_6 := (congrFun eh_54 b18).trans (fh_keepN g_52_6 (Nat.ne_of_lt (by rw [eb29]; exact hlt53 _ _ g_52_6)))
  have g_54_7 := (congrFun eh_54 b19).trans (fh_keepN g_52_7 (Nat.ne_of_lt (by rw [eb29]; exact hlt53 _ _ g_52_7)))
  have g_54_8 := (congrFun eh_54 b20).trans (fh_keepN g_52_8 (Nat.ne_of_lt (by rw [eb29]; exact hlt53 _ _ g_52_8)))
  have g_54_9 := (congrFun eh_54 b21).trans (fh_keepN g_52_9 (Nat.ne_of_lt (by rw [eb29]; exact hlt53 _ _ g_52_9)))
  have g_54_10 := (congrFun eh_54 b22).trans (fh_keepN g_52_10 (Nat.ne_of_lt (by rw [eb29]; exact hlt53 _ _ g_52_10)))
  have g_54_11 := (congrFun eh_54 b23).trans (fh_keepN g_52_11 (Nat.ne_of_lt (by rw [eb29]; exact hlt53 _ _ g_52_11)))
  have g_54_12 := (congrFun eh_54 b24).trans (fh_keepN g_52_12 (Nat.ne_of_lt (by rw [eb29]; exact hlt53 _ _ g_52_12)))
  have g_54_13 := (congrFun eh_54 b25).trans (fh_keepN g_52_13 (Nat.ne_of_lt (by rw [eb29]; exact hlt53 _ _ g_52_13)))
  have g_54_14 := (congrFun eh_54 b26).trans (fh_keepN g_52_14 (Nat.ne_of_lt (by rw [eb29]; exact hlt53 _ _ g_52_14)))
  have g_54_15 := (congrFun eh_54 b27).trans (fh_keepN g_52_15 (Nat.ne_of_lt (by rw [eb29]; exact hlt53 _ _ g_52_15)))
  have g_54_16 := (congrFun eh_54 b28).trans (fh_keepN g_52_17 (Nat.ne_of_lt (by rw [eb29]; exact hlt53 _ _ g_52_17)))
  have g_54_17 := (congrFun eh_54 ma).trans (fh_keepN f_52 (Nat.ne_of_lt (by rw [eb29]; exact hlt53 _ _ f_52)))
  have hP : fh_P G vwCl h_54 H := by rw [eh_54]; exact hP
  have f_54 : h_54 b29 = some (.inl (29, 20, .inl (fun _ => 0))) := by rw [eh_54]; exact fh_up_self _ _ _
  have hsz_b29 : sz ≤ b29 := by rw [eb29, ← hsz]; exact hge53
  have x_36 : ∀ q, q < sz → q ≠ ma → h_54 q = h q := fun q h9 hq => by rw [eh_54]; exact (fh_up_ne _ _ (by omega)).trans (x_35 q h9 hq)
  refine fh_putF (C := RX10) (T := TX10) (N := 28) (t := (.array .int)) hx hb ht inX10 tyX10 tyX10_ok nmX10 hown hE.1 hP hS g_54_17 (hAm) rfl 25 (by decide) (ht _ kw_715) (fun _ h9 => h9) rfl hnm rfl (by decide +kernel) rfl rfl (Nat.le_of_ble_eq_true rfl) dX10_init_160 (fun H locs hP hz hS => ?_)
  obtain ⟨h_55, eh_55⟩ : ∃ z, z = fh_up h_54 ma (.inr (10, [.int 0, .int 0, .ref b12, .int (nI 1), .ref b13, .ref b14, .int 0, .ref b15, .ref b16, .ref b17, .ref b18, .ref b19, .ref b20, .ref b21, .ref b22, .ref b23, .ref b24, .int 0, .int 0, .ref b25, .int 0, .ref b26, .ref b27, .int 0, .ref b28, .ref b29, .null, .null])) := ⟨_, rfl⟩
  have hP : fh_P G vwCl h_55 H := by rw [eh_55]; exact hP
  have f_55 : h_55 ma = some (.inr (10, [.int 0, .int 0, .ref b12, .int (nI 1), .ref b13, .ref b14, .int 0, .ref b15, .ref b16, .ref b17, .ref b18, .ref b19, .ref b20, .ref b21, .ref b22, .ref b23, .ref b24, .int 0, .int 0, .ref b25, .int 0, .ref b26, .ref b27, .int 0, .ref b28, .ref b29, .null, .null])) := by rw [eh_55]; exact fh_up_self _ _ _
  have g_55_0 := (congrFun eh_55 b12).trans (fh_keep g_54_17 g_54_0 rfl)
  have g_55_1 := (congrFun eh_55 b13).trans (fh_keep g_54_17 g_54_1 rfl)
  have g_55_2 := (congrFun eh_55 b14).trans (fh_keep g_54_17 g_54_2 rfl)
  have g_55_3 := (congrFun eh_55 b15).trans (fh_keep g_54_17 g_54_3 rfl)
  have g_55_4 := (congrFun eh_55 b16).trans (fh_keep g_54_17 g_54_4 rfl)
  have g_55_5 := (congrFun eh_55 b17).trans (fh_keep g_54_17 g_54_5 rfl)
  have g_55_6 := (congrFun eh_55 b18).trans (fh_keep g_54_17 g_54_6 rfl)
  have g_55_7 := (congrFun eh_55 b19).trans (fh_keep g_54_17 g_54_7 rfl)
  have g_55_8 := (congrFun eh_55 b20).trans (fh_keep g_54_17 g_54_8 rfl)
  have g_55_9 := (congrFun eh_55 b21).trans (fh_keep g_54_17 g_54_9 rfl)
  have g_55_10 := (congrFun eh_55 b22).trans (fh_keep g_54_17 g_54_10 rfl)
  have g_55_11 := (congrFun eh_55 b23).trans (fh_keep g_54_17 g_54_11 rfl)
  have g_55_12 := (congrFun eh_55 b24).trans (fh_keep g_54_17 g_54_12 rfl)
  have g_55_13 := (congrFun eh_55 b25).trans (fh_keep g_54_17 g_54_13 rfl)
  have g_55_14 := (congrFun eh_55 b26).trans (fh_keep g_54_17 g_54_14 rfl)
  have g_55_15 := (congrFun eh_55 b27).trans (fh_keep g_54_17 g_54_15 rfl)
  have g_55_16 := (congrFun eh_55 b28).trans (fh_keep g_54_17 g_54_16 rfl)
  have g_55_18 := (congrFun eh_55 b29).trans (fh_keep g_54_17 f_54 rfl)
  have x_37 : ∀ q, q < sz → q ≠ ma → h_55 q = h q := fun q h9 hq => by rw [eh_55]; exact (fh_up_ne _ _ hq).trans (x_36 q h9 hq)
  refine lv_aload_n hx hb dX10_init_163 rfl (lv_at hl 0 rfl) ?_
  refine lv_bipush (v := (nI 20)) hx hb dX10_init_164 (by decide) ?_
  have hge56 := hS.1
  have hlt56 := fun (a9 : Nat) (e9 : fe) (q9 : h_55 a9 = some e9) => hP.lt q9
  refine fh_newa (atype := .long) (t0 := .long) (N' := 20) (a0 := (20, .inr (.inl (fun _ => 0)))) hx hb (ht _ kw_268) rfl hE.1 hP hS hA0 30 rfl (fun _ => rfl) (by decide) (by decide) (by decide) (Nat.le_of_ble_eq_true rfl) (Nat.le_of_ble_eq_true rfl) dX10_init_166 (fun b30 H eb30 hAb30 hP hz_b30 hS => ?_)
  obtain ⟨h_57, eh_57⟩ : ∃ z, z = fh_up h_55 b30 (.inl (30, 20, .inr (.inl (fun _ => 0)))) := ⟨_, rfl⟩
  have g_57_0 := (congrFun eh_57 b12).trans (fh_keepN g_55_0 (Nat.ne_of_lt (by rw [eb30]; exact hlt56 _ _ g_55_0)))
  have g_57_1 := (congrFun eh_57 b13).trans (fh_keepN g_55_1 (Nat.ne_of_lt (by rw [eb30]; exact hlt56 _ _ g_55_1)))
  have g_57_2 := (congrFun eh_57 b14).trans (fh_keepN g_55_2 (Nat.ne_of_lt (by rw [eb30]; exact hlt56 _ _ g_55_2)))
  have g_57_3 := (congrFun eh_57 b15).trans (fh_keepN g_55_3 (Nat.ne_of_lt (by rw [eb30]; exact hlt56 _ _ g_55_3)))
  have g_57_4 := (congrFun eh_57 b16).trans (fh_keepN g_55_4 (Nat.ne_of_lt (by rw [eb30]; exact hlt56 _ _ g_55_4)))
  have g_57_5 := (congrFun eh_57 b17).trans (fh_keepN g_55_5 (Nat.ne_of_lt (by rw [eb30]; exact hlt56 _ _ g_55_5)))
  have g_57_6 := (congrFun eh_57 b18).trans (fh_keepN g_55_6 (Nat.ne_of_lt (by rw [eb30]; exact hlt56 _ _ g_55_6)))
  have g_57_7 := (congrFun eh_57 b19).trans (fh_keepN g_55_7 (Nat.ne_of_lt (by rw [eb30]; exact hlt56 _ _ g_55_7)))
  have g_57_8 := (congrFun eh_57 b20).trans (fh_keepN g_55_8 (Nat.ne_of_lt (by rw [eb30]; exact hlt56 _ _ g_55_8)))
  have g_57_9 := (congrFun eh_57 b21).trans (fh_keepN g_55_9 (Nat.ne_of_lt (by rw [eb30]; exact hlt56 _ _ g_55_9)))
  have g_57_10 := (congrFun eh_57 b22).trans (fh_keepN g_55_10 (Nat.ne_of_lt (by rw [eb30]; exact hlt56 _ _ g_55_10)))
  have g_57_11 := (congrFun eh_57 b23).trans (fh_keepN g_55_11 (Nat.ne_of_lt (by rw [eb30]; exact hlt56 _ _ g_55_11)))
  have g_57_12 := (congrFun eh_57 b24).trans (fh_keepN g_55_12 (Nat.ne_of_lt (by rw [eb30]; exact hlt56 _ _ g_55_12)))
  have g_57_13 := (congrFun eh_57 b25).trans (fh_keepN g_55_13 (Nat.ne_of_lt (by rw [eb30]; exact hlt56 _ _ g_55_13)))
  have g_57_14 := (congrFun eh_57 b26).trans (fh_keepN g_55_14 (Nat.ne_of_lt (by rw [eb30]; exact hlt56 _ _ g_55_14)))
  have g_57_15 := (congrFun eh_57 b27).trans (fh_keepN g_55_15 (Nat.ne_of_lt (by rw [eb30]; exact hlt56 _ _ g_55_15)))
  have g_57_16 := (congrFun eh_57 b28).trans (fh_keepN g_55_16 (Nat.ne_of_lt (by rw [eb30]; exact hlt56 _ _ g_55_16)))
  have g_57_17 := (congrFun eh_57 b29).trans (fh_keepN g_55_18 (Nat.ne_of_lt (by rw [eb30]; exact hlt56 _ _ g_55_18)))
  have g_57_18 := (congrFun eh_57 ma).trans (fh_keepN f_55 (Nat.ne_of_lt (by rw [eb30]; exact hlt56 _ _ f_55)))
  have hP : fh_P G vwCl h_57 H := by rw [eh_57]; exact hP
  have f_57 : h_57 b30 = some (.inl (30, 20, .inr (.inl (fun _ => 0)))) := by rw [eh_57]; exact fh_up_self _ _ _
  have hsz_b30 : sz ≤ b30 := by rw [eb30, ← hsz]; exact hge56
  have x_38 : ∀ q, q < sz → q ≠ ma → h_57 q = h q := fun q h9 hq => by rw [eh_57]; exact (fh_up_ne _ _ (by omega)).trans (x_37 q h9 hq)
  refine fh_putF (C := RX10) (T := TX10) (N := 28) (t := (.array .long)) hx hb ht inX10 tyX10 tyX10_ok nmX10 hown hE.1 hP hS g_57_18 (hAm) rfl 26 (by decide) (ht _ kw_716) (fun _ h9 => h9) rfl hnm rfl (by decide +kernel) rfl rfl (Nat.le_of_ble_eq_true rfl) dX10_init_168 (fun H locs hP hz hS => ?_)
  obtain ⟨h_58, eh_58⟩ : ∃ z, z = fh_up h_57 ma (.inr (10, [.int 0, .int 0, .ref b12, .int (nI 1), .ref b13, .ref b14, .int 0, .ref b15, .ref b16, .ref b17, .ref b18, .ref b19, .ref b20, .ref b21, .ref b22, .ref b23, .ref b24, .int 0, .int 0, .ref b25, .int 0, .ref b26, .ref b27, .int 0, .ref b28, .ref b29, .ref b30, .null])) := ⟨_, rfl⟩
  have hP : fh_P G vwCl h_58 H := by rw [eh_58]; exact hP
  have f_58 : h_58 ma = some (.inr (10, [.int 0, .int 0, .ref b12, .int (nI 1), .ref b13, .ref b14, .int 0, .ref b15, .ref b16, .ref b17, .ref b18, .ref b19, .ref b20, .ref b21, .ref b22, .ref b23, .ref b24, .int 0, .int 0, .ref b25, .int 0, .ref b26, .ref b27, .int 0, .ref b28, .ref b29, .ref b30, .null])) := by rw [eh_58]; exact fh_up_self _ _ _
  have g_58_0 := (congrFun eh_58 b12).trans (fh_keep g_57_18 g_57_0 rfl)
  have g_58_1 := (congrFun eh_58 b13).trans (fh_keep g_57_18 g_57_1 rfl)
  have g_58_2 := (congrFun eh_58 b14).trans (fh_keep g_57_18 g_57_2 rfl)
  have g_58_3 := (congrFun eh_58 b15).trans (fh_keep g_57_18 g_57_3 rfl)
  have g_58_4 := (congrFun eh_58 b16).trans (fh_keep g_57_18 g_57_4 rfl)
  have g_58_5 := (congrFun eh_58 b17).trans (fh_keep g_57_18 g_57_5 rfl)
  have g_58_6 := (congrFun eh_58 b18).trans (fh_keep g_57_18 g_57_6 rfl)
  have g_58_7 := (congrFun eh_58 b19).trans (fh_keep g_57_18 g_57_7 rfl)
  have g_58_8 := (congrFun eh_58 b20).trans (fh_keep g_57_18 g_57_8 rfl)
  have g_58_9 := (congrFun eh_58 b21).trans (fh_keep g_57_18 g_57_9 rfl)
  have g_58_10 := (congrFun eh_58 b22).trans (fh_keep g_57_18 g_57_10 rfl)
  have g_58_11 := (congrFun eh_58 b23).trans (fh_keep g_57_18 g_57_11 rfl)
  have g_58_12 := (congrFun eh_58 b24).trans (fh_keep g_57_18 g_57_12 rfl)
  have g_58_13 := (congrFun eh_58 b25).trans (fh_keep g_57_18 g_57_13 rfl)
  have g_58_14 := (congrFun eh_58 b26).trans (fh_keep g_57_18 g_57_14 rfl)
  have g_58_15 := (congrFun eh_58 b27).trans (fh_keep g_57_18 g_57_15 rfl)
  have g_58_16 := (congrFun eh_58 b28).trans (fh_keep g_57_18 g_57_16 rfl)
  have g_58_17 := (congrFun eh_58 b29).trans (fh_keep g_57_18 g_57_17 rfl)
  have g_58_19 := (congrFun eh_58 b30).trans (fh_keep g_57_18 f_57 rfl)
  have x_39 : ∀ q, q < sz → q ≠ ma → h_58 q = h q := fun q h9 hq => by rw [eh_58]; exact (fh_up_ne _ _ hq).trans (x_38 q h9 hq)
  refine lv_aload_n hx hb dX10_init_171 rfl (lv_at hl 0 rfl) ?_
  refine lv_bipush (v := (nI 60)) hx hb dX10_init_172 (by decide) ?_
  have hge59 := hS.1
  have hlt59 := fun (a9 : Nat) (e9 : fe) (q9 : h_58 a9 = some e9) => hP.lt q9
  refine fh_newa (atype := .int) (t0 := .int) (N' := 60) (a0 := (60, .inl (fun _ => 0))) hx hb (ht _ kw_74) rfl hE.1 hP hS hA0 31 rfl (fun _ => rfl) (by decide) (by decide) (by decide) (Nat.le_of_ble_eq_true rfl) (Nat.le_of_ble_eq_true rfl) dX10_init_174 (fun b31 H eb31 hAb31 hP hz_b31 hS => ?_)
  obtain ⟨h_60, eh_60⟩ : ∃ z, z = fh_up h_58 b31 (.inl (31, 60, .inl (fun _ => 0))) := ⟨_, rfl⟩
  have g_60_0 := (congrFun eh_60 b12).trans (fh_keepN g_58_0 (Nat.ne_of_lt (by rw [eb31]; exact hlt59 _ _ g_58_0)))
  have g_60_1 := (congrFun eh_60 b13).trans (fh_keepN g_58_1 (Nat.ne_of_lt (by rw [eb31]; exact hlt59 _ _ g_58_1)))
  have g_60_2 := (congrFun eh_60 b14).trans (fh_keepN g_58_2 (Nat.ne_of_lt (by rw [eb31]; exact hlt59 _ _ g_58_2)))
  have g_60_3 := (congrFun eh_60 b15).trans (fh_keepN g_58_3 (Nat.ne_of_lt (by rw [eb31]; exact hlt59 _ _ g_58_3)))
  have g_60_4 := (congrFun eh_60 b16).trans (fh_keepN g_58_4 (Nat.ne_of_lt (by rw [eb31]; exact hlt59 _ _ g_58_4)))
  have g_60_5 := (congrFun eh_60 b17).trans (fh_keepN g_58_5 (Nat.ne_of_lt (by rw [eb31]; exact hlt59 _ _ g_58_5)))
  have g_60_6 := (congrFun eh_60 b18).trans (fh_keepN g_58_6 (Nat.ne_of_lt (by rw [eb31]; exact hlt59 _ _ g_58_6)))
  have g_60_7 := (congrFun eh_60 b19).trans (fh_keepN g_58_7 (Nat.ne_of_lt (by rw [eb31]; exact hlt59 _ _ g_58_7)))
  have g_60_8 := (congrFun eh_60 b20).trans (fh_keepN g_58_8 (Nat.ne_of_lt (by rw [eb31]; exact hlt59 _ _ g_58_8)))
  have g_60_9 := (congrFun eh_60 b21).trans (fh_keepN g_58_9 (Nat.ne_of_lt (by rw [eb31]; exact hlt59 _ _ g_58_9)))
  have g_60_10 := (congrFun eh_60 b22).trans (fh_keepN g_58_10 (Nat.ne_of_lt (by rw [eb31]; exact hlt59 _ _ g_58_10)))
  have g_60_11 := (congrFun eh_60 b23).trans (fh_keepN g_58_11 (Nat.ne_of_lt (by rw [eb31]; exact hlt59 _ _ g_58_11)))
  have g_60_12 := (congrFun eh_60 b24).trans (fh_keepN g_58_12 (Nat.ne_of_lt (by rw [eb31]; exact hlt59 _ _ g_58_12)))
  have g_60_13 := (congrFun eh_60 b25).trans (fh_keepN g_58_13 (Nat.ne_of_lt (by rw [eb31]; exact hlt59 _ _ g_58_13)))
  have g_60_14 := (congrFun eh_60 b26).trans (fh_keepN g_58_14 (Nat.ne_of_lt (by rw [eb31]; exact hlt59 _ _ g_58_14)))
  have g_60_15 := (congrFun eh_60 b27).trans (fh_keepN g_58_15 (Nat.ne_of_lt (by rw [eb31]; exact hlt59 _ _ g_58_15)))
  have g_60_16 := (congrFun eh_60 b28).trans (fh_keepN g_58_16 (Nat.ne_of_lt (by rw [eb31]; exact hlt59 _ _ g_58_16)))
  have g_60_17 := (congrFun eh_60 b29).trans (fh_keepN g_58_17 (Nat.ne_of_lt (by rw [eb31]; exact hlt59 _ _ g_58_17)))
  have g_60_18 := (congrFun eh_60 b30).trans (fh_keepN g_58_19 (Nat.ne_of_lt (by rw [eb31]; exact hlt59 _ _ g_58_19)))
  have g_60_19 := (congrFun eh_60 ma).trans (fh_keepN f_58 (Nat.ne_of_lt (by rw [eb31]; exact hlt59 _ _ f_58)))
  have hP : fh_P G vwCl h_60 H := by rw [eh_60]; exact hP
  have f_60 : h_60 b31 = some (.inl (31, 60, .inl (fun _ => 0))) := by rw [eh_60]; exact fh_up_self _ _ _
  have hsz_b31 : sz ≤ b31 := by rw [eb31, ← hsz]; exact hge59
  have x_40 : ∀ q, q < sz → q ≠ ma → h_60 q = h q := fun q h9 hq => by rw [eh_60]; exact (fh_up_ne _ _ (by omega)).trans (x_39 q h9 hq)
  refine fh_putF (C := RX10) (T := TX10) (N := 28) (t := (.array .int)) hx hb ht inX10 tyX10 tyX10_ok nmX10 hown hE.1 hP hS g_60_19 (hAm) rfl 27 (by decide) (ht _ kw_717) (fun _ h9 => h9) rfl hnm rfl (by decide +kernel) rfl rfl (Nat.le_of_ble_eq_true rfl) dX10_init_176 (fun H locs hP hz hS => ?_)
  obtain ⟨h_61, eh_61⟩ : ∃ z, z = fh_up h_60 ma (.inr (10, [.int 0, .int 0, .ref b12, .int (nI 1), .ref b13, .ref b14, .int 0, .ref b15, .ref b16, .ref b17, .ref b18, .ref b19, .ref b20, .ref b21, .ref b22, .ref b23, .ref b24, .int 0, .int 0, .ref b25, .int 0, .ref b26, .ref b27, .int 0, .ref b28, .ref b29, .ref b30, .ref b31])) := ⟨_, rfl⟩
  have hP : fh_P G vwCl h_61 H := by rw [eh_61]; exact hP
  have f_61 : h_61 ma = some (.inr (10, [.int 0, .int 0, .ref b12, .int (nI 1), .ref b13, .ref b14, .int 0, .ref b15, .ref b16, .ref b17, .ref b18, .ref b19, .ref b20, .ref b21, .ref b22, .ref b23, .ref b24, .int 0, .int 0, .ref b25, .int 0, .ref b26, .ref b27, .int 0, .ref b28, .ref b29, .ref b30, .ref b31])) := by rw [eh_61]; exact fh_up_self _ _ _
  have g_61_0 := (congrFun eh_61 b12).trans (fh_keep g_60_19 g_60_0 rfl)
  have g_61_1 := (congrFun eh_61 b13).trans (fh_keep g_60_19 g_60_1 rfl)
  have g_61_2 := (congrFun eh_61 b14).trans (fh_keep g_60_19 g_60_2 rfl)
  have g_61_3 := (congrFun eh_61 b15).trans (fh_keep g_60_19 g_60_3 rfl)
  have g_61_4 := (congrFun eh_61 b16).trans (fh_keep g_60_19 g_60_4 rfl)
  have g_61_5 := (congrFun eh_61 b17).trans (fh_keep g_60_19 g_60_5 rfl)
  have g_61_6 := (congrFun eh_61 b18).trans (fh_keep g_60_19 g_60_6 rfl)
  have g_61_7 := (congrFun eh_61 b19).trans (fh_keep g_60_19 g_60_7 rfl)
  have g_61_8 := (congrFun eh_61 b20).trans (fh_keep g_60_19 g_60_8 rfl)
  have g_61_9 := (congrFun eh_61 b21).trans (fh_keep g_60_19 g_60_9 rfl)
  have g_61_10 := (congrFun eh_61 b22).trans (fh_keep g_60_19 g_60_10 rfl)
  have g_61_11 := (congrFun eh_61 b23).trans (fh_keep g_60_19 g_60_11 rfl)
  have g_61_12 := (congrFun eh_61 b24).trans (fh_keep g_60_19 g_60_12 rfl)
  have g_61_13 := (congrFun eh_61 b25).trans (fh_keep g_60_19 g_60_13 rfl)
  have g_61_14 := (congrFun eh_61 b26).trans (fh_keep g_60_19 g_60_14 rfl)
  have g_61_15 := (congrFun eh_61 b27).trans (fh_keep g_60_19 g_60_15 rfl)
  have g_61_16 := (congrFun eh_61 b28).trans (fh_keep g_60_19 g_60_16 rfl)
  have g_61_17 := (congrFun eh_61 b29).trans (fh_keep g_60_19 g_60_17 rfl)
  have g_61_18 := (congrFun eh_61 b30).trans (fh_keep g_60_19 g_60_18 rfl)
  have g_61_20 := (congrFun eh_61 b31).trans (fh_keep g_60_19 f_60 rfl)
  have x_41 : ∀ q, q < sz → q ≠ ma → h_61 q = h q := fun q h9 hq => by rw [eh_61]; exact (fh_up_ne _ _ hq).trans (x_40 q h9 hq)
  have hAu : fh_A A h_61 := fun q e9 he9 => by
    rcases Nat.lt_or_ge q sz with z | z
    · by_cases zx : q = ma
      · rw [zx]; exact hAm
      · exact hAh q e9 ((x_41 q z zx).symm.trans he9)
    · exact hA q z
  have hkM : kp kM h h_61 := fun q e9 he9 hk9 => (x_41 q (hlt0 _ _ he9) (fun zx => by rw [zx, hm9] at he9; cases he9; cases hk9)).trans he9
  obtain ⟨b, hb9⟩ : ∃ b : Nat → Nat, b 12 = b12 ∧ b 13 = b13 ∧ b 14 = b14 ∧ b 15 = b15 ∧ b 16 = b16 ∧ b 17 = b17 ∧ b 18 = b18 ∧ b 19 = b19 ∧ b 20 = b20 ∧ b 21 = b21 ∧ b 22 = b22 ∧ b 23 = b23 ∧ b 24 = b24 ∧ b 25 = b25 ∧ b 26 = b26 ∧ b 27 = b27 ∧ b 28 = b28 ∧ b 29 = b29 ∧ b 30 = b30 ∧ b 31 = b31 := ⟨fun k => match k with | 12 => b12 | 13 => b13 | 14 => b14 | 15 => b15 | 16 => b16 | 17 => b17 | 18 => b18 | 19 => b19 | 20 => b20 | 21 => b21 | 22 => b22 | 23 => b23 | 24 => b24 | 25 => b25 | 26 => b26 | 27 => b27 | 28 => b28 | 29 => b29 | 30 => b30 | 31 => b31 | _ => 0, rfl, rfl, rfl, rfl, rfl, rfl, rfl, rfl, rfl, rfl, rfl, rfl, rfl, rfl, rfl, rfl, rfl, rfl, rfl, rfl⟩
  obtain ⟨e12, e13, e14, e15, e16, e17, e18, e19, e20, e21, e22, e23, e24, e25, e26, e27, e28, e29, e30, e31⟩ := hb9
  have hPz := hP
  subst e12 e13 e14 e15 e16 e17 e18 e19 e20 e21 e22 e23 e24 e25 e26 e27 e28 e29 e30 e31
  have hbz : bz (fun _ => 0) := fun _ => (by show vp_nar .boolean 0 = 0; decide)
  exact fh_vret hx hb hr hlocks (⟨b, rfl, hkM, fun _ => 0, fun _ => 0, fun _ => 0, fun _ => 0, fun _ => 0, fun _ => 0, fun _ => 0, fun _ => 0, fun _ => 0, fun _ => 0, fun _ => 0, fun _ => 0, fun _ => 0, fun _ => 0, fun _ => 0, fun _ => 0, fun _ => 0, fun _ => 0, fun _ => 0, fun _ => 0, ⟨kp.rf, hAu, f_61, g_61_0, g_61_1, g_61_2, g_61_3, g_61_4, g_61_5, g_61_6, g_61_7, g_61_8, g_61_9, g_61_10, g_61_11, g_61_12, g_61_13, g_61_14, g_61_15, g_61_16, g_61_17, g_61_18, g_61_20⟩, ⟨hbz, hbz, hbz, hbz⟩, fun v hv => ⟨fun o ho => ⟨rfl, fun r hr => by cases hr⟩, fun _ _ _ _ _ => rfl⟩, fun i hi => absurd hi (Nat.not_lt_zero i), fun i _ _ => ⟨rfl, fun _ _ => rfl⟩, fun k a h9 => by simp at h9, fun k a h9 => by simp at h9, fun k a h9 => by simp at h9, fun _ _ => rfl⟩) hPz hS (Nat.le_of_ble_eq_true rfl) (Nat.le_of_ble_eq_true rfl) dX10_init_179
