def q8 (a0 a1 a2 a3 a4 a5 a6 a7 : Nat) : Nat → Nat := fun k => match k with
  | 0 => a0
  | 1 => a1
  | 2 => a2
  | 3 => a3
  | 4 => a4
  | 5 => a5
  | 6 => a6
  | _ => a7
set_option maxRecDepth 100000 in
set_option maxHeartbeats 4000000 in
theorem c_X_init (l : Launch) (G : fG) (A : Nat → Prop) (h : FH) (sz : Nat) (hA : ∀ q, sz ≤ q → A q) (hAh : fh_A A h) (xa : Nat) (hAx : A xa) (hx9 : h xa = some (.inr (9, [.null, .int 0, .null, .null, .int 0, .int 0, .null, .null, .int 0, .null, .null]))) : Met l yX9_init wsX9_init { frames := 2, cells := 11, slots := 600, locals := 40 } (va_Pc [.ref xa] (fh_Pre G A h sz)) (fh_Q G (fun v u => ∃ ad : Ad, v = none ∧ fh_A A u ∧ kp kC h u ∧ RepC 0 u xa ad 0 1 0 (fun _ _ => none) (fun _ => (0, fun _ => none, false, [], fun _ => 0)) [] [] 0 [] (fun _ => 0)) A) 11 600 A := by
  refine fh_Met [.ref xa] (by decide) rfl (Nat.le_of_ble_eq_true rfl) ?_
  intro p e s m below meth c hx hb hr hlocks hml hown hnm hts hsz hP hE hS ls hl
  have ht : ∀ w ∈ wB, w.before _ s = true := fun w h9 => hts w (List.mem_cons_of_mem _ h9)
  have hl : lv_has ls 1 [(0, .ref xa)] := hl
  have hA0 : ∀ q, s.heap.size ≤ q → A q := fun q hq => hA q (by rw [← hsz]; exact hq)
  have hlt0 : ∀ a e, h a = some e → a < sz := fun a9 e9 q9 => by rw [← hsz]; exact hP.lt q9
  have lx := hlt0 _ _ hx9
  have x_0 : ∀ q, q < sz → q ≠ xa → h q = h q := fun _ _ _ => rfl
  refine lv_aload_n hx hb dX9_init_0 rfl (lv_at hl 0 rfl) ?_
  refine W.objInit hx hb hown (ht _ kw_25) (ht _ kw_26) (ht _ kw_27) rfl (by rw [hml]; exact hl.1) rfl dX9_init_1 (Nat.le_of_ble_eq_true rfl) (Nat.le_of_ble_eq_true rfl) ?_
  refine W.eq (g2 := F0 m 4 ls []) rfl ?_
  refine lv_aload_n hx hb dX9_init_4 rfl (lv_at hl 0 rfl) ?_
  refine lv_bipush (v := (nI 40)) hx hb dX9_init_5 (by decide) ?_
  have hge1 := hS.1
  have hlt1 := fun (a9 : Nat) (e9 : fe) (q9 : h a9 = some e9) => hP.lt q9
  refine fh_newq (N' := 40) hx hb hown (ht _ kw_28) (hE.2.2.2.2.1 "ObjectMerge$State" (by decide)) hE.1 hP hS hA0 7 rfl (by decide) (by decide) (by decide) (Nat.le_of_ble_eq_true rfl) (Nat.le_of_ble_eq_true rfl) dX9_init_7 (fun vA H evA hAvA hP hz_vA hS => ?_)
  obtain ⟨h_2, eh_2⟩ : ∃ z, z = fh_up h vA (.inl (7, 40, .inr (.inr (.inr (.inr (fun _ => none)))))) := ⟨_, rfl⟩
  have g_2_0 := (congrFun eh_2 xa).trans (fh_keepN hx9 (Nat.ne_of_lt (by rw [evA]; exact hlt1 _ _ hx9)))
  have hP : fh_P G vwCl h_2 H := by rw [eh_2]; exact hP
  have f_2 : h_2 vA = some (.inl (7, 40, .inr (.inr (.inr (.inr (fun _ => none)))))) := by rw [eh_2]; exact fh_up_self _ _ _
  have hsz_vA : sz ≤ vA := by rw [evA, ← hsz]; exact hge1
  have x_1 : ∀ q, q < sz → q ≠ xa → h_2 q = h q := fun q h9 hq => by rw [eh_2]; exact (fh_up_ne _ _ (by omega)).trans (x_0 q h9 hq)
  refine fh_putF (C := RX9) (T := TX9) (N := 11) (t := (.array (.object "ObjectMerge$State"))) hx hb ht inX9 tyX9 tyX9_ok nmX9 hown hE.1 hP hS g_2_0 (hAx) rfl 0 (by decide) (ht _ kw_75) (fun _ h9 => h9) rfl hnm rfl (by decide +kernel) rfl rfl (Nat.le_of_ble_eq_true rfl) dX9_init_10 (fun H locs hP hz hS => ?_)
  obtain ⟨h_3, eh_3⟩ : ∃ z, z = fh_up h_2 xa (.inr (9, [.ref vA, .int 0, .null, .null, .int 0, .int 0, .null, .null, .int 0, .null, .null])) := ⟨_, rfl⟩
  have hP : fh_P G vwCl h_3 H := by rw [eh_3]; exact hP
  have f_3 : h_3 xa = some (.inr (9, [.ref vA, .int 0, .null, .null, .int 0, .int 0, .null, .null, .int 0, .null, .null])) := by rw [eh_3]; exact fh_up_self _ _ _
  have g_3_1 := (congrFun eh_3 vA).trans (fh_keep g_2_0 f_2 rfl)
  have x_2 : ∀ q, q < sz → q ≠ xa → h_3 q = h q := fun q h9 hq => by rw [eh_3]; exact (fh_up_ne _ _ hq).trans (x_1 q h9 hq)
  refine lv_aload_n hx hb dX9_init_13 rfl (lv_at hl 0 rfl) ?_
  have hge4 := hS.1
  have hlt4 := fun (a9 : Nat) (e9 : fe) (q9 : h_3 a9 = some e9) => hP.lt q9
  refine fh_new (ci := 8) (C := RX8) (T := TX8) (N := 1) (fs := [.null]) hx hb ht inX8 tyX8 tyX8_ok hown (ht _ kw_28) (ht _ kw_30) (ht _ kw_2) hE.1 hP hS hA0 rfl (fun j hj => by rcases (show j = 0 by omega) with rfl <;> rfl) (Nat.le_of_ble_eq_true rfl) (Nat.le_of_ble_eq_true rfl) dX9_init_14 (fun st H est hAst hP hz_st hS => ?_)
  obtain ⟨h_5, eh_5⟩ : ∃ z, z = fh_up h_3 st (.inr (8, [.null])) := ⟨_, rfl⟩
  have g_5_0 := (congrFun eh_5 vA).trans (fh_keepN g_3_1 (Nat.ne_of_lt (by rw [est]; exact hlt4 _ _ g_3_1)))
  have g_5_1 := (congrFun eh_5 xa).trans (fh_keepN f_3 (Nat.ne_of_lt (by rw [est]; exact hlt4 _ _ f_3)))
  have hP : fh_P G vwCl h_5 H := by rw [eh_5]; exact hP
  have f_5 : h_5 st = some (.inr (8, [.null])) := by rw [eh_5]; exact fh_up_self _ _ _
  have hsz_st : sz ≤ st := by rw [est, ← hsz]; exact hge4
  have x_3 : ∀ q, q < sz → q ≠ xa → h_5 q = h q := fun q h9 hq => by rw [eh_5]; exact (fh_up_ne _ _ (by omega)).trans (x_2 q h9 hq)
  refine lv_dup hx hb dX9_init_17 rfl ?_
  have bd3 := fun (a9 : Nat) (e9 : fe) (q9 : h_5 a9 = some e9) => hP.lt q9
  have sz3 := hS.1
  have l3_0 := bd3 _ _ g_5_0
  have l3_1 := bd3 _ _ g_5_1
  have l3_2 := bd3 _ _ f_5
  refine fh_cIN (As := []) (rest := [.ref st, .ref xa]) (b := st) ⟨hx, hb, hml, hown, ht⟩ (c_St_init l G A h_5 _ (fun q hq => hA0 q (Nat.le_trans hS.1 hq)) st hAst f_5) (⟨va_cnB (host := "ObjectMerge") 0 ht (gB kw_33) rfl rfl rfl (hE.2.2.2.2.2.1 ("ObjectMerge", 15, ⟨"ObjectMerge$State", "<init>", "()V"⟩, "ObjectMerge") (by decide)) (ht _ kw_2) yd_X8_init.2 ⟨(Nat.le_of_ble_eq_true rfl), (Nat.le_of_ble_eq_true rfl)⟩, rfl, (ht _ kw_32)⟩) hP hE hS rfl hl.1 rfl (Nat.le_of_ble_eq_true rfl) dX9_init_18 ⟨(Nat.le_of_ble_eq_true rfl), (Nat.le_of_ble_eq_true rfl)⟩ (fun v u_3 H locs hp hP hz hS => ?_)
  obtain ⟨sb, hsb, rfl, eu3⟩ := hp
  refine W.eq (g2 := F0 m 21 ls [.ref st, .ref xa]) rfl ?_
  have y3_0 := (congrFun eu3 vA).trans ((fh_up_ne _ _ (fh_ne g_5_0 f_5 rfl)).trans ((fh_up_ne _ _ (show vA ≠ sb by omega)).trans g_5_0))
  have y3_1 := (congrFun eu3 xa).trans ((fh_up_ne _ _ (fh_ne g_5_1 f_5 rfl)).trans ((fh_up_ne _ _ (show xa ≠ sb by omega)).trans g_5_1))
  have ya3 := (congrFun eu3 st).trans (fh_up_self _ _ _)
  have yq3 := (congrFun eu3 sb).trans ((fh_up_ne _ _ (show sb ≠ st by omega)).trans (fh_up_self _ _ _))
  have x_4 : ∀ q, q < sz → q ≠ xa → u_3 q = h q := fun q h9 hq => by rw [eu3, fh_up_ne _ _ (by omega), fh_up_ne _ _ (by omega)]; exact x_3 q h9 hq
  refine fh_put (C := RX9) (T := TX9) (N := 11) (t := (.object "ObjectMerge$State")) hx hb ht inX9 tyX9 tyX9_ok nmX9 hown hE.1 hP hS y3_1 (hAx) rfl 2 (by decide) (ht _ kw_77) (fun _ h9 => h9) rfl (by decide +kernel) rfl rfl (Nat.le_of_ble_eq_true rfl) dX9_init_21 (fun H locs hP hz hS => ?_)
  obtain ⟨h_6, eh_6⟩ : ∃ z, z = fh_up u_3 xa (.inr (9, [.ref vA, .int 0, .ref st, .null, .int 0, .int 0, .null, .null, .int 0, .null, .null])) := ⟨_, rfl⟩
  have hP : fh_P G vwCl h_6 H := by rw [eh_6]; exact hP
  have f_6 : h_6 xa = some (.inr (9, [.ref vA, .int 0, .ref st, .null, .int 0, .int 0, .null, .null, .int 0, .null, .null])) := by rw [eh_6]; exact fh_up_self _ _ _
  have g_6_0 := (congrFun eh_6 vA).trans (fh_keep y3_1 y3_0 rfl)
  have g_6_2 := (congrFun eh_6 st).trans (fh_keep y3_1 ya3 rfl)
  have g_6_3 := (congrFun eh_6 sb).trans (fh_keep y3_1 yq3 rfl)
  have x_5 : ∀ q, q < sz → q ≠ xa → h_6 q = h q := fun q h9 hq => by rw [eh_6]; exact (fh_up_ne _ _ hq).trans (x_4 q h9 hq)
  refine lv_aload_n hx hb dX9_init_24 rfl (lv_at hl 0 rfl) ?_
  refine lv_bipush (v := (nI 20)) hx hb dX9_init_25 (by decide) ?_
  have hge7 := hS.1
  have hlt7 := fun (a9 : Nat) (e9 : fe) (q9 : h_6 a9 = some e9) => hP.lt q9
  refine fh_newq (N' := 20) hx hb hown (ht _ kw_41) (hE.2.2.2.2.1 "ObjectMerge$Session" (by decide)) hE.1 hP hS hA0 8 rfl (by decide) (by decide) (by decide) (Nat.le_of_ble_eq_true rfl) (Nat.le_of_ble_eq_true rfl) dX9_init_27 (fun sA H esA hAsA hP hz_sA hS => ?_)
  obtain ⟨h_8, eh_8⟩ : ∃ z, z = fh_up h_6 sA (.inl (8, 20, .inr (.inr (.inr (.inr (fun _ => none)))))) := ⟨_, rfl⟩
  have g_8_0 := (congrFun eh_8 vA).trans (fh_keepN g_6_0 (Nat.ne_of_lt (by rw [esA]; exact hlt7 _ _ g_6_0)))
  have g_8_1 := (congrFun eh_8 st).trans (fh_keepN g_6_2 (Nat.ne_of_lt (by rw [esA]; exact hlt7 _ _ g_6_2)))
  have g_8_2 := (congrFun eh_8 sb).trans (fh_keepN g_6_3 (Nat.ne_of_lt (by rw [esA]; exact hlt7 _ _ g_6_3)))
  have g_8_3 := (congrFun eh_8 xa).trans (fh_keepN f_6 (Nat.ne_of_lt (by rw [esA]; exact hlt7 _ _ f_6)))
  have hP : fh_P G vwCl h_8 H := by rw [eh_8]; exact hP
  have f_8 : h_8 sA = some (.inl (8, 20, .inr (.inr (.inr (.inr (fun _ => none)))))) := by rw [eh_8]; exact fh_up_self _ _ _
  have hsz_sA : sz ≤ sA := by rw [esA, ← hsz]; exact hge7
  have x_6 : ∀ q, q < sz → q ≠ xa → h_8 q = h q := fun q h9 hq => by rw [eh_8]; exact (fh_up_ne _ _ (by omega)).trans (x_5 q h9 hq)
  refine fh_putF (C := RX9) (T := TX9) (N := 11) (t := (.array (.object "ObjectMerge$Session"))) hx hb ht inX9 tyX9 tyX9_ok nmX9 hown hE.1 hP hS g_8_3 (hAx) rfl 3 (by decide) (ht _ kw_78) (fun _ h9 => h9) rfl hnm rfl (by decide +kernel) rfl rfl (Nat.le_of_ble_eq_true rfl) dX9_init_30 (fun H locs hP hz hS => ?_)
  obtain ⟨h_9, eh_9⟩ : ∃ z, z = fh_up h_8 xa (.inr (9, [.ref vA, .int 0, .ref st, .ref sA, .int 0, .int 0, .null, .null, .int 0, .null, .null])) := ⟨_, rfl⟩
  have hP : fh_P G vwCl h_9 H := by rw [eh_9]; exact hP
  have f_9 : h_9 xa = some (.inr (9, [.ref vA, .int 0, .ref st, .ref sA, .int 0, .int 0, .null, .null, .int 0, .null, .null])) := by rw [eh_9]; exact fh_up_self _ _ _
  have g_9_0 := (congrFun eh_9 vA).trans (fh_keep g_8_3 g_8_0 rfl)
  have g_9_1 := (congrFun eh_9 st).trans (fh_keep g_8_3 g_8_1 rfl)
  have g_9_2 := (congrFun eh_9 sb).trans (fh_keep g_8_3 g_8_2 rfl)
  have g_9_4 := (congrFun eh_9 sA).trans (fh_keep g_8_3 f_8 rfl)
  have x_7 : ∀ q, q < sz → q ≠ xa → h_9 q = h q := fun q h9 hq => by rw [eh_9]; exact (fh_up_ne _ _ hq).trans (x_6 q h9 hq)
  refine lv_aload_n hx hb dX9_init_33 rfl (lv_at hl 0 rfl) ?_
  have hge10 := hS.1
  have hlt10 := fun (a9 : Nat) (e9 : fe) (q9 : h_9 a9 = some e9) => hP.lt q9
  refine fh_new (ci := 4) (C := RX4) (T := TX4) (N := 1) (fs := [.null]) hx hb ht inX4 tyX4 tyX4_ok hown (ht _ kw_43) (ht _ kw_44) (ht _ kw_3) hE.1 hP hS hA0 rfl (fun j hj => by rcases (show j = 0 by omega) with rfl <;> rfl) (Nat.le_of_ble_eq_true rfl) (Nat.le_of_ble_eq_true rfl) dX9_init_34 (fun lk H elk hAlk hP hz_lk hS => ?_)
  obtain ⟨h_11, eh_11⟩ : ∃ z, z = fh_up h_9 lk (.inr (4, [.null])) := ⟨_, rfl⟩
  have g_11_0 := (congrFun eh_11 vA).trans (fh_keepN g_9_0 (Nat.ne_of_lt (by rw [elk]; exact hlt10 _ _ g_9_0)))
  have g_11_1 := (congrFun eh_11 st).trans (fh_keepN g_9_1 (Nat.ne_of_lt (by rw [elk]; exact hlt10 _ _ g_9_1)))
  have g_11_2 := (congrFun eh_11 sb).trans (fh_keepN g_9_2 (Nat.ne_of_lt (by rw [elk]; exact hlt10 _ _ g_9_2)))
  have g_11_3 := (congrFun eh_11 sA).trans (fh_keepN g_9_4 (Nat.ne_of_lt (by rw [elk]; exact hlt10 _ _ g_9_4)))
  have g_11_4 := (congrFun eh_11 xa).trans (fh_keepN f_9 (Nat.ne_of_lt (by rw [elk]; exact hlt10 _ _ f_9)))
  have hP : fh_P G vwCl h_11 H := by rw [eh_11]; exact hP
  have f_11 : h_11 lk = some (.inr (4, [.null])) := by rw [eh_11]; exact fh_up_self _ _ _
  have hsz_lk : sz ≤ lk := by rw [elk, ← hsz]; exact hge10
  have x_8 : ∀ q, q < sz → q ≠ xa → h_11 q = h q := fun q h9 hq => by rw [eh_11]; exact (fh_up_ne _ _ (by omega)).trans (x_7 q h9 hq)
  refine lv_dup hx hb dX9_init_37 rfl ?_
  have bd8 := fun (a9 : Nat) (e9 : fe) (q9 : h_11 a9 = some e9) => hP.lt q9
  have sz8 := hS.1
  have l8_0 := bd8 _ _ g_11_0
  have l8_1 := bd8 _ _ g_11_1
  have l8_2 := bd8 _ _ g_11_2
  have l8_3 := bd8 _ _ g_11_3
  have l8_4 := bd8 _ _ g_11_4
  have l8_5 := bd8 _ _ f_11
  refine fh_cIN (As := []) (rest := [.ref lk, .ref xa]) (b := lk) ⟨hx, hb, hml, hown, ht⟩ (c_Lk_init l G A h_11 _ (fun q hq => hA0 q (Nat.le_trans hS.1 hq)) lk hAlk f_11) (⟨va_cnB (host := "ObjectMerge") 0 ht (gB kw_47) rfl rfl rfl (hE.2.2.2.2.2.1 ("ObjectMerge", 28, ⟨"ObjectMerge$Locks", "<init>", "()V"⟩, "ObjectMerge") (by decide)) (ht _ kw_3) yd_X4_init.2 ⟨(Nat.le_of_ble_eq_true rfl), (Nat.le_of_ble_eq_true rfl)⟩, rfl, (ht _ kw_46)⟩) hP hE hS rfl hl.1 rfl (Nat.le_of_ble_eq_true rfl) dX9_init_38 ⟨(Nat.le_of_ble_eq_true rfl), (Nat.le_of_ble_eq_true rfl)⟩ (fun v u_8 H locs hp hP hz hS => ?_)
  obtain ⟨la, hla, rfl, eu8⟩ := hp
  refine W.eq (g2 := F0 m 41 ls [.ref lk, .ref xa]) rfl ?_
  have y8_0 := (congrFun eu8 vA).trans ((fh_up_ne _ _ (fh_ne g_11_0 f_11 rfl)).trans ((fh_up_ne _ _ (show vA ≠ la by omega)).trans g_11_0))
  have y8_1 := (congrFun eu8 st).trans ((fh_up_ne _ _ (fh_ne g_11_1 f_11 rfl)).trans ((fh_up_ne _ _ (show st ≠ la by omega)).trans g_11_1))
  have y8_2 := (congrFun eu8 sb).trans ((fh_up_ne _ _ (fh_ne g_11_2 f_11 rfl)).trans ((fh_up_ne _ _ (show sb ≠ la by omega)).trans g_11_2))
  have y8_3 := (congrFun eu8 sA).trans ((fh_up_ne _ _ (fh_ne g_11_3 f_11 rfl)).trans ((fh_up_ne _ _ (show sA ≠ la by omega)).trans g_11_3))
  have y8_4 := (congrFun eu8 xa).trans ((fh_up_ne _ _ (fh_ne g_11_4 f_11 rfl)).trans ((fh_up_ne _ _ (show xa ≠ la by omega)).trans g_11_4))
  have ya8 := (congrFun eu8 lk).trans (fh_up_self _ _ _)
  have yq8 := (congrFun eu8 la).trans ((fh_up_ne _ _ (show la ≠ lk by omega)).trans (fh_up_self _ _ _))
  have x_9 : ∀ q, q < sz → q ≠ xa → u_8 q = h q := fun q h9 hq => by rw [eu8, fh_up_ne _ _ (by omega), fh_up_ne _ _ (by omega)]; exact x_8 q h9 hq
  refine fh_putF (C := RX9) (T := TX9) (N := 11) (t := (.object "ObjectMerge$Locks")) hx hb ht inX9 tyX9 tyX9_ok nmX9 hown hE.1 hP hS y8_4 (hAx) rfl 6 (by decide) (ht _ kw_81) (fun _ h9 => h9) rfl hnm rfl (by decide +kernel) rfl rfl (Nat.le_of_ble_eq_true rfl) dX9_init_41 (fun H locs hP hz hS => ?_)
  obtain ⟨h_12, eh_12⟩ : ∃ z, z = fh_up u_8 xa (.inr (9, [.ref vA, .int 0, .ref st, .ref sA, .int 0, .int 0, .ref lk, .null, .int 0, .null, .null])) := ⟨_, rfl⟩
  have hP : fh_P G vwCl h_12 H := by rw [eh_12]; exact hP
  have f_12 : h_12 xa = some (.inr (9, [.ref vA, .int 0, .ref st, .ref sA, .int 0, .int 0, .ref lk, .null, .int 0, .null, .null])) := by rw [eh_12]; exact fh_up_self _ _ _
  have g_12_0 := (congrFun eh_12 vA).trans (fh_keep y8_4 y8_0 rfl)
  have g_12_1 := (congrFun eh_12 st).trans (fh_keep y8_4 y8_1 rfl)
  have g_12_2 := (congrFun eh_12 sb).trans (fh_keep y8_4 y8_2 rfl)
  have g_12_3 := (congrFun eh_12 sA).trans (fh_keep y8_4 y8_3 rfl)
  have g_12_5 := (congrFun eh_12 lk).trans (fh_keep y8_4 ya8 rfl)
  have g_12_6 := (congrFun eh_12 la).trans (fh_keep y8_4 yq8 rfl)
  have x_10 : ∀ q, q < sz → q ≠ xa → h_12 q = h q := fun q h9 hq => by rw [eh_12]; exact (fh_up_ne _ _ hq).trans (x_9 q h9 hq)
  refine lv_aload_n hx hb dX9_init_44 rfl (lv_at hl 0 rfl) ?_
  refine lv_bipush (v := (nI 20)) hx hb dX9_init_45 (by decide) ?_
  have hge13 := hS.1
  have hlt13 := fun (a9 : Nat) (e9 : fe) (q9 : h_12 a9 = some e9) => hP.lt q9
  refine fh_newq (N' := 20) hx hb hown (ht _ kw_55) (hE.2.2.2.2.1 "ObjectMerge$Rule" (by decide)) hE.1 hP hS hA0 9 rfl (by decide) (by decide) (by decide) (Nat.le_of_ble_eq_true rfl) (Nat.le_of_ble_eq_true rfl) dX9_init_47 (fun rA H erA hArA hP hz_rA hS => ?_)
  obtain ⟨h_14, eh_14⟩ : ∃ z, z = fh_up h_12 rA (.inl (9, 20, .inr (.inr (.inr (.inr (fun _ => none)))))) := ⟨_, rfl⟩
  have g_14_0 := (congrFun eh_14 vA).trans (fh_keepN g_12_0 (Nat.ne_of_lt (by rw [erA]; exact hlt13 _ _ g_12_0)))
  have g_14_1 := (congrFun eh_14 st).trans (fh_keepN g_12_1 (Nat.ne_of_lt (by rw [erA]; exact hlt13 _ _ g_12_1)))
  have g_14_2 := (congrFun eh_14 sb).trans (fh_keepN g_12_2 (Nat.ne_of_lt (by rw [erA]; exact hlt13 _ _ g_12_2)))
  have g_14_3 := (congrFun eh_14 sA).trans (fh_keepN g_12_3 (Nat.ne_of_lt (by rw [erA]; exact hlt13 _ _ g_12_3)))
  have g_14_4 := (congrFun eh_14 lk).trans (fh_keepN g_12_5 (Nat.ne_of_lt (by rw [erA]; exact hlt13 _ _ g_12_5)))
  have g_14_5 := (congrFun eh_14 la).trans (fh_keepN g_12_6 (Nat.ne_of_lt (by rw [erA]; exact hlt13 _ _ g_12_6)))
  have g_14_6 := (congrFun eh_14 xa).trans (fh_keepN f_12 (Nat.ne_of_lt (by rw [erA]; exact hlt13 _ _ f_12)))
  have hP : fh_P G vwCl h_14 H := by rw [eh_14]; exact hP
  have f_14 : h_14 rA = some (.inl (9, 20, .inr (.inr (.inr (.inr (fun _ => none)))))) := by rw [eh_14]; exact fh_up_self _ _ _
  have hsz_rA : sz ≤ rA := by rw [erA, ← hsz]; exact hge13
  have x_11 : ∀ q, q < sz → q ≠ xa → h_14 q = h q := fun q h9 hq => by rw [eh_14]; exact (fh_up_ne _ _ (by omega)).trans (x_10 q h9 hq)
  refine fh_putF (C := RX9) (T := TX9) (N := 11) (t := (.array (.object "ObjectMerge$Rule"))) hx hb ht inX9 tyX9 tyX9_ok nmX9 hown hE.1 hP hS g_14_6 (hAx) rfl 7 (by decide) (ht _ kw_82) (fun _ h9 => h9) rfl hnm rfl (by decide +kernel) rfl rfl (Nat.le_of_ble_eq_true rfl) dX9_init_50 (fun H locs hP hz hS => ?_)
  obtain ⟨h_15, eh_15⟩ : ∃ z, z = fh_up h_14 xa (.inr (9, [.ref vA, .int 0, .ref st, .ref sA, .int 0, .int 0, .ref lk, .ref rA, .int 0, .null, .null])) := ⟨_, rfl⟩
  have hP : fh_P G vwCl h_15 H := by rw [eh_15]; exact hP
  have f_15 : h_15 xa = some (.inr (9, [.ref vA, .int 0, .ref st, .ref sA, .int 0, .int 0, .ref lk, .ref rA, .int 0, .null, .null])) := by rw [eh_15]; exact fh_up_self _ _ _
  have g_15_0 := (congrFun eh_15 vA).trans (fh_keep g_14_6 g_14_0 rfl)
  have g_15_1 := (congrFun eh_15 st).trans (fh_keep g_14_6 g_14_1 rfl)
  have g_15_2 := (congrFun eh_15 sb).trans (fh_keep g_14_6 g_14_2 rfl)
  have g_15_3 := (congrFun eh_15 sA).trans (fh_keep g_14_6 g_14_3 rfl)
  have g_15_4 := (congrFun eh_15 lk).trans (fh_keep g_14_6 g_14_4 rfl)
  have g_15_5 := (congrFun eh_15 la).trans (fh_keep g_14_6 g_14_5 rfl)
  have g_15_7 := (congrFun eh_15 rA).trans (fh_keep g_14_6 f_14 rfl)
  have x_12 : ∀ q, q < sz → q ≠ xa → h_15 q = h q := fun q h9 hq => by rw [eh_15]; exact (fh_up_ne _ _ hq).trans (x_11 q h9 hq)
  refine lv_aload_n hx hb dX9_init_53 rfl (lv_at hl 0 rfl) ?_
  have hge16 := hS.1
  have hlt16 := fun (a9 : Nat) (e9 : fe) (q9 : h_15 a9 = some e9) => hP.lt q9
  refine fh_new (ci := 2) (C := RX2) (T := TX2) (N := 3) (fs := [.null, .null, .int 0]) hx hb ht inX2 tyX2 tyX2_ok hown (ht _ kw_57) (ht _ kw_58) (ht _ kw_4) hE.1 hP hS hA0 rfl (fun j hj => by rcases (show j = 0 ∨ j = 1 ∨ j = 2 by omega) with rfl | rfl | rfl <;> rfl) (Nat.le_of_ble_eq_true rfl) (Nat.le_of_ble_eq_true rfl) dX9_init_54 (fun cn H ecn hAcn hP hz_cn hS => ?_)
  obtain ⟨h_17, eh_17⟩ : ∃ z, z = fh_up h_15 cn (.inr (2, [.null, .null, .int 0])) := ⟨_, rfl⟩
  have g_17_0 := (congrFun eh_17 vA).trans (fh_keepN g_15_0 (Nat.ne_of_lt (by rw [ecn]; exact hlt16 _ _ g_15_0)))
  have g_17_1 := (congrFun eh_17 st).trans (fh_keepN g_15_1 (Nat.ne_of_lt (by rw [ecn]; exact hlt16 _ _ g_15_1)))
  have g_17_2 := (congrFun eh_17 sb).trans (fh_keepN g_15_2 (Nat.ne_of_lt (by rw [ecn]; exact hlt16 _ _ g_15_2)))
  have g_17_3 := (congrFun eh_17 sA).trans (fh_keepN g_15_3 (Nat.ne_of_lt (by rw [ecn]; exact hlt16 _ _ g_15_3)))
  have g_17_4 := (congrFun eh_17 lk).trans (fh_keepN g_15_4 (Nat.ne_of_lt (by rw [ecn]; exact hlt16 _ _ g_15_4)))
  have g_17_5 := (congrFun eh_17 la).trans (fh_keepN g_15_5 (Nat.ne_of_lt (by rw [ecn]; exact hlt16 _ _ g_15_5)))
  have g_17_6 := (congrFun eh_17 rA).trans (fh_keepN g_15_7 (Nat.ne_of_lt (by rw [ecn]; exact hlt16 _ _ g_15_7)))
  have g_17_7 := (congrFun eh_17 xa).trans (fh_keepN f_15 (Nat.ne_of_lt (by rw [ecn]; exact hlt16 _ _ f_15)))
  have hP : fh_P G vwCl h_17 H := by rw [eh_17]; exact hP
  have f_17 : h_17 cn = some (.inr (2, [.null, .null, .int 0])) := by rw [eh_17]; exact fh_up_self _ _ _
  have hsz_cn : sz ≤ cn := by rw [ecn, ← hsz]; exact hge16
  have x_13 : ∀ q, q < sz → q ≠ xa → h_17 q = h q := fun q h9 hq => by rw [eh_17]; exact (fh_up_ne _ _ (by omega)).trans (x_12 q h9 hq)
  refine lv_dup hx hb dX9_init_57 rfl ?_
  have bd13 := fun (a9 : Nat) (e9 : fe) (q9 : h_17 a9 = some e9) => hP.lt q9
  have sz13 := hS.1
  have l13_0 := bd13 _ _ g_17_0
  have l13_1 := bd13 _ _ g_17_1
  have l13_2 := bd13 _ _ g_17_2
  have l13_3 := bd13 _ _ g_17_3
  have l13_4 := bd13 _ _ g_17_4
  have l13_5 := bd13 _ _ g_17_5
  have l13_6 := bd13 _ _ g_17_6
  have l13_7 := bd13 _ _ g_17_7
  have l13_8 := bd13 _ _ f_17
  refine fh_cIN (As := []) (rest := [.ref cn, .ref xa]) (b := cn) ⟨hx, hb, hml, hown, ht⟩ (c_Con_init l G A h_17 _ (fun q hq => hA0 q (Nat.le_trans hS.1 hq)) cn hAcn f_17) (⟨va_cnB (host := "ObjectMerge") 0 ht (gB kw_61) rfl rfl rfl (hE.2.2.2.2.2.1 ("ObjectMerge", 41, ⟨"ObjectMerge$Conflicts", "<init>", "()V"⟩, "ObjectMerge") (by decide)) (ht _ kw_4) yd_X2_init.2 ⟨(Nat.le_of_ble_eq_true rfl), (Nat.le_of_ble_eq_true rfl)⟩, rfl, (ht _ kw_60)⟩) hP hE hS rfl hl.1 rfl (Nat.le_of_ble_eq_true rfl) dX9_init_58 ⟨(Nat.le_of_ble_eq_true rfl), (Nat.le_of_ble_eq_true rfl)⟩ (fun v u_13 H locs hp hP hz hS => ?_)
  obtain ⟨cd, hcd, rfl, eu13⟩ := hp
  refine W.eq (g2 := F0 m 61 ls [.ref cn, .ref xa]) rfl ?_
  have y13_0 := (congrFun eu13 vA).trans ((fh_up_ne _ _ (fh_ne g_17_0 f_17 rfl)).trans ((fh_up_ne _ _ (show vA ≠ cd by omega)).trans g_17_0))
  have y13_1 := (congrFun eu13 st).trans ((fh_up_ne _ _ (fh_ne g_17_1 f_17 rfl)).trans ((fh_up_ne _ _ (show st ≠ cd by omega)).trans g_17_1))
  have y13_2 := (congrFun eu13 sb).trans ((fh_up_ne _ _ (fh_ne g_17_2 f_17 rfl)).trans ((fh_up_ne _ _ (show sb ≠ cd by omega)).trans g_17_2))
  have y13_3 := (congrFun eu13 sA).trans ((fh_up_ne _ _ (fh_ne g_17_3 f_17 rfl)).trans ((fh_up_ne _ _ (show sA ≠ cd by omega)).trans g_17_3))
  have y13_4 := (congrFun eu13 lk).trans ((fh_up_ne _ _ (fh_ne g_17_4 f_17 rfl)).trans ((fh_up_ne _ _ (show lk ≠ cd by omega)).trans g_17_4))
  have y13_5 := (congrFun eu13 la).trans ((fh_up_ne _ _ (fh_ne g_17_5 f_17 rfl)).trans ((fh_up_ne _ _ (show la ≠ cd by omega)).trans g_17_5))
  have y13_6 := (congrFun eu13 rA).trans ((fh_up_ne _ _ (fh_ne g_17_6 f_17 rfl)).trans ((fh_up_ne _ _ (show rA ≠ cd by omega)).trans g_17_6))
  have y13_7 := (congrFun eu13 xa).trans ((fh_up_ne _ _ (fh_ne g_17_7 f_17 rfl)).trans ((fh_up_ne _ _ (show xa ≠ cd by omega)).trans g_17_7))
  have ya13 := (congrFun eu13 cn).trans (fh_up_self _ _ _)
  have yq13 := (congrFun eu13 cd).trans ((fh_up_ne _ _ (show cd ≠ cn by omega)).trans (fh_up_self _ _ _))
  have x_14 : ∀ q, q < sz → q ≠ xa → u_13 q = h q := fun q h9 hq => by rw [eu13, fh_up_ne _ _ (by omega), fh_up_ne _ _ (by omega)]; exact x_13 q h9 hq
  refine fh_putF (C := RX9) (T := TX9) (N := 11) (t := (.object "ObjectMerge$Conflicts")) hx hb ht inX9 tyX9 tyX9_ok nmX9 hown hE.1 hP hS y13_7 (hAx) rfl 9 (by decide) (ht _ kw_84) (fun _ h9 => h9) rfl hnm rfl (by decide +kernel) rfl rfl (Nat.le_of_ble_eq_true rfl) dX9_init_61 (fun H locs hP hz hS => ?_)
  obtain ⟨h_18, eh_18⟩ : ∃ z, z = fh_up u_13 xa (.inr (9, [.ref vA, .int 0, .ref st, .ref sA, .int 0, .int 0, .ref lk, .ref rA, .int 0, .ref cn, .null])) := ⟨_, rfl⟩
  have hP : fh_P G vwCl h_18 H := by rw [eh_18]; exact hP
  have f_18 : h_18 xa = some (.inr (9, [.ref vA, .int 0, .ref st, .ref sA, .int 0, .int 0, .ref lk, .ref rA, .int 0, .ref cn, .null])) := by rw [eh_18]; exact fh_up_self _ _ _
  have g_18_0 := (congrFun eh_18 vA).trans (fh_keep y13_7 y13_0 rfl)
  have g_18_1 := (congrFun eh_18 st).trans (fh_keep y13_7 y13_1 rfl)
  have g_18_2 := (congrFun eh_18 sb).trans (fh_keep y13_7 y13_2 rfl)
  have g_18_3 := (congrFun eh_18 sA).trans (fh_keep y13_7 y13_3 rfl)
  have g_18_4 := (congrFun eh_18 lk).trans (fh_keep y13_7 y13_4 rfl)
  have g_18_5 := (congrFun eh_18 la).trans (fh_keep y13_7 y13_5 rfl)
  have g_18_6 := (congrFun eh_18 rA).trans (fh_keep y13_7 y13_6 rfl)
  have g_18_8 := (congrFun eh_18 cn).trans (fh_keep y13_7 ya13 rfl)
  have g_18_9 := (congrFun eh_18 cd).trans (fh_keep y13_7 yq13 rfl)
  have x_15 : ∀ q, q < sz → q ≠ xa → h_18 q = h q := fun q h9 hq => by rw [eh_18]; exact (fh_up_ne _ _ hq).trans (x_14 q h9 hq)
  refine lv_aload_n hx hb dX9_init_64 rfl (lv_at hl 0 rfl) ?_
  refine lv_bipush (v := (nI 60)) hx hb dX9_init_65 (by decide) ?_
  have hge19 := hS.1
  have hlt19 := fun (a9 : Nat) (e9 : fe) (q9 : h_18 a9 = some e9) => hP.lt q9
  refine fh_newa (atype := .int) (t0 := .int) (N' := 60) (a0 := (60, .inl (fun _ => 0))) hx hb (ht _ kw_74) rfl hE.1 hP hS hA0 10 rfl (fun _ => rfl) (by decide) (by decide) (by decide) (Nat.le_of_ble_eq_true rfl) (Nat.le_of_ble_eq_true rfl) dX9_init_67 (fun mk H emk hAmk hP hz_mk hS => ?_)
  obtain ⟨h_20, eh_20⟩ : ∃ z, z = fh_up h_18 mk (.inl (10, 60, .inl (fun _ => 0))) := ⟨_, rfl⟩
  have g_20_0 := (congrFun eh_20 vA).trans (fh_keepN g_18_0 (Nat.ne_of_lt (by rw [emk]; exact hlt19 _ _ g_18_0)))
  have g_20_1 := (congrFun eh_20 st).trans (fh_keepN g_18_1 (Nat.ne_of_lt (by rw [emk]; exact hlt19 _ _ g_18_1)))
  have g_20_2 := (congrFun eh_20 sb).trans (fh_keepN g_18_2 (Nat.ne_of_lt (by rw [emk]; exact hlt19 _ _ g_18_2)))
  have g_20_3 := (congrFun eh_20 sA).trans (fh_keepN g_18_3 (Nat.ne_of_lt (by rw [emk]; exact hlt19 _ _ g_18_3)))
  have g_20_4 := (congrFun eh_20 lk).trans (fh_keepN g_18_4 (Nat.ne_of_lt (by rw [emk]; exact hlt19 _ _ g_18_4)))
  have g_20_5 := (congrFun eh_20 la).trans (fh_keepN g_18_5 (Nat.ne_of_lt (by rw [emk]; exact hlt19 _ _ g_18_5)))
  have g_20_6 := (congrFun eh_20 rA).trans (fh_keepN g_18_6 (Nat.ne_of_lt (by rw [emk]; exact hlt19 _ _ g_18_6)))
  have g_20_7 := (congrFun eh_20 cn).trans (fh_keepN g_18_8 (Nat.ne_of_lt (by rw [emk]; exact hlt19 _ _ g_18_8)))
  have g_20_8 := (congrFun eh_20 cd).trans (fh_keepN g_18_9 (Nat.ne_of_lt (by rw [emk]; exact hlt19 _ _ g_18_9)))
  have g_20_9 := (congrFun eh_20 xa).trans (fh_keepN f_18 (Nat.ne_of_lt (by rw [emk]; exact hlt19 _ _ f_18)))
  have hP : fh_P G vwCl h_20 H := by rw [eh_20]; exact hP
  have f_20 : h_20 mk = some (.inl (10, 60, .inl (fun _ => 0))) := by rw [eh_20]; exact fh_up_self _ _ _
  have hsz_mk : sz ≤ mk := by rw [emk, ← hsz]; exact hge19
  have x_16 : ∀ q, q < sz → q ≠ xa → h_20 q = h q := fun q h9 hq => by rw [eh_20]; exact (fh_up_ne _ _ (by omega)).trans (x_15 q h9 hq)
  refine fh_putF (C := RX9) (T := TX9) (N := 11) (t := (.array .int)) hx hb ht inX9 tyX9 tyX9_ok nmX9 hown hE.1 hP hS g_20_9 (hAx) rfl 10 (by decide) (ht _ kw_85) (fun _ h9 => h9) rfl hnm rfl (by decide +kernel) rfl rfl (Nat.le_of_ble_eq_true rfl) dX9_init_69 (fun H locs hP hz hS => ?_)
  obtain ⟨h_21, eh_21⟩ : ∃ z, z = fh_up h_20 xa (.inr (9, [.ref vA, .int 0, .ref st, .ref sA, .int 0, .int 0, .ref lk, .ref rA, .int 0, .ref cn, .ref mk])) := ⟨_, rfl⟩
  have hP : fh_P G vwCl h_21 H := by rw [eh_21]; exact hP
  have f_21 : h_21 xa = some (.inr (9, [.ref vA, .int 0, .ref st, .ref sA, .int 0, .int 0, .ref lk, .ref rA, .int 0, .ref cn, .ref mk])) := by rw [eh_21]; exact fh_up_self _ _ _
  have g_21_0 := (congrFun eh_21 vA).trans (fh_keep g_20_9 g_20_0 rfl)
  have g_21_1 := (congrFun eh_21 st).trans (fh_keep g_20_9 g_20_1 rfl)
  have g_21_2 := (congrFun eh_21 sb).trans (fh_keep g_20_9 g_20_2 rfl)
  have g_21_3 := (congrFun eh_21 sA).trans (fh_keep g_20_9 g_20_3 rfl)
  have g_21_4 := (congrFun eh_21 lk).trans (fh_keep g_20_9 g_20_4 rfl)
  have g_21_5 := (congrFun eh_21 la).trans (fh_keep g_20_9 g_20_5 rfl)
  have g_21_6 := (congrFun eh_21 rA).trans (fh_keep g_20_9 g_20_6 rfl)
  have g_21_7 := (congrFun eh_21 cn).trans (fh_keep g_20_9 g_20_7 rfl)
  have g_21_8 := (congrFun eh_21 cd).trans (fh_keep g_20_9 g_20_8 rfl)
  have g_21_10 := (congrFun eh_21 mk).trans (fh_keep g_20_9 f_20 rfl)
  have x_17 : ∀ q, q < sz → q ≠ xa → h_21 q = h q := fun q h9 hq => by rw [eh_21]; exact (fh_up_ne _ _ hq).trans (x_16 q h9 hq)
  refine lv_aload_n hx hb dX9_init_72 rfl (lv_at hl 0 rfl) ?_
  refine fh_get (C := RX9) (T := TX9) (N := 11) hx hb ht inX9 hown hE.1 hP f_21 rfl 0 (by decide) (ht _ kw_75) (fun _ h9 => h9) (v := .ref vA) rfl dX9_init_73 ?_
  refine lv_iconst (v := (nI 0)) hx hb dX9_init_76 (by decide) ?_
  refine lv_aload_n hx hb dX9_init_77 rfl (lv_at hl 0 rfl) ?_
  refine fh_get (C := RX9) (T := TX9) (N := 11) hx hb ht inX9 hown hE.1 hP f_21 rfl 2 (by decide) (ht _ kw_77) (fun _ h9 => h9) (v := .ref st) rfl dX9_init_78 ?_
  refine fh_aast (k := 0) hx hb hE.1 hP hS g_21_0 (hA _ hsz_vA) rfl g_21_1 rfl (by decide) (by decide) dX9_init_81 (fun H locs hP hz hS => ?_)
  obtain ⟨h_22, eh_22⟩ : ∃ z, z = fh_up h_21 vA (.inl (7, 40, .inr (.inr (.inr (.inr (va_up (fun _ => none) 0 (some st))))))) := ⟨_, rfl⟩
  have hP : fh_P G vwCl h_22 H := by rw [eh_22]; exact hP
  have f_22 : h_22 vA = some (.inl (7, 40, .inr (.inr (.inr (.inr (va_up (fun _ => none) 0 (some st))))))) := by rw [eh_22]; exact fh_up_self _ _ _
  have g_22_1 := (congrFun eh_22 st).trans (fh_keep g_21_0 g_21_1 rfl)
  have g_22_2 := (congrFun eh_22 sb).trans (fh_keep g_21_0 g_21_2 rfl)
  have g_22_3 := (congrFun eh_22 sA).trans (fh_keep g_21_0 g_21_3 rfl)
  have g_22_4 := (congrFun eh_22 lk).trans (fh_keep g_21_0 g_21_4 rfl)
  have g_22_5 := (congrFun eh_22 la).trans (fh_keep g_21_0 g_21_5 rfl)
  have g_22_6 := (congrFun eh_22 rA).trans (fh_keep g_21_0 g_21_6 rfl)
  have g_22_7 := (congrFun eh_22 cn).trans (fh_keep g_21_0 g_21_7 rfl)
  have g_22_8 := (congrFun eh_22 cd).trans (fh_keep g_21_0 g_21_8 rfl)
  have g_22_9 := (congrFun eh_22 mk).trans (fh_keep g_21_0 g_21_10 rfl)
  have g_22_10 := (congrFun eh_22 xa).trans (fh_keep g_21_0 f_21 rfl)
  have x_18 : ∀ q, q < sz → q ≠ xa → h_22 q = h q := fun q h9 hq => by rw [eh_22]; exact (fh_up_ne _ _ (by omega)).trans (x_17 q h9 hq)
  refine lv_aload_n hx hb dX9_init_82 rfl (lv_at hl 0 rfl) ?_
  refine lv_iconst (v := (nI 1)) hx hb dX9_init_83 (by decide) ?_
  refine fh_put (C := RX9) (T := TX9) (N := 11) (t := .int) hx hb ht inX9 tyX9 tyX9_ok nmX9 hown hE.1 hP hS g_22_10 (hAx) rfl 1 (by decide) (ht _ kw_76) (fun _ h9 => h9) rfl (by decide +kernel) rfl rfl (Nat.le_of_ble_eq_true rfl) dX9_init_84 (fun H locs hP hz hS => ?_)
  obtain ⟨h_23, eh_23⟩ : ∃ z, z = fh_up h_22 xa (.inr (9, [.ref vA, .int (nI 1), .ref st, .ref sA, .int 0, .int 0, .ref lk, .ref rA, .int 0, .ref cn, .ref mk])) := ⟨_, rfl⟩
  have hP : fh_P G vwCl h_23 H := by rw [eh_23]; exact hP
  have f_23 : h_23 xa = some (.inr (9, [.ref vA, .int (nI 1), .ref st, .ref sA, .int 0, .int 0, .ref lk, .ref rA, .int 0, .ref cn, .ref mk])) := by rw [eh_23]; exact fh_up_self _ _ _
  have g_23_0 := (congrFun eh_23 st).trans (fh_keep g_22_10 g_22_1 rfl)
  have g_23_1 := (congrFun eh_23 sb).trans (fh_keep g_22_10 g_22_2 rfl)
  have g_23_2 := (congrFun eh_23 sA).trans (fh_keep g_22_10 g_22_3 rfl)
  have g_23_3 := (congrFun eh_23 lk).trans (fh_keep g_22_10 g_22_4 rfl)
  have g_23_4 := (congrFun eh_23 la).trans (fh_keep g_22_10 g_22_5 rfl)
  have g_23_5 := (congrFun eh_23 rA).trans (fh_keep g_22_10 g_22_6 rfl)
  have g_23_6 := (congrFun eh_23 cn).trans (fh_keep g_22_10 g_22_7 rfl)
  have g_23_7 := (congrFun eh_23 cd).trans (fh_keep g_22_10 g_22_8 rfl)
  have g_23_8 := (congrFun eh_23 mk).trans (fh_keep g_22_10 g_22_9 rfl)
  have g_23_10 := (congrFun eh_23 vA).trans (fh_keep g_22_10 f_22 rfl)
  have x_19 : ∀ q, q < sz → q ≠ xa → h_23 q = h q := fun q h9 hq => by rw [eh_23]; exact (fh_up_ne _ _ hq).trans (x_18 q h9 hq)
  have hAu : fh_A A h_23 := fun q e9 he9 => by
    rcases Nat.lt_or_ge q sz with z | z
    · by_cases zx : q = xa
      · rw [zx]; exact hAx
      · exact hAh q e9 ((x_19 q z zx).symm.trans he9)
    · exact hA q z
  have hkC : kp kC h h_23 := fun q e9 he9 hk9 => (x_19 q (hlt0 _ _ he9) (fun zx => by rw [zx, hx9] at he9; cases he9; cases hk9)).trans he9
  exact fh_vret hx hb hr hlocks (⟨(fun i j => match i with | 0 => q8 vA sA lk la rA cn cd mk j | 1 => st | 2 => sb | _ => 0), rfl, hAu, hkC, f_23, ⟨⟨_, g_23_10, fun k hk => by obtain rfl : k = 0 := (by omega); rfl⟩, fun k hk => ⟨g_23_0, _, g_23_1, fun _ _ => trivial⟩⟩, ⟨⟨_, g_23_2, fun i hi => absurd hi (Nat.not_lt_zero i)⟩, fun i hi => absurd hi (Nat.not_lt_zero i)⟩, ⟨_, fun _ => none, g_23_3, g_23_4, fun _ _ => trivial, by decide⟩, ⟨_, g_23_5, fun _ _ => trivial⟩, ⟨none, _, g_23_6, g_23_7, fun k p9 h9 => (by cases h9), fun z => absurd rfl z⟩, ⟨_, g_23_8, fun _ _ => rfl⟩, fun i j hi => absurd hi (Nat.not_lt_zero i), fun i k j hi => absurd hi (Nat.not_lt_zero i)⟩) hP hS (Nat.le_of_ble_eq_true rfl) (Nat.le_of_ble_eq_true rfl) dX9_init_87
