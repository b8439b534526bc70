set_option maxRecDepth 100000 in
set_option maxHeartbeats 4000000 in
/-- Row() -/
theorem c_Row_init (l : Launch) (G : fG) (A : Nat → Prop) (h : FH) (sz : Nat) (hA : ∀ q, sz ≤ q → A q) (a : Nat) (hAa : A a) (ha : h a = some (.inr (5, [.null]))) : Met l yX5_init wsX5_init { frames := 1, cells := 1, slots := 6, locals := 12 } (va_Pc [.ref a] (fh_Pre G A h sz)) (fh_Q G (fun v u => ∃ q, sz ≤ q ∧ v = none ∧ u = fh_up (fh_up h q (aL 0 6 (fun _ => 0))) a (oRow q)) A) 1 6 A := by
  refine fh_Met [.ref a] (by decide) rfl (Nat.le_of_ble_eq_true rfl) ?_
  intro p e s m below meth c hx hb hr hlocks hml hown hnm hts hsz hP hE hS ls hl
  have ht : ∀ w ∈ wB, w.before _ s = true := fun w h9 => hts w (List.mem_cons_of_mem _ h9)
  have hl : lv_has ls 1 [(0, .ref a)] := hl
  have hA0 : ∀ q, s.heap.size ≤ q → A q := fun q hq => hA q (by rw [← hsz]; exact hq)
  refine lv_aload_n hx hb dX5_init_0 rfl (lv_at hl 0 rfl) ?_
  refine W.objInit hx hb hown (ht _ kw_263) (ht _ kw_26) (ht _ kw_27) rfl (by rw [hml]; exact hl.1) rfl dX5_init_1 (Nat.le_of_ble_eq_true rfl) (Nat.le_of_ble_eq_true rfl) ?_
  refine W.eq (g2 := F0 m 4 ls []) rfl ?_
  refine lv_aload_n hx hb dX5_init_4 rfl (lv_at hl 0 rfl) ?_
  refine lv_bipush (v := (nI 6)) hx hb dX5_init_5 (by decide) ?_
  have hge1 := hS.1
  have hlt1 := fun (a9 : Nat) (e9 : fe) (q9 : h a9 = some e9) => hP.lt q9
  refine fh_newa (atype := .long) (t0 := .long) (N' := 6) (a0 := (6, .inr (.inl (fun _ => 0)))) hx hb (ht _ kw_268) rfl hE.1 hP hS hA0 0 rfl (fun _ => rfl) (by decide) (by decide) (by decide) (Nat.le_of_ble_eq_true rfl) (Nat.le_of_ble_eq_true rfl) dX5_init_7 (fun q H eq hAq hP hz_q hS => ?_)
  obtain ⟨h_2, eh_2⟩ : ∃ z, z = fh_up h q (.inl (0, 6, .inr (.inl (fun _ => 0)))) := ⟨_, rfl⟩
  have g_2_0 := (congrFun eh_2 a).trans (fh_keepN ha (Nat.ne_of_lt (by rw [eq]; exact hlt1 _ _ ha)))
  have hP : fh_P G vwCl h_2 H := by rw [eh_2]; exact hP
  have f_2 : h_2 q = some (.inl (0, 6, .inr (.inl (fun _ => 0)))) := by rw [eh_2]; exact fh_up_self _ _ _
  have hsz_q : sz ≤ q := by rw [eq, ← hsz]; exact hge1
  refine fh_putF (C := RX5) (T := TX5) (N := 1) (t := (.array .long)) hx hb ht inX5 tyX5 tyX5_ok nmX5 hown hE.1 hP hS g_2_0 (hAa) rfl 0 (by decide) (ht _ kw_264) (fun _ h9 => h9) rfl hnm rfl (by decide +kernel) rfl rfl (Nat.le_of_ble_eq_true rfl) dX5_init_9 (fun H locs hP hz hS => ?_)
  obtain ⟨h_3, eh_3⟩ : ∃ z, z = fh_up h_2 a (.inr (5, [.ref q])) := ⟨_, rfl⟩
  have hP : fh_P G vwCl h_3 H := by rw [eh_3]; exact hP
  have f_3 : h_3 a = some (.inr (5, [.ref q])) := by rw [eh_3]; exact fh_up_self _ _ _
  have g_3_1 := (congrFun eh_3 q).trans (fh_keep g_2_0 f_2 rfl)
  exact fh_vret hx hb hr hlocks (⟨q, hsz_q, rfl, by rw [eh_3, eh_2]⟩) hP hS (Nat.le_of_ble_eq_true rfl) (Nat.le_of_ble_eq_true rfl) dX5_init_12

set_option maxRecDepth 100000 in
set_option maxHeartbeats 4000000 in
/-- Row.value(j) -/
theorem c_Row_value (l : Launch) (G : fG) (A : Nat → Prop) (h : FH) (sz : Nat) (a b j : Nat) (f : Nat → Int64) (ha : h a = some (oRow b)) (hb0 : h b = some (aL 0 6 f)) (hj : j < 6) : Met l yX5_value wsX5_value { frames := 0, cells := 0, slots := 0, locals := 0 } (va_Pc [.ref a, .int (nI j)] (fh_Pre G A h sz)) (fh_Q G (fun v u => v = some (.long (f j)) ∧ u = h) A) 0 0 A := by
  refine fh_Met [.ref a, .int (nI j)] (by decide) rfl (Nat.le_of_ble_eq_true rfl) ?_
  intro p e s m below meth c hx hb hr hlocks hml hown hnm hts hsz hP hE hS ls hl
  have ht : ∀ w ∈ wB, w.before _ s = true := fun w h9 => hts w (List.mem_cons_of_mem _ h9)
  have hl : lv_has ls 2 [(0, .ref a), (1, .int (nI j))] := hl
  refine lv_iload_n hx hb dX5_value_0 rfl (lv_at hl 1 rfl) ?_
  refine lv_if_lt (tgt := 10) hx hb dX5_value_1 (by decide) (fun c9 => absurd c9 (nI_pos (by omega))) (fun _ => ?_)
  refine lv_iload_n hx hb dX5_value_4 rfl (lv_at hl 1 rfl) ?_
  refine lv_bipush (v := (nI 6)) hx hb dX5_value_5 (by decide) ?_
  refine lv_icmp_lt (tgt := 14) hx hb dX5_value_7 (by decide) (fun _ => ?_) (fun c9 => absurd (nI_lt hj (by decide)) c9)
  refine lv_aload_n hx hb dX5_value_14 rfl (lv_at hl 0 rfl) ?_
  refine fh_get (C := RX5) (T := TX5) (N := 1) hx hb ht inX5 hown hE.1 hP ha rfl 0 (by decide) (ht _ kw_264) (fun _ h9 => h9) (v := .ref b) rfl dX5_value_15 ?_
  refine lv_iload_n hx hb dX5_value_18 rfl (lv_at hl 1 rfl) ?_
  refine fh_lald (k := j) hx hb hE.1 hP hb0 rfl (hj) (by decide) dX5_value_19 ?_
  exact fh_lret hx hb hr hlocks (⟨rfl, rfl⟩) hP hS (Nat.le_of_ble_eq_true rfl) (Nat.le_of_ble_eq_true rfl) dX5_value_20
