set_option maxRecDepth 100000 in
set_option maxHeartbeats 4000000 in
/-- State.row(i) -/
theorem c_St_row (l : Launch) (G : fG) (A : Nat → Prop) (h : FH) (sz : Nat) (a b i : Nat) (f : Nat → Option Nat) (ha : h a = some (oSt b)) (hb0 : h b = some (aQ 1 60 f)) (hi : i < 60) : Met l yX8_row wsX8_row { frames := 0, cells := 0, slots := 0, locals := 0 } (va_Pc [.ref a, .int (nI i)] (fh_Pre G A h sz)) (fh_Q G (fun v u => v = some (va_rf (f i)) ∧ u = h) A) 0 0 A := by
  refine fh_Met [.ref a, .int (nI i)] (by decide) rfl (Nat.le_of_ble_eq_true rfl) ?_
  intro p e s m below meth c hx hb hr hlocks hml hown hnm hts hsz hP hE hS ls hl
  have ht : ∀ w ∈ wB, w.before _ s = true := fun w h9 => hts w (List.mem_cons_of_mem _ h9)
  have hl : lv_has ls 2 [(0, .ref a), (1, .int (nI i))] := hl
  refine lv_iload_n hx hb dX8_row_0 rfl (lv_at hl 1 rfl) ?_
  refine lv_if_lt (tgt := 10) hx hb dX8_row_1 (by decide) (fun c9 => absurd c9 (nI_pos (by omega))) (fun _ => ?_)
  refine lv_iload_n hx hb dX8_row_4 rfl (lv_at hl 1 rfl) ?_
  refine lv_bipush (v := (nI 60)) hx hb dX8_row_5 (by decide) ?_
  refine lv_icmp_lt (tgt := 14) hx hb dX8_row_7 (by decide) (fun _ => ?_) (fun c9 => absurd (nI_lt hi (by decide)) c9)
  refine lv_aload_n hx hb dX8_row_14 rfl (lv_at hl 0 rfl) ?_
  refine fh_get (C := RX8) (T := TX8) (N := 1) hx hb ht inX8 hown hE.1 hP ha rfl 0 (by decide) (ht _ kw_37) (fun _ h9 => h9) (v := .ref b) rfl dX8_row_15 ?_
  refine lv_iload_n hx hb dX8_row_18 rfl (lv_at hl 1 rfl) ?_
  refine fh_aald (k := i) hx hb hE.1 hP hb0 rfl (hi) (by decide) dX8_row_19 ?_
  exact fh_aret (o := f i) hx hb hr hlocks (⟨rfl, rfl⟩) hP hS (Nat.le_of_ble_eq_true rfl) (Nat.le_of_ble_eq_true rfl) dX8_row_20

set_option maxRecDepth 100000 in
set_option maxHeartbeats 4000000 in
/-- State.put(i, row) -/
theorem c_St_put (l : Launch) (G : fG) (A : Nat → Prop) (h : FH) (sz : Nat) (a b i : Nat) (f : Nat → Option Nat) (o : Option Nat) (ha : h a = some (oSt b)) (hb0 : h b = some (aQ 1 60 f)) (hAb : A b) (hi : i < 60) (ho : ∀ r, o = some r → ∃ vs, h r = some (.inr (5, vs))) : Met l yX8_put wsX8_put { frames := 0, cells := 0, slots := 0, locals := 0 } (va_Pc [.ref a, .int (nI i), va_rf o] (fh_Pre G A h sz)) (fh_Q G (fun v u => v = none ∧ u = fh_up h b (aQ 1 60 (va_up f i o))) A) 0 0 A := by
  refine fh_Met [.ref a, .int (nI i), va_rf o] (by decide) rfl (by cases o <;> exact (Nat.le_of_ble_eq_true rfl)) ?_
  intro p e s m below meth c hx hb hr hlocks hml hown hnm hts hsz hP hE hS ls hl
  have ht : ∀ w ∈ wB, w.before _ s = true := fun w h9 => hts w (List.mem_cons_of_mem _ h9)
  have e9 : lv_args 0 [.ref a, .int (nI i), va_rf o] = [(0, .ref a), (1, .int (nI i)), (2, va_rf o)] := by cases o <;> rfl
  rw [e9] at hl
  refine lv_iload_n hx hb dX8_put_0 rfl (lv_at hl 1 rfl) ?_
  refine lv_if_lt (tgt := 17) hx hb dX8_put_1 (by decide) (fun c9 => absurd c9 (nI_pos (by omega))) (fun _ => ?_)
  refine lv_iload_n hx hb dX8_put_4 rfl (lv_at hl 1 rfl) ?_
  refine lv_bipush (v := (nI 60)) hx hb dX8_put_5 (by decide) ?_
  refine lv_icmp_ge (tgt := 17) hx hb dX8_put_7 (by decide) (fun c9 => absurd c9 (nI_ge hi (by decide))) (fun _ => ?_)
  refine lv_aload_n hx hb dX8_put_10 rfl (lv_at hl 0 rfl) ?_
  refine fh_get (C := RX8) (T := TX8) (N := 1) hx hb ht inX8 hown hE.1 hP ha rfl 0 (by decide) (ht _ kw_37) (fun _ h9 => h9) (v := .ref b) rfl dX8_put_11 ?_
  refine lv_iload_n hx hb dX8_put_14 rfl (lv_at hl 1 rfl) ?_
  refine fh_aload_n hx hb dX8_put_15 rfl (lv_at hl 2 rfl) ?_
  refine fh_aastO (k := i) hx hb hE.1 hP hS hb0 (hAb) rfl (ho) rfl (hi) (by decide) dX8_put_16 (fun H locs hP hz hS => ?_)
  obtain ⟨h_1, eh_1⟩ : ∃ z, z = fh_up h b (.inl (1, 60, .inr (.inr (.inr (.inr (va_up f i o)))))) := ⟨_, rfl⟩
  have hP : fh_P G vwCl h_1 H := by rw [eh_1]; exact hP
  have f_1 : h_1 b = some (.inl (1, 60, .inr (.inr (.inr (.inr (va_up f i o)))))) := by rw [eh_1]; exact fh_up_self _ _ _
  have g_1_0 := (congrFun eh_1 a).trans (fh_keep hb0 ha rfl)
  exact fh_vret hx hb hr hlocks (⟨rfl, by rw [eh_1]⟩) hP hS (Nat.le_of_ble_eq_true rfl) (Nat.le_of_ble_eq_true rfl) dX8_put_17

set_option maxRecDepth 100000 in
set_option maxHeartbeats 4000000 in
/-- State() -/
theorem c_St_init (l : Launch) (G : fG) (A : Nat → Prop) (h : FH) (sz : Nat) (hA : ∀ q, sz ≤ q → A q) (a : Nat) (hAa : A a) (ha : h a = some (.inr (8, [.null]))) : Met l yX8_init wsX8_init { frames := 1, cells := 1, slots := 60, locals := 12 } (va_Pc [.ref a] (fh_Pre G A h sz)) (fh_Q G (fun v u => ∃ q, sz ≤ q ∧ v = none ∧ u = fh_up (fh_up h q (aQ 1 60 (fun _ => none))) a (oSt q)) A) 1 60 A := by
  refine fh_Met [.ref a] (by decide) rfl (Nat.le_of_ble_eq_true rfl) ?_
  intro p e s m below meth c hx hb hr hlocks hml hown hnm hts hsz hP hE hS ls hl
  have ht : ∀ w ∈ wB, w.before _ s = true := fun w h9 => hts w (List.mem_cons_of_mem _ h9)
  have hl : lv_has ls 1 [(0, .ref a)] := hl
  have hA0 : ∀ q, s.heap.size ≤ q → A q := fun q hq => hA q (by rw [← hsz]; exact hq)
  refine lv_aload_n hx hb dX8_init_0 rfl (lv_at hl 0 rfl) ?_
  refine W.objInit hx hb hown (ht _ kw_34) (ht _ kw_26) (ht _ kw_27) rfl (by rw [hml]; exact hl.1) rfl dX8_init_1 (Nat.le_of_ble_eq_true rfl) (Nat.le_of_ble_eq_true rfl) ?_
  refine W.eq (g2 := F0 m 4 ls []) rfl ?_
  refine lv_aload_n hx hb dX8_init_4 rfl (lv_at hl 0 rfl) ?_
  refine lv_bipush (v := (nI 60)) hx hb dX8_init_5 (by decide) ?_
  have hge1 := hS.1
  have hlt1 := fun (a9 : Nat) (e9 : fe) (q9 : h a9 = some e9) => hP.lt q9
  refine fh_newq (N' := 60) hx hb hown (ht _ kw_35) (hE.2.2.2.2.1 "ObjectMerge$Row" (by decide)) hE.1 hP hS hA0 1 rfl (by decide) (by decide) (by decide) (Nat.le_of_ble_eq_true rfl) (Nat.le_of_ble_eq_true rfl) dX8_init_7 (fun q H eq hAq hP hz_q hS => ?_)
  obtain ⟨h_2, eh_2⟩ : ∃ z, z = fh_up h q (.inl (1, 60, .inr (.inr (.inr (.inr (fun _ => none)))))) := ⟨_, rfl⟩
  have g_2_0 := (congrFun eh_2 a).trans (fh_keepN ha (Nat.ne_of_lt (by rw [eq]; exact hlt1 _ _ ha)))
  have hP : fh_P G vwCl h_2 H := by rw [eh_2]; exact hP
  have f_2 : h_2 q = some (.inl (1, 60, .inr (.inr (.inr (.inr (fun _ => none)))))) := by rw [eh_2]; exact fh_up_self _ _ _
  have hsz_q : sz ≤ q := by rw [eq, ← hsz]; exact hge1
  refine fh_putF (C := RX8) (T := TX8) (N := 1) (t := (.array (.object "ObjectMerge$Row"))) hx hb ht inX8 tyX8 tyX8_ok nmX8 hown hE.1 hP hS g_2_0 (hAa) rfl 0 (by decide) (ht _ kw_37) (fun _ h9 => h9) rfl hnm rfl (by decide +kernel) rfl rfl (Nat.le_of_ble_eq_true rfl) dX8_init_10 (fun H locs hP hz hS => ?_)
  obtain ⟨h_3, eh_3⟩ : ∃ z, z = fh_up h_2 a (.inr (8, [.ref q])) := ⟨_, rfl⟩
  have hP : fh_P G vwCl h_3 H := by rw [eh_3]; exact hP
  have f_3 : h_3 a = some (.inr (8, [.ref q])) := by rw [eh_3]; exact fh_up_self _ _ _
  have g_3_1 := (congrFun eh_3 q).trans (fh_keep g_2_0 f_2 rfl)
  exact fh_vret hx hb hr hlocks (⟨q, hsz_q, rfl, by rw [eh_3, eh_2]⟩) hP hS (Nat.le_of_ble_eq_true rfl) (Nat.le_of_ble_eq_true rfl) dX8_init_13
