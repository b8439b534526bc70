set_option maxRecDepth 100000 in
set_option maxHeartbeats 4000000 in
theorem whole_start {p : Program} {e : Env} {s : State} {m : MethodId} {below : List Frame} {meth : Method} {c : Code} (l : Launch) (hlt : l.stackTraces = false) {b L : Nat} {xs : Nat → Int32} (hL : L ≤ 5120) (C0 : lw_At p s m meth c b L xs) : W p l e room_1 s m #[Value.ref b] below meth c s.heap [] 0 0 (lw_Z below #[Value.ref b] s) (entryFrame m ([Value.ref b] : List Value).toArray 8) := by
  obtain ⟨hx, hb, hr, hml, hown, hts, hXs, hbl, hlocks, hgv⟩ := id C0
  obtain ⟨A, eA⟩ : ∃ A : Nat → Prop, A = fun q => s.heap.size ≤ q := ⟨_, rfl⟩
  have hA0 : ∀ q, s.heap.size ≤ q → A q := fun q hq => by rw [eA]; exact hq
  have hAA : ∀ q, A q → s.heap.size ≤ q := fun q hq => by rw [eA] at hq; exact hq
  have hbA : ¬ A b := fun q => absurd (hAA b q) (Nat.not_le.mpr hbl)
  obtain ⟨G, hE⟩ := lw_env hts hgv
  rw [← eA] at hE
  have ht : ∀ w ∈ wB, w.before #[Value.ref b] s = true := fun w h => hts w (wB_tbl w h)
  have hS : va_S A s.heap s.heap [] := va_S.rf
  obtain ⟨sz, hsz⟩ : ∃ sz, s.heap.size = sz := ⟨_, rfl⟩
  obtain ⟨h0, eh0⟩ : ∃ z : FH, z = fun _ => none := ⟨_, rfl⟩
  have hP : fh_P G vwCl h0 s.heap := fun a e q => by rw [eh0] at q; cases q
  have hAh : fh_A A h0 := fun a e q => by rw [eh0] at q; cases q
  have hl := lv_entry ([.ref b]) (n := 8) (Nat.le_of_ble_eq_true rfl)
  rw [lg_entry_eq]
  generalize (lg_sl ([.ref b]) ++ List.replicate (8 - (lg_sl ([.ref b])).length) Slot.unset).toArray = ls at hl ⊢
  have hl : lv_has ls 8 [(0, .ref b)] := hl
  have hge1 := hS.1
  have hlt1 := fun (a9 : Nat) (e9 : fe) (q9 : h0 a9 = some e9) => hP.lt q9
  refine fh_new (ci := 9) (C := RX9) (T := TX9) (N := 11) (fs := [.null, .int 0, .null, .null, .int 0, .int 0, .null, .null, .int 0, .null, .null]) hx hb ht inX9 tyX9 tyX9_ok hown (ht _ kw_20) (ht _ kw_21) (ht _ kw_1) hE.1 hP hS hA0 rfl (fun j hj => by rcases (show j = 0 ∨ j = 1 ∨ j = 2 ∨ j = 3 ∨ j = 4 ∨ j = 5 ∨ j = 6 ∨ j = 7 ∨ j = 8 ∨ j = 9 ∨ j = 10 by omega) with rfl | rfl | rfl | rfl | rfl | rfl | rfl | rfl | rfl | rfl | rfl <;> rfl) (Nat.le_of_ble_eq_true rfl) (Nat.le_of_ble_eq_true rfl) dL_law_0 (fun xa H exa hAxa hP hz_xa hS => ?_)
  obtain ⟨h_2, eh_2⟩ : ∃ z, z = fh_up h0 xa (.inr (9, [.null, .int 0, .null, .null, .int 0, .int 0, .null, .null, .int 0, .null, .null])) := ⟨_, rfl⟩
  have hP : fh_P G vwCl h_2 H := by rw [eh_2]; exact hP
  have f_2 : h_2 xa = some (.inr (9, [.null, .int 0, .null, .null, .int 0, .int 0, .null, .null, .int 0, .null, .null])) := by rw [eh_2]; exact fh_up_self _ _ _
  have hsz_xa : sz ≤ xa := by rw [exa, ← hsz]; exact hge1
  refine lv_dup hx hb dL_law_3 rfl ?_
  have hA1 : fh_A A h_2 := by rw [eh_2]; exact hAh.up hAxa
  refine fh_cI (As := []) (rest := [.ref xa]) (b := xa) ⟨hx, hb, hml, hown, ht⟩ (c_X_init l G A h_2 _ (fun q hq => hA0 q (Nat.le_trans hS.1 hq)) hA1 xa hAxa f_2) (cwI 0 ht (gB kw_24) rfl rfl rfl (ht _ kw_1) (ht _ kw_22) (ht _ kw_23) rfl yd_X9_init.2 ⟨(Nat.le_of_ble_eq_true rfl), (Nat.le_of_ble_eq_true rfl)⟩) hP hE hS rfl hl.1 rfl (Nat.le_of_ble_eq_true rfl) dL_law_4 ⟨(Nat.le_of_ble_eq_true rfl), (Nat.le_of_ble_eq_true rfl)⟩ (fun v u1 H locs hp hP hz hS => ?_)
  obtain ⟨ad, rfl, hA2, -, hR⟩ := hp
  refine W.eq (g2 := F0 m 7 ls [.ref xa]) rfl ?_
  refine lv_astore_n (lv' := [(1, .ref xa), (0, .ref b)]) hx hb dL_law_7 rfl hl (by decide) rfl (fun ls hl => ?_)
  have hge3 := hS.1
  have hlt3 := fun (a9 : Nat) (e9 : fe) (q9 : u1 a9 = some e9) => hP.lt q9
  refine fh_new (ci := 10) (C := RX10) (T := TX10) (N := 28) (fs := [.int 0, .int 0, .null, .int 0, .null, .null, .int 0, .null, .null, .null, .null, .null, .null, .null, .null, .null, .null, .int 0, .int 0, .null, .int 0, .null, .null, .int 0, .null, .null, .null, .null]) hx hb ht inX10 tyX10 tyX10_ok hown (ht _ kw_684) (ht _ kw_685) (ht _ kw_5) hE.1 hP hS hA0 rfl (fun j hj => by rcases (show j = 0 ∨ j = 1 ∨ j = 2 ∨ j = 3 ∨ j = 4 ∨ j = 5 ∨ j = 6 ∨ j = 7 ∨ j = 8 ∨ j = 9 ∨ j = 10 ∨ j = 11 ∨ j = 12 ∨ j = 13 ∨ j = 14 ∨ j = 15 ∨ j = 16 ∨ j = 17 ∨ j = 18 ∨ j = 19 ∨ j = 20 ∨ j = 21 ∨ j = 22 ∨ j = 23 ∨ j = 24 ∨ j = 25 ∨ j = 26 ∨ j = 27 by omega) with rfl | rfl | rfl | rfl | rfl | rfl | rfl | rfl | rfl | rfl | rfl | rfl | rfl | rfl | rfl | rfl | rfl | rfl | rfl | rfl | rfl | rfl | rfl | rfl | rfl | rfl | rfl | rfl <;> rfl) (Nat.le_of_ble_eq_true rfl) (Nat.le_of_ble_eq_true rfl) dL_law_8 (fun ma H ema hAma hP hz_ma hS => ?_)
  obtain ⟨h_4, eh_4⟩ : ∃ z, z = fh_up u1 ma (.inr (10, [.int 0, .int 0, .null, .int 0, .null, .null, .int 0, .null, .null, .null, .null, .null, .null, .null, .null, .null, .null, .int 0, .int 0, .null, .int 0, .null, .null, .int 0, .null, .null, .null, .null])) := ⟨_, rfl⟩
  have hP : fh_P G vwCl h_4 H := by rw [eh_4]; exact hP
  have f_4 : h_4 ma = some (.inr (10, [.int 0, .int 0, .null, .int 0, .null, .null, .int 0, .null, .null, .null, .null, .null, .null, .null, .null, .null, .null, .int 0, .int 0, .null, .int 0, .null, .null, .int 0, .null, .null, .null, .null])) := by rw [eh_4]; exact fh_up_self _ _ _
  have hsz_ma : sz ≤ ma := by rw [ema, ← hsz]; exact hge3
  refine lv_dup hx hb dL_law_11 rfl ?_
  have hlt9 : ∀ a e, u1 a = some e → a < ma := fun a e q => by rw [ema]; exact hlt3 _ _ q
  have hk3 : kp [] u1 h_4 := by rw [eh_4]; exact kp.rf.upn hlt9 (Nat.le_refl ma)
  have hA3 : fh_A A h_4 := by rw [eh_4]; exact hA2.up hAma
  have hR3 := hR.kp0 hk3
  refine fh_cI (As := []) (rest := [.ref ma]) (b := ma) ⟨hx, hb, hml, hown, ht⟩ (q_init l G A h_4 _ (fun q hq => hA0 q (Nat.le_trans hS.1 hq)) hA3 ma hAma f_4) (cwI 0 ht (gB kw_688) rfl rfl rfl (ht _ kw_5) (ht _ kw_686) (ht _ kw_687) rfl yd_X10_init.2 ⟨(Nat.le_of_ble_eq_true rfl), (Nat.le_of_ble_eq_true rfl)⟩) hP hE hS rfl hl.1 rfl (Nat.le_of_ble_eq_true rfl) dL_law_12 ⟨(Nat.le_of_ble_eq_true rfl), (Nat.le_of_ble_eq_true rfl)⟩ (fun v u2 H locs hp hP hz hS => ?_)
  obtain ⟨bb, rfl, hk4, hRM⟩ := hp
  have hR4 := hR3.kpN hk4 rfl
  have hA4 := hRM.re.2.1
  refine W.eq (g2 := F0 m 15 ls [.ref ma]) rfl ?_
  refine lv_astore_n (lv' := [(2, .ref ma), (1, .ref xa), (0, .ref b)]) hx hb dL_law_15 rfl hl (by decide) rfl (fun ls hl => ?_)
  refine lv_iconst (v := (nI 1)) hx hb dL_law_16 (by decide) ?_
  have hge5 := hS.1
  have hlt5 := fun (a9 : Nat) (e9 : fe) (q9 : u2 a9 = some e9) => hP.lt q9
  refine fh_newa (atype := .long) (t0 := .long) (N' := 1) (a0 := (1, .inr (.inl (fun _ => 0)))) hx hb (ht _ kw_268) rfl hE.1 hP hS hA0 11 rfl (fun _ => rfl) (by decide) (by decide) (by decide) (Nat.le_of_ble_eq_true rfl) (Nat.le_of_ble_eq_true rfl) dL_law_17 (fun oa H eoa hAoa hP hz_oa hS => ?_)
  obtain ⟨h_6, eh_6⟩ : ∃ z, z = fh_up u2 oa (.inl (11, 1, .inr (.inl (fun _ => 0)))) := ⟨_, rfl⟩
  have hP : fh_P G vwCl h_6 H := by rw [eh_6]; exact hP
  have f_6 : h_6 oa = some (.inl (11, 1, .inr (.inl (fun _ => 0)))) := by rw [eh_6]; exact fh_up_self _ _ _
  have hsz_oa : sz ≤ oa := by rw [eoa, ← hsz]; exact hge5
  have hlt8 : ∀ a e, u2 a = some e → a < oa := fun a e q => by rw [eoa]; exact hlt5 _ _ q
  have hk5 : kp [] u2 h_6 := by rw [eh_6]; exact kp.rf.upn hlt8 (Nat.le_refl oa)
  have hA5 : fh_A A h_6 := by rw [eh_6]; exact hA4.up hAoa
  have hR5 := hR4.kp0 hk5
  have hRM5 := hRM.kp2 hk5 rfl hA5
  refine lv_astore_n (lv' := [(3, .ref oa), (2, .ref ma), (1, .ref xa), (0, .ref b)]) hx hb dL_law_19 rfl hl (by decide) rfl (fun ls hl => ?_)
  refine lv_iconst (v := (nI 0)) hx hb dL_law_20 (by decide) ?_
  refine lv_istore (lv' := [(4, .int (nI 0)), (3, .ref oa), (2, .ref ma), (1, .ref xa), (0, .ref b)]) hx hb dL_law_21 hl (by decide) rfl (fun ls hl => ?_)
  refine W.widen (k := 40 + 940 * 0) (n := 38200 + 3900 * 0) (Nat.le_of_ble_eq_true rfl) (Nat.le_of_ble_eq_true rfl) ?_
  exact lw_loop (ma := ma) (bb := bb) hlt hA0 hx hb hml hown ht hE hXs hbl hbA hL hr hlocks hAA 512 0 (by omega) (by omega) _ _ _ _ ⟨_, _, _, _, _, _, _, _, _, _, _, _, _, hA5, hR5, hRM5, Inv.zero, f_6⟩ hP hS (lv_sub hl [0, 1, 2, 3, 4] rfl)
