set_option maxRecDepth 100000 in
set_option maxHeartbeats 4000000 in
theorem c_X_begin (l : Launch) (G : fG) (A : Nat → Prop) (h : FH) (sz : Nat) (hA : ∀ q, sz ≤ q → A q) (hAh : fh_A A h) {Kq : Nat} (xa : Nat) (ad : Ad) (no nv ns : Nat) (V : Nat → St) (S : Nat → Ses) (LK : List Ar) (RL : List (Nat × Nat × Int64)) (J : Nat) (C : CL) (M : Nat → Int32) (hR : RepC Kq h xa ad no nv ns V S LK RL J C M) (b : Nat) (hb9 : b < nv) (hns : ns < 20) (hJ : C ≠ [] → J < ns) : Met l yX9_begin wsX9_begin { frames := 4, cells := 7, slots := 571, locals := 90 } (va_Pc [.ref xa, .ref (ad 1 b)] (fh_Pre G A h sz)) (fh_Q G (fun v u => ∃ q : Nat → Nat, v = some (.ref (q 0)) ∧ fh_A A u ∧ kp kC h u ∧ RepC Kq u xa (adS ad ns q) no nv (ns + 1) V (upN S ns (b, V b, true, [], fun _ => 0)) LK RL J C M) A) 7 571 A := by
  refine fh_Met [.ref xa, .ref (ad 1 b)] (by decide) rfl (Nat.le_of_ble_eq_true rfl) ?_
  intro p e s m below meth c hx hb hr hlocks hml hown hnm hts hsz hP hE hS ls hl
  have ht : ∀ w ∈ wB, w.before _ s = true := fun w h9 => hts w (List.mem_cons_of_mem _ h9)
  have hl : lv_has ls 3 [(0, .ref xa), (1, .ref (ad 1 b))] := hl
  have hA0 : ∀ q, s.heap.size ≤ q → A q := fun q hq => hA q (by rw [← hsz]; exact hq)
  obtain ⟨hX, hV, hSs, hL, hRl, hC, hM, hI⟩ := id hR
  obtain ⟨⟨fs, s1, s2⟩, s3⟩ := id hSs
  obtain ⟨b1, fb, b2, b3⟩ := hV.2 b hb9
  have hbnd := fun (a9 : Nat) (e9 : fe) (q9 : h a9 = some e9) => hP.lt q9
  have hge1 := hS.1
  have hlt1 := fun (a9 : Nat) (e9 : fe) (q9 : h a9 = some e9) => hP.lt q9
  refine fh_new (ci := 7) (C := RX7) (T := TX7) (N := 6) (fs := [.int 0, .null, .null, .int 0, .null, .null]) hx hb ht inX7 tyX7 tyX7_ok hown (ht _ kw_41) (ht _ kw_117) (ht _ kw_11) hE.1 hP hS hA0 rfl (fun j hj => by rcases (show j = 0 ∨ j = 1 ∨ j = 2 ∨ j = 3 ∨ j = 4 ∨ j = 5 by omega) with rfl | rfl | rfl | rfl | rfl | rfl <;> rfl) (Nat.le_of_ble_eq_true rfl) (Nat.le_of_ble_eq_true rfl) dX9_begin_0 (fun a H ea hAa hP hz_a hS => ?_)
  obtain ⟨h_2, eh_2⟩ : ∃ z, z = fh_up h a (.inr (7, [.int 0, .null, .null, .int 0, .null, .null])) := ⟨_, rfl⟩
  have g_2_0 := (congrFun eh_2 xa).trans (fh_keepN hX (Nat.ne_of_lt (by rw [ea]; exact hlt1 _ _ hX)))
  have g_2_1 := (congrFun eh_2 (ad 0 1)).trans (fh_keepN s1 (Nat.ne_of_lt (by rw [ea]; exact hlt1 _ _ s1)))
  have g_2_2 := (congrFun eh_2 (ad 1 b)).trans (fh_keepN b1 (Nat.ne_of_lt (by rw [ea]; exact hlt1 _ _ b1)))
  have g_2_3 := (congrFun eh_2 (ad 2 b)).trans (fh_keepN b2 (Nat.ne_of_lt (by rw [ea]; exact hlt1 _ _ b2)))
  have hP : fh_P G vwCl h_2 H := by rw [eh_2]; exact hP
  have f_2 : h_2 a = some (.inr (7, [.int 0, .null, .null, .int 0, .null, .null])) := by rw [eh_2]; exact fh_up_self _ _ _
  have hsz_a : sz ≤ a := by rw [ea, ← hsz]; exact hge1
  refine lv_dup hx hb dX9_begin_3 rfl ?_
  refine lv_aload_n hx hb dX9_begin_4 rfl (lv_at hl 0 rfl) ?_
  refine fh_get (C := RX9) (T := TX9) (N := 11) hx hb ht inX9 hown hE.1 hP g_2_0 rfl 4 (by decide) (ht _ kw_79) (fun _ h9 => h9) (v := .int (nI ns)) rfl dX9_begin_5 ?_
  refine lv_aload_n hx hb dX9_begin_8 rfl (lv_at hl 1 rfl) ?_
  refine fh_cI (As := [.int (nI ns), .ref (ad 1 b)]) (rest := [.ref a]) (b := a) ⟨hx, hb, hml, hown, ht⟩ (c_Ses_init l G A h_2 _ (fun q hq => hA0 q (Nat.le_trans hS.1 hq)) a (ad 1 b) (ad 2 b) (nI ns) fb hAa f_2 g_2_2 g_2_3 (fun i hi r er => by obtain ⟨vs, h9⟩ := pRo_cell' (b3 i hi) r er; exact ⟨vs, by rw [eh_2, fh_up_ne _ _ (Nat.ne_of_lt (by rw [ea]; exact hbnd _ _ h9))]; exact h9⟩)) (cwI 2 ht (gB kw_120) rfl rfl rfl (ht _ kw_11) (ht _ kw_118) (ht _ kw_119) rfl yd_X7_init.2 ⟨(Nat.le_of_ble_eq_true rfl), (Nat.le_of_ble_eq_true rfl)⟩) hP hE hS rfl hl.1 rfl (Nat.le_of_ble_eq_true rfl) dX9_begin_9 ⟨(Nat.le_of_ble_eq_true rfl), (Nat.le_of_ble_eq_true rfl)⟩ (fun v u H locs hp hP hz hS => ?_)
  obtain ⟨ch, ob, rw9, sd, na, nb, gn, g1, g2, g3, g4, g5, g6, rfl, k0, k3, k4, k5, k6, k1, k2, hgn, hext⟩ := hp
  refine W.eq (g2 := F0 m 12 ls [.ref a]) rfl ?_
  have he : fh_ext s.heap.size h u := fun q hq => by rw [hext q (by omega) (by omega), eh_2, fh_up_ne _ _ (by omega)]
  refine lv_astore_n (lv' := [(2, .ref a), (0, .ref xa), (1, .ref (ad 1 b))]) hx hb dX9_begin_12 rfl hl (by decide) rfl (fun ls hl => ?_)
  refine lv_aload_n hx hb dX9_begin_13 rfl (lv_at hl 1 rfl) ?_
  refine fh_get (C := RX9) (T := TX9) (N := 11) hx hb ht inX9 hown hE.1 hP (he.at hX (hbnd _ _ hX)) rfl 4 (by decide) (ht _ kw_79) (fun _ h9 => h9) (v := .int (nI ns)) rfl dX9_begin_14 ?_
  refine lv_bipush (v := (nI 20)) hx hb dX9_begin_17 (by decide) ?_
  refine lv_icmp_ge (tgt := 42) hx hb dX9_begin_19 (by decide) (fun c9 => absurd c9 (nI_ge hns (by decide))) (fun _ => ?_)
  refine lv_aload_n hx hb dX9_begin_22 rfl (lv_at hl 1 rfl) ?_
  refine fh_get (C := RX9) (T := TX9) (N := 11) hx hb ht inX9 hown hE.1 hP (he.at hX (hbnd _ _ hX)) rfl 3 (by decide) (ht _ kw_78) (fun _ h9 => h9) (v := .ref (ad 0 1)) rfl dX9_begin_23 ?_
  refine lv_aload_n hx hb dX9_begin_26 rfl (lv_at hl 1 rfl) ?_
  refine fh_get (C := RX9) (T := TX9) (N := 11) hx hb ht inX9 hown hE.1 hP (he.at hX (hbnd _ _ hX)) rfl 4 (by decide) (ht _ kw_79) (fun _ h9 => h9) (v := .int (nI ns)) rfl dX9_begin_27 ?_
  refine lv_aload_n hx hb dX9_begin_30 rfl (lv_at hl 0 rfl) ?_
  refine fh_aast (k := ns) hx hb hE.1 hP hS (he.at s1 (hbnd _ _ s1)) (hAh _ _ s1) rfl k0 rfl (hns) (by decide) dX9_begin_31 (fun H locs hP hz hS => ?_)
  obtain ⟨h_3, eh_3⟩ : ∃ z, z = fh_up u (ad 0 1) (.inl (8, 20, .inr (.inr (.inr (.inr (va_up fs ns (some a))))))) := ⟨_, rfl⟩
  have hP : fh_P G vwCl h_3 H := by rw [eh_3]; exact hP
  have f_3 : h_3 (ad 0 1) = some (.inl (8, 20, .inr (.inr (.inr (.inr (va_up fs ns (some a))))))) := by rw [eh_3]; exact fh_up_self _ _ _
  have g_3_0 := (congrFun eh_3 xa).trans (fh_keep (he.at s1 (hbnd _ _ s1)) (he.at hX (hbnd _ _ hX)) rfl)
  have g_3_2 := (congrFun eh_3 a).trans (fh_keep (he.at s1 (hbnd _ _ s1)) k0 rfl)
  have g_3_3 := (congrFun eh_3 ch).trans (fh_keep (he.at s1 (hbnd _ _ s1)) k3 rfl)
  have g_3_4 := (congrFun eh_3 ob).trans (fh_keep (he.at s1 (hbnd _ _ s1)) k4 rfl)
  have g_3_5 := (congrFun eh_3 rw9).trans (fh_keep (he.at s1 (hbnd _ _ s1)) k5 rfl)
  have g_3_6 := (congrFun eh_3 sd).trans (fh_keep (he.at s1 (hbnd _ _ s1)) k6 rfl)
  have g_3_7 := (congrFun eh_3 na).trans (fh_keep (he.at s1 (hbnd _ _ s1)) k1 rfl)
  have g_3_8 := (congrFun eh_3 nb).trans (fh_keep (he.at s1 (hbnd _ _ s1)) k2 rfl)
  refine lv_aload_n hx hb dX9_begin_32 rfl (lv_at hl 1 rfl) ?_
  refine lv_dup hx hb dX9_begin_33 rfl ?_
  refine fh_get (C := RX9) (T := TX9) (N := 11) hx hb ht inX9 hown hE.1 hP g_3_0 rfl 4 (by decide) (ht _ kw_79) (fun _ h9 => h9) (v := .int (nI ns)) rfl dX9_begin_34 ?_
  refine lv_iconst (v := (nI 1)) hx hb dX9_begin_37 (by decide) ?_
  refine lv_iadd hx hb dX9_begin_38 ?_
  refine lv_topi (fun z9 ez9 => ?_)
  rw [show z9 = nI (ns + 1) from ez9.trans (nI_add _ _)]
  refine fh_put (C := RX9) (T := TX9) (N := 11) (t := .int) hx hb ht inX9 tyX9 tyX9_ok nmX9 hown hE.1 hP hS g_3_0 (hAh _ _ hX) rfl 4 (by decide) (ht _ kw_79) (fun _ h9 => h9) rfl (by decide +kernel) rfl rfl (Nat.le_of_ble_eq_true rfl) dX9_begin_39 (fun H locs hP hz hS => ?_)
  obtain ⟨h_4, eh_4⟩ : ∃ z, z = fh_up h_3 xa (.inr (9, [.ref (ad 0 0), .int (nI nv), .ref (ad 1 (nv - 1)), .ref (ad 0 1), .int (nI (ns + 1)), .int (nI no), .ref (ad 0 2), .ref (ad 0 4), .int (nI RL.length), .ref (ad 0 5), .ref (ad 0 7)])) := ⟨_, rfl⟩
  have hP : fh_P G vwCl h_4 H := by rw [eh_4]; exact hP
  have f_4 : h_4 xa = some (.inr (9, [.ref (ad 0 0), .int (nI nv), .ref (ad 1 (nv - 1)), .ref (ad 0 1), .int (nI (ns + 1)), .int (nI no), .ref (ad 0 2), .ref (ad 0 4), .int (nI RL.length), .ref (ad 0 5), .ref (ad 0 7)])) := by rw [eh_4]; exact fh_up_self _ _ _
  have g_4_1 := (congrFun eh_4 a).trans (fh_keep g_3_0 g_3_2 rfl)
  have g_4_2 := (congrFun eh_4 ch).trans (fh_keep g_3_0 g_3_3 rfl)
  have g_4_3 := (congrFun eh_4 ob).trans (fh_keep g_3_0 g_3_4 rfl)
  have g_4_4 := (congrFun eh_4 rw9).trans (fh_keep g_3_0 g_3_5 rfl)
  have g_4_5 := (congrFun eh_4 sd).trans (fh_keep g_3_0 g_3_6 rfl)
  have g_4_6 := (congrFun eh_4 na).trans (fh_keep g_3_0 g_3_7 rfl)
  have g_4_7 := (congrFun eh_4 nb).trans (fh_keep g_3_0 g_3_8 rfl)
  have g_4_8 := (congrFun eh_4 (ad 0 1)).trans (fh_keep g_3_0 f_3 rfl)
  refine lv_aload_n hx hb dX9_begin_42 rfl (lv_at hl 0 rfl) ?_
  have kk : kp [17, 18] h h_4 := by rw [eh_4, eh_3]; exact ((kp.ext he hbnd).up s1 rfl).up hX rfl
  have hq7 := q7_le (z := s.heap.size) (a0 := a) (a1 := na) (a2 := nb) (a3 := ch) (a4 := ob) (a5 := rw9) (a6 := sd) (by omega) (by omega) (by omega) (by omega) (by omega) (by omega) (by omega)
  have hsn : pSes Kq h_4 ns (ad 1 b) (q7 a na nb ch ob rw9 sd) (b, V b, true, [], fun _ => 0) := ⟨g_4_1, ⟨g_4_6, gn, g_4_7, fun k hk => by rw [hgn k hk]; exact pRo_kp kk rfl (b3 k hk)⟩, g_4_5, 0, _, _, g_4_2, g_4_3, g_4_4, ⟨Nat.zero_le _, Nat.le_refl 0⟩, Nat.zero_le _, trivial⟩
  have hAu : fh_A A u := hAh.ext he hA0
  exact fh_aret (o := some a) hx hb hr hlocks (⟨_, rfl, by rw [eh_4, eh_3]; exact (hAu.up (hAh _ _ s1)).up (hAh _ _ hX), kk.C rfl, hR.addS (q := q7 a na nb ch ob rw9 sd) (s' := (b, V b, true, [], fun _ => 0)) s1 s2 hbnd hq7 hJ hsn kk g_4_8 f_4⟩) hP hS (Nat.le_of_ble_eq_true rfl) (Nat.le_of_ble_eq_true rfl) dX9_begin_43
