set_option maxRecDepth 100000 in
set_option maxHeartbeats 4000000 in
theorem c_X_newNum (l : Launch) (G : fG) (A : Nat → Prop) (h : FH) (sz : Nat) (xa : Nat) (ad : Ad) (hd no nv ns nr : Nat) (hX : h xa = some (oXh ad hd no nv ns nr)) (hAx : A xa) : Met l yX9_newNumber wsX9_newNumber { frames := 0, cells := 0, slots := 0, locals := 0 } (va_Pc [.ref xa] (fh_Pre G A h sz)) (fh_Q G (fun v u => v = some (.int (nI no)) ∧ u = fh_up h xa (oXh ad hd (no + 1) nv ns nr)) A) 0 0 A := by
  refine fh_Met [.ref xa] (by decide) rfl (Nat.le_of_ble_eq_true rfl) ?_
  intro p e s m below meth c hx hb hr hlocks hml hown hnm hts hsz hP hE hS ls hl
  have ht : ∀ w ∈ wB, w.before _ s = true := fun w h9 => hts w (List.mem_cons_of_mem _ h9)
  have hl : lv_has ls 2 [(0, .ref xa)] := hl
  refine lv_aload_n hx hb dX9_newNumber_0 rfl (lv_at hl 0 rfl) ?_
  refine fh_get (C := RX9) (T := TX9) (N := 11) hx hb ht inX9 hown hE.1 hP hX rfl 5 (by decide) (ht _ kw_80) (fun _ h9 => h9) (v := .int (nI no)) rfl dX9_newNumber_1 ?_
  refine lv_istore_n (lv' := [(1, .int (nI no)), (0, .ref xa)]) hx hb dX9_newNumber_4 rfl hl (by decide) rfl (fun ls hl => ?_)
  refine lv_aload_n hx hb dX9_newNumber_5 rfl (lv_at hl 1 rfl) ?_
  refine lv_dup hx hb dX9_newNumber_6 rfl ?_
  refine fh_get (C := RX9) (T := TX9) (N := 11) hx hb ht inX9 hown hE.1 hP hX rfl 5 (by decide) (ht _ kw_80) (fun _ h9 => h9) (v := .int (nI no)) rfl dX9_newNumber_7 ?_
  refine lv_iconst (v := (nI 1)) hx hb dX9_newNumber_10 (by decide) ?_
  refine lv_iadd hx hb dX9_newNumber_11 ?_
  refine lv_topi (fun z9 ez9 => ?_)
  rw [show z9 = nI (no + 1) from ez9.trans (nI_add _ _)]
  refine fh_put (C := RX9) (T := TX9) (N := 11) (t := .int) hx hb ht inX9 tyX9 tyX9_ok nmX9 hown hE.1 hP hS hX (hAx) rfl 5 (by decide) (ht _ kw_80) (fun _ h9 => h9) rfl (by decide +kernel) rfl rfl (Nat.le_of_ble_eq_true rfl) dX9_newNumber_12 (fun H locs hP hz hS => ?_)
  obtain ⟨h_1, eh_1⟩ : ∃ z, z = fh_up h xa (.inr (9, [.ref (ad 0 0), .int (nI nv), .ref hd, .ref (ad 0 1), .int (nI ns), .int (nI (no + 1)), .ref (ad 0 2), .ref (ad 0 4), .int (nI nr), .ref (ad 0 5), .ref (ad 0 7)])) := ⟨_, rfl⟩
  have hP : fh_P G vwCl h_1 H := by rw [eh_1]; exact hP
  have f_1 : h_1 xa = some (.inr (9, [.ref (ad 0 0), .int (nI nv), .ref hd, .ref (ad 0 1), .int (nI ns), .int (nI (no + 1)), .ref (ad 0 2), .ref (ad 0 4), .int (nI nr), .ref (ad 0 5), .ref (ad 0 7)])) := by rw [eh_1]; exact fh_up_self _ _ _
  refine lv_iload_n hx hb dX9_newNumber_15 rfl (lv_at hl 0 rfl) ?_
  exact fh_iret hx hb hr hlocks (⟨rfl, by rw [eh_1]⟩) hP hS (Nat.le_of_ble_eq_true rfl) (Nat.le_of_ble_eq_true rfl) dX9_newNumber_16

set_option maxRecDepth 100000 in
set_option maxHeartbeats 4000000 in
theorem c_X_addV (l : Launch) (G : fG) (A : Nat → Prop) (h : FH) (sz : Nat) (xa : Nat) (ad : Ad) (no nv ns nr : Nat) (hX : h xa = some (oX ad no nv ns nr)) (hAx : A xa) (fv : Nat → Option Nat) (hv1 : h (ad 0 0) = some (aQ 7 40 fv)) (hAv : A (ad 0 0)) (hnv : nv < 40) (a b : Nat) (ha : h a = some (oSt b)) : Met l yX9_addVersion wsX9_addVersion { frames := 0, cells := 0, slots := 0, locals := 0 } (va_Pc [.ref xa, .ref a] (fh_Pre G A h sz)) (fh_Q G (fun v u => v = none ∧ u = fh_up (fh_up h (ad 0 0) (aQ 7 40 (va_up fv nv (some a)))) xa (oXh ad a no (nv + 1) ns nr)) A) 0 0 A := by
  refine fh_Met [.ref xa, .ref a] (by decide) rfl (Nat.le_of_ble_eq_true rfl) ?_
  intro p e s m below meth c hx hb hr hlocks hml hown hnm hts hsz hP hE hS ls hl
  have ht : ∀ w ∈ wB, w.before _ s = true := fun w h9 => hts w (List.mem_cons_of_mem _ h9)
  have hl : lv_has ls 2 [(0, .ref xa), (1, .ref a)] := hl
  refine lv_aload_n hx hb dX9_addVersion_0 rfl (lv_at hl 0 rfl) ?_
  refine fh_get (C := RX9) (T := TX9) (N := 11) hx hb ht inX9 hown hE.1 hP hX rfl 1 (by decide) (ht _ kw_76) (fun _ h9 => h9) (v := .int (nI nv)) rfl dX9_addVersion_1 ?_
  refine lv_bipush (v := (nI 40)) hx hb dX9_addVersion_4 (by decide) ?_
  refine lv_icmp_ge (tgt := 34) hx hb dX9_addVersion_6 (by decide) (fun c9 => absurd c9 (nI_ge hnv (by decide))) (fun _ => ?_)
  refine lv_aload_n hx hb dX9_addVersion_9 rfl (lv_at hl 0 rfl) ?_
  refine fh_get (C := RX9) (T := TX9) (N := 11) hx hb ht inX9 hown hE.1 hP hX rfl 0 (by decide) (ht _ kw_75) (fun _ h9 => h9) (v := .ref (ad 0 0)) rfl dX9_addVersion_10 ?_
  refine lv_aload_n hx hb dX9_addVersion_13 rfl (lv_at hl 0 rfl) ?_
  refine fh_get (C := RX9) (T := TX9) (N := 11) hx hb ht inX9 hown hE.1 hP hX rfl 1 (by decide) (ht _ kw_76) (fun _ h9 => h9) (v := .int (nI nv)) rfl dX9_addVersion_14 ?_
  refine lv_aload_n hx hb dX9_addVersion_17 rfl (lv_at hl 1 rfl) ?_
  refine fh_aast (k := nv) hx hb hE.1 hP hS hv1 (hAv) rfl ha rfl (hnv) (by decide) dX9_addVersion_18 (fun H locs hP hz hS => ?_)
  obtain ⟨h_1, eh_1⟩ : ∃ z, z = fh_up h (ad 0 0) (.inl (7, 40, .inr (.inr (.inr (.inr (va_up fv nv (some a))))))) := ⟨_, rfl⟩
  have hP : fh_P G vwCl h_1 H := by rw [eh_1]; exact hP
  have f_1 : h_1 (ad 0 0) = some (.inl (7, 40, .inr (.inr (.inr (.inr (va_up fv nv (some a))))))) := by rw [eh_1]; exact fh_up_self _ _ _
  have g_1_0 := (congrFun eh_1 xa).trans (fh_keep hv1 hX rfl)
  have g_1_2 := (congrFun eh_1 a).trans (fh_keep hv1 ha rfl)
  refine lv_aload_n hx hb dX9_addVersion_19 rfl (lv_at hl 0 rfl) ?_
  refine lv_dup hx hb dX9_addVersion_20 rfl ?_
  refine fh_get (C := RX9) (T := TX9) (N := 11) hx hb ht inX9 hown hE.1 hP g_1_0 rfl 1 (by decide) (ht _ kw_76) (fun _ h9 => h9) (v := .int (nI nv)) rfl dX9_addVersion_21 ?_
  refine lv_iconst (v := (nI 1)) hx hb dX9_addVersion_24 (by decide) ?_
  refine lv_iadd hx hb dX9_addVersion_25 ?_
  refine lv_topi (fun z9 ez9 => ?_)
  rw [show z9 = nI (nv + 1) from ez9.trans (nI_add _ _)]
  refine fh_put (C := RX9) (T := TX9) (N := 11) (t := .int) hx hb ht inX9 tyX9 tyX9_ok nmX9 hown hE.1 hP hS g_1_0 (hAx) rfl 1 (by decide) (ht _ kw_76) (fun _ h9 => h9) rfl (by decide +kernel) rfl rfl (Nat.le_of_ble_eq_true rfl) dX9_addVersion_26 (fun H locs hP hz hS => ?_)
  obtain ⟨h_2, eh_2⟩ : ∃ z, z = fh_up h_1 xa (.inr (9, [.ref (ad 0 0), .int (nI (nv + 1)), .ref (ad 1 (nv - 1)), .ref (ad 0 1), .int (nI ns), .int (nI no), .ref (ad 0 2), .ref (ad 0 4), .int (nI nr), .ref (ad 0 5), .ref (ad 0 7)])) := ⟨_, rfl⟩
  have hP : fh_P G vwCl h_2 H := by rw [eh_2]; exact hP
  have f_2 : h_2 xa = some (.inr (9, [.ref (ad 0 0), .int (nI (nv + 1)), .ref (ad 1 (nv - 1)), .ref (ad 0 1), .int (nI ns), .int (nI no), .ref (ad 0 2), .ref (ad 0 4), .int (nI nr), .ref (ad 0 5), .ref (ad 0 7)])) := by rw [eh_2]; exact fh_up_self _ _ _
  have g_2_1 := (congrFun eh_2 a).trans (fh_keep g_1_0 g_1_2 rfl)
  have g_2_2 := (congrFun eh_2 (ad 0 0)).trans (fh_keep g_1_0 f_1 rfl)
  refine lv_aload_n hx hb dX9_addVersion_29 rfl (lv_at hl 0 rfl) ?_
  refine lv_aload_n hx hb dX9_addVersion_30 rfl (lv_at hl 1 rfl) ?_
  refine fh_put (C := RX9) (T := TX9) (N := 11) (t := (.object "ObjectMerge$State")) hx hb ht inX9 tyX9 tyX9_ok nmX9 hown hE.1 hP hS f_2 (hAx) rfl 2 (by decide) (ht _ kw_77) (fun _ h9 => h9) rfl (by decide +kernel) rfl rfl (Nat.le_of_ble_eq_true rfl) dX9_addVersion_31 (fun H locs hP hz hS => ?_)
  obtain ⟨h_3, eh_3⟩ : ∃ z, z = fh_up h_2 xa (.inr (9, [.ref (ad 0 0), .int (nI (nv + 1)), .ref a, .ref (ad 0 1), .int (nI ns), .int (nI no), .ref (ad 0 2), .ref (ad 0 4), .int (nI nr), .ref (ad 0 5), .ref (ad 0 7)])) := ⟨_, rfl⟩
  have hP : fh_P G vwCl h_3 H := by rw [eh_3]; exact hP
  have f_3 : h_3 xa = some (.inr (9, [.ref (ad 0 0), .int (nI (nv + 1)), .ref a, .ref (ad 0 1), .int (nI ns), .int (nI no), .ref (ad 0 2), .ref (ad 0 4), .int (nI nr), .ref (ad 0 5), .ref (ad 0 7)])) := by rw [eh_3]; exact fh_up_self _ _ _
  have g_3_0 := (congrFun eh_3 a).trans (fh_keep f_2 g_2_1 rfl)
  have g_3_1 := (congrFun eh_3 (ad 0 0)).trans (fh_keep f_2 g_2_2 rfl)
  exact fh_vret hx hb hr hlocks (⟨rfl, by rw [eh_3, eh_2, eh_1, fh_upup]⟩) hP hS (Nat.le_of_ble_eq_true rfl) (Nat.le_of_ble_eq_true rfl) dX9_addVersion_34

set_option maxRecDepth 100000 in
set_option maxHeartbeats 4000000 in
theorem c_X_write (l : Launch) (G : fG) (A : Nat → Prop) (h : FH) (sz : Nat) (hA : ∀ q, sz ≤ q → A q) (hAh : fh_A A h) {Kq : Nat} (xa : Nat) (ad : Ad) (no nv ns : Nat) (V : Nat → St) (S : Nat → Ses) (LK : List Ar) (RL : List (Nat × Nat × Int64)) (J : Nat) (C : CL) (M : Nat → Int32) (hR : RepC Kq h xa ad no nv ns V S LK RL J C M) (i o f : Nat) (hi : i < ns) (ho : o < 60) (hf : f < 6) (x : Int64) (r : Nat) (rw0 : Rw) (hrow : pRow h r rw0) (hK9 : Kq < 1000000) : Met l yX9_write wsX9_write { frames := 4, cells := 2, slots := 7, locals := 92 } (va_Pc [.ref xa, .ref (ad (3 + i) 0), .int (nI o), .int (nI f), .long x, .ref r] (fh_Pre G A h sz)) (fh_Q G (fun v u => v = some (.int (bI (opWr LK i f x rw0))) ∧ fh_A A u ∧ kp kC h u ∧ kp kdSo h u ∧ RepC (Kq + 1) u xa ad no nv ns V (if opWr LK i f x rw0 = true then upN S i (sChg (S i) o (some (rwSet rw0 f x))) else S) LK RL J C M) A) 2 7 A := by
  refine fh_Met [.ref xa, .ref (ad (3 + i) 0), .int (nI o), .int (nI f), .long x, .ref r] (by decide) rfl (Nat.le_of_ble_eq_true rfl) ?_
  intro p e s m below meth c hx hb hr hlocks hml hown hnm hts hsz hP hE hS ls hl
  have ht : ∀ w ∈ wB, w.before _ s = true := fun w h9 => hts w (List.mem_cons_of_mem _ h9)
  have hl : lv_has ls 7 [(0, .ref xa), (1, .ref (ad (3 + i) 0)), (2, .int (nI o)), (3, .int (nI f)), (4, .long x), (6, .ref r)] := hl
  have hA0 : ∀ q, s.heap.size ≤ q → A q := fun q hq => hA q (by rw [← hsz]; exact hq)
  obtain ⟨hX, hV, hSs, hL, hRl, hC, hM, hI⟩ := id hR
  obtain ⟨q0, ⟨q1, fn, q2, q2b⟩, q6, nx, fo, fr, q3, q4, q5, q7, q8, q9⟩ := hSs.2 i hi
  obtain ⟨fa, ar, l1, l2, l3, l4⟩ := id hL
  obtain ⟨y, g0, r1, r2, r3⟩ := id hrow
  refine lv_aload hx hb dX9_write_0 (lv_at hl 5 rfl) ?_
  refine lv_iload_n hx hb dX9_write_2 rfl (lv_at hl 3 rfl) ?_
  refine fh_cV (q := (RX5, TX5, 1)) (As := [.int (nI f)]) (rest := []) (b := r) ⟨hx, hb, hml, hown, ht⟩ (c_Row_value l G A h _ r y f g0 r1 r2 hf) (cwV 1 ht (gV kw_346 kw_347 kw_348 kw_10 kw_349) rfl rfl rfl yd_X5_value ⟨(Nat.le_of_ble_eq_true rfl), (Nat.le_of_ble_eq_true rfl)⟩) hP hE hS r1 rfl rfl hl.1 rfl (Nat.le_of_ble_eq_true rfl) dX9_write_3 ⟨(Nat.le_of_ble_eq_true rfl), (Nat.le_of_ble_eq_true rfl)⟩ (fun v u H locs hp hP hz hS => ?_)
  obtain ⟨rfl, eu⟩ := hp
  rw [eu] at hP
  refine W.eq (g2 := F0 m 6 ls [.long (g0 f)]) rfl ?_
  refine lv_lload hx hb dX9_write_6 (lv_at hl 4 rfl) ?_
  refine W.lcmp hx hb dX9_write_8 ?_
  refine lv_if_eq (tgt := 28) hx hb dX9_write_9 (by decide) (fun c1 => ?_) (fun c1 => ?_)
  · have e1 : opWr LK i f x rw0 = false := by simp [opWr, ← r3 f hf, (lg_cmp_eq _ _).mp c1]
    refine lv_iconst (v := (nI 0)) hx hb dX9_write_28 (by decide) ?_
    exact fh_zret hx hb hr hlocks rfl (⟨by rw [e1]; rfl, hAh, kp.rf, kp.rf, by rw [e1]; exact hR.mono (Nat.le_succ _)⟩) hP hS (Nat.le_of_ble_eq_true rfl) (Nat.le_of_ble_eq_true rfl) dX9_write_29
  · have d1 : ¬ rw0 f = x := fun z => c1 ((lg_cmp_eq _ _).mpr ((r3 f hf).trans z))
    refine lv_aload_n hx hb dX9_write_12 rfl (lv_at hl 0 rfl) ?_
    refine fh_get (C := RX9) (T := TX9) (N := 11) hx hb ht inX9 hown hE.1 hP hX rfl 6 (by decide) (ht _ kw_81) (fun _ h9 => h9) (v := .ref (ad 0 2)) rfl dX9_write_13 ?_
    refine lv_aload_n hx hb dX9_write_16 rfl (lv_at hl 1 rfl) ?_
    refine fh_get (C := RX7) (T := TX7) (N := 6) hx hb ht inX7 hown hE.1 hP q0 rfl 0 (by decide) (ht _ kw_149) (fun _ h9 => h9) (v := .int (nI i)) rfl dX9_write_17 ?_
    refine lv_aload hx hb dX9_write_20 (lv_at hl 5 rfl) ?_
    refine fh_cV (q := (RX4, TX4, 1)) (As := [.int (nI i), .ref r]) (rest := []) (b := (ad 0 2)) ⟨hx, hb, hml, hown, ht⟩ (c_Lk_bar l G A h _ (ad 0 2) (ad 0 3) fa ar l1 l2 l3 (nI i) r rw0 hrow) (cwV 2 ht (gV kw_350 kw_351 kw_352 kw_3 kw_353) rfl rfl rfl yd_X4_bar ⟨(Nat.le_of_ble_eq_true rfl), (Nat.le_of_ble_eq_true rfl)⟩) hP hE hS l1 rfl rfl hl.1 rfl (Nat.le_of_ble_eq_true rfl) dX9_write_22 ⟨(Nat.le_of_ble_eq_true rfl), (Nat.le_of_ble_eq_true rfl)⟩ (fun v u H locs hp hP hz hS => ?_)
    rw [lkBar_eq l4] at hp
    obtain ⟨rfl, eu⟩ := hp
    rw [eu] at hP
    refine W.eq (g2 := F0 m 25 ls [.int (bI (barred LK i (rw0 0) (rw0 1)))]) rfl ?_
    refine lv_if_eq (tgt := 30) hx hb dX9_write_25 (by decide) (fun c2 => ?_) (fun c2 => ?_)
    · have e1 : opWr LK i f x rw0 = true := by simp [opWr, bI_eq.mp c2, d1]
      have hbnd := fun (a9 : Nat) (e9 : fe) (q9 : h a9 = some e9) => hP.lt q9
      have hS9 := hS.1
      refine lv_aload_n hx hb dX9_write_30 rfl (lv_at hl 1 rfl) ?_
      refine lv_iload_n hx hb dX9_write_31 rfl (lv_at hl 2 rfl) ?_
      refine lv_aload hx hb dX9_write_32 (lv_at hl 5 rfl) ?_
      refine lv_iload_n hx hb dX9_write_34 rfl (lv_at hl 3 rfl) ?_
      refine lv_lload hx hb dX9_write_35 (lv_at hl 4 rfl) ?_
      refine fh_cV (q := (RX5, TX5, 1)) (As := [.int (nI f), .long x]) (rest := [.int (nI o), .ref (ad (3 + i) 0)]) (b := r) ⟨hx, hb, hml, hown, ht⟩ (c_Row_with l G A h _ (fun q hq => hA0 q (Nat.le_trans hS.1 hq)) r f x rw0 hrow hf) (cwV 2 ht (gV kw_359 kw_360 kw_361 kw_10 kw_362) rfl rfl rfl yd_X5_with ⟨(Nat.le_of_ble_eq_true rfl), (Nat.le_of_ble_eq_true rfl)⟩) hP hE hS r1 rfl rfl hl.1 rfl (Nat.le_of_ble_eq_true rfl) dX9_write_37 ⟨(Nat.le_of_ble_eq_true rfl), (Nat.le_of_ble_eq_true rfl)⟩ (fun v u H locs hp hP hz hS => ?_)
      obtain ⟨r9, hr9, rfl, he9, hr8⟩ := hp
      refine W.eq (g2 := F0 m 40 ls [.ref r9, .int (nI o), .ref (ad (3 + i) 0)]) rfl ?_
      have hAu : fh_A A u := hAh.ext he9 (fun q hq => hA0 q (Nat.le_trans hS9 hq))
      have hR1 : RepC Kq u xa ad no nv ns V S LK RL J C M := hR.kp0 (kp.ext he9 hbnd)
      obtain ⟨hXa, hVa, hSsa, hLa, hRla, hCa, hMa, hIa⟩ := id hR1
      obtain ⟨q0a, ⟨q1a, fna, q2a, q2ba⟩, q6a, nxa, foa, fra, q3a, q4a, q5a, q7a, q8a, q9a⟩ := hSsa.2 i hi
      refine fh_cV (q := (RX7, TX7, 6)) (As := [.int (nI o), .ref r9]) (rest := []) (b := (ad (3 + i) 0)) ⟨hx, hb, hml, hown, ht⟩ (c_Ses_change l G A u _ (ad (3 + i) 0) (ad 1 (S i).1) (ad (3 + i) 1) (ad (3 + i) 3) (ad (3 + i) 6) (ad (3 + i) 2) (ad (3 + i) 4) (ad (3 + i) 5) nxa (S i).2.2.2.1.length (nI i) (bI (S i).2.2.1) fna foa fra q0a q1a q2a q3a q4a q5a (Nat.lt_of_le_of_lt q7a.1 hK9) q8a (hAu _ _ q3a) (hAu _ _ q4a) (hAu _ _ q5a) (hAu _ _ q2a) o ho (some r9) (pRo_cell' (q2ba o ho)) (pRo_cell' (show pRo u (some r9) (some (rwSet rw0 f x)) from hr8))) (cwV 2 ht (gV kw_365 kw_366 kw_367 kw_11 kw_368) rfl rfl rfl yd_X7_change ⟨(Nat.le_of_ble_eq_true rfl), (Nat.le_of_ble_eq_true rfl)⟩) hP hE hS q0a rfl rfl hl.1 rfl (Nat.le_of_ble_eq_true rfl) dX9_write_40 ⟨(Nat.le_of_ble_eq_true rfl), (Nat.le_of_ble_eq_true rfl)⟩ (fun v u2 H locs hp hP hz hS => ?_)
      obtain ⟨rfl, eu2⟩ := hp
      refine W.eq (g2 := F0 m 43 ls []) rfl ?_
      obtain ⟨z1, z2, z3⟩ := ses_chg q0a q1a q2a q2ba q6a q3a q4a q5a q7a q8a q9a ho (show pRo u (some r9) (some (rwSet rw0 f x)) from hr8) eu2
      have hAu2 : fh_A A u2 := by rw [eu2]; exact (((hAu.up (hAu _ _ q4a)).up (hAu _ _ q5a)).up (hAu _ _ q3a)).up (hAu _ _ q2a)
      refine lv_iconst (v := (nI 1)) hx hb dX9_write_43 (by decide) ?_
      exact fh_zret hx hb hr hlocks rfl (⟨by rw [e1]; rfl, hAu2, (kp.ext he9 hbnd).trans (z2.C rfl), (kp.ext he9 hbnd).trans z2, by rw [if_pos e1]; exact (hR1.mono (Nat.le_succ _)).ses hi z2 (z3.oth hIa hi) rfl z1⟩) hP hS (Nat.le_of_ble_eq_true rfl) (Nat.le_of_ble_eq_true rfl) dX9_write_44
    · have e1 : opWr LK i f x rw0 = false := by simp [opWr, bI_nz c2]
      refine lv_iconst (v := (nI 0)) hx hb dX9_write_28 (by decide) ?_
      exact fh_zret hx hb hr hlocks rfl (⟨by rw [e1]; rfl, hAh, kp.rf, kp.rf, by rw [e1]; exact hR.mono (Nat.le_succ _)⟩) hP hS (Nat.le_of_ble_eq_true rfl) (Nat.le_of_ble_eq_true rfl) dX9_write_29
