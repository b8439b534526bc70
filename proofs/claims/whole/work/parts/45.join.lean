set_option maxRecDepth 100000 in
set_option maxHeartbeats 4000000 in
theorem c_X_tryJoin (l : Launch) (G : fG) (A : Nat → Prop) (h : FH) (sz : Nat) (hA : ∀ q, sz ≤ q → A q) (hAh : fh_A A h) {Kq : Nat} (xa : Nat) (ad : Ad) (no nv ns : Nat) (V : Nat → St) (S : Nat → Ses) (LK : List Ar) (RL : List (Nat × Nat × Int64)) (J : Nat) (C : CL) (M : Nat → Int32) (hR : RepC Kq h xa ad no nv ns V S LK RL J C M) (i : Nat) (hi : i < ns) (hnv : nv < 40) (hnv0 : 0 < nv) (hbs : ∀ i, i < ns → (S i).1 < nv) : Met l yX9_tryJoin wsX9_tryJoin { frames := 5, cells := 722, slots := 2581, locals := 140 } (va_Pc [.ref xa, .ref (ad (3 + i) 0)] (fh_Pre G A h sz)) (fh_Q G (fun v u => ∃ ad2 : Ad, v = some (.int (nI (unsN (S i).2.2.2.2 (gathL (V (S i).1) (S i).2.1 (V (nv - 1)) 60)))) ∧ fh_A A u ∧ kp kC h u ∧ ((unsN (S i).2.2.2.2 (gathL (V (S i).1) (S i).2.1 (V (nv - 1)) 60) ≠ 0 ∧ RepC Kq u xa ad2 no nv ns V S LK RL i (gathL (V (S i).1) (S i).2.1 (V (nv - 1)) 60) M) ∨ (unsN (S i).2.2.2.2 (gathL (V (S i).1) (S i).2.1 (V (nv - 1)) 60) = 0 ∧ RepC Kq u xa ad2 no (nv + 1) ns (upN V nv (mrg (V (S i).1) (S i) (V (nv - 1)))) (upN S i (sClose (S i))) (LK.filter (fun a => decide (a.1 ≠ nI i))) RL i (gathL (V (S i).1) (S i).2.1 (V (nv - 1)) 60) (mkM (mrg (V (S i).1) (S i) (V (nv - 1))) (V (nv - 1)) M)))) A) 722 2581 A := by
  refine fh_Met [.ref xa, .ref (ad (3 + i) 0)] (by decide) rfl (Nat.le_of_ble_eq_true rfl) ?_
  intro p e s m below meth c hx hb hr hlocks hml hown hnm hts hsz hP hE hS ls hl
  have ht : ∀ w ∈ wB, w.before _ s = true := fun w h9 => hts w (List.mem_cons_of_mem _ h9)
  have hl : lv_has ls 3 [(0, .ref xa), (1, .ref (ad (3 + i) 0))] := hl
  have hA0 : ∀ q, s.heap.size ≤ q → A q := fun q hq => hA q (by rw [← hsz]; exact hq)
  obtain ⟨hX, hV, hSs, hL, hRl, hC, hM, hI⟩ := id hR
  obtain ⟨q0, ⟨q1, fn, q2, q2b⟩, q6, nx, fo, fr, q3, q4, q5, q7, q8, q9⟩ := hSs.2 i hi
  obtain ⟨⟨fv, v1, v2⟩, v3⟩ := id hV
  obtain ⟨ow, fc, c1, c2, c3, c4⟩ := id hC
  have hBs : pSt h (ad 1 (S i).1) (ad 2 (S i).1) (V (S i).1) := v3 _ (hbs i hi)
  have hNs : pSt h (ad (3 + i) 1) (ad (3 + i) 2) (S i).2.1 := ⟨q1, fn, q2, q2b⟩
  have hTs : pSt h (ad 1 (nv - 1)) (ad 2 (nv - 1)) (V (nv - 1)) := v3 _ (by omega)
  refine lv_aload_n hx hb dX9_tryJoin_0 rfl (lv_at hl 0 rfl) ?_
  refine fh_get (C := RX9) (T := TX9) (N := 11) hx hb ht inX9 hown hE.1 hP hX rfl 9 (by decide) (ht _ kw_84) (fun _ h9 => h9) (v := .ref (ad 0 5)) rfl dX9_tryJoin_1 ?_
  refine lv_aload_n hx hb dX9_tryJoin_4 rfl (lv_at hl 1 rfl) ?_
  refine lv_aload_n hx hb dX9_tryJoin_5 rfl (lv_at hl 0 rfl) ?_
  refine fh_get (C := RX9) (T := TX9) (N := 11) hx hb ht inX9 hown hE.1 hP hX rfl 2 (by decide) (ht _ kw_77) (fun _ h9 => h9) (v := .ref (ad 1 (nv - 1))) rfl dX9_tryJoin_6 ?_
  refine fh_cV (q := (RX2, TX2, 3)) (As := [.ref (ad (3 + i) 0), .ref (ad 1 (nv - 1))]) (rest := []) (b := (ad 0 5)) ⟨hx, hb, hml, hown, ht⟩ (c_Con_gather l G A h _ (ad (3 + i) 0) (ad 1 (S i).1) (ad (3 + i) 1) (ad (3 + i) 3) (ad (3 + i) 6) (ad 2 (S i).1) (ad (3 + i) 2) (nI i) (bI (S i).2.2.1) (V (S i).1) (S i).2.1 q0 hBs hNs (ad 1 (nv - 1)) (ad 2 (nv - 1)) (V (nv - 1)) hTs (ad 0 5) (ad 0 6) ow (nI C.length) fc c1 c2 (hAh _ _ c1) (hAh _ _ c2)) (cwV 2 ht (gV kw_410 kw_411 kw_412 kw_4 kw_413) rfl rfl rfl yd_X2_gather ⟨(Nat.le_of_ble_eq_true rfl), (Nat.le_of_ble_eq_true rfl)⟩) hP hE hS c1 rfl rfl hl.1 rfl (Nat.le_of_ble_eq_true rfl) dX9_tryJoin_9 ⟨(Nat.le_of_ble_eq_true rfl), (Nat.le_of_ble_eq_true rfl)⟩ (fun v u H locs hp hP hz hS => ?_)
  obtain ⟨fc2, rfl, eu, hL2⟩ := hp
  refine W.eq (g2 := F0 m 12 ls []) rfl ?_
  have k1 : kp [4, 11] h u := by rw [eu]; exact (kp.rf.up c2 rfl).up c1 rfl
  have c11 : u (ad 0 5) = some (oCon (some (ad (3 + i) 0)) (ad 0 6) (nI (gathL (V (S i).1) (S i).2.1 (V (nv - 1)) 60).length)) := by rw [eu]; exact fh_up_self _ _ _
  have c21 : u (ad 0 6) = some (aI 5 360 fc2) := by rw [eu, fh_up_ne _ _ (fh_ne c2 c1 rfl)]; exact fh_up_self _ _ _
  have hR1 : RepC Kq u xa ad no nv ns V S LK RL i (gathL (V (S i).1) (S i).2.1 (V (nv - 1)) 60) M := hR.con k1 ⟨_, fc2, c11, c21, hL2, fun _ => rfl⟩
  have hA1 : fh_A A u := by rw [eu]; exact (hAh.up (hAh _ _ c2)).up (hAh _ _ c1)
  have hX1 := k1 _ _ hX rfl
  refine lv_aload_n hx hb dX9_tryJoin_12 rfl (lv_at hl 0 rfl) ?_
  refine fh_get (C := RX9) (T := TX9) (N := 11) hx hb ht inX9 hown hE.1 hP hX1 rfl 9 (by decide) (ht _ kw_84) (fun _ h9 => h9) (v := .ref (ad 0 5)) rfl dX9_tryJoin_13 ?_
  have hlen := gathL_len (V (S i).1) (S i).2.1 (V (nv - 1)) 60
  refine fh_cV (q := (RX2, TX2, 3)) (As := []) (rest := []) (b := (ad 0 5)) ⟨hx, hb, hml, hown, ht⟩ (c_Con_unsettled l G A u _ (ad (3 + i) 0) (ad 1 (S i).1) (ad (3 + i) 1) (ad (3 + i) 3) (ad (3 + i) 6) (nI i) (bI (S i).2.2.1) (S i).2.2.2.2 (k1 _ _ q0 rfl) (k1 _ _ q6 rfl) (ad 0 5) (ad 0 6) (gathL (V (S i).1) (S i).2.1 (V (nv - 1)) 60) fc2 c11 c21 hL2 (by omega) (fun q hq => gathL_mem hq)) (cwV 0 ht (gV kw_432 kw_433 kw_434 kw_4 kw_435) rfl rfl rfl yd_X2_unsettled ⟨(Nat.le_of_ble_eq_true rfl), (Nat.le_of_ble_eq_true rfl)⟩) hP hE hS c11 rfl rfl hl.1 rfl (Nat.le_of_ble_eq_true rfl) dX9_tryJoin_16 ⟨(Nat.le_of_ble_eq_true rfl), (Nat.le_of_ble_eq_true rfl)⟩ (fun v u9 H locs hp hP hz hS => ?_)
  obtain ⟨rfl, eu9⟩ := hp
  rw [eu9] at hP
  refine W.eq (g2 := F0 m 19 ls [.int (nI (unsN (S i).2.2.2.2 (gathL (V (S i).1) (S i).2.1 (V (nv - 1)) 60)))]) rfl ?_
  refine lv_istore_n (lv' := [(2, .int (nI (unsN (S i).2.2.2.2 (gathL (V (S i).1) (S i).2.1 (V (nv - 1)) 60)))), (0, .ref xa), (1, .ref (ad (3 + i) 0))]) hx hb dX9_tryJoin_19 rfl hl (by decide) rfl (fun ls hl => ?_)
  refine lv_iload_n hx hb dX9_tryJoin_20 rfl (lv_at hl 0 rfl) ?_
  have hun : unsN (S i).2.2.2.2 (gathL (V (S i).1) (S i).2.1 (V (nv - 1)) 60) ≤ (gathL (V (S i).1) (S i).2.1 (V (nv - 1)) 60).length := List.length_filter_le _ _
  refine lv_if_ne (tgt := 29) hx hb dX9_tryJoin_21 (by decide) (fun d1 => ?_) (fun d1 => ?_)
  · have d2 : unsN (S i).2.2.2.2 (gathL (V (S i).1) (S i).2.1 (V (nv - 1)) 60) ≠ 0 := fun z => d1 (by rw [z]; rfl)
    refine lv_iload_n hx hb dX9_tryJoin_29 rfl (lv_at hl 0 rfl) ?_
    exact fh_iret hx hb hr hlocks (⟨ad, rfl, hA1, k1.C rfl, Or.inl ⟨d2, hR1⟩⟩) hP hS (Nat.le_of_ble_eq_true rfl) (Nat.le_of_ble_eq_true rfl) dX9_tryJoin_30
  · have d2 : unsN (S i).2.2.2.2 (gathL (V (S i).1) (S i).2.1 (V (nv - 1)) 60) = 0 := by
      rcases Nat.eq_zero_or_pos (unsN (S i).2.2.2.2 (gathL (V (S i).1) (S i).2.1 (V (nv - 1)) 60)) with z | z
      · exact z
      · exact absurd d1 (nI_ne0 z (by omega))
    refine lv_aload_n hx hb dX9_tryJoin_24 rfl (lv_at hl 1 rfl) ?_
    refine lv_aload_n hx hb dX9_tryJoin_25 rfl (lv_at hl 2 rfl) ?_
    have hS9 := hS.1
    refine fh_cV (q := (RX9, TX9, 11)) (As := [.ref (ad (3 + i) 0)]) (rest := []) (b := xa) ⟨hx, hb, hml, hown, ht⟩ (c_X_takeIn l G A u _ (fun q hq => hA0 q (Nat.le_trans hS.1 hq)) hA1 xa ad no nv ns V S LK RL i (gathL (V (S i).1) (S i).2.1 (V (nv - 1)) 60) M hR1 i hi hnv hnv0 hbs) (cwV 1 ht (gV kw_452 kw_454 kp_10 kw_1 kw_455) rfl rfl rfl yd_X9_takeIn ⟨(Nat.le_of_ble_eq_true rfl), (Nat.le_of_ble_eq_true rfl)⟩) hP hE hS hX1 rfl rfl hl.1 rfl (Nat.le_of_ble_eq_true rfl) dX9_tryJoin_26 ⟨(Nat.le_of_ble_eq_true rfl), (Nat.le_of_ble_eq_true rfl)⟩ (fun v u2 H locs hp hP hz hS => ?_)
    obtain ⟨ad2, rfl, hA2, k2, hR2⟩ := hp
    refine W.eq (g2 := F0 m 29 ls []) rfl ?_
    refine lv_iload_n hx hb dX9_tryJoin_29 rfl (lv_at hl 0 rfl) ?_
    exact fh_iret hx hb hr hlocks (⟨ad2, rfl, hA2, (k1.C rfl).trans k2, Or.inr ⟨d2, hR2⟩⟩) hP hS (Nat.le_of_ble_eq_true rfl) (Nat.le_of_ble_eq_true rfl) dX9_tryJoin_30

set_option maxRecDepth 100000 in
set_option maxHeartbeats 4000000 in
theorem c_X_playTurn (l : Launch) (G : fG) (A : Nat → Prop) (h : FH) (sz : Nat) (hA : ∀ q, sz ≤ q → A q) (hAh : fh_A A h) {Kq : Nat} (xa : Nat) (ad : Ad) (no nv ns : Nat) (V : Nat → St) (S : Nat → Ses) (LK : List Ar) (RL : List (Nat × Nat × Int64)) (J : Nat) (C : CL) (M : Nat → Int32) (hR : RepC Kq h xa ad no nv ns V S LK RL J C M) (i : Nat) (hi : i < ns) (hno : no ≤ 60) (d : Nat) (x : Int64) (hd : h d = some (oDraw x)) (hK9 : Kq < 1000000) : Met l yX9_playTurn wsX9_playTurn { frames := 5, cells := 2, slots := 7, locals := 120 } (va_Pc [.ref xa, .ref (ad (3 + i) 0), .ref d] (fh_Pre G A h sz)) (fh_Q G (fun v u => v = some (.int (bI (ptStep no LK i (S i) x).1)) ∧ fh_A A u ∧ kp kC h u ∧ u d = some (oDraw (ptStep no LK i (S i) x).2.2) ∧ RepC (Kq + 1) u xa ad no nv ns V (upN S i (ptStep no LK i (S i) x).2.1) LK RL J C M) A) 2 7 A := by
  refine fh_Met [.ref xa, .ref (ad (3 + i) 0), .ref d] (by decide) rfl (Nat.le_of_ble_eq_true rfl) ?_
  intro p e s m below meth c hx hb hr hlocks hml hown hnm hts hsz hP hE hS ls hl
  have ht : ∀ w ∈ wB, w.before _ s = true := fun w h9 => hts w (List.mem_cons_of_mem _ h9)
  have hl : lv_has ls 8 [(0, .ref xa), (1, .ref (ad (3 + i) 0)), (2, .ref d)] := hl
  have hA0 : ∀ q, s.heap.size ≤ q → A q := fun q hq => hA q (by rw [← hsz]; exact hq)
  obtain ⟨hX, hV, hSs, hL, hRl, hC, hM, hI⟩ := id hR
  obtain ⟨q0, ⟨q1, fn, q2, q2b⟩, q6, nx, fo, fr, q3, q4, q5, q7, q8, q9⟩ := hSs.2 i hi
  refine lv_aload_n hx hb dX9_playTurn_0 rfl (lv_at hl 0 rfl) ?_
  refine fh_get (C := RX9) (T := TX9) (N := 11) hx hb ht inX9 hown hE.1 hP hX rfl 5 (by decide) (ht _ kw_80) (fun _ h9 => h9) (v := .int (nI no)) rfl dX9_playTurn_1 ?_
  refine lv_if_ne (tgt := 9) hx hb dX9_playTurn_4 (by decide) (fun d1 => ?_) (fun d1 => ?_)
  · have d2 : no ≠ 0 := fun z => d1 (by rw [z]; rfl)
    have d3 : 0 < no := Nat.pos_of_ne_zero d2
    have hAd := hAh _ _ hd
    refine lv_aload_n hx hb dX9_playTurn_9 rfl (lv_at hl 2 rfl) ?_
    refine lv_aload_n hx hb dX9_playTurn_10 rfl (lv_at hl 0 rfl) ?_
    refine fh_get (C := RX9) (T := TX9) (N := 11) hx hb ht inX9 hown hE.1 hP hX rfl 5 (by decide) (ht _ kw_80) (fun _ h9 => h9) (v := .int (nI no)) rfl dX9_playTurn_11 ?_
    refine fh_cV (q := (RX3, TX3, 1)) (As := [.int (nI no)]) (rest := []) (b := d) ⟨hx, hb, hml, hown, ht⟩ (c_Draw_below l G A h _ d no x (hAh _ _ hd) hd d3 (by omega)) (cwV 1 ht (gV kw_663 kw_664 kw_665 kw_18 kw_666) rfl rfl rfl yd_X3_below ⟨(Nat.le_of_ble_eq_true rfl), (Nat.le_of_ble_eq_true rfl)⟩) hP hE hS hd rfl rfl hl.1 rfl (Nat.le_of_ble_eq_true rfl) dX9_playTurn_14 ⟨(Nat.le_of_ble_eq_true rfl), (Nat.le_of_ble_eq_true rfl)⟩ (fun v u1 H locs hp hP hz hS => ?_)
    rw [drMod_eq d3 (by omega)] at hp
    obtain ⟨rfl, eu1⟩ := hp
    refine W.eq (g2 := F0 m 17 ls [.int (nI (drI (drNext x) no))]) rfl ?_
    have ku1 : kp [6] h u1 := by rw [eu1]; exact kp.rf.up hd rfl
    have fu1 : u1 d = some (oDraw (drNext x)) := by rw [eu1]; exact fh_up_self _ _ _
    have ho : (drI (drNext x) no) < 60 := Nat.lt_of_lt_of_le (drI_lt d3) hno
    refine lv_istore_n (lv' := [(3, .int (nI (drI (drNext x) no))), (0, .ref xa), (1, .ref (ad (3 + i) 0)), (2, .ref d)]) hx hb dX9_playTurn_17 rfl hl (by decide) rfl (fun ls hl => ?_)
    refine lv_aload_n hx hb dX9_playTurn_18 rfl (lv_at hl 2 rfl) ?_
    refine fh_get (C := RX7) (T := TX7) (N := 6) hx hb ht inX7 hown hE.1 hP (ku1 _ _ q0 rfl) rfl 2 (by decide) (ht _ kw_152) (fun _ h9 => h9) (v := .ref (ad (3 + i) 1)) rfl dX9_playTurn_19 ?_
    refine lv_iload_n hx hb dX9_playTurn_22 rfl (lv_at hl 0 rfl) ?_
    refine fh_cV (q := (RX8, TX8, 1)) (As := [.int (nI (drI (drNext x) no))]) (rest := []) (b := (ad (3 + i) 1)) ⟨hx, hb, hml, hown, ht⟩ (c_St_row l G A u1 _ (ad (3 + i) 1) (ad (3 + i) 2) (drI (drNext x) no) fn (ku1 _ _ q1 rfl) (ku1 _ _ q2 rfl) ho) (cwV 1 ht (gV kw_337 kw_338 kw_339 kw_2 kw_340) rfl rfl rfl yd_X8_row ⟨(Nat.le_of_ble_eq_true rfl), (Nat.le_of_ble_eq_true rfl)⟩) hP hE hS (ku1 _ _ q1 rfl) rfl rfl hl.1 rfl (Nat.le_of_ble_eq_true rfl) dX9_playTurn_23 ⟨(Nat.le_of_ble_eq_true rfl), (Nat.le_of_ble_eq_true rfl)⟩ (fun v u9 H locs hp hP hz hS => ?_)
    obtain ⟨rfl, eu9⟩ := hp
    rw [eu9] at hP
    refine W.eq (g2 := F0 m 26 ls [va_rf (fn (drI (drNext x) no))]) rfl ?_
    refine fh_astore (lv' := [(4, va_rf (fn (drI (drNext x) no))), (3, .int (nI (drI (drNext x) no))), (0, .ref xa), (1, .ref (ad (3 + i) 0)), (2, .ref d)]) hx hb dX9_playTurn_26 hl (by decide) rfl (fun ls hl => ?_)
    refine fh_aload hx hb dX9_playTurn_28 (lv_at hl 0 rfl) ?_
    have hA1 : fh_A A u1 := by rw [eu1]; exact hAh.up hAd
    have hR1 : RepC Kq u1 xa ad no nv ns V S LK RL J C M := hR.kpR ku1 rfl
    refine fh_ifnonnull (tgt := 35) hx hb dX9_playTurn_30 (by decide) (fun eo => ?_) (fun r eo => ?_)
    · have e4 := pRo_none (eo ▸ q2b (drI (drNext x) no) ho)
      have ep : ptStep no LK i (S i) x = (false, S i, drNext x) := by unfold ptStep; rw [if_neg d2, e4]
      refine lv_iconst (v := (nI 0)) hx hb dX9_playTurn_33 (by decide) ?_
      exact fh_zret hx hb hr hlocks rfl (⟨by rw [ep]; rfl, hA1, ku1.C rfl, by rw [ep]; exact fu1, by rw [ep]; dsimp only; rw [upN_same]; exact hR1.mono (Nat.le_succ _)⟩) hP hS (Nat.le_of_ble_eq_true rfl) (Nat.le_of_ble_eq_true rfl) dX9_playTurn_34
    · obtain ⟨rw0, e4, hrow⟩ := pRo_some (eo ▸ q2b (drI (drNext x) no) ho)
      have hl : lv_has ls 8 [(4, .ref r), (3, .int (nI (drI (drNext x) no))), (0, .ref xa), (1, .ref (ad (3 + i) 0)), (2, .ref d)] := by rw [eo] at hl; exact hl
      refine lv_aload_n hx hb dX9_playTurn_35 rfl (lv_at hl 4 rfl) ?_
      refine lv_bipush (v := (nI 6)) hx hb dX9_playTurn_36 (by decide) ?_
      refine fh_cV (q := (RX3, TX3, 1)) (As := [.int (nI 6)]) (rest := []) (b := d) ⟨hx, hb, hml, hown, ht⟩ (c_Draw_below l G A u1 _ d 6 (drNext x) (hAh _ _ hd) fu1 (by decide) (by decide)) (cwV 1 ht (gV kw_663 kw_664 kw_665 kw_18 kw_666) rfl rfl rfl yd_X3_below ⟨(Nat.le_of_ble_eq_true rfl), (Nat.le_of_ble_eq_true rfl)⟩) hP hE hS fu1 rfl rfl hl.1 rfl (Nat.le_of_ble_eq_true rfl) dX9_playTurn_38 ⟨(Nat.le_of_ble_eq_true rfl), (Nat.le_of_ble_eq_true rfl)⟩ (fun v u2 H locs hp hP hz hS => ?_)
      rw [drMod_eq (by decide) (by decide)] at hp
      obtain ⟨rfl, eu2⟩ := hp
      refine W.eq (g2 := F0 m 41 ls [.int (nI (drI (drNext (drNext x)) 6))]) rfl ?_
      have ku2 : kp [6] u1 u2 := by rw [eu2]; exact kp.rf.up fu1 rfl
      have fu2 : u2 d = some (oDraw (drNext (drNext x))) := by rw [eu2]; exact fh_up_self _ _ _
      refine lv_istore (lv' := [(5, .int (nI (drI (drNext (drNext x)) 6))), (4, .ref r), (3, .int (nI (drI (drNext x) no))), (0, .ref xa), (1, .ref (ad (3 + i) 0)), (2, .ref d)]) hx hb dX9_playTurn_41 hl (by decide) rfl (fun ls hl => ?_)
      refine lv_aload_n hx hb dX9_playTurn_43 rfl (lv_at hl 5 rfl) ?_
      refine lv_bipush (v := (nI 100)) hx hb dX9_playTurn_44 (by decide) ?_
      refine fh_cV (q := (RX3, TX3, 1)) (As := [.int (nI 100)]) (rest := []) (b := d) ⟨hx, hb, hml, hown, ht⟩ (c_Draw_below l G A u2 _ d 100 (drNext (drNext x)) (hAh _ _ hd) fu2 (by decide) (by decide)) (cwV 1 ht (gV kw_663 kw_664 kw_665 kw_18 kw_666) rfl rfl rfl yd_X3_below ⟨(Nat.le_of_ble_eq_true rfl), (Nat.le_of_ble_eq_true rfl)⟩) hP hE hS fu2 rfl rfl hl.1 rfl (Nat.le_of_ble_eq_true rfl) dX9_playTurn_46 ⟨(Nat.le_of_ble_eq_true rfl), (Nat.le_of_ble_eq_true rfl)⟩ (fun v u3 H locs hp hP hz hS => ?_)
      rw [drMod_eq (by decide) (by decide)] at hp
      obtain ⟨rfl, eu3⟩ := hp
      refine W.eq (g2 := F0 m 49 ls [.int (nI (drI (drNext (drNext (drNext x))) 100))]) rfl ?_
      have ku3 : kp [6] u2 u3 := by rw [eu3]; exact kp.rf.up fu2 rfl
      have fu3 : u3 d = some (oDraw (drNext (drNext (drNext x)))) := by rw [eu3]; exact fh_up_self _ _ _
      refine lv_i2l (v := (nI (drI (drNext (drNext (drNext x))) 100) : Int32).toInt64) hx hb dX9_playTurn_49 rfl ?_
      refine lv_topl (fun z9 ez9 => ?_)
      rw [show z9 = lN (drI (drNext (drNext (drNext x))) 100) from ez9.trans (nI_l (Nat.lt_trans (drI_lt (by decide)) (by decide)))]
      have hA3 : fh_A A u3 := by rw [eu3, eu2]; exact (hA1.up hAd).up hAd
      have hR3 : RepC Kq u3 xa ad no nv ns V S LK RL J C M := (hR1.kpR ku2 rfl).kpR ku3 rfl
      have hrow3 : pRow u3 r rw0 := pRow_kp ku3 rfl (pRow_kp ku2 rfl (pRow_kp ku1 rfl hrow))
      refine lv_lstore (lv' := [(6, .long (lN (drI (drNext (drNext (drNext x))) 100))), (5, .int (nI (drI (drNext (drNext x)) 6))), (4, .ref r), (3, .int (nI (drI (drNext x) no))), (0, .ref xa), (1, .ref (ad (3 + i) 0)), (2, .ref d)]) hx hb dX9_playTurn_50 hl (by decide) rfl (fun ls hl => ?_)
      refine lv_aload_n hx hb dX9_playTurn_52 rfl (lv_at hl 4 rfl) ?_
      refine lv_aload_n hx hb dX9_playTurn_53 rfl (lv_at hl 5 rfl) ?_
      refine lv_iload_n hx hb dX9_playTurn_54 rfl (lv_at hl 3 rfl) ?_
      refine lv_iload hx hb dX9_playTurn_55 (lv_at hl 1 rfl) ?_
      refine lv_lload hx hb dX9_playTurn_57 (lv_at hl 0 rfl) ?_
      refine lv_aload hx hb dX9_playTurn_59 (lv_at hl 2 rfl) ?_
      have hS9 := hS.1
      refine fh_cV (q := (RX9, TX9, 11)) (As := [.ref (ad (3 + i) 0), .int (nI (drI (drNext x) no)), .int (nI (drI (drNext (drNext x)) 6)), .long (lN (drI (drNext (drNext (drNext x))) 100)), .ref r]) (rest := []) (b := xa) ⟨hx, hb, hml, hown, ht⟩ (c_X_write l G A u3 _ (fun q hq => hA0 q (Nat.le_trans hS.1 hq)) hA3 xa ad no nv ns V S LK RL J C M hR3 i (drI (drNext x) no) (drI (drNext (drNext x)) 6) hi ho (drI_lt (by decide)) (lN (drI (drNext (drNext (drNext x))) 100)) r rw0 hrow3 hK9) (cwV 5 ht (gV kw_342 kw_344 kp_6 kw_1 kw_345) rfl rfl rfl yd_X9_write ⟨(Nat.le_of_ble_eq_true rfl), (Nat.le_of_ble_eq_true rfl)⟩) hP hE hS (ku3 _ _ (ku2 _ _ (ku1 _ _ hX rfl) rfl) rfl) rfl rfl hl.1 rfl (Nat.le_of_ble_eq_true rfl) dX9_playTurn_61 ⟨(Nat.le_of_ble_eq_true rfl), (Nat.le_of_ble_eq_true rfl)⟩ (fun v u4 H locs hp hP hz hS => ?_)
      obtain ⟨rfl, hA4, k4, k5, hR4⟩ := hp
      refine W.eq (g2 := F0 m 64 ls [.int (bI (opWr LK i (drI (drNext (drNext x)) 6) (lN (drI (drNext (drNext (drNext x))) 100)) rw0))]) rfl ?_
      have ep : ptStep no LK i (S i) x = (opWr LK i (drI (drNext (drNext x)) 6) (lN (drI (drNext (drNext (drNext x))) 100)) rw0, if opWr LK i (drI (drNext (drNext x)) 6) (lN (drI (drNext (drNext (drNext x))) 100)) rw0 = true then sChg (S i) (drI (drNext x) no) (some (rwSet rw0 (drI (drNext (drNext x)) 6) (lN (drI (drNext (drNext (drNext x))) 100)))) else S i, drNext (drNext (drNext x))) := by unfold ptStep; rw [if_neg d2, e4]
      exact fh_zret hx hb hr hlocks (bI_n _) (⟨by rw [ep], hA4, (((ku1.C rfl).trans (ku2.C rfl)).trans (ku3.C rfl)).trans k4, by rw [ep]; exact k5 _ _ fu3 rfl, by rw [ep]; rw [up_if] at hR4; exact hR4⟩) hP hS (Nat.le_of_ble_eq_true rfl) (Nat.le_of_ble_eq_true rfl) dX9_playTurn_64
  · have d2 : no = 0 := by
      rcases Nat.eq_zero_or_pos no with z | z
      · exact z
      · exact absurd d1 (nI_ne0 z (by omega))
    have ep : ptStep no LK i (S i) x = (false, S i, x) := by unfold ptStep; rw [if_pos d2]
    refine lv_iconst (v := (nI 0)) hx hb dX9_playTurn_7 (by decide) ?_
    exact fh_zret hx hb hr hlocks rfl (⟨by rw [ep]; rfl, hAh, kp.rf, by rw [ep]; exact hd, by rw [ep]; dsimp only; rw [upN_same]; exact hR.mono (Nat.le_succ _)⟩) hP hS (Nat.le_of_ble_eq_true rfl) (Nat.le_of_ble_eq_true rfl) dX9_playTurn_8
