set_option maxRecDepth 100000 in
set_option maxHeartbeats 4000000 in
theorem lc_conflict {p : Program} {l : Launch} {e : Env} {s : State} {m : MethodId} {below : List Frame} {meth : Method} {c : Code} {b L : Nat} {xs : Nat → Int32} {G : fG} {A : Nat → Prop} (hst : l.stackTraces = false) (hA : ∀ q, s.heap.size ≤ q → A q) (hx : p.tables.exec = Jvm.exec) (hb : c.code = code) (hml : c.maxLocals = 8) (hown : s.vm.findClass "ObjectMergeLaw" = some m.cls) (ht : ∀ w ∈ wB, w.before #[Value.ref b] s = true) (hE : fh_Env G A s s.heap) (hXs : va_X b L xs s s.heap) (hbl : b < s.heap.size) (hbA : ¬ A b) (hL : L ≤ 5120) {xa ma oa : Nat} {bb : Nat → Nat} (i : Nat) (hi : i + 10 ≤ L) {H : Heap} {locs : List Loc} {ls : Array Slot} {cells slots : Nat} (hcs : cells + 940 ≤ 601024) (hss : slots + 3900 ≤ 7293034) {Kq : Nat} (hK8 : Kq < 900000) {h : FH} (hs : LawSt Kq A h xa ma oa bb) (hP : fh_P G vwCl h H) (hS : va_S A s.heap H locs) (hl : lv_has ls 8 [(4, .int (nI i)), (3, .ref oa), (2, .ref ma), (1, .ref xa), (0, .ref b)]) {Q : State → Prop} (k : ∀ (u : FH) (H : Heap) (locs : List Loc) (ls : Array Slot), LawSt (Kq + 100) A u xa ma oa bb → fh_P G vwCl u H → va_S A s.heap H locs → lv_has ls 8 [(4, .int (nI i)), (3, .ref oa), (2, .ref ma), (1, .ref xa), (0, .ref b)] → W p l e room_1 s m #[Value.ref b] below meth c H locs (cells + 940) (slots + 3900) Q (F0 m 1551 ls [])) : W p l e room_1 s m #[Value.ref b] below meth c H locs cells slots Q (F0 m 527 ls []) := by
  obtain ⟨ad, th, no, nv, ns, V, S, LK, RL, J, C, M, f0, hAh, hR, hRM, hI, ho⟩ := hs
  have hX := hR.1
  have hA9 : ∀ q, H.size ≤ q → A q := fun q hq => hA q (Nat.le_trans hS.1 hq)
  refine lv_aload_n hx hb dL_law_527 rfl (lv_at hl 3 rfl) ?_
  refine lv_aload_n hx hb dL_law_528 rfl (lv_at hl 4 rfl) ?_
  refine lv_iload hx hb dL_law_529 (lv_at hl 0 rfl) ?_
  refine lv_iconst (v := (nI 1)) hx hb dL_law_531 (by decide) ?_
  refine lv_iadd hx hb dL_law_532 ?_
  refine lv_topi (fun z9 ez9 => ?_)
  rw [show z9 = nI (i + 1) from ez9.trans (nI_add _ _)]
  refine lw_sld (k := (i + 1)) hx hb hXs hbl hbA hS (by omega) hL dL_law_533 ?_
  refine lv_aload_n hx hb dL_law_534 rfl (lv_at hl 4 rfl) ?_
  refine lv_iload hx hb dL_law_535 (lv_at hl 0 rfl) ?_
  refine lv_iconst (v := (nI 2)) hx hb dL_law_537 (by decide) ?_
  refine lv_iadd hx hb dL_law_538 ?_
  refine lv_topi (fun z9 ez9 => ?_)
  rw [show z9 = nI (i + 2) from ez9.trans (nI_add _ _)]
  refine lw_sld (k := (i + 2)) hx hb hXs hbl hbA hS (by omega) hL dL_law_539 ?_
  refine lv_aload_n hx hb dL_law_540 rfl (lv_at hl 1 rfl) ?_
  refine fh_cSW (As := [.ref xa, .int (xs (i + 1)), .int (xs (i + 2)), .ref oa]) (rest := []) ⟨hx, hb, hml, hown, ht⟩ (w_conflict l G A h _ hst hA9 hAh xa ad no nv ns V S LK RL J C M hR hI.bd hK8 (xs (i + 1)) (xs (i + 2)) oa f0 ho) (vx_cwSW 4 ht (gS kw_474 kw_475 kw_0 kw_476) rfl rfl rfl yd_L_conflict.2 ⟨(Nat.le_of_ble_eq_true rfl), (Nat.le_of_ble_eq_true rfl)⟩) hP hE hS rfl hl.1 rfl (Nat.le_of_ble_eq_true rfl) dL_law_541 ⟨(by show _ ≤ 601024; omega), (by show _ ≤ 7293034; omega)⟩ (fun v u H locs hp hP hz hS => ?_)
  obtain ⟨rfl, hA1, hk1, ⟨ad2, hR1⟩, f2, ho2, hf2⟩ := hp
  have hRM1 := hRM.kp2 hk1 rfl hA1
  refine W.eq (g2 := F0 m 544 ls [.int (nI (oConf S J C (xs (i + 1)) (xs (i + 2))).1)]) rfl ?_
  obtain ⟨fK, fH, fF, fB, fO, fW, fV, fN, cO, cF, cH, cV, fS, fC, lO, lA, rA, rB, rD, fM, hM1, hX1⟩ := id hRM1
  refine lv_istore (lv' := [(5, .int (nI (oConf S J C (xs (i + 1)) (xs (i + 2))).1)), (4, .int (nI i)), (3, .ref oa), (2, .ref ma), (1, .ref xa), (0, .ref b)]) hx hb dL_law_544 hl (by decide) rfl (fun ls hl => ?_)
  refine lv_aload_n hx hb dL_law_546 rfl (lv_at hl 3 rfl) ?_
  refine lv_aload_n hx hb dL_law_547 rfl (lv_at hl 5 rfl) ?_
  refine lv_iload hx hb dL_law_548 (lv_at hl 1 rfl) ?_
  refine lv_iconst (v := (nI 1)) hx hb dL_law_550 (by decide) ?_
  refine lv_iadd hx hb dL_law_551 ?_
  refine lv_topi (fun z9 ez9 => ?_)
  rw [show z9 = nI (i + 1) from ez9.trans (nI_add _ _)]
  refine lw_sld (k := (i + 1)) hx hb hXs hbl hbA hS (by omega) hL dL_law_552 ?_
  refine lv_aload_n hx hb dL_law_553 rfl (lv_at hl 5 rfl) ?_
  refine lv_iload hx hb dL_law_554 (lv_at hl 1 rfl) ?_
  refine lv_iconst (v := (nI 2)) hx hb dL_law_556 (by decide) ?_
  refine lv_iadd hx hb dL_law_557 ?_
  refine lv_topi (fun z9 ez9 => ?_)
  rw [show z9 = nI (i + 2) from ez9.trans (nI_add _ _)]
  refine lw_sld (k := (i + 2)) hx hb hXs hbl hbA hS (by omega) hL dL_law_558 ?_
  refine fh_cV (q := (RX10, TX10, 28)) (As := [.int (xs (i + 1)), .int (xs (i + 2))]) (rest := []) (b := ma) ⟨hx, hb, hml, hown, ht⟩ (q_conflict l G A u _ ma bb th no nv ns V S LK RL J C M hRM1 hI.bd hI.lk (xs (i + 1)) (xs (i + 2))) (cwV 2 ht (gV kw_922 kw_923 kw_924 kw_5 kw_925) rfl rfl rfl yd_X10_conflict ⟨(Nat.le_of_ble_eq_true rfl), (Nat.le_of_ble_eq_true rfl)⟩) hP hE hS (MG.m hM1) rfl rfl hl.1 rfl (Nat.le_of_ble_eq_true rfl) dL_law_559 ⟨(by show _ ≤ 601024; omega), (by show _ ≤ 7293034; omega)⟩ (fun v u2 H locs hp hP hz hS => ?_)
  obtain ⟨ans, rfl, ha, hRM2⟩ := hp
  obtain ⟨hk2, hA2, hRM3⟩ := hRM2.re
  have hR2 := hR1.kpN hk2 rfl
  have ho3 := hk2 _ _ ho2 rfl
  refine W.eq (g2 := F0 m 562 ls [.int ans]) rfl ?_
  obtain ⟨fK3, fH3, fF3, fB3, fO3, fW3, fV3, fN3, cO3, cF3, cH3, cV3, fS3, fC3, lO3, lA3, rA3, rB3, rD3, fM3, hM3, hX3⟩ := id hRM3
  refine lv_istore (lv' := [(6, .int ans), (5, .int (nI (oConf S J C (xs (i + 1)) (xs (i + 2))).1)), (4, .int (nI i)), (3, .ref oa), (2, .ref ma), (1, .ref xa), (0, .ref b)]) hx hb dL_law_562 hl (by decide) rfl (fun ls hl => ?_)
  refine lv_aload_n hx hb dL_law_564 rfl (lv_at hl 4 rfl) ?_
  refine fh_cV (q := (RX10, TX10, 28)) (As := []) (rest := []) (b := ma) ⟨hx, hb, hml, hown, ht⟩ (m_thrown l G A u2 _ hM3) (cwV 0 ht (gV kw_776 kw_777 kw_778 kw_5 kw_779) rfl rfl rfl yd_X10_thrown ⟨(Nat.le_of_ble_eq_true rfl), (Nat.le_of_ble_eq_true rfl)⟩) hP hE hS (MG.m hM3) rfl rfl hl.1 rfl (Nat.le_of_ble_eq_true rfl) dL_law_565 ⟨(by show _ ≤ 601024; omega), (by show _ ≤ 7293034; omega)⟩ (fun v u H locs hp hP hz hS => ?_)
  obtain ⟨rfl, eu⟩ := hp
  rw [eu] at hP
  refine W.eq (g2 := F0 m 568 ls [.int (nI (oConf S J C (xs (i + 1)) (xs (i + 2))).1)]) rfl ?_
  refine lv_iload hx hb dL_law_568 (lv_at hl 1 rfl) ?_
  refine lv_icmp_eq (tgt := 575) hx hb dL_law_570 (by decide) (fun _ => ?_) (fun c9 => absurd (rfl) c9)
  refine lv_iload hx hb dL_law_575 (lv_at hl 1 rfl) ?_
  have hle := oConf_le S J C (xs (i + 1)) (xs (i + 2))
  refine lv_if_ne (tgt := 592) hx hb dL_law_577 (by decide) (fun c1 => ?_) (fun c1 => ?_)
  · refine lv_goto (tgt := 1551) hx hb dL_law_592 (by decide) ?_
    refine W.widen (k := cells + 940) (n := slots + 3900) (by omega) (by omega) ?_
    exact k _ _ _ _ ⟨_, _, _, _, _, _, _, _, _, _, _, _, f2, hA2, hR2.mono (by omega), hRM3, (hI), ho3⟩ hP hS (lv_sub hl [2, 3, 4, 5, 6] rfl)
  · have e0 : (oConf S J C (xs (i + 1)) (xs (i + 2))).1 = 0 := (nI_eq (by omega) (by decide)).mp c1
    refine lv_aload_n hx hb dL_law_580 rfl (lv_at hl 3 rfl) ?_
    refine lv_iconst (v := (nI 0)) hx hb dL_law_581 (by decide) ?_
    refine fh_lald (k := 0) hx hb hE.1 hP ho3 rfl (by decide) (by decide) dL_law_582 ?_
    refine lv_iload hx hb dL_law_583 (lv_at hl 0 rfl) ?_
    refine lv_i2l (v := (ans : Int32).toInt64) hx hb dL_law_585 rfl ?_
    refine W.lcmp hx hb dL_law_586 ?_
    refine lv_if_eq (tgt := 592) hx hb dL_law_587 (by decide) (fun _ => ?_) (fun c9 => absurd ((lg_cmp_eq _ _).mpr (by rw [hf2 e0, ha e0])) c9)
    refine lv_goto (tgt := 1551) hx hb dL_law_592 (by decide) ?_
    refine W.widen (k := cells + 940) (n := slots + 3900) (by omega) (by omega) ?_
    exact k _ _ _ _ ⟨_, _, _, _, _, _, _, _, _, _, _, _, f2, hA2, hR2.mono (by omega), hRM3, (hI), ho3⟩ hP hS (lv_sub hl [2, 3, 4, 5, 6] rfl)

set_option maxRecDepth 100000 in
set_option maxHeartbeats 4000000 in
theorem lc_settle {p : Program} {l : Launch} {e : Env} {s : State} {m : MethodId} {below : List Frame} {meth : Method} {c : Code} {b L : Nat} {xs : Nat → Int32} {G : fG} {A : Nat → Prop} (hst : l.stackTraces = false) (hA : ∀ q, s.heap.size ≤ q → A q) (hx : p.tables.exec = Jvm.exec) (hb : c.code = code) (hml : c.maxLocals = 8) (hown : s.vm.findClass "ObjectMergeLaw" = some m.cls) (ht : ∀ w ∈ wB, w.before #[Value.ref b] s = true) (hE : fh_Env G A s s.heap) (hXs : va_X b L xs s s.heap) (hbl : b < s.heap.size) (hbA : ¬ A b) (hL : L ≤ 5120) {xa ma oa : Nat} {bb : Nat → Nat} (i : Nat) (hi : i + 10 ≤ L) {H : Heap} {locs : List Loc} {ls : Array Slot} {cells slots : Nat} (hcs : cells + 940 ≤ 601024) (hss : slots + 3900 ≤ 7293034) {Kq : Nat} (hK8 : Kq < 900000) {h : FH} (hs : LawSt Kq A h xa ma oa bb) (hP : fh_P G vwCl h H) (hS : va_S A s.heap H locs) (hl : lv_has ls 8 [(4, .int (nI i)), (3, .ref oa), (2, .ref ma), (1, .ref xa), (0, .ref b)]) {Q : State → Prop} (k : ∀ (u : FH) (H : Heap) (locs : List Loc) (ls : Array Slot), LawSt (Kq + 100) A u xa ma oa bb → fh_P G vwCl u H → va_S A s.heap H locs → lv_has ls 8 [(4, .int (nI i)), (3, .ref oa), (2, .ref ma), (1, .ref xa), (0, .ref b)] → W p l e room_1 s m #[Value.ref b] below meth c H locs (cells + 940) (slots + 3900) Q (F0 m 1551 ls [])) : W p l e room_1 s m #[Value.ref b] below meth c H locs cells slots Q (F0 m 595 ls []) := by
  obtain ⟨ad, th, no, nv, ns, V, S, LK, RL, J, C, M, f0, hAh, hR, hRM, hI, ho⟩ := hs
  have hX := hR.1
  have hA9 : ∀ q, H.size ≤ q → A q := fun q hq => hA q (Nat.le_trans hS.1 hq)
  refine lv_aload_n hx hb dL_law_595 rfl (lv_at hl 3 rfl) ?_
  refine lv_aload_n hx hb dL_law_596 rfl (lv_at hl 4 rfl) ?_
  refine lv_iload hx hb dL_law_597 (lv_at hl 0 rfl) ?_
  refine lv_iconst (v := (nI 1)) hx hb dL_law_599 (by decide) ?_
  refine lv_iadd hx hb dL_law_600 ?_
  refine lv_topi (fun z9 ez9 => ?_)
  rw [show z9 = nI (i + 1) from ez9.trans (nI_add _ _)]
  refine lw_sld (k := (i + 1)) hx hb hXs hbl hbA hS (by omega) hL dL_law_601 ?_
  refine lv_aload_n hx hb dL_law_602 rfl (lv_at hl 4 rfl) ?_
  refine lv_iload hx hb dL_law_603 (lv_at hl 0 rfl) ?_
  refine lv_iconst (v := (nI 2)) hx hb dL_law_605 (by decide) ?_
  refine lv_iadd hx hb dL_law_606 ?_
  refine lv_topi (fun z9 ez9 => ?_)
  rw [show z9 = nI (i + 2) from ez9.trans (nI_add _ _)]
  refine lw_sld (k := (i + 2)) hx hb hXs hbl hbA hS (by omega) hL dL_law_607 ?_
  refine lv_aload_n hx hb dL_law_608 rfl (lv_at hl 1 rfl) ?_
  refine fh_cSW (As := [.ref xa, .int (xs (i + 1)), .int (xs (i + 2)), .ref oa]) (rest := []) ⟨hx, hb, hml, hown, ht⟩ (w_settle l G A h _ hst hA9 hAh xa ad no nv ns V S LK RL J C M hR hI.bd hK8 (xs (i + 1)) (xs (i + 2)) oa f0 ho) (vx_cwSW 4 ht (gS kw_491 kw_492 kw_0 kw_493) rfl rfl rfl yd_L_settle.2 ⟨(Nat.le_of_ble_eq_true rfl), (Nat.le_of_ble_eq_true rfl)⟩) hP hE hS rfl hl.1 rfl (Nat.le_of_ble_eq_true rfl) dL_law_609 ⟨(by show _ ≤ 601024; omega), (by show _ ≤ 7293034; omega)⟩ (fun v u H locs hp hP hz hS => ?_)
  obtain ⟨rfl, hA1, hk1, ⟨ad2, hR1⟩, f2, ho2, hf2⟩ := hp
  have hRM1 := hRM.kp2 hk1 rfl hA1
  refine W.eq (g2 := F0 m 612 ls [.int (nI (oSettle S J C (xs (i + 1)) (xs (i + 2))).1)]) rfl ?_
  obtain ⟨fK, fH, fF, fB, fO, fW, fV, fN, cO, cF, cH, cV, fS, fC, lO, lA, rA, rB, rD, fM, hM1, hX1⟩ := id hRM1
  refine lv_istore (lv' := [(5, .int (nI (oSettle S J C (xs (i + 1)) (xs (i + 2))).1)), (4, .int (nI i)), (3, .ref oa), (2, .ref ma), (1, .ref xa), (0, .ref b)]) hx hb dL_law_612 hl (by decide) rfl (fun ls hl => ?_)
  refine lv_aload_n hx hb dL_law_614 rfl (lv_at hl 3 rfl) ?_
  refine lv_aload_n hx hb dL_law_615 rfl (lv_at hl 5 rfl) ?_
  refine lv_iload hx hb dL_law_616 (lv_at hl 1 rfl) ?_
  refine lv_iconst (v := (nI 1)) hx hb dL_law_618 (by decide) ?_
  refine lv_iadd hx hb dL_law_619 ?_
  refine lv_topi (fun z9 ez9 => ?_)
  rw [show z9 = nI (i + 1) from ez9.trans (nI_add _ _)]
  refine lw_sld (k := (i + 1)) hx hb hXs hbl hbA hS (by omega) hL dL_law_620 ?_
  refine lv_aload_n hx hb dL_law_621 rfl (lv_at hl 5 rfl) ?_
  refine lv_iload hx hb dL_law_622 (lv_at hl 1 rfl) ?_
  refine lv_iconst (v := (nI 2)) hx hb dL_law_624 (by decide) ?_
  refine lv_iadd hx hb dL_law_625 ?_
  refine lv_topi (fun z9 ez9 => ?_)
  rw [show z9 = nI (i + 2) from ez9.trans (nI_add _ _)]
  refine lw_sld (k := (i + 2)) hx hb hXs hbl hbA hS (by omega) hL dL_law_626 ?_
  refine fh_cV (q := (RX10, TX10, 28)) (As := [.int (xs (i + 1)), .int (xs (i + 2))]) (rest := []) (b := ma) ⟨hx, hb, hml, hown, ht⟩ (q_settle l G A u _ ma bb th no nv ns V S LK RL J C M hRM1 hI.bd hI.lk (xs (i + 1)) (xs (i + 2))) (cwV 2 ht (gV kw_926 kw_927 kw_928 kw_5 kw_929) rfl rfl rfl yd_X10_settle ⟨(Nat.le_of_ble_eq_true rfl), (Nat.le_of_ble_eq_true rfl)⟩) hP hE hS (MG.m hM1) rfl rfl hl.1 rfl (Nat.le_of_ble_eq_true rfl) dL_law_627 ⟨(by show _ ≤ 601024; omega), (by show _ ≤ 7293034; omega)⟩ (fun v u2 H locs hp hP hz hS => ?_)
  obtain ⟨ans, rfl, ha, hRM2⟩ := hp
  obtain ⟨hk2, hA2, hRM3⟩ := hRM2.re
  have hR2 := hR1.kpN hk2 rfl
  have ho3 := hk2 _ _ ho2 rfl
  refine W.eq (g2 := F0 m 630 ls [.int ans]) rfl ?_
  obtain ⟨fK3, fH3, fF3, fB3, fO3, fW3, fV3, fN3, cO3, cF3, cH3, cV3, fS3, fC3, lO3, lA3, rA3, rB3, rD3, fM3, hM3, hX3⟩ := id hRM3
  refine lv_istore (lv' := [(6, .int ans), (5, .int (nI (oSettle S J C (xs (i + 1)) (xs (i + 2))).1)), (4, .int (nI i)), (3, .ref oa), (2, .ref ma), (1, .ref xa), (0, .ref b)]) hx hb dL_law_630 hl (by decide) rfl (fun ls hl => ?_)
  refine lv_aload_n hx hb dL_law_632 rfl (lv_at hl 4 rfl) ?_
  refine fh_cV (q := (RX10, TX10, 28)) (As := []) (rest := []) (b := ma) ⟨hx, hb, hml, hown, ht⟩ (m_thrown l G A u2 _ hM3) (cwV 0 ht (gV kw_776 kw_777 kw_778 kw_5 kw_779) rfl rfl rfl yd_X10_thrown ⟨(Nat.le_of_ble_eq_true rfl), (Nat.le_of_ble_eq_true rfl)⟩) hP hE hS (MG.m hM3) rfl rfl hl.1 rfl (Nat.le_of_ble_eq_true rfl) dL_law_633 ⟨(by show _ ≤ 601024; omega), (by show _ ≤ 7293034; omega)⟩ (fun v u H locs hp hP hz hS => ?_)
  obtain ⟨rfl, eu⟩ := hp
  rw [eu] at hP
  refine W.eq (g2 := F0 m 636 ls [.int (nI (oSettle S J C (xs (i + 1)) (xs (i + 2))).1)]) rfl ?_
  refine lv_iload hx hb dL_law_636 (lv_at hl 1 rfl) ?_
  refine lv_icmp_eq (tgt := 643) hx hb dL_law_638 (by decide) (fun _ => ?_) (fun c9 => absurd (rfl) c9)
  refine lv_iload hx hb dL_law_643 (lv_at hl 1 rfl) ?_
  have hle := oSettle_le S J C (xs (i + 1)) (xs (i + 2))
  refine lv_if_ne (tgt := 667) hx hb dL_law_645 (by decide) (fun c1 => ?_) (fun c1 => ?_)
  · refine lv_goto (tgt := 1551) hx hb dL_law_667 (by decide) ?_
    refine W.widen (k := cells + 940) (n := slots + 3900) (by omega) (by omega) ?_
    exact k _ _ _ _ ⟨_, _, _, _, _, _, _, _, _, _, _, _, f2, hA2, hR2.mono (by omega), hRM3, (hI.settle (xs (i + 1)) (xs (i + 2))), ho3⟩ hP hS (lv_sub hl [2, 3, 4, 5, 6] rfl)
  · have e0 : (oSettle S J C (xs (i + 1)) (xs (i + 2))).1 = 0 := (nI_eq (by omega) (by decide)).mp c1
    refine lv_aload_n hx hb dL_law_648 rfl (lv_at hl 3 rfl) ?_
    refine lv_iconst (v := (nI 0)) hx hb dL_law_649 (by decide) ?_
    refine fh_lald (k := 0) hx hb hE.1 hP ho3 rfl (by decide) (by decide) dL_law_650 ?_
    refine lv_iload hx hb dL_law_651 (lv_at hl 0 rfl) ?_
    have ha0 := ha e0
    have hf0 := hf2 e0
    generalize (oSettle S J C (xs (i + 1)) (xs (i + 2))).2.1 = bv at ha0 hf0
    cases bv with
    | false =>
      refine lv_if_eq (tgt := 660) hx hb dL_law_653 (by decide) (fun _ => ?_) (fun c9 => absurd (ha0) c9)
      refine lv_lconst (v := 0) hx hb dL_law_660 (by decide) ?_
      refine W.lcmp hx hb dL_law_661 ?_
      refine lv_if_eq (tgt := 667) hx hb dL_law_662 (by decide) (fun _ => ?_) (fun c9 => absurd ((lg_cmp_eq _ _).mpr hf0) c9)
      refine lv_goto (tgt := 1551) hx hb dL_law_667 (by decide) ?_
      refine W.widen (k := cells + 940) (n := slots + 3900) (by omega) (by omega) ?_
      exact k _ _ _ _ ⟨_, _, _, _, _, _, _, _, _, _, _, _, f2, hA2, hR2.mono (by omega), hRM3, (hI.settle (xs (i + 1)) (xs (i + 2))), ho3⟩ hP hS (lv_sub hl [2, 3, 4, 5, 6] rfl)
    | true =>
      refine lv_if_eq (tgt := 660) hx hb dL_law_653 (by decide) (fun c9 => absurd c9 (fun z8 => absurd (ha0.symm.trans z8) (by decide))) (fun _ => ?_)
      refine lv_lconst (v := 1) hx hb dL_law_656 (by decide) ?_
      refine lv_goto (tgt := 661) hx hb dL_law_657 (by decide) ?_
      refine W.lcmp hx hb dL_law_661 ?_
      refine lv_if_eq (tgt := 667) hx hb dL_law_662 (by decide) (fun _ => ?_) (fun c9 => absurd ((lg_cmp_eq _ _).mpr hf0) c9)
      refine lv_goto (tgt := 1551) hx hb dL_law_667 (by decide) ?_
      refine W.widen (k := cells + 940) (n := slots + 3900) (by omega) (by omega) ?_
      exact k _ _ _ _ ⟨_, _, _, _, _, _, _, _, _, _, _, _, f2, hA2, hR2.mono (by omega), hRM3, (hI.settle (xs (i + 1)) (xs (i + 2))), ho3⟩ hP hS (lv_sub hl [2, 3, 4, 5, 6] rfl)

set_option maxRecDepth 100000 in
set_option maxHeartbeats 4000000 in
theorem lc_at {p : Program} {l : Launch} {e : Env} {s : State} {m : MethodId} {below : List Frame} {meth : Method} {c : Code} {b L : Nat} {xs : Nat → Int32} {G : fG} {A : Nat → Prop} (hst : l.stackTraces = false) (hA : ∀ q, s.heap.size ≤ q → A q) (hx : p.tables.exec = Jvm.exec) (hb : c.code = code) (hml : c.maxLocals = 8) (hown : s.vm.findClass "ObjectMergeLaw" = some m.cls) (ht : ∀ w ∈ wB, w.before #[Value.ref b] s = true) (hE : fh_Env G A s s.heap) (hXs : va_X b L xs s s.heap) (hbl : b < s.heap.size) (hbA : ¬ A b) (hL : L ≤ 5120) {xa ma oa : Nat} {bb : Nat → Nat} (i : Nat) (hi : i + 10 ≤ L) {H : Heap} {locs : List Loc} {ls : Array Slot} {cells slots : Nat} (hcs : cells + 940 ≤ 601024) (hss : slots + 3900 ≤ 7293034) {Kq : Nat} (hK8 : Kq < 900000) {h : FH} (hs : LawSt Kq A h xa ma oa bb) (hP : fh_P G vwCl h H) (hS : va_S A s.heap H locs) (hl : lv_has ls 8 [(4, .int (nI i)), (3, .ref oa), (2, .ref ma), (1, .ref xa), (0, .ref b)]) {Q : State → Prop} (k : ∀ (u : FH) (H : Heap) (locs : List Loc) (ls : Array Slot), LawSt (Kq + 100) A u xa ma oa bb → fh_P G vwCl u H → va_S A s.heap H locs → lv_has ls 8 [(4, .int (nI i)), (3, .ref oa), (2, .ref ma), (1, .ref xa), (0, .ref b)] → W p l e room_1 s m #[Value.ref b] below meth c H locs (cells + 940) (slots + 3900) Q (F0 m 1551 ls [])) : W p l e room_1 s m #[Value.ref b] below meth c H locs cells slots Q (F0 m 670 ls []) := by
  obtain ⟨ad, th, no, nv, ns, V, S, LK, RL, J, C, M, f0, hAh, hR, hRM, hI, ho⟩ := hs
  have hX := hR.1
  have hA9 : ∀ q, H.size ≤ q → A q := fun q hq => hA q (Nat.le_trans hS.1 hq)
  refine lv_aload_n hx hb dL_law_670 rfl (lv_at hl 3 rfl) ?_
  refine lv_aload_n hx hb dL_law_671 rfl (lv_at hl 4 rfl) ?_
  refine lv_iload hx hb dL_law_672 (lv_at hl 0 rfl) ?_
  refine lv_iconst (v := (nI 1)) hx hb dL_law_674 (by decide) ?_
  refine lv_iadd hx hb dL_law_675 ?_
  refine lv_topi (fun z9 ez9 => ?_)
  rw [show z9 = nI (i + 1) from ez9.trans (nI_add _ _)]
  refine lw_sld (k := (i + 1)) hx hb hXs hbl hbA hS (by omega) hL dL_law_676 ?_
  refine lv_aload_n hx hb dL_law_677 rfl (lv_at hl 4 rfl) ?_
  refine lv_iload hx hb dL_law_678 (lv_at hl 0 rfl) ?_
  refine lv_iconst (v := (nI 2)) hx hb dL_law_680 (by decide) ?_
  refine lv_iadd hx hb dL_law_681 ?_
  refine lv_topi (fun z9 ez9 => ?_)
  rw [show z9 = nI (i + 2) from ez9.trans (nI_add _ _)]
  refine lw_sld (k := (i + 2)) hx hb hXs hbl hbA hS (by omega) hL dL_law_682 ?_
  refine lv_aload_n hx hb dL_law_683 rfl (lv_at hl 1 rfl) ?_
  refine fh_cSW (As := [.ref xa, .int (xs (i + 1)), .int (xs (i + 2)), .ref oa]) (rest := []) ⟨hx, hb, hml, hown, ht⟩ (w_at l G A h _ hst hA9 hAh xa ad no nv ns V S LK RL J C M hR hI.bd hK8 (xs (i + 1)) (xs (i + 2)) oa f0 ho) (vx_cwSW 4 ht (gS kw_503 kw_504 kw_0 kw_505) rfl rfl rfl yd_L_at.2 ⟨(Nat.le_of_ble_eq_true rfl), (Nat.le_of_ble_eq_true rfl)⟩) hP hE hS rfl hl.1 rfl (Nat.le_of_ble_eq_true rfl) dL_law_684 ⟨(by show _ ≤ 601024; omega), (by show _ ≤ 7293034; omega)⟩ (fun v u H locs hp hP hz hS => ?_)
  obtain ⟨rfl, hA1, hk1, ⟨ad2, hR1⟩, f2, ho2, hf2⟩ := hp
  have hRM1 := hRM.kp2 hk1 rfl hA1
  refine W.eq (g2 := F0 m 687 ls [.int (nI (oAt no nv V (xs (i + 1)) (xs (i + 2))).1)]) rfl ?_
  obtain ⟨fK, fH, fF, fB, fO, fW, fV, fN, cO, cF, cH, cV, fS, fC, lO, lA, rA, rB, rD, fM, hM1, hX1⟩ := id hRM1
  refine lv_istore (lv' := [(5, .int (nI (oAt no nv V (xs (i + 1)) (xs (i + 2))).1)), (4, .int (nI i)), (3, .ref oa), (2, .ref ma), (1, .ref xa), (0, .ref b)]) hx hb dL_law_687 hl (by decide) rfl (fun ls hl => ?_)
  refine lv_aload_n hx hb dL_law_689 rfl (lv_at hl 3 rfl) ?_
  refine lv_aload_n hx hb dL_law_690 rfl (lv_at hl 5 rfl) ?_
  refine lv_iload hx hb dL_law_691 (lv_at hl 1 rfl) ?_
  refine lv_iconst (v := (nI 1)) hx hb dL_law_693 (by decide) ?_
  refine lv_iadd hx hb dL_law_694 ?_
  refine lv_topi (fun z9 ez9 => ?_)
  rw [show z9 = nI (i + 1) from ez9.trans (nI_add _ _)]
  refine lw_sld (k := (i + 1)) hx hb hXs hbl hbA hS (by omega) hL dL_law_695 ?_
  refine lv_aload_n hx hb dL_law_696 rfl (lv_at hl 5 rfl) ?_
  refine lv_iload hx hb dL_law_697 (lv_at hl 1 rfl) ?_
  refine lv_iconst (v := (nI 2)) hx hb dL_law_699 (by decide) ?_
  refine lv_iadd hx hb dL_law_700 ?_
  refine lv_topi (fun z9 ez9 => ?_)
  rw [show z9 = nI (i + 2) from ez9.trans (nI_add _ _)]
  refine lw_sld (k := (i + 2)) hx hb hXs hbl hbA hS (by omega) hL dL_law_701 ?_
  refine fh_cV (q := (RX10, TX10, 28)) (As := [.int (xs (i + 1)), .int (xs (i + 2))]) (rest := []) (b := ma) ⟨hx, hb, hml, hown, ht⟩ (q_at l G A u _ ma bb th no nv ns V S LK RL J C M hRM1 hI.bd hI.lk (xs (i + 1)) (xs (i + 2))) (cwV 2 ht (gV kw_941 kw_942 kw_943 kw_5 kw_944) rfl rfl rfl yd_X10_at ⟨(Nat.le_of_ble_eq_true rfl), (Nat.le_of_ble_eq_true rfl)⟩) hP hE hS (MG.m hM1) rfl rfl hl.1 rfl (Nat.le_of_ble_eq_true rfl) dL_law_702 ⟨(by show _ ≤ 601024; omega), (by show _ ≤ 7293034; omega)⟩ (fun v u2 H locs hp hP hz hS => ?_)
  obtain ⟨ans, rfl, ha, hRM2⟩ := hp
  obtain ⟨hk2, hA2, hRM3⟩ := hRM2.re
  have hR2 := hR1.kpN hk2 rfl
  have ho3 := hk2 _ _ ho2 rfl
  refine W.eq (g2 := F0 m 705 ls [.long ans]) rfl ?_
  obtain ⟨fK3, fH3, fF3, fB3, fO3, fW3, fV3, fN3, cO3, cF3, cH3, cV3, fS3, fC3, lO3, lA3, rA3, rB3, rD3, fM3, hM3, hX3⟩ := id hRM3
  refine lv_lstore (lv' := [(6, .long ans), (5, .int (nI (oAt no nv V (xs (i + 1)) (xs (i + 2))).1)), (4, .int (nI i)), (3, .ref oa), (2, .ref ma), (1, .ref xa), (0, .ref b)]) hx hb dL_law_705 hl (by decide) rfl (fun ls hl => ?_)
  refine lv_aload_n hx hb dL_law_707 rfl (lv_at hl 4 rfl) ?_
  refine fh_cV (q := (RX10, TX10, 28)) (As := []) (rest := []) (b := ma) ⟨hx, hb, hml, hown, ht⟩ (m_thrown l G A u2 _ hM3) (cwV 0 ht (gV kw_776 kw_777 kw_778 kw_5 kw_779) rfl rfl rfl yd_X10_thrown ⟨(Nat.le_of_ble_eq_true rfl), (Nat.le_of_ble_eq_true rfl)⟩) hP hE hS (MG.m hM3) rfl rfl hl.1 rfl (Nat.le_of_ble_eq_true rfl) dL_law_708 ⟨(by show _ ≤ 601024; omega), (by show _ ≤ 7293034; omega)⟩ (fun v u H locs hp hP hz hS => ?_)
  obtain ⟨rfl, eu⟩ := hp
  rw [eu] at hP
  refine W.eq (g2 := F0 m 711 ls [.int (nI (oAt no nv V (xs (i + 1)) (xs (i + 2))).1)]) rfl ?_
  refine lv_iload hx hb dL_law_711 (lv_at hl 1 rfl) ?_
  refine lv_icmp_eq (tgt := 718) hx hb dL_law_713 (by decide) (fun _ => ?_) (fun c9 => absurd (rfl) c9)
  refine lv_iload hx hb dL_law_718 (lv_at hl 1 rfl) ?_
  have hle := oAt_le no nv V (xs (i + 1)) (xs (i + 2))
  refine lv_if_ne (tgt := 734) hx hb dL_law_720 (by decide) (fun c1 => ?_) (fun c1 => ?_)
  · refine lv_goto (tgt := 1551) hx hb dL_law_734 (by decide) ?_
    refine W.widen (k := cells + 940) (n := slots + 3900) (by omega) (by omega) ?_
    exact k _ _ _ _ ⟨_, _, _, _, _, _, _, _, _, _, _, _, f2, hA2, hR2.mono (by omega), hRM3, (hI), ho3⟩ hP hS (lv_sub hl [2, 3, 4, 5, 6] rfl)
  · have e0 : (oAt no nv V (xs (i + 1)) (xs (i + 2))).1 = 0 := (nI_eq (by omega) (by decide)).mp c1
    refine lv_aload_n hx hb dL_law_723 rfl (lv_at hl 3 rfl) ?_
    refine lv_iconst (v := (nI 0)) hx hb dL_law_724 (by decide) ?_
    refine fh_lald (k := 0) hx hb hE.1 hP ho3 rfl (by decide) (by decide) dL_law_725 ?_
    refine lv_lload hx hb dL_law_726 (lv_at hl 0 rfl) ?_
    refine W.lcmp hx hb dL_law_728 ?_
    refine lv_if_eq (tgt := 734) hx hb dL_law_729 (by decide) (fun _ => ?_) (fun c9 => absurd ((lg_cmp_eq _ _).mpr (by rw [hf2 e0, ha e0])) c9)
    refine lv_goto (tgt := 1551) hx hb dL_law_734 (by decide) ?_
    refine W.widen (k := cells + 940) (n := slots + 3900) (by omega) (by omega) ?_
    exact k _ _ _ _ ⟨_, _, _, _, _, _, _, _, _, _, _, _, f2, hA2, hR2.mono (by omega), hRM3, (hI), ho3⟩ hP hS (lv_sub hl [2, 3, 4, 5, 6] rfl)

set_option maxRecDepth 100000 in
set_option maxHeartbeats 4000000 in
theorem lc_lock {p : Program} {l : Launch} {e : Env} {s : State} {m : MethodId} {below : List Frame} {meth : Method} {c : Code} {b L : Nat} {xs : Nat → Int32} {G : fG} {A : Nat → Prop} (hst : l.stackTraces = false) (hA : ∀ q, s.heap.size ≤ q → A q) (hx : p.tables.exec = Jvm.exec) (hb : c.code = code) (hml : c.maxLocals = 8) (hown : s.vm.findClass "ObjectMergeLaw" = some m.cls) (ht : ∀ w ∈ wB, w.before #[Value.ref b] s = true) (hE : fh_Env G A s s.heap) (hXs : va_X b L xs s s.heap) (hbl : b < s.heap.size) (hbA : ¬ A b) (hL : L ≤ 5120) {xa ma oa : Nat} {bb : Nat → Nat} (i : Nat) (hi : i + 10 ≤ L) {H : Heap} {locs : List Loc} {ls : Array Slot} {cells slots : Nat} (hcs : cells + 940 ≤ 601024) (hss : slots + 3900 ≤ 7293034) {Kq : Nat} (hK8 : Kq < 900000) {h : FH} (hs : LawSt Kq A h xa ma oa bb) (hP : fh_P G vwCl h H) (hS : va_S A s.heap H locs) (hl : lv_has ls 8 [(4, .int (nI i)), (3, .ref oa), (2, .ref ma), (1, .ref xa), (0, .ref b)]) {Q : State → Prop} (k : ∀ (u : FH) (H : Heap) (locs : List Loc) (ls : Array Slot), LawSt (Kq + 100) A u xa ma oa bb → fh_P G vwCl u H → va_S A s.heap H locs → lv_has ls 8 [(4, .int (nI i)), (3, .ref oa), (2, .ref ma), (1, .ref xa), (0, .ref b)] → W p l e room_1 s m #[Value.ref b] below meth c H locs (cells + 940) (slots + 3900) Q (F0 m 1551 ls [])) : W p l e room_1 s m #[Value.ref b] below meth c H locs cells slots Q (F0 m 737 ls []) := by
  obtain ⟨ad, th, no, nv, ns, V, S, LK, RL, J, C, M, f0, hAh, hR, hRM, hI, ho⟩ := hs
  have hX := hR.1
  have hA9 : ∀ q, H.size ≤ q → A q := fun q hq => hA q (Nat.le_trans hS.1 hq)
  refine lv_aload_n hx hb dL_law_737 rfl (lv_at hl 3 rfl) ?_
  refine lv_aload_n hx hb dL_law_738 rfl (lv_at hl 4 rfl) ?_
  refine lv_iload hx hb dL_law_739 (lv_at hl 0 rfl) ?_
  refine lv_iconst (v := (nI 1)) hx hb dL_law_741 (by decide) ?_
  refine lv_iadd hx hb dL_law_742 ?_
  refine lv_topi (fun z9 ez9 => ?_)
  rw [show z9 = nI (i + 1) from ez9.trans (nI_add _ _)]
  refine lw_sld (k := (i + 1)) hx hb hXs hbl hbA hS (by omega) hL dL_law_743 ?_
  refine lv_aload_n hx hb dL_law_744 rfl (lv_at hl 4 rfl) ?_
  refine lv_iload hx hb dL_law_745 (lv_at hl 0 rfl) ?_
  refine lv_iconst (v := (nI 2)) hx hb dL_law_747 (by decide) ?_
  refine lv_iadd hx hb dL_law_748 ?_
  refine lv_topi (fun z9 ez9 => ?_)
  rw [show z9 = nI (i + 2) from ez9.trans (nI_add _ _)]
  refine lw_sld (k := (i + 2)) hx hb hXs hbl hbA hS (by omega) hL dL_law_749 ?_
  refine lv_i2l (v := (xs (i + 2) : Int32).toInt64) hx hb dL_law_750 rfl ?_
  refine lv_bipush (v := (nI 32)) hx hb dL_law_751 (by decide) ?_
  refine lv_lshl (v := ((xs (i + 2) : Int32).toInt64) <<< (((nI 32) : Int32).toInt64 &&& 63)) hx hb dL_law_753 rfl ?_
  refine lv_aload_n hx hb dL_law_754 rfl (lv_at hl 4 rfl) ?_
  refine lv_iload hx hb dL_law_755 (lv_at hl 0 rfl) ?_
  refine lv_iconst (v := (nI 3)) hx hb dL_law_757 (by decide) ?_
  refine lv_iadd hx hb dL_law_758 ?_
  refine lv_topi (fun z9 ez9 => ?_)
  rw [show z9 = nI (i + 3) from ez9.trans (nI_add _ _)]
  refine lw_sld (k := (i + 3)) hx hb hXs hbl hbA hS (by omega) hL dL_law_759 ?_
  refine lv_i2l (v := (xs (i + 3) : Int32).toInt64) hx hb dL_law_760 rfl ?_
  refine lv_ldc2 (v := 4294967295) hx hb hown (ht _ kw_978) dL_law_761 ?_
  refine lv_land hx hb dL_law_764 ?_
  refine lv_lor hx hb dL_law_765 ?_
  refine lv_topl (fun y1 ey1 => ?_)
  refine lv_aload_n hx hb dL_law_766 rfl (lv_at hl 4 rfl) ?_
  refine lv_iload hx hb dL_law_767 (lv_at hl 0 rfl) ?_
  refine lv_iconst (v := (nI 4)) hx hb dL_law_769 (by decide) ?_
  refine lv_iadd hx hb dL_law_770 ?_
  refine lv_topi (fun z9 ez9 => ?_)
  rw [show z9 = nI (i + 4) from ez9.trans (nI_add _ _)]
  refine lw_sld (k := (i + 4)) hx hb hXs hbl hbA hS (by omega) hL dL_law_771 ?_
  refine lv_i2l (v := (xs (i + 4) : Int32).toInt64) hx hb dL_law_772 rfl ?_
  refine lv_bipush (v := (nI 32)) hx hb dL_law_773 (by decide) ?_
  refine lv_lshl (v := ((xs (i + 4) : Int32).toInt64) <<< (((nI 32) : Int32).toInt64 &&& 63)) hx hb dL_law_775 rfl ?_
  refine lv_aload_n hx hb dL_law_776 rfl (lv_at hl 4 rfl) ?_
  refine lv_iload hx hb dL_law_777 (lv_at hl 0 rfl) ?_
  refine lv_iconst (v := (nI 5)) hx hb dL_law_779 (by decide) ?_
  refine lv_iadd hx hb dL_law_780 ?_
  refine lv_topi (fun z9 ez9 => ?_)
  rw [show z9 = nI (i + 5) from ez9.trans (nI_add _ _)]
  refine lw_sld (k := (i + 5)) hx hb hXs hbl hbA hS (by omega) hL dL_law_781 ?_
  refine lv_i2l (v := (xs (i + 5) : Int32).toInt64) hx hb dL_law_782 rfl ?_
  refine lv_ldc2 (v := 4294967295) hx hb hown (ht _ kw_978) dL_law_783 ?_
  refine lv_land hx hb dL_law_786 ?_
  refine lv_lor hx hb dL_law_787 ?_
  refine lv_topl (fun y2 ey2 => ?_)
  refine lv_aload_n hx hb dL_law_788 rfl (lv_at hl 4 rfl) ?_
  refine lv_iload hx hb dL_law_789 (lv_at hl 0 rfl) ?_
  refine lv_bipush (v := (nI 6)) hx hb dL_law_791 (by decide) ?_
  refine lv_iadd hx hb dL_law_793 ?_
  refine lv_topi (fun z9 ez9 => ?_)
  rw [show z9 = nI (i + 6) from ez9.trans (nI_add _ _)]
  refine lw_sld (k := (i + 6)) hx hb hXs hbl hbA hS (by omega) hL dL_law_794 ?_
  refine lv_i2l (v := (xs (i + 6) : Int32).toInt64) hx hb dL_law_795 rfl ?_
  refine lv_bipush (v := (nI 32)) hx hb dL_law_796 (by decide) ?_
  refine lv_lshl (v := ((xs (i + 6) : Int32).toInt64) <<< (((nI 32) : Int32).toInt64 &&& 63)) hx hb dL_law_798 rfl ?_
  refine lv_aload_n hx hb dL_law_799 rfl (lv_at hl 4 rfl) ?_
  refine lv_iload hx hb dL_law_800 (lv_at hl 0 rfl) ?_
  refine lv_bipush (v := (nI 7)) hx hb dL_law_802 (by decide) ?_
  refine lv_iadd hx hb dL_law_804 ?_
  refine lv_topi (fun z9 ez9 => ?_)
  rw [show z9 = nI (i + 7) from ez9.trans (nI_add _ _)]
  refine lw_sld (k := (i + 7)) hx hb hXs hbl hbA hS (by omega) hL dL_law_805 ?_
  refine lv_i2l (v := (xs (i + 7) : Int32).toInt64) hx hb dL_law_806 rfl ?_
  refine lv_ldc2 (v := 4294967295) hx hb hown (ht _ kw_978) dL_law_807 ?_
  refine lv_land hx hb dL_law_810 ?_
  refine lv_lor hx hb dL_law_811 ?_
  refine lv_topl (fun y3 ey3 => ?_)
  refine lv_aload_n hx hb dL_law_812 rfl (lv_at hl 4 rfl) ?_
  refine lv_iload hx hb dL_law_813 (lv_at hl 0 rfl) ?_
  refine lv_bipush (v := (nI 8)) hx hb dL_law_815 (by decide) ?_
  refine lv_iadd hx hb dL_law_817 ?_
  refine lv_topi (fun z9 ez9 => ?_)
  rw [show z9 = nI (i + 8) from ez9.trans (nI_add _ _)]
  refine lw_sld (k := (i + 8)) hx hb hXs hbl hbA hS (by omega) hL dL_law_818 ?_
  refine lv_i2l (v := (xs (i + 8) : Int32).toInt64) hx hb dL_law_819 rfl ?_
  refine lv_bipush (v := (nI 32)) hx hb dL_law_820 (by decide) ?_
  refine lv_lshl (v := ((xs (i + 8) : Int32).toInt64) <<< (((nI 32) : Int32).toInt64 &&& 63)) hx hb dL_law_822 rfl ?_
  refine lv_aload_n hx hb dL_law_823 rfl (lv_at hl 4 rfl) ?_
  refine lv_iload hx hb dL_law_824 (lv_at hl 0 rfl) ?_
  refine lv_bipush (v := (nI 9)) hx hb dL_law_826 (by decide) ?_
  refine lv_iadd hx hb dL_law_828 ?_
  refine lv_topi (fun z9 ez9 => ?_)
  rw [show z9 = nI (i + 9) from ez9.trans (nI_add _ _)]
  refine lw_sld (k := (i + 9)) hx hb hXs hbl hbA hS (by omega) hL dL_law_829 ?_
  refine lv_i2l (v := (xs (i + 9) : Int32).toInt64) hx hb dL_law_830 rfl ?_
  refine lv_ldc2 (v := 4294967295) hx hb hown (ht _ kw_978) dL_law_831 ?_
  refine lv_land hx hb dL_law_834 ?_
  refine lv_lor hx hb dL_law_835 ?_
  refine lv_topl (fun y4 ey4 => ?_)
  refine lv_aload_n hx hb dL_law_836 rfl (lv_at hl 1 rfl) ?_
  refine fh_cSW (As := [.ref xa, .int (xs (i + 1)), .long y1, .long y2, .long y3, .long y4, .ref oa]) (rest := []) ⟨hx, hb, hml, hown, ht⟩ (w_lock l G A h _ hst hA9 hAh xa ad no nv ns V S LK RL J C M hR hI.bd hK8 (xs (i + 1)) y1 y2 y3 y4 oa f0 ho) (vx_cwSW 7 ht (gS kw_510 kw_511 kw_0 kw_512) rfl rfl rfl yd_L_lock.2 ⟨(Nat.le_of_ble_eq_true rfl), (Nat.le_of_ble_eq_true rfl)⟩) hP hE hS rfl hl.1 rfl (Nat.le_of_ble_eq_true rfl) dL_law_837 ⟨(by show _ ≤ 601024; omega), (by show _ ≤ 7293034; omega)⟩ (fun v u H locs hp hP hz hS => ?_)
  obtain ⟨rfl, hA1, hk1, ⟨ad2, hR1⟩, f2, ho2, hf2⟩ := hp
  have hRM1 := hRM.kp2 hk1 rfl hA1
  refine W.eq (g2 := F0 m 840 ls [.int (nI (oLock ns S LK (xs (i + 1)) y1 y2 y3 y4).1)]) rfl ?_
  obtain ⟨fK, fH, fF, fB, fO, fW, fV, fN, cO, cF, cH, cV, fS, fC, lO, lA, rA, rB, rD, fM, hM1, hX1⟩ := id hRM1
  refine lv_istore (lv' := [(5, .int (nI (oLock ns S LK (xs (i + 1)) y1 y2 y3 y4).1)), (4, .int (nI i)), (3, .ref oa), (2, .ref ma), (1, .ref xa), (0, .ref b)]) hx hb dL_law_840 hl (by decide) rfl (fun ls hl => ?_)
  refine lv_aload_n hx hb dL_law_842 rfl (lv_at hl 3 rfl) ?_
  refine lv_aload_n hx hb dL_law_843 rfl (lv_at hl 5 rfl) ?_
  refine lv_iload hx hb dL_law_844 (lv_at hl 1 rfl) ?_
  refine lv_iconst (v := (nI 1)) hx hb dL_law_846 (by decide) ?_
  refine lv_iadd hx hb dL_law_847 ?_
  refine lv_topi (fun z9 ez9 => ?_)
  rw [show z9 = nI (i + 1) from ez9.trans (nI_add _ _)]
  refine lw_sld (k := (i + 1)) hx hb hXs hbl hbA hS (by omega) hL dL_law_848 ?_
  refine lv_aload_n hx hb dL_law_849 rfl (lv_at hl 5 rfl) ?_
  refine lv_iload hx hb dL_law_850 (lv_at hl 1 rfl) ?_
  refine lv_iconst (v := (nI 2)) hx hb dL_law_852 (by decide) ?_
  refine lv_iadd hx hb dL_law_853 ?_
  refine lv_topi (fun z9 ez9 => ?_)
  rw [show z9 = nI (i + 2) from ez9.trans (nI_add _ _)]
  refine lw_sld (k := (i + 2)) hx hb hXs hbl hbA hS (by omega) hL dL_law_854 ?_
  refine lv_i2l (v := (xs (i + 2) : Int32).toInt64) hx hb dL_law_855 rfl ?_
  refine lv_bipush (v := (nI 32)) hx hb dL_law_856 (by decide) ?_
  refine lv_lshl (v := ((xs (i + 2) : Int32).toInt64) <<< (((nI 32) : Int32).toInt64 &&& 63)) hx hb dL_law_858 rfl ?_
  refine lv_aload_n hx hb dL_law_859 rfl (lv_at hl 5 rfl) ?_
  refine lv_iload hx hb dL_law_860 (lv_at hl 1 rfl) ?_
  refine lv_iconst (v := (nI 3)) hx hb dL_law_862 (by decide) ?_
  refine lv_iadd hx hb dL_law_863 ?_
  refine lv_topi (fun z9 ez9 => ?_)
  rw [show z9 = nI (i + 3) from ez9.trans (nI_add _ _)]
  refine lw_sld (k := (i + 3)) hx hb hXs hbl hbA hS (by omega) hL dL_law_864 ?_
  refine lv_i2l (v := (xs (i + 3) : Int32).toInt64) hx hb dL_law_865 rfl ?_
  refine lv_ldc2 (v := 4294967295) hx hb hown (ht _ kw_978) dL_law_866 ?_
  refine lv_land hx hb dL_law_869 ?_
  refine lv_lor hx hb dL_law_870 ?_
  refine lv_topl (fun z9 ez9 => ?_)
  rw [show z9 = y1 from ez9.trans ey1.symm]
  refine lv_aload_n hx hb dL_law_871 rfl (lv_at hl 5 rfl) ?_
  refine lv_iload hx hb dL_law_872 (lv_at hl 1 rfl) ?_
  refine lv_iconst (v := (nI 4)) hx hb dL_law_874 (by decide) ?_
  refine lv_iadd hx hb dL_law_875 ?_
  refine lv_topi (fun z9 ez9 => ?_)
  rw [show z9 = nI (i + 4) from ez9.trans (nI_add _ _)]
  refine lw_sld (k := (i + 4)) hx hb hXs hbl hbA hS (by omega) hL dL_law_876 ?_
  refine lv_i2l (v := (xs (i + 4) : Int32).toInt64) hx hb dL_law_877 rfl ?_
  refine lv_bipush (v := (nI 32)) hx hb dL_law_878 (by decide) ?_
  refine lv_lshl (v := ((xs (i + 4) : Int32).toInt64) <<< (((nI 32) : Int32).toInt64 &&& 63)) hx hb dL_law_880 rfl ?_
  refine lv_aload_n hx hb dL_law_881 rfl (lv_at hl 5 rfl) ?_
  refine lv_iload hx hb dL_law_882 (lv_at hl 1 rfl) ?_
  refine lv_iconst (v := (nI 5)) hx hb dL_law_884 (by decide) ?_
  refine lv_iadd hx hb dL_law_885 ?_
  refine lv_topi (fun z9 ez9 => ?_)
  rw [show z9 = nI (i + 5) from ez9.trans (nI_add _ _)]
  refine lw_sld (k := (i + 5)) hx hb hXs hbl hbA hS (by omega) hL dL_law_886 ?_
  refine lv_i2l (v := (xs (i + 5) : Int32).toInt64) hx hb dL_law_887 rfl ?_
  refine lv_ldc2 (v := 4294967295) hx hb hown (ht _ kw_978) dL_law_888 ?_
  refine lv_land hx hb dL_law_891 ?_
  refine lv_lor hx hb dL_law_892 ?_
  refine lv_topl (fun z9 ez9 => ?_)
  rw [show z9 = y2 from ez9.trans ey2.symm]
  refine lv_aload_n hx hb dL_law_893 rfl (lv_at hl 5 rfl) ?_
  refine lv_iload hx hb dL_law_894 (lv_at hl 1 rfl) ?_
  refine lv_bipush (v := (nI 6)) hx hb dL_law_896 (by decide) ?_
  refine lv_iadd hx hb dL_law_898 ?_
  refine lv_topi (fun z9 ez9 => ?_)
  rw [show z9 = nI (i + 6) from ez9.trans (nI_add _ _)]
  refine lw_sld (k := (i + 6)) hx hb hXs hbl hbA hS (by omega) hL dL_law_899 ?_
  refine lv_i2l (v := (xs (i + 6) : Int32).toInt64) hx hb dL_law_900 rfl ?_
  refine lv_bipush (v := (nI 32)) hx hb dL_law_901 (by decide) ?_
  refine lv_lshl (v := ((xs (i + 6) : Int32).toInt64) <<< (((nI 32) : Int32).toInt64 &&& 63)) hx hb dL_law_903 rfl ?_
  refine lv_aload_n hx hb dL_law_904 rfl (lv_at hl 5 rfl) ?_
  refine lv_iload hx hb dL_law_905 (lv_at hl 1 rfl) ?_
  refine lv_bipush (v := (nI 7)) hx hb dL_law_907 (by decide) ?_
  refine lv_iadd hx hb dL_law_909 ?_
  refine lv_topi (fun z9 ez9 => ?_)
  rw [show z9 = nI (i + 7) from ez9.trans (nI_add _ _)]
  refine lw_sld (k := (i + 7)) hx hb hXs hbl hbA hS (by omega) hL dL_law_910 ?_
  refine lv_i2l (v := (xs (i + 7) : Int32).toInt64) hx hb dL_law_911 rfl ?_
  refine lv_ldc2 (v := 4294967295) hx hb hown (ht _ kw_978) dL_law_912 ?_
  refine lv_land hx hb dL_law_915 ?_
  refine lv_lor hx hb dL_law_916 ?_
  refine lv_topl (fun z9 ez9 => ?_)
  rw [show z9 = y3 from ez9.trans ey3.symm]
  refine lv_aload_n hx hb dL_law_917 rfl (lv_at hl 5 rfl) ?_
  refine lv_iload hx hb dL_law_918 (lv_at hl 1 rfl) ?_
  refine lv_bipush (v := (nI 8)) hx hb dL_law_920 (by decide) ?_
  refine lv_iadd hx hb dL_law_922 ?_
  refine lv_topi (fun z9 ez9 => ?_)
  rw [show z9 = nI (i + 8) from ez9.trans (nI_add _ _)]
  refine lw_sld (k := (i + 8)) hx hb hXs hbl hbA hS (by omega) hL dL_law_923 ?_
  refine lv_i2l (v := (xs (i + 8) : Int32).toInt64) hx hb dL_law_924 rfl ?_
  refine lv_bipush (v := (nI 32)) hx hb dL_law_925 (by decide) ?_
  refine lv_lshl (v := ((xs (i + 8) : Int32).toInt64) <<< (((nI 32) : Int32).toInt64 &&& 63)) hx hb dL_law_927 rfl ?_
  refine lv_aload_n hx hb dL_law_928 rfl (lv_at hl 5 rfl) ?_
  refine lv_iload hx hb dL_law_929 (lv_at hl 1 rfl) ?_
  refine lv_bipush (v := (nI 9)) hx hb dL_law_931 (by decide) ?_
  refine lv_iadd hx hb dL_law_933 ?_
  refine lv_topi (fun z9 ez9 => ?_)
  rw [show z9 = nI (i + 9) from ez9.trans (nI_add _ _)]
  refine lw_sld (k := (i + 9)) hx hb hXs hbl hbA hS (by omega) hL dL_law_934 ?_
  refine lv_i2l (v := (xs (i + 9) : Int32).toInt64) hx hb dL_law_935 rfl ?_
  refine lv_ldc2 (v := 4294967295) hx hb hown (ht _ kw_978) dL_law_936 ?_
  refine lv_land hx hb dL_law_939 ?_
  refine lv_lor hx hb dL_law_940 ?_
  refine lv_topl (fun z9 ez9 => ?_)
  rw [show z9 = y4 from ez9.trans ey4.symm]
  refine fh_cV (q := (RX10, TX10, 28)) (As := [.int (xs (i + 1)), .long y1, .long y2, .long y3, .long y4]) (rest := []) (b := ma) ⟨hx, hb, hml, hown, ht⟩ (q_lock l G A u _ ma bb th no nv ns V S LK RL J C M hRM1 hI.bd hI.lk (xs (i + 1)) y1 y2 y3 y4) (cwV 5 ht (gV kw_957 kw_958 kw_959 kw_5 kw_960) rfl rfl rfl yd_X10_lock ⟨(Nat.le_of_ble_eq_true rfl), (Nat.le_of_ble_eq_true rfl)⟩) hP hE hS (MG.m hM1) rfl rfl hl.1 rfl (Nat.le_of_ble_eq_true rfl) dL_law_941 ⟨(by show _ ≤ 601024; omega), (by show _ ≤ 7293034; omega)⟩ (fun v u2 H locs hp hP hz hS => ?_)
  obtain ⟨ans, rfl, ha, hRM2⟩ := hp
  obtain ⟨hk2, hA2, hRM3⟩ := hRM2.re
  have hR2 := hR1.kpN hk2 rfl
  have ho3 := hk2 _ _ ho2 rfl
  refine W.eq (g2 := F0 m 944 ls [.int ans]) rfl ?_
  obtain ⟨fK3, fH3, fF3, fB3, fO3, fW3, fV3, fN3, cO3, cF3, cH3, cV3, fS3, fC3, lO3, lA3, rA3, rB3, rD3, fM3, hM3, hX3⟩ := id hRM3
  refine lv_istore (lv' := [(6, .int ans), (5, .int (nI (oLock ns S LK (xs (i + 1)) y1 y2 y3 y4).1)), (4, .int (nI i)), (3, .ref oa), (2, .ref ma), (1, .ref xa), (0, .ref b)]) hx hb dL_law_944 hl (by decide) rfl (fun ls hl => ?_)
  refine lv_aload_n hx hb dL_law_946 rfl (lv_at hl 4 rfl) ?_
  refine fh_cV (q := (RX10, TX10, 28)) (As := []) (rest := []) (b := ma) ⟨hx, hb, hml, hown, ht⟩ (m_thrown l G A u2 _ hM3) (cwV 0 ht (gV kw_776 kw_777 kw_778 kw_5 kw_779) rfl rfl rfl yd_X10_thrown ⟨(Nat.le_of_ble_eq_true rfl), (Nat.le_of_ble_eq_true rfl)⟩) hP hE hS (MG.m hM3) rfl rfl hl.1 rfl (Nat.le_of_ble_eq_true rfl) dL_law_947 ⟨(by show _ ≤ 601024; omega), (by show _ ≤ 7293034; omega)⟩ (fun v u H locs hp hP hz hS => ?_)
  obtain ⟨rfl, eu⟩ := hp
  rw [eu] at hP
  refine W.eq (g2 := F0 m 950 ls [.int (nI (oLock ns S LK (xs (i + 1)) y1 y2 y3 y4).1)]) rfl ?_
  refine lv_iload hx hb dL_law_950 (lv_at hl 1 rfl) ?_
  refine lv_icmp_eq (tgt := 957) hx hb dL_law_952 (by decide) (fun _ => ?_) (fun c9 => absurd (rfl) c9)
  refine lv_iload hx hb dL_law_957 (lv_at hl 1 rfl) ?_
  have hle := oLock_le ns S LK (xs (i + 1)) y1 y2 y3 y4
  refine lv_if_ne (tgt := 981) hx hb dL_law_959 (by decide) (fun c1 => ?_) (fun c1 => ?_)
  · refine lv_goto (tgt := 1551) hx hb dL_law_981 (by decide) ?_
    refine W.widen (k := cells + 940) (n := slots + 3900) (by omega) (by omega) ?_
    exact k _ _ _ _ ⟨_, _, _, _, _, _, _, _, _, _, _, _, f2, hA2, hR2.mono (by omega), hRM3, (hI.lock (xs (i + 1)) y1 y2 y3 y4), ho3⟩ hP hS (lv_sub hl [2, 3, 4, 5, 6] rfl)
  · have e0 : (oLock ns S LK (xs (i + 1)) y1 y2 y3 y4).1 = 0 := (nI_eq (by omega) (by decide)).mp c1
    refine lv_aload_n hx hb dL_law_962 rfl (lv_at hl 3 rfl) ?_
    refine lv_iconst (v := (nI 0)) hx hb dL_law_963 (by decide) ?_
    refine fh_lald (k := 0) hx hb hE.1 hP ho3 rfl (by decide) (by decide) dL_law_964 ?_
    refine lv_iload hx hb dL_law_965 (lv_at hl 0 rfl) ?_
    have ha0 := ha e0
    have hf0 := hf2 e0
    generalize (oLock ns S LK (xs (i + 1)) y1 y2 y3 y4).2.1 = bv at ha0 hf0
    cases bv with
    | false =>
      refine lv_if_eq (tgt := 974) hx hb dL_law_967 (by decide) (fun _ => ?_) (fun c9 => absurd (ha0) c9)
      refine lv_lconst (v := 0) hx hb dL_law_974 (by decide) ?_
      refine W.lcmp hx hb dL_law_975 ?_
      refine lv_if_eq (tgt := 981) hx hb dL_law_976 (by decide) (fun _ => ?_) (fun c9 => absurd ((lg_cmp_eq _ _).mpr hf0) c9)
      refine lv_goto (tgt := 1551) hx hb dL_law_981 (by decide) ?_
      refine W.widen (k := cells + 940) (n := slots + 3900) (by omega) (by omega) ?_
      exact k _ _ _ _ ⟨_, _, _, _, _, _, _, _, _, _, _, _, f2, hA2, hR2.mono (by omega), hRM3, (hI.lock (xs (i + 1)) y1 y2 y3 y4), ho3⟩ hP hS (lv_sub hl [2, 3, 4, 5, 6] rfl)
    | true =>
      refine lv_if_eq (tgt := 974) hx hb dL_law_967 (by decide) (fun c9 => absurd c9 (fun z8 => absurd (ha0.symm.trans z8) (by decide))) (fun _ => ?_)
      refine lv_lconst (v := 1) hx hb dL_law_970 (by decide) ?_
      refine lv_goto (tgt := 975) hx hb dL_law_971 (by decide) ?_
      refine W.lcmp hx hb dL_law_975 ?_
      refine lv_if_eq (tgt := 981) hx hb dL_law_976 (by decide) (fun _ => ?_) (fun c9 => absurd ((lg_cmp_eq _ _).mpr hf0) c9)
      refine lv_goto (tgt := 1551) hx hb dL_law_981 (by decide) ?_
      refine W.widen (k := cells + 940) (n := slots + 3900) (by omega) (by omega) ?_
      exact k _ _ _ _ ⟨_, _, _, _, _, _, _, _, _, _, _, _, f2, hA2, hR2.mono (by omega), hRM3, (hI.lock (xs (i + 1)) y1 y2 y3 y4), ho3⟩ hP hS (lv_sub hl [2, 3, 4, 5, 6] rfl)

set_option maxRecDepth 100000 in
set_option maxHeartbeats 4000000 in
theorem lc_apart {p : Program} {l : Launch} {e : Env} {s : State} {m : MethodId} {below : List Frame} {meth : Method} {c : Code} {b L : Nat} {xs : Nat → Int32} {G : fG} {A : Nat → Prop} (hst : l.stackTraces = false) (hA : ∀ q, s.heap.size ≤ q → A q) (hx : p.tables.exec = Jvm.exec) (hb : c.code = code) (hml : c.maxLocals = 8) (hown : s.vm.findClass "ObjectMergeLaw" = some m.cls) (ht : ∀ w ∈ wB, w.before #[Value.ref b] s = true) (hE : fh_Env G A s s.heap) (hXs : va_X b L xs s s.heap) (hbl : b < s.heap.size) (hbA : ¬ A b) (hL : L ≤ 5120) {xa ma oa : Nat} {bb : Nat → Nat} (i : Nat) (hi : i + 10 ≤ L) {H : Heap} {locs : List Loc} {ls : Array Slot} {cells slots : Nat} (hcs : cells + 940 ≤ 601024) (hss : slots + 3900 ≤ 7293034) {Kq : Nat} (hK8 : Kq < 900000) {h : FH} (hs : LawSt Kq A h xa ma oa bb) (hP : fh_P G vwCl h H) (hS : va_S A s.heap H locs) (hl : lv_has ls 8 [(4, .int (nI i)), (3, .ref oa), (2, .ref ma), (1, .ref xa), (0, .ref b)]) {Q : State → Prop} (k : ∀ (u : FH) (H : Heap) (locs : List Loc) (ls : Array Slot), LawSt (Kq + 100) A u xa ma oa bb → fh_P G vwCl u H → va_S A s.heap H locs → lv_has ls 8 [(4, .int (nI i)), (3, .ref oa), (2, .ref ma), (1, .ref xa), (0, .ref b)] → W p l e room_1 s m #[Value.ref b] below meth c H locs (cells + 940) (slots + 3900) Q (F0 m 1551 ls [])) : W p l e room_1 s m #[Value.ref b] below meth c H locs cells slots Q (F0 m 984 ls []) := by
  obtain ⟨ad, th, no, nv, ns, V, S, LK, RL, J, C, M, f0, hAh, hR, hRM, hI, ho⟩ := hs
  have hX := hR.1
  have hA9 : ∀ q, H.size ≤ q → A q := fun q hq => hA q (Nat.le_trans hS.1 hq)
  refine lv_aload_n hx hb dL_law_984 rfl (lv_at hl 3 rfl) ?_
  refine lv_aload_n hx hb dL_law_985 rfl (lv_at hl 4 rfl) ?_
  refine lv_iload hx hb dL_law_986 (lv_at hl 0 rfl) ?_
  refine lv_iconst (v := (nI 1)) hx hb dL_law_988 (by decide) ?_
  refine lv_iadd hx hb dL_law_989 ?_
  refine lv_topi (fun z9 ez9 => ?_)
  rw [show z9 = nI (i + 1) from ez9.trans (nI_add _ _)]
  refine lw_sld (k := (i + 1)) hx hb hXs hbl hbA hS (by omega) hL dL_law_990 ?_
  refine lv_aload_n hx hb dL_law_991 rfl (lv_at hl 4 rfl) ?_
  refine lv_iload hx hb dL_law_992 (lv_at hl 0 rfl) ?_
  refine lv_iconst (v := (nI 2)) hx hb dL_law_994 (by decide) ?_
  refine lv_iadd hx hb dL_law_995 ?_
  refine lv_topi (fun z9 ez9 => ?_)
  rw [show z9 = nI (i + 2) from ez9.trans (nI_add _ _)]
  refine lw_sld (k := (i + 2)) hx hb hXs hbl hbA hS (by omega) hL dL_law_996 ?_
  refine lv_aload_n hx hb dL_law_997 rfl (lv_at hl 4 rfl) ?_
  refine lv_iload hx hb dL_law_998 (lv_at hl 0 rfl) ?_
  refine lv_iconst (v := (nI 3)) hx hb dL_law_1000 (by decide) ?_
  refine lv_iadd hx hb dL_law_1001 ?_
  refine lv_topi (fun z9 ez9 => ?_)
  rw [show z9 = nI (i + 3) from ez9.trans (nI_add _ _)]
  refine lw_sld (k := (i + 3)) hx hb hXs hbl hbA hS (by omega) hL dL_law_1002 ?_
  refine lv_i2l (v := (xs (i + 3) : Int32).toInt64) hx hb dL_law_1003 rfl ?_
  refine lv_bipush (v := (nI 32)) hx hb dL_law_1004 (by decide) ?_
  refine lv_lshl (v := ((xs (i + 3) : Int32).toInt64) <<< (((nI 32) : Int32).toInt64 &&& 63)) hx hb dL_law_1006 rfl ?_
  refine lv_aload_n hx hb dL_law_1007 rfl (lv_at hl 4 rfl) ?_
  refine lv_iload hx hb dL_law_1008 (lv_at hl 0 rfl) ?_
  refine lv_iconst (v := (nI 4)) hx hb dL_law_1010 (by decide) ?_
  refine lv_iadd hx hb dL_law_1011 ?_
  refine lv_topi (fun z9 ez9 => ?_)
  rw [show z9 = nI (i + 4) from ez9.trans (nI_add _ _)]
  refine lw_sld (k := (i + 4)) hx hb hXs hbl hbA hS (by omega) hL dL_law_1012 ?_
  refine lv_i2l (v := (xs (i + 4) : Int32).toInt64) hx hb dL_law_1013 rfl ?_
  refine lv_ldc2 (v := 4294967295) hx hb hown (ht _ kw_978) dL_law_1014 ?_
  refine lv_land hx hb dL_law_1017 ?_
  refine lv_lor hx hb dL_law_1018 ?_
  refine lv_topl (fun y1 ey1 => ?_)
  refine lv_aload_n hx hb dL_law_1019 rfl (lv_at hl 1 rfl) ?_
  refine fh_cSW (As := [.ref xa, .int (xs (i + 1)), .int (xs (i + 2)), .long y1, .ref oa]) (rest := []) ⟨hx, hb, hml, hown, ht⟩ (w_apart l G A h _ hst hA9 hAh xa ad no nv ns V S LK RL J C M hR hI.bd hK8 (xs (i + 1)) (xs (i + 2)) y1 oa f0 ho) (vx_cwSW 5 ht (gS kw_548 kw_549 kw_0 kw_550) rfl rfl rfl yd_L_apart.2 ⟨(Nat.le_of_ble_eq_true rfl), (Nat.le_of_ble_eq_true rfl)⟩) hP hE hS rfl hl.1 rfl (Nat.le_of_ble_eq_true rfl) dL_law_1020 ⟨(by show _ ≤ 601024; omega), (by show _ ≤ 7293034; omega)⟩ (fun v u H locs hp hP hz hS => ?_)
  obtain ⟨rfl, hA1, hk1, ⟨ad2, hR1⟩, f2, ho2, hf2⟩ := hp
  have hRM1 := hRM.kp2 hk1 rfl hA1
  refine W.eq (g2 := F0 m 1023 ls [.int (nI (oApart no RL (xs (i + 1)) (xs (i + 2)) y1).1)]) rfl ?_
  obtain ⟨fK, fH, fF, fB, fO, fW, fV, fN, cO, cF, cH, cV, fS, fC, lO, lA, rA, rB, rD, fM, hM1, hX1⟩ := id hRM1
  refine lv_istore (lv' := [(5, .int (nI (oApart no RL (xs (i + 1)) (xs (i + 2)) y1).1)), (4, .int (nI i)), (3, .ref oa), (2, .ref ma), (1, .ref xa), (0, .ref b)]) hx hb dL_law_1023 hl (by decide) rfl (fun ls hl => ?_)
  refine lv_aload_n hx hb dL_law_1025 rfl (lv_at hl 3 rfl) ?_
  refine lv_aload_n hx hb dL_law_1026 rfl (lv_at hl 5 rfl) ?_
  refine lv_iload hx hb dL_law_1027 (lv_at hl 1 rfl) ?_
  refine lv_iconst (v := (nI 1)) hx hb dL_law_1029 (by decide) ?_
  refine lv_iadd hx hb dL_law_1030 ?_
  refine lv_topi (fun z9 ez9 => ?_)
  rw [show z9 = nI (i + 1) from ez9.trans (nI_add _ _)]
  refine lw_sld (k := (i + 1)) hx hb hXs hbl hbA hS (by omega) hL dL_law_1031 ?_
  refine lv_aload_n hx hb dL_law_1032 rfl (lv_at hl 5 rfl) ?_
  refine lv_iload hx hb dL_law_1033 (lv_at hl 1 rfl) ?_
  refine lv_iconst (v := (nI 2)) hx hb dL_law_1035 (by decide) ?_
  refine lv_iadd hx hb dL_law_1036 ?_
  refine lv_topi (fun z9 ez9 => ?_)
  rw [show z9 = nI (i + 2) from ez9.trans (nI_add _ _)]
  refine lw_sld (k := (i + 2)) hx hb hXs hbl hbA hS (by omega) hL dL_law_1037 ?_
  refine lv_aload_n hx hb dL_law_1038 rfl (lv_at hl 5 rfl) ?_
  refine lv_iload hx hb dL_law_1039 (lv_at hl 1 rfl) ?_
  refine lv_iconst (v := (nI 3)) hx hb dL_law_1041 (by decide) ?_
  refine lv_iadd hx hb dL_law_1042 ?_
  refine lv_topi (fun z9 ez9 => ?_)
  rw [show z9 = nI (i + 3) from ez9.trans (nI_add _ _)]
  refine lw_sld (k := (i + 3)) hx hb hXs hbl hbA hS (by omega) hL dL_law_1043 ?_
  refine lv_i2l (v := (xs (i + 3) : Int32).toInt64) hx hb dL_law_1044 rfl ?_
  refine lv_bipush (v := (nI 32)) hx hb dL_law_1045 (by decide) ?_
  refine lv_lshl (v := ((xs (i + 3) : Int32).toInt64) <<< (((nI 32) : Int32).toInt64 &&& 63)) hx hb dL_law_1047 rfl ?_
  refine lv_aload_n hx hb dL_law_1048 rfl (lv_at hl 5 rfl) ?_
  refine lv_iload hx hb dL_law_1049 (lv_at hl 1 rfl) ?_
  refine lv_iconst (v := (nI 4)) hx hb dL_law_1051 (by decide) ?_
  refine lv_iadd hx hb dL_law_1052 ?_
  refine lv_topi (fun z9 ez9 => ?_)
  rw [show z9 = nI (i + 4) from ez9.trans (nI_add _ _)]
  refine lw_sld (k := (i + 4)) hx hb hXs hbl hbA hS (by omega) hL dL_law_1053 ?_
  refine lv_i2l (v := (xs (i + 4) : Int32).toInt64) hx hb dL_law_1054 rfl ?_
  refine lv_ldc2 (v := 4294967295) hx hb hown (ht _ kw_978) dL_law_1055 ?_
  refine lv_land hx hb dL_law_1058 ?_
  refine lv_lor hx hb dL_law_1059 ?_
  refine lv_topl (fun z9 ez9 => ?_)
  rw [show z9 = y1 from ez9.trans ey1.symm]
  refine fh_cV (q := (RX10, TX10, 28)) (As := [.int (xs (i + 1)), .int (xs (i + 2)), .long y1]) (rest := []) (b := ma) ⟨hx, hb, hml, hown, ht⟩ (q_apart l G A u _ ma bb th no nv ns V S LK RL J C M hRM1 hI.bd hI.lk (xs (i + 1)) (xs (i + 2)) y1) (cwV 3 ht (gV kw_961 kw_962 kw_963 kw_5 kw_964) rfl rfl rfl yd_X10_apart ⟨(Nat.le_of_ble_eq_true rfl), (Nat.le_of_ble_eq_true rfl)⟩) hP hE hS (MG.m hM1) rfl rfl hl.1 rfl (Nat.le_of_ble_eq_true rfl) dL_law_1060 ⟨(by show _ ≤ 601024; omega), (by show _ ≤ 7293034; omega)⟩ (fun v u2 H locs hp hP hz hS => ?_)
  obtain ⟨ans, rfl, ha, hRM2⟩ := hp
  obtain ⟨hk2, hA2, hRM3⟩ := hRM2.re
  have hR2 := hR1.kpN hk2 rfl
  have ho3 := hk2 _ _ ho2 rfl
  refine W.eq (g2 := F0 m 1063 ls [.int ans]) rfl ?_
  obtain ⟨fK3, fH3, fF3, fB3, fO3, fW3, fV3, fN3, cO3, cF3, cH3, cV3, fS3, fC3, lO3, lA3, rA3, rB3, rD3, fM3, hM3, hX3⟩ := id hRM3
  refine lv_istore (lv' := [(6, .int ans), (5, .int (nI (oApart no RL (xs (i + 1)) (xs (i + 2)) y1).1)), (4, .int (nI i)), (3, .ref oa), (2, .ref ma), (1, .ref xa), (0, .ref b)]) hx hb dL_law_1063 hl (by decide) rfl (fun ls hl => ?_)
  refine lv_aload_n hx hb dL_law_1065 rfl (lv_at hl 4 rfl) ?_
  refine fh_cV (q := (RX10, TX10, 28)) (As := []) (rest := []) (b := ma) ⟨hx, hb, hml, hown, ht⟩ (m_thrown l G A u2 _ hM3) (cwV 0 ht (gV kw_776 kw_777 kw_778 kw_5 kw_779) rfl rfl rfl yd_X10_thrown ⟨(Nat.le_of_ble_eq_true rfl), (Nat.le_of_ble_eq_true rfl)⟩) hP hE hS (MG.m hM3) rfl rfl hl.1 rfl (Nat.le_of_ble_eq_true rfl) dL_law_1066 ⟨(by show _ ≤ 601024; omega), (by show _ ≤ 7293034; omega)⟩ (fun v u H locs hp hP hz hS => ?_)
  obtain ⟨rfl, eu⟩ := hp
  rw [eu] at hP
  refine W.eq (g2 := F0 m 1069 ls [.int (nI (oApart no RL (xs (i + 1)) (xs (i + 2)) y1).1)]) rfl ?_
  refine lv_iload hx hb dL_law_1069 (lv_at hl 1 rfl) ?_
  refine lv_icmp_eq (tgt := 1076) hx hb dL_law_1071 (by decide) (fun _ => ?_) (fun c9 => absurd (rfl) c9)
  refine lv_iload hx hb dL_law_1076 (lv_at hl 1 rfl) ?_
  have hle := oApart_le no RL (xs (i + 1)) (xs (i + 2)) y1
  refine lv_if_ne (tgt := 1100) hx hb dL_law_1078 (by decide) (fun c1 => ?_) (fun c1 => ?_)
  · refine lv_goto (tgt := 1551) hx hb dL_law_1100 (by decide) ?_
    refine W.widen (k := cells + 940) (n := slots + 3900) (by omega) (by omega) ?_
    exact k _ _ _ _ ⟨_, _, _, _, _, _, _, _, _, _, _, _, f2, hA2, hR2.mono (by omega), hRM3, (hI.apart (xs (i + 1)) (xs (i + 2)) y1), ho3⟩ hP hS (lv_sub hl [2, 3, 4, 5, 6] rfl)
  · have e0 : (oApart no RL (xs (i + 1)) (xs (i + 2)) y1).1 = 0 := (nI_eq (by omega) (by decide)).mp c1
    refine lv_aload_n hx hb dL_law_1081 rfl (lv_at hl 3 rfl) ?_
    refine lv_iconst (v := (nI 0)) hx hb dL_law_1082 (by decide) ?_
    refine fh_lald (k := 0) hx hb hE.1 hP ho3 rfl (by decide) (by decide) dL_law_1083 ?_
    refine lv_iload hx hb dL_law_1084 (lv_at hl 0 rfl) ?_
    have ha0 := ha e0
    have hf0 := hf2 e0
    generalize (oApart no RL (xs (i + 1)) (xs (i + 2)) y1).2.1 = bv at ha0 hf0
    cases bv with
    | false =>
      refine lv_if_eq (tgt := 1093) hx hb dL_law_1086 (by decide) (fun _ => ?_) (fun c9 => absurd (ha0) c9)
      refine lv_lconst (v := 0) hx hb dL_law_1093 (by decide) ?_
      refine W.lcmp hx hb dL_law_1094 ?_
      refine lv_if_eq (tgt := 1100) hx hb dL_law_1095 (by decide) (fun _ => ?_) (fun c9 => absurd ((lg_cmp_eq _ _).mpr hf0) c9)
      refine lv_goto (tgt := 1551) hx hb dL_law_1100 (by decide) ?_
      refine W.widen (k := cells + 940) (n := slots + 3900) (by omega) (by omega) ?_
      exact k _ _ _ _ ⟨_, _, _, _, _, _, _, _, _, _, _, _, f2, hA2, hR2.mono (by omega), hRM3, (hI.apart (xs (i + 1)) (xs (i + 2)) y1), ho3⟩ hP hS (lv_sub hl [2, 3, 4, 5, 6] rfl)
    | true =>
      refine lv_if_eq (tgt := 1093) hx hb dL_law_1086 (by decide) (fun c9 => absurd c9 (fun z8 => absurd (ha0.symm.trans z8) (by decide))) (fun _ => ?_)
      refine lv_lconst (v := 1) hx hb dL_law_1089 (by decide) ?_
      refine lv_goto (tgt := 1094) hx hb dL_law_1090 (by decide) ?_
      refine W.lcmp hx hb dL_law_1094 ?_
      refine lv_if_eq (tgt := 1100) hx hb dL_law_1095 (by decide) (fun _ => ?_) (fun c9 => absurd ((lg_cmp_eq _ _).mpr hf0) c9)
      refine lv_goto (tgt := 1551) hx hb dL_law_1100 (by decide) ?_
      refine W.widen (k := cells + 940) (n := slots + 3900) (by omega) (by omega) ?_
      exact k _ _ _ _ ⟨_, _, _, _, _, _, _, _, _, _, _, _, f2, hA2, hR2.mono (by omega), hRM3, (hI.apart (xs (i + 1)) (xs (i + 2)) y1), ho3⟩ hP hS (lv_sub hl [2, 3, 4, 5, 6] rfl)

set_option maxRecDepth 100000 in
set_option maxHeartbeats 4000000 in
theorem lc_violation {p : Program} {l : Launch} {e : Env} {s : State} {m : MethodId} {below : List Frame} {meth : Method} {c : Code} {b L : Nat} {xs : Nat → Int32} {G : fG} {A : Nat → Prop} (hst : l.stackTraces = false) (hA : ∀ q, s.heap.size ≤ q → A q) (hx : p.tables.exec = Jvm.exec) (hb : c.code = code) (hml : c.maxLocals = 8) (hown : s.vm.findClass "ObjectMergeLaw" = some m.cls) (ht : ∀ w ∈ wB, w.before #[Value.ref b] s = true) (hE : fh_Env G A s s.heap) (hXs : va_X b L xs s s.heap) (hbl : b < s.heap.size) (hbA : ¬ A b) (hL : L ≤ 5120) {xa ma oa : Nat} {bb : Nat → Nat} (i : Nat) (hi : i + 10 ≤ L) {H : Heap} {locs : List Loc} {ls : Array Slot} {cells slots : Nat} (hcs : cells + 940 ≤ 601024) (hss : slots + 3900 ≤ 7293034) {Kq : Nat} (hK8 : Kq < 900000) {h : FH} (hs : LawSt Kq A h xa ma oa bb) (hP : fh_P G vwCl h H) (hS : va_S A s.heap H locs) (hl : lv_has ls 8 [(4, .int (nI i)), (3, .ref oa), (2, .ref ma), (1, .ref xa), (0, .ref b)]) {Q : State → Prop} (k : ∀ (u : FH) (H : Heap) (locs : List Loc) (ls : Array Slot), LawSt (Kq + 100) A u xa ma oa bb → fh_P G vwCl u H → va_S A s.heap H locs → lv_has ls 8 [(4, .int (nI i)), (3, .ref oa), (2, .ref ma), (1, .ref xa), (0, .ref b)] → W p l e room_1 s m #[Value.ref b] below meth c H locs (cells + 940) (slots + 3900) Q (F0 m 1551 ls [])) : W p l e room_1 s m #[Value.ref b] below meth c H locs cells slots Q (F0 m 1103 ls []) := by
  obtain ⟨ad, th, no, nv, ns, V, S, LK, RL, J, C, M, f0, hAh, hR, hRM, hI, ho⟩ := hs
  have hX := hR.1
  have hA9 : ∀ q, H.size ≤ q → A q := fun q hq => hA q (Nat.le_trans hS.1 hq)
  refine lv_aload_n hx hb dL_law_1103 rfl (lv_at hl 3 rfl) ?_
  refine lv_aload_n hx hb dL_law_1104 rfl (lv_at hl 4 rfl) ?_
  refine lv_iload hx hb dL_law_1105 (lv_at hl 0 rfl) ?_
  refine lv_iconst (v := (nI 1)) hx hb dL_law_1107 (by decide) ?_
  refine lv_iadd hx hb dL_law_1108 ?_
  refine lv_topi (fun z9 ez9 => ?_)
  rw [show z9 = nI (i + 1) from ez9.trans (nI_add _ _)]
  refine lw_sld (k := (i + 1)) hx hb hXs hbl hbA hS (by omega) hL dL_law_1109 ?_
  refine lv_aload_n hx hb dL_law_1110 rfl (lv_at hl 4 rfl) ?_
  refine lv_iload hx hb dL_law_1111 (lv_at hl 0 rfl) ?_
  refine lv_iconst (v := (nI 2)) hx hb dL_law_1113 (by decide) ?_
  refine lv_iadd hx hb dL_law_1114 ?_
  refine lv_topi (fun z9 ez9 => ?_)
  rw [show z9 = nI (i + 2) from ez9.trans (nI_add _ _)]
  refine lw_sld (k := (i + 2)) hx hb hXs hbl hbA hS (by omega) hL dL_law_1115 ?_
  refine lv_aload_n hx hb dL_law_1116 rfl (lv_at hl 1 rfl) ?_
  refine fh_cSW (As := [.ref xa, .int (xs (i + 1)), .int (xs (i + 2)), .ref oa]) (rest := []) ⟨hx, hb, hml, hown, ht⟩ (w_violation l G A h _ hst hA9 hAh xa ad no nv ns V S LK RL J C M hR hI.bd hK8 (xs (i + 1)) (xs (i + 2)) oa f0 ho) (vx_cwSW 4 ht (gS kw_574 kw_575 kw_0 kw_576) rfl rfl rfl yd_L_violation.2 ⟨(Nat.le_of_ble_eq_true rfl), (Nat.le_of_ble_eq_true rfl)⟩) hP hE hS rfl hl.1 rfl (Nat.le_of_ble_eq_true rfl) dL_law_1117 ⟨(by show _ ≤ 601024; omega), (by show _ ≤ 7293034; omega)⟩ (fun v u H locs hp hP hz hS => ?_)
  obtain ⟨rfl, hA1, hk1, ⟨ad2, hR1⟩, f2, ho2, hf2⟩ := hp
  have hRM1 := hRM.kp2 hk1 rfl hA1
  refine W.eq (g2 := F0 m 1120 ls [.int (nI (oViol RL (V (nv - 1)) (xs (i + 1)) (xs (i + 2))).1)]) rfl ?_
  obtain ⟨fK, fH, fF, fB, fO, fW, fV, fN, cO, cF, cH, cV, fS, fC, lO, lA, rA, rB, rD, fM, hM1, hX1⟩ := id hRM1
  refine lv_istore (lv' := [(5, .int (nI (oViol RL (V (nv - 1)) (xs (i + 1)) (xs (i + 2))).1)), (4, .int (nI i)), (3, .ref oa), (2, .ref ma), (1, .ref xa), (0, .ref b)]) hx hb dL_law_1120 hl (by decide) rfl (fun ls hl => ?_)
  refine lv_aload_n hx hb dL_law_1122 rfl (lv_at hl 3 rfl) ?_
  refine lv_aload_n hx hb dL_law_1123 rfl (lv_at hl 5 rfl) ?_
  refine lv_iload hx hb dL_law_1124 (lv_at hl 1 rfl) ?_
  refine lv_iconst (v := (nI 1)) hx hb dL_law_1126 (by decide) ?_
  refine lv_iadd hx hb dL_law_1127 ?_
  refine lv_topi (fun z9 ez9 => ?_)
  rw [show z9 = nI (i + 1) from ez9.trans (nI_add _ _)]
  refine lw_sld (k := (i + 1)) hx hb hXs hbl hbA hS (by omega) hL dL_law_1128 ?_
  refine lv_aload_n hx hb dL_law_1129 rfl (lv_at hl 5 rfl) ?_
  refine lv_iload hx hb dL_law_1130 (lv_at hl 1 rfl) ?_
  refine lv_iconst (v := (nI 2)) hx hb dL_law_1132 (by decide) ?_
  refine lv_iadd hx hb dL_law_1133 ?_
  refine lv_topi (fun z9 ez9 => ?_)
  rw [show z9 = nI (i + 2) from ez9.trans (nI_add _ _)]
  refine lw_sld (k := (i + 2)) hx hb hXs hbl hbA hS (by omega) hL dL_law_1134 ?_
  refine fh_cV (q := (RX10, TX10, 28)) (As := [.int (xs (i + 1)), .int (xs (i + 2))]) (rest := []) (b := ma) ⟨hx, hb, hml, hown, ht⟩ (q_violation l G A u _ ma bb th no nv ns V S LK RL J C M hRM1 hI.bd hI.lk hI.rl (xs (i + 1)) (xs (i + 2))) (cwV 2 ht (gV kw_966 kw_967 kw_968 kw_5 kw_969) rfl rfl rfl yd_X10_violation ⟨(Nat.le_of_ble_eq_true rfl), (Nat.le_of_ble_eq_true rfl)⟩) hP hE hS (MG.m hM1) rfl rfl hl.1 rfl (Nat.le_of_ble_eq_true rfl) dL_law_1135 ⟨(by show _ ≤ 601024; omega), (by show _ ≤ 7293034; omega)⟩ (fun v u2 H locs hp hP hz hS => ?_)
  obtain ⟨ans, rfl, ha, hRM2⟩ := hp
  obtain ⟨hk2, hA2, hRM3⟩ := hRM2.re
  have hR2 := hR1.kpN hk2 rfl
  have ho3 := hk2 _ _ ho2 rfl
  refine W.eq (g2 := F0 m 1138 ls [.int ans]) rfl ?_
  obtain ⟨fK3, fH3, fF3, fB3, fO3, fW3, fV3, fN3, cO3, cF3, cH3, cV3, fS3, fC3, lO3, lA3, rA3, rB3, rD3, fM3, hM3, hX3⟩ := id hRM3
  refine lv_istore (lv' := [(6, .int ans), (5, .int (nI (oViol RL (V (nv - 1)) (xs (i + 1)) (xs (i + 2))).1)), (4, .int (nI i)), (3, .ref oa), (2, .ref ma), (1, .ref xa), (0, .ref b)]) hx hb dL_law_1138 hl (by decide) rfl (fun ls hl => ?_)
  refine lv_aload_n hx hb dL_law_1140 rfl (lv_at hl 4 rfl) ?_
  refine fh_cV (q := (RX10, TX10, 28)) (As := []) (rest := []) (b := ma) ⟨hx, hb, hml, hown, ht⟩ (m_thrown l G A u2 _ hM3) (cwV 0 ht (gV kw_776 kw_777 kw_778 kw_5 kw_779) rfl rfl rfl yd_X10_thrown ⟨(Nat.le_of_ble_eq_true rfl), (Nat.le_of_ble_eq_true rfl)⟩) hP hE hS (MG.m hM3) rfl rfl hl.1 rfl (Nat.le_of_ble_eq_true rfl) dL_law_1141 ⟨(by show _ ≤ 601024; omega), (by show _ ≤ 7293034; omega)⟩ (fun v u H locs hp hP hz hS => ?_)
  obtain ⟨rfl, eu⟩ := hp
  rw [eu] at hP
  refine W.eq (g2 := F0 m 1144 ls [.int (nI (oViol RL (V (nv - 1)) (xs (i + 1)) (xs (i + 2))).1)]) rfl ?_
  refine lv_iload hx hb dL_law_1144 (lv_at hl 1 rfl) ?_
  refine lv_icmp_eq (tgt := 1151) hx hb dL_law_1146 (by decide) (fun _ => ?_) (fun c9 => absurd (rfl) c9)
  refine lv_iload hx hb dL_law_1151 (lv_at hl 1 rfl) ?_
  have hle := oViol_le RL (V (nv - 1)) (xs (i + 1)) (xs (i + 2))
  refine lv_if_ne (tgt := 1168) hx hb dL_law_1153 (by decide) (fun c1 => ?_) (fun c1 => ?_)
  · refine lv_goto (tgt := 1551) hx hb dL_law_1168 (by decide) ?_
    refine W.widen (k := cells + 940) (n := slots + 3900) (by omega) (by omega) ?_
    exact k _ _ _ _ ⟨_, _, _, _, _, _, _, _, _, _, _, _, f2, hA2, hR2.mono (by omega), hRM3, (hI), ho3⟩ hP hS (lv_sub hl [2, 3, 4, 5, 6] rfl)
  · have e0 : (oViol RL (V (nv - 1)) (xs (i + 1)) (xs (i + 2))).1 = 0 := (nI_eq (by omega) (by decide)).mp c1
    refine lv_aload_n hx hb dL_law_1156 rfl (lv_at hl 3 rfl) ?_
    refine lv_iconst (v := (nI 0)) hx hb dL_law_1157 (by decide) ?_
    refine fh_lald (k := 0) hx hb hE.1 hP ho3 rfl (by decide) (by decide) dL_law_1158 ?_
    refine lv_iload hx hb dL_law_1159 (lv_at hl 0 rfl) ?_
    refine lv_i2l (v := (ans : Int32).toInt64) hx hb dL_law_1161 rfl ?_
    refine W.lcmp hx hb dL_law_1162 ?_
    refine lv_if_eq (tgt := 1168) hx hb dL_law_1163 (by decide) (fun _ => ?_) (fun c9 => absurd ((lg_cmp_eq _ _).mpr (by rw [hf2 e0, ha e0])) c9)
    refine lv_goto (tgt := 1551) hx hb dL_law_1168 (by decide) ?_
    refine W.widen (k := cells + 940) (n := slots + 3900) (by omega) (by omega) ?_
    exact k _ _ _ _ ⟨_, _, _, _, _, _, _, _, _, _, _, _, f2, hA2, hR2.mono (by omega), hRM3, (hI), ho3⟩ hP hS (lv_sub hl [2, 3, 4, 5, 6] rfl)
