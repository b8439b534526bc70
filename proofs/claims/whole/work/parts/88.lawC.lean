set_option maxRecDepth 100000 in
set_option maxHeartbeats 4000000 in
theorem lc_version {p : Program} {l : Launch} {e : Env} {s : State} {m : MethodId} {below : List Frame} {meth : Method} {c : Code} {b L : Nat} {xs : Nat → Int32} {G : fG} {A : Nat → Prop} (hst : l.stackTraces = false) (hA : ∀ q, s.heap.size ≤ q → A q) (hx : p.tables.exec = Jvm.exec) (hb : c.code = code) (hml : c.maxLocals = 8) (hown : s.vm.findClass "ObjectMergeLaw" = some m.cls) (ht : ∀ w ∈ wB, w.before #[Value.ref b] s = true) (hE : fh_Env G A s s.heap) (hXs : va_X b L xs s s.heap) (hbl : b < s.heap.size) (hbA : ¬ A b) (hL : L ≤ 5120) {xa ma oa : Nat} {bb : Nat → Nat} (i : Nat) (hi : i + 10 ≤ L) {H : Heap} {locs : List Loc} {ls : Array Slot} {cells slots : Nat} (hcs : cells + 940 ≤ 601024) (hss : slots + 3900 ≤ 7293034) {Kq : Nat} (hK8 : Kq < 900000) {h : FH} (hs : LawSt Kq A h xa ma oa bb) (hP : fh_P G vwCl h H) (hS : va_S A s.heap H locs) (hl : lv_has ls 8 [(4, .int (nI i)), (3, .ref oa), (2, .ref ma), (1, .ref xa), (0, .ref b)]) {Q : State → Prop} (k : ∀ (u : FH) (H : Heap) (locs : List Loc) (ls : Array Slot), LawSt (Kq + 100) A u xa ma oa bb → fh_P G vwCl u H → va_S A s.heap H locs → lv_has ls 8 [(4, .int (nI i)), (3, .ref oa), (2, .ref ma), (1, .ref xa), (0, .ref b)] → W p l e room_1 s m #[Value.ref b] below meth c H locs (cells + 940) (slots + 3900) Q (F0 m 1551 ls [])) : W p l e room_1 s m #[Value.ref b] below meth c H locs cells slots Q (F0 m 1171 ls []) := by
  obtain ⟨ad, th, no, nv, ns, V, S, LK, RL, J, C, M, f0, hAh, hR, hRM, hI, ho⟩ := hs
  have hX := hR.1
  have hA9 : ∀ q, H.size ≤ q → A q := fun q hq => hA q (Nat.le_trans hS.1 hq)
  refine lv_aload_n hx hb dL_law_1171 rfl (lv_at hl 3 rfl) ?_
  refine fh_cV (q := (RX9, TX9, 11)) (As := []) (rest := []) (b := xa) ⟨hx, hb, hml, hown, ht⟩ (p_version l G A h _ hA9 hAh xa ad no nv ns V S LK RL J C M hR hI.bd hK8) (cwV 0 ht (gV kw_171 kw_172 kw_173 kw_1 kw_174) rfl rfl rfl yd_X9_version ⟨(Nat.le_of_ble_eq_true rfl), (Nat.le_of_ble_eq_true rfl)⟩) hP hE hS hX rfl rfl hl.1 rfl (Nat.le_of_ble_eq_true rfl) dL_law_1172 ⟨(by show _ ≤ 601024; omega), (by show _ ≤ 7293034; omega)⟩ (fun v u H locs hp hP hz hS => ?_)
  obtain ⟨rfl, eu⟩ := hp
  rw [eu] at hP
  refine W.eq (g2 := F0 m 1175 ls [.int (nI (nv - 1))]) rfl ?_
  obtain ⟨fK, fH, fF, fB, fO, fW, fV, fN, cO, cF, cH, cV, fS, fC, lO, lA, rA, rB, rD, fM, hM1, hX1⟩ := id hRM
  refine lv_aload_n hx hb dL_law_1175 rfl (lv_at hl 2 rfl) ?_
  refine fh_cV (q := (RX10, TX10, 28)) (As := []) (rest := [.int (nI (nv - 1))]) (b := ma) ⟨hx, hb, hml, hown, ht⟩ (q_version l G A h _ ma bb th no nv ns V S LK RL J C M hRM hI.bd hI.lk) (cwV 0 ht (gV kw_945 kw_946 kw_947 kw_5 kw_948) rfl rfl rfl yd_X10_version ⟨(Nat.le_of_ble_eq_true rfl), (Nat.le_of_ble_eq_true rfl)⟩) hP hE hS (MG.m hM1) rfl rfl hl.1 rfl (Nat.le_of_ble_eq_true rfl) dL_law_1176 ⟨(by show _ ≤ 601024; omega), (by show _ ≤ 7293034; omega)⟩ (fun v u2 H locs hp hP hz hS => ?_)
  obtain ⟨ans, rfl, ha, hRM2⟩ := hp
  obtain ⟨hk2, hA2, hRM3⟩ := hRM2.re
  have hR2 := hR.kpN hk2 rfl
  have ho3 := hk2 _ _ ho rfl
  obtain ⟨f2, ef2⟩ : ∃ z8, z8 = f0 := ⟨_, rfl⟩
  rw [← ef2] at ho3
  refine W.eq (g2 := F0 m 1179 ls [.int ans, .int (nI (nv - 1))]) rfl ?_
  refine lv_icmp_eq (tgt := 1551) hx hb dL_law_1179 (by decide) (fun _ => ?_) (fun c9 => absurd (ha.symm) c9)
  refine W.widen (k := cells + 940) (n := slots + 3900) (by omega) (by omega) ?_
  exact k _ _ _ _ ⟨_, _, _, _, _, _, _, _, _, _, _, _, f2, hA2, hR2.mono (by omega), hRM3, hI, ho3⟩ hP hS (lv_sub hl [0, 1, 2, 3, 4] rfl)

set_option maxRecDepth 100000 in
set_option maxHeartbeats 4000000 in
theorem lc_difference {p : Program} {l : Launch} {e : Env} {s : State} {m : MethodId} {below : List Frame} {meth : Method} {c : Code} {b L : Nat} {xs : Nat → Int32} {G : fG} {A : Nat → Prop} (hst : l.stackTraces = false) (hA : ∀ q, s.heap.size ≤ q → A q) (hx : p.tables.exec = Jvm.exec) (hb : c.code = code) (hml : c.maxLocals = 8) (hown : s.vm.findClass "ObjectMergeLaw" = some m.cls) (ht : ∀ w ∈ wB, w.before #[Value.ref b] s = true) (hE : fh_Env G A s s.heap) (hXs : va_X b L xs s s.heap) (hbl : b < s.heap.size) (hbA : ¬ A b) (hL : L ≤ 5120) {xa ma oa : Nat} {bb : Nat → Nat} (i : Nat) (hi : i + 10 ≤ L) {H : Heap} {locs : List Loc} {ls : Array Slot} {cells slots : Nat} (hcs : cells + 940 ≤ 601024) (hss : slots + 3900 ≤ 7293034) {Kq : Nat} (hK8 : Kq < 900000) {h : FH} (hs : LawSt Kq A h xa ma oa bb) (hP : fh_P G vwCl h H) (hS : va_S A s.heap H locs) (hl : lv_has ls 8 [(4, .int (nI i)), (3, .ref oa), (2, .ref ma), (1, .ref xa), (0, .ref b)]) {Q : State → Prop} (k : ∀ (u : FH) (H : Heap) (locs : List Loc) (ls : Array Slot), LawSt (Kq + 100) A u xa ma oa bb → fh_P G vwCl u H → va_S A s.heap H locs → lv_has ls 8 [(4, .int (nI i)), (3, .ref oa), (2, .ref ma), (1, .ref xa), (0, .ref b)] → W p l e room_1 s m #[Value.ref b] below meth c H locs (cells + 940) (slots + 3900) Q (F0 m 1551 ls [])) : W p l e room_1 s m #[Value.ref b] below meth c H locs cells slots Q (F0 m 1184 ls []) := by
  obtain ⟨ad, th, no, nv, ns, V, S, LK, RL, J, C, M, f0, hAh, hR, hRM, hI, ho⟩ := hs
  have hX := hR.1
  have hA9 : ∀ q, H.size ≤ q → A q := fun q hq => hA q (Nat.le_trans hS.1 hq)
  refine lv_aload_n hx hb dL_law_1184 rfl (lv_at hl 3 rfl) ?_
  refine lv_aload_n hx hb dL_law_1185 rfl (lv_at hl 4 rfl) ?_
  refine lv_iload hx hb dL_law_1186 (lv_at hl 0 rfl) ?_
  refine lv_iconst (v := (nI 1)) hx hb dL_law_1188 (by decide) ?_
  refine lv_iadd hx hb dL_law_1189 ?_
  refine lv_topi (fun z9 ez9 => ?_)
  rw [show z9 = nI (i + 1) from ez9.trans (nI_add _ _)]
  refine lw_sld (k := (i + 1)) hx hb hXs hbl hbA hS (by omega) hL dL_law_1190 ?_
  refine lv_aload_n hx hb dL_law_1191 rfl (lv_at hl 4 rfl) ?_
  refine lv_iload hx hb dL_law_1192 (lv_at hl 0 rfl) ?_
  refine lv_iconst (v := (nI 2)) hx hb dL_law_1194 (by decide) ?_
  refine lv_iadd hx hb dL_law_1195 ?_
  refine lv_topi (fun z9 ez9 => ?_)
  rw [show z9 = nI (i + 2) from ez9.trans (nI_add _ _)]
  refine lw_sld (k := (i + 2)) hx hb hXs hbl hbA hS (by omega) hL dL_law_1196 ?_
  refine lv_aload_n hx hb dL_law_1197 rfl (lv_at hl 4 rfl) ?_
  refine lv_iload hx hb dL_law_1198 (lv_at hl 0 rfl) ?_
  refine lv_iconst (v := (nI 3)) hx hb dL_law_1200 (by decide) ?_
  refine lv_iadd hx hb dL_law_1201 ?_
  refine lv_topi (fun z9 ez9 => ?_)
  rw [show z9 = nI (i + 3) from ez9.trans (nI_add _ _)]
  refine lw_sld (k := (i + 3)) hx hb hXs hbl hbA hS (by omega) hL dL_law_1202 ?_
  refine lv_aload_n hx hb dL_law_1203 rfl (lv_at hl 1 rfl) ?_
  refine fh_cSW (As := [.ref xa, .int (xs (i + 1)), .int (xs (i + 2)), .int (xs (i + 3)), .ref oa]) (rest := []) ⟨hx, hb, hml, hown, ht⟩ (w_difference l G A h _ hst hA9 hAh xa ad no nv ns V S LK RL J C M hR hI.bd hK8 (xs (i + 1)) (xs (i + 2)) (xs (i + 3)) oa f0 ho) (vx_cwSW 5 ht (gS kw_598 kw_599 kw_0 kw_600) rfl rfl rfl yd_L_difference.2 ⟨(Nat.le_of_ble_eq_true rfl), (Nat.le_of_ble_eq_true rfl)⟩) hP hE hS rfl hl.1 rfl (Nat.le_of_ble_eq_true rfl) dL_law_1204 ⟨(by show _ ≤ 601024; omega), (by show _ ≤ 7293034; omega)⟩ (fun v u H locs hp hP hz hS => ?_)
  obtain ⟨rfl, hA1, hk1, ⟨ad2, hR1⟩, f2, ho2, hf2⟩ := hp
  have hRM1 := hRM.kp2 hk1 rfl hA1
  refine W.eq (g2 := F0 m 1207 ls [.int (nI (oDiff nv V (xs (i + 1)) (xs (i + 2)) (xs (i + 3))).1)]) rfl ?_
  obtain ⟨fK, fH, fF, fB, fO, fW, fV, fN, cO, cF, cH, cV, fS, fC, lO, lA, rA, rB, rD, fM, hM1, hX1⟩ := id hRM1
  refine lv_istore (lv' := [(5, .int (nI (oDiff nv V (xs (i + 1)) (xs (i + 2)) (xs (i + 3))).1)), (4, .int (nI i)), (3, .ref oa), (2, .ref ma), (1, .ref xa), (0, .ref b)]) hx hb dL_law_1207 hl (by decide) rfl (fun ls hl => ?_)
  refine lv_aload_n hx hb dL_law_1209 rfl (lv_at hl 3 rfl) ?_
  refine lv_aload_n hx hb dL_law_1210 rfl (lv_at hl 5 rfl) ?_
  refine lv_iload hx hb dL_law_1211 (lv_at hl 1 rfl) ?_
  refine lv_iconst (v := (nI 1)) hx hb dL_law_1213 (by decide) ?_
  refine lv_iadd hx hb dL_law_1214 ?_
  refine lv_topi (fun z9 ez9 => ?_)
  rw [show z9 = nI (i + 1) from ez9.trans (nI_add _ _)]
  refine lw_sld (k := (i + 1)) hx hb hXs hbl hbA hS (by omega) hL dL_law_1215 ?_
  refine lv_aload_n hx hb dL_law_1216 rfl (lv_at hl 5 rfl) ?_
  refine lv_iload hx hb dL_law_1217 (lv_at hl 1 rfl) ?_
  refine lv_iconst (v := (nI 2)) hx hb dL_law_1219 (by decide) ?_
  refine lv_iadd hx hb dL_law_1220 ?_
  refine lv_topi (fun z9 ez9 => ?_)
  rw [show z9 = nI (i + 2) from ez9.trans (nI_add _ _)]
  refine lw_sld (k := (i + 2)) hx hb hXs hbl hbA hS (by omega) hL dL_law_1221 ?_
  refine lv_aload_n hx hb dL_law_1222 rfl (lv_at hl 5 rfl) ?_
  refine lv_iload hx hb dL_law_1223 (lv_at hl 1 rfl) ?_
  refine lv_iconst (v := (nI 3)) hx hb dL_law_1225 (by decide) ?_
  refine lv_iadd hx hb dL_law_1226 ?_
  refine lv_topi (fun z9 ez9 => ?_)
  rw [show z9 = nI (i + 3) from ez9.trans (nI_add _ _)]
  refine lw_sld (k := (i + 3)) hx hb hXs hbl hbA hS (by omega) hL dL_law_1227 ?_
  refine fh_cV (q := (RX10, TX10, 28)) (As := [.int (xs (i + 1)), .int (xs (i + 2)), .int (xs (i + 3))]) (rest := []) (b := ma) ⟨hx, hb, hml, hown, ht⟩ (q_difference l G A u _ ma bb th no nv ns V S LK RL J C M hRM1 hI.bd hI.lk hI.vn (xs (i + 1)) (xs (i + 2)) (xs (i + 3))) (cwV 3 ht (gV kw_953 kw_954 kw_955 kw_5 kw_956) rfl rfl rfl yd_X10_difference ⟨(Nat.le_of_ble_eq_true rfl), (Nat.le_of_ble_eq_true rfl)⟩) hP hE hS (MG.m hM1) rfl rfl hl.1 rfl (Nat.le_of_ble_eq_true rfl) dL_law_1228 ⟨(by show _ ≤ 601024; omega), (by show _ ≤ 7293034; omega)⟩ (fun v u2 H locs hp hP hz hS => ?_)
  obtain ⟨ans, rfl, ha, hRM2⟩ := hp
  obtain ⟨hk2, hA2, hRM3⟩ := hRM2.re
  have hR2 := hR1.kpN hk2 rfl
  have ho3 := hk2 _ _ ho2 rfl
  refine W.eq (g2 := F0 m 1231 ls [.int ans]) rfl ?_
  obtain ⟨fK3, fH3, fF3, fB3, fO3, fW3, fV3, fN3, cO3, cF3, cH3, cV3, fS3, fC3, lO3, lA3, rA3, rB3, rD3, fM3, hM3, hX3⟩ := id hRM3
  refine lv_istore (lv' := [(6, .int ans), (5, .int (nI (oDiff nv V (xs (i + 1)) (xs (i + 2)) (xs (i + 3))).1)), (4, .int (nI i)), (3, .ref oa), (2, .ref ma), (1, .ref xa), (0, .ref b)]) hx hb dL_law_1231 hl (by decide) rfl (fun ls hl => ?_)
  refine lv_aload_n hx hb dL_law_1233 rfl (lv_at hl 4 rfl) ?_
  refine fh_cV (q := (RX10, TX10, 28)) (As := []) (rest := []) (b := ma) ⟨hx, hb, hml, hown, ht⟩ (m_thrown l G A u2 _ hM3) (cwV 0 ht (gV kw_776 kw_777 kw_778 kw_5 kw_779) rfl rfl rfl yd_X10_thrown ⟨(Nat.le_of_ble_eq_true rfl), (Nat.le_of_ble_eq_true rfl)⟩) hP hE hS (MG.m hM3) rfl rfl hl.1 rfl (Nat.le_of_ble_eq_true rfl) dL_law_1234 ⟨(by show _ ≤ 601024; omega), (by show _ ≤ 7293034; omega)⟩ (fun v u H locs hp hP hz hS => ?_)
  obtain ⟨rfl, eu⟩ := hp
  rw [eu] at hP
  refine W.eq (g2 := F0 m 1237 ls [.int (nI (oDiff nv V (xs (i + 1)) (xs (i + 2)) (xs (i + 3))).1)]) rfl ?_
  refine lv_iload hx hb dL_law_1237 (lv_at hl 1 rfl) ?_
  refine lv_icmp_eq (tgt := 1244) hx hb dL_law_1239 (by decide) (fun _ => ?_) (fun c9 => absurd (rfl) c9)
  refine lv_iload hx hb dL_law_1244 (lv_at hl 1 rfl) ?_
  have hle := oDiff_le nv V (xs (i + 1)) (xs (i + 2)) (xs (i + 3))
  refine lv_if_ne (tgt := 1261) hx hb dL_law_1246 (by decide) (fun c1 => ?_) (fun c1 => ?_)
  · refine lv_goto (tgt := 1551) hx hb dL_law_1261 (by decide) ?_
    refine W.widen (k := cells + 940) (n := slots + 3900) (by omega) (by omega) ?_
    exact k _ _ _ _ ⟨_, _, _, _, _, _, _, _, _, _, _, _, f2, hA2, hR2.mono (by omega), hRM3, (hI), ho3⟩ hP hS (lv_sub hl [2, 3, 4, 5, 6] rfl)
  · have e0 : (oDiff nv V (xs (i + 1)) (xs (i + 2)) (xs (i + 3))).1 = 0 := (nI_eq (by omega) (by decide)).mp c1
    refine lv_aload_n hx hb dL_law_1249 rfl (lv_at hl 3 rfl) ?_
    refine lv_iconst (v := (nI 0)) hx hb dL_law_1250 (by decide) ?_
    refine fh_lald (k := 0) hx hb hE.1 hP ho3 rfl (by decide) (by decide) dL_law_1251 ?_
    refine lv_iload hx hb dL_law_1252 (lv_at hl 0 rfl) ?_
    refine lv_i2l (v := (ans : Int32).toInt64) hx hb dL_law_1254 rfl ?_
    refine W.lcmp hx hb dL_law_1255 ?_
    refine lv_if_eq (tgt := 1261) hx hb dL_law_1256 (by decide) (fun _ => ?_) (fun c9 => absurd ((lg_cmp_eq _ _).mpr (by rw [hf2 e0, ha e0])) c9)
    refine lv_goto (tgt := 1551) hx hb dL_law_1261 (by decide) ?_
    refine W.widen (k := cells + 940) (n := slots + 3900) (by omega) (by omega) ?_
    exact k _ _ _ _ ⟨_, _, _, _, _, _, _, _, _, _, _, _, f2, hA2, hR2.mono (by omega), hRM3, (hI), ho3⟩ hP hS (lv_sub hl [2, 3, 4, 5, 6] rfl)

set_option maxRecDepth 100000 in
set_option maxHeartbeats 4000000 in
theorem lc_undo {p : Program} {l : Launch} {e : Env} {s : State} {m : MethodId} {below : List Frame} {meth : Method} {c : Code} {b L : Nat} {xs : Nat → Int32} {G : fG} {A : Nat → Prop} (hst : l.stackTraces = false) (hA : ∀ q, s.heap.size ≤ q → A q) (hx : p.tables.exec = Jvm.exec) (hb : c.code = code) (hml : c.maxLocals = 8) (hown : s.vm.findClass "ObjectMergeLaw" = some m.cls) (ht : ∀ w ∈ wB, w.before #[Value.ref b] s = true) (hE : fh_Env G A s s.heap) (hXs : va_X b L xs s s.heap) (hbl : b < s.heap.size) (hbA : ¬ A b) (hL : L ≤ 5120) {xa ma oa : Nat} {bb : Nat → Nat} (i : Nat) (hi : i + 10 ≤ L) {H : Heap} {locs : List Loc} {ls : Array Slot} {cells slots : Nat} (hcs : cells + 940 ≤ 601024) (hss : slots + 3900 ≤ 7293034) {Kq : Nat} (hK8 : Kq < 900000) {h : FH} (hs : LawSt Kq A h xa ma oa bb) (hP : fh_P G vwCl h H) (hS : va_S A s.heap H locs) (hl : lv_has ls 8 [(4, .int (nI i)), (3, .ref oa), (2, .ref ma), (1, .ref xa), (0, .ref b)]) {Q : State → Prop} (k : ∀ (u : FH) (H : Heap) (locs : List Loc) (ls : Array Slot), LawSt (Kq + 100) A u xa ma oa bb → fh_P G vwCl u H → va_S A s.heap H locs → lv_has ls 8 [(4, .int (nI i)), (3, .ref oa), (2, .ref ma), (1, .ref xa), (0, .ref b)] → W p l e room_1 s m #[Value.ref b] below meth c H locs (cells + 940) (slots + 3900) Q (F0 m 1551 ls [])) : W p l e room_1 s m #[Value.ref b] below meth c H locs cells slots Q (F0 m 1264 ls []) := by
  obtain ⟨ad, th, no, nv, ns, V, S, LK, RL, J, C, M, f0, hAh, hR, hRM, hI, ho⟩ := hs
  have hX := hR.1
  have hA9 : ∀ q, H.size ≤ q → A q := fun q hq => hA q (Nat.le_trans hS.1 hq)
  refine lv_aload_n hx hb dL_law_1264 rfl (lv_at hl 3 rfl) ?_
  refine lv_aload_n hx hb dL_law_1265 rfl (lv_at hl 4 rfl) ?_
  refine lv_iload hx hb dL_law_1266 (lv_at hl 0 rfl) ?_
  refine lv_iconst (v := (nI 1)) hx hb dL_law_1268 (by decide) ?_
  refine lv_iadd hx hb dL_law_1269 ?_
  refine lv_topi (fun z9 ez9 => ?_)
  rw [show z9 = nI (i + 1) from ez9.trans (nI_add _ _)]
  refine lw_sld (k := (i + 1)) hx hb hXs hbl hbA hS (by omega) hL dL_law_1270 ?_
  refine lv_aload_n hx hb dL_law_1271 rfl (lv_at hl 1 rfl) ?_
  refine fh_cSW (As := [.ref xa, .int (xs (i + 1)), .ref oa]) (rest := []) ⟨hx, hb, hml, hown, ht⟩ (w_undo l G A h _ hst hA9 hAh xa ad no nv ns V S LK RL J C M hR hI.bd hK8 (xs (i + 1)) oa f0 ho) (vx_cwSW 3 ht (gS kw_611 kw_612 kw_0 kw_613) rfl rfl rfl yd_L_undo.2 ⟨(Nat.le_of_ble_eq_true rfl), (Nat.le_of_ble_eq_true rfl)⟩) hP hE hS rfl hl.1 rfl (Nat.le_of_ble_eq_true rfl) dL_law_1272 ⟨(by show _ ≤ 601024; omega), (by show _ ≤ 7293034; omega)⟩ (fun v u H locs hp hP hz hS => ?_)
  obtain ⟨rfl, hA1, hk1, ⟨ad2, hR1⟩, f2, ho2, hf2⟩ := hp
  have hRM1 := hRM.kp2 hk1 rfl hA1
  refine W.eq (g2 := F0 m 1275 ls [.int (nI (oUndo ns S (xs (i + 1))).1)]) rfl ?_
  obtain ⟨fK, fH, fF, fB, fO, fW, fV, fN, cO, cF, cH, cV, fS, fC, lO, lA, rA, rB, rD, fM, hM1, hX1⟩ := id hRM1
  refine lv_istore (lv' := [(5, .int (nI (oUndo ns S (xs (i + 1))).1)), (4, .int (nI i)), (3, .ref oa), (2, .ref ma), (1, .ref xa), (0, .ref b)]) hx hb dL_law_1275 hl (by decide) rfl (fun ls hl => ?_)
  refine lv_aload_n hx hb dL_law_1277 rfl (lv_at hl 3 rfl) ?_
  refine lv_aload_n hx hb dL_law_1278 rfl (lv_at hl 5 rfl) ?_
  refine lv_iload hx hb dL_law_1279 (lv_at hl 1 rfl) ?_
  refine lv_iconst (v := (nI 1)) hx hb dL_law_1281 (by decide) ?_
  refine lv_iadd hx hb dL_law_1282 ?_
  refine lv_topi (fun z9 ez9 => ?_)
  rw [show z9 = nI (i + 1) from ez9.trans (nI_add _ _)]
  refine lw_sld (k := (i + 1)) hx hb hXs hbl hbA hS (by omega) hL dL_law_1283 ?_
  refine fh_cV (q := (RX10, TX10, 28)) (As := [.int (xs (i + 1))]) (rest := []) (b := ma) ⟨hx, hb, hml, hown, ht⟩ (q_undo l G A u _ ma bb th no nv ns V S LK RL J C M hRM1 hI.bd hI.lk (xs (i + 1))) (cwV 1 ht (gV kw_842 kw_843 kw_844 kw_5 kw_845) rfl rfl rfl yd_X10_undo ⟨(Nat.le_of_ble_eq_true rfl), (Nat.le_of_ble_eq_true rfl)⟩) hP hE hS (MG.m hM1) rfl rfl hl.1 rfl (Nat.le_of_ble_eq_true rfl) dL_law_1284 ⟨(by show _ ≤ 601024; omega), (by show _ ≤ 7293034; omega)⟩ (fun v u2 H locs hp hP hz hS => ?_)
  obtain ⟨ans, rfl, ha, hRM2⟩ := hp
  obtain ⟨hk2, hA2, hRM3⟩ := hRM2.re
  have hR2 := hR1.kpN hk2 rfl
  have ho3 := hk2 _ _ ho2 rfl
  refine W.eq (g2 := F0 m 1287 ls [.int ans]) rfl ?_
  obtain ⟨fK3, fH3, fF3, fB3, fO3, fW3, fV3, fN3, cO3, cF3, cH3, cV3, fS3, fC3, lO3, lA3, rA3, rB3, rD3, fM3, hM3, hX3⟩ := id hRM3
  refine lv_istore (lv' := [(6, .int ans), (5, .int (nI (oUndo ns S (xs (i + 1))).1)), (4, .int (nI i)), (3, .ref oa), (2, .ref ma), (1, .ref xa), (0, .ref b)]) hx hb dL_law_1287 hl (by decide) rfl (fun ls hl => ?_)
  refine lv_aload_n hx hb dL_law_1289 rfl (lv_at hl 4 rfl) ?_
  refine fh_cV (q := (RX10, TX10, 28)) (As := []) (rest := []) (b := ma) ⟨hx, hb, hml, hown, ht⟩ (m_thrown l G A u2 _ hM3) (cwV 0 ht (gV kw_776 kw_777 kw_778 kw_5 kw_779) rfl rfl rfl yd_X10_thrown ⟨(Nat.le_of_ble_eq_true rfl), (Nat.le_of_ble_eq_true rfl)⟩) hP hE hS (MG.m hM3) rfl rfl hl.1 rfl (Nat.le_of_ble_eq_true rfl) dL_law_1290 ⟨(by show _ ≤ 601024; omega), (by show _ ≤ 7293034; omega)⟩ (fun v u H locs hp hP hz hS => ?_)
  obtain ⟨rfl, eu⟩ := hp
  rw [eu] at hP
  refine W.eq (g2 := F0 m 1293 ls [.int (nI (oUndo ns S (xs (i + 1))).1)]) rfl ?_
  refine lv_iload hx hb dL_law_1293 (lv_at hl 1 rfl) ?_
  refine lv_icmp_eq (tgt := 1300) hx hb dL_law_1295 (by decide) (fun _ => ?_) (fun c9 => absurd (rfl) c9)
  refine lv_iload hx hb dL_law_1300 (lv_at hl 1 rfl) ?_
  have hle := oUndo_le ns S (xs (i + 1))
  refine lv_if_ne (tgt := 1324) hx hb dL_law_1302 (by decide) (fun c1 => ?_) (fun c1 => ?_)
  · refine lv_goto (tgt := 1551) hx hb dL_law_1324 (by decide) ?_
    refine W.widen (k := cells + 940) (n := slots + 3900) (by omega) (by omega) ?_
    exact k _ _ _ _ ⟨_, _, _, _, _, _, _, _, _, _, _, _, f2, hA2, hR2.mono (by omega), hRM3, (hI.undo (xs (i + 1))), ho3⟩ hP hS (lv_sub hl [2, 3, 4, 5, 6] rfl)
  · have e0 : (oUndo ns S (xs (i + 1))).1 = 0 := (nI_eq (by omega) (by decide)).mp c1
    refine lv_aload_n hx hb dL_law_1305 rfl (lv_at hl 3 rfl) ?_
    refine lv_iconst (v := (nI 0)) hx hb dL_law_1306 (by decide) ?_
    refine fh_lald (k := 0) hx hb hE.1 hP ho3 rfl (by decide) (by decide) dL_law_1307 ?_
    refine lv_iload hx hb dL_law_1308 (lv_at hl 0 rfl) ?_
    have ha0 := ha e0
    have hf0 := hf2 e0
    generalize (oUndo ns S (xs (i + 1))).2.1 = bv at ha0 hf0
    cases bv with
    | false =>
      refine lv_if_eq (tgt := 1317) hx hb dL_law_1310 (by decide) (fun _ => ?_) (fun c9 => absurd (ha0) c9)
      refine lv_lconst (v := 0) hx hb dL_law_1317 (by decide) ?_
      refine W.lcmp hx hb dL_law_1318 ?_
      refine lv_if_eq (tgt := 1324) hx hb dL_law_1319 (by decide) (fun _ => ?_) (fun c9 => absurd ((lg_cmp_eq _ _).mpr hf0) c9)
      refine lv_goto (tgt := 1551) hx hb dL_law_1324 (by decide) ?_
      refine W.widen (k := cells + 940) (n := slots + 3900) (by omega) (by omega) ?_
      exact k _ _ _ _ ⟨_, _, _, _, _, _, _, _, _, _, _, _, f2, hA2, hR2.mono (by omega), hRM3, (hI.undo (xs (i + 1))), ho3⟩ hP hS (lv_sub hl [2, 3, 4, 5, 6] rfl)
    | true =>
      refine lv_if_eq (tgt := 1317) hx hb dL_law_1310 (by decide) (fun c9 => absurd c9 (fun z8 => absurd (ha0.symm.trans z8) (by decide))) (fun _ => ?_)
      refine lv_lconst (v := 1) hx hb dL_law_1313 (by decide) ?_
      refine lv_goto (tgt := 1318) hx hb dL_law_1314 (by decide) ?_
      refine W.lcmp hx hb dL_law_1318 ?_
      refine lv_if_eq (tgt := 1324) hx hb dL_law_1319 (by decide) (fun _ => ?_) (fun c9 => absurd ((lg_cmp_eq _ _).mpr hf0) c9)
      refine lv_goto (tgt := 1551) hx hb dL_law_1324 (by decide) ?_
      refine W.widen (k := cells + 940) (n := slots + 3900) (by omega) (by omega) ?_
      exact k _ _ _ _ ⟨_, _, _, _, _, _, _, _, _, _, _, _, f2, hA2, hR2.mono (by omega), hRM3, (hI.undo (xs (i + 1))), ho3⟩ hP hS (lv_sub hl [2, 3, 4, 5, 6] rfl)

set_option maxRecDepth 100000 in
set_option maxHeartbeats 4000000 in
theorem lc_branch {p : Program} {l : Launch} {e : Env} {s : State} {m : MethodId} {below : List Frame} {meth : Method} {c : Code} {b L : Nat} {xs : Nat → Int32} {G : fG} {A : Nat → Prop} (hst : l.stackTraces = false) (hA : ∀ q, s.heap.size ≤ q → A q) (hx : p.tables.exec = Jvm.exec) (hb : c.code = code) (hml : c.maxLocals = 8) (hown : s.vm.findClass "ObjectMergeLaw" = some m.cls) (ht : ∀ w ∈ wB, w.before #[Value.ref b] s = true) (hE : fh_Env G A s s.heap) (hXs : va_X b L xs s s.heap) (hbl : b < s.heap.size) (hbA : ¬ A b) (hL : L ≤ 5120) {xa ma oa : Nat} {bb : Nat → Nat} (i : Nat) (hi : i + 10 ≤ L) {H : Heap} {locs : List Loc} {ls : Array Slot} {cells slots : Nat} (hcs : cells + 940 ≤ 601024) (hss : slots + 3900 ≤ 7293034) {Kq : Nat} (hK8 : Kq < 900000) {h : FH} (hs : LawSt Kq A h xa ma oa bb) (hP : fh_P G vwCl h H) (hS : va_S A s.heap H locs) (hl : lv_has ls 8 [(4, .int (nI i)), (3, .ref oa), (2, .ref ma), (1, .ref xa), (0, .ref b)]) {Q : State → Prop} (k : ∀ (u : FH) (H : Heap) (locs : List Loc) (ls : Array Slot), LawSt (Kq + 100) A u xa ma oa bb → fh_P G vwCl u H → va_S A s.heap H locs → lv_has ls 8 [(4, .int (nI i)), (3, .ref oa), (2, .ref ma), (1, .ref xa), (0, .ref b)] → W p l e room_1 s m #[Value.ref b] below meth c H locs (cells + 940) (slots + 3900) Q (F0 m 1551 ls [])) : W p l e room_1 s m #[Value.ref b] below meth c H locs cells slots Q (F0 m 1327 ls []) := by
  obtain ⟨ad, th, no, nv, ns, V, S, LK, RL, J, C, M, f0, hAh, hR, hRM, hI, ho⟩ := hs
  have hX := hR.1
  have hA9 : ∀ q, H.size ≤ q → A q := fun q hq => hA q (Nat.le_trans hS.1 hq)
  refine lv_aload_n hx hb dL_law_1327 rfl (lv_at hl 3 rfl) ?_
  refine lv_aload_n hx hb dL_law_1328 rfl (lv_at hl 4 rfl) ?_
  refine lv_iload hx hb dL_law_1329 (lv_at hl 0 rfl) ?_
  refine lv_iconst (v := (nI 1)) hx hb dL_law_1331 (by decide) ?_
  refine lv_iadd hx hb dL_law_1332 ?_
  refine lv_topi (fun z9 ez9 => ?_)
  rw [show z9 = nI (i + 1) from ez9.trans (nI_add _ _)]
  refine lw_sld (k := (i + 1)) hx hb hXs hbl hbA hS (by omega) hL dL_law_1333 ?_
  refine lv_aload_n hx hb dL_law_1334 rfl (lv_at hl 1 rfl) ?_
  refine fh_cSW (As := [.ref xa, .int (xs (i + 1)), .ref oa]) (rest := []) ⟨hx, hb, hml, hown, ht⟩ (w_branch l G A h _ hst hA9 hAh xa ad no nv ns V S LK RL J C M hR hI.bd hK8 (xs (i + 1)) oa f0 ho) (vx_cwSW 3 ht (gS kw_634 kw_635 kw_0 kw_636) rfl rfl rfl yd_L_branch.2 ⟨(Nat.le_of_ble_eq_true rfl), (Nat.le_of_ble_eq_true rfl)⟩) hP hE hS rfl hl.1 rfl (Nat.le_of_ble_eq_true rfl) dL_law_1335 ⟨(by show _ ≤ 601024; omega), (by show _ ≤ 7293034; omega)⟩ (fun v u H locs hp hP hz hS => ?_)
  obtain ⟨rfl, hA1, hk1, ⟨ad2, hR1⟩, f2, ho2, hf2⟩ := hp
  have hRM1 := hRM.kp2 hk1 rfl hA1
  refine W.eq (g2 := F0 m 1338 ls [.int (nI (oBranch nv ns V S (xs (i + 1))).1)]) rfl ?_
  obtain ⟨fK, fH, fF, fB, fO, fW, fV, fN, cO, cF, cH, cV, fS, fC, lO, lA, rA, rB, rD, fM, hM1, hX1⟩ := id hRM1
  refine lv_istore (lv' := [(5, .int (nI (oBranch nv ns V S (xs (i + 1))).1)), (4, .int (nI i)), (3, .ref oa), (2, .ref ma), (1, .ref xa), (0, .ref b)]) hx hb dL_law_1338 hl (by decide) rfl (fun ls hl => ?_)
  refine lv_aload_n hx hb dL_law_1340 rfl (lv_at hl 3 rfl) ?_
  refine lv_aload_n hx hb dL_law_1341 rfl (lv_at hl 5 rfl) ?_
  refine lv_iload hx hb dL_law_1342 (lv_at hl 1 rfl) ?_
  refine lv_iconst (v := (nI 1)) hx hb dL_law_1344 (by decide) ?_
  refine lv_iadd hx hb dL_law_1345 ?_
  refine lv_topi (fun z9 ez9 => ?_)
  rw [show z9 = nI (i + 1) from ez9.trans (nI_add _ _)]
  refine lw_sld (k := (i + 1)) hx hb hXs hbl hbA hS (by omega) hL dL_law_1346 ?_
  refine fh_cV (q := (RX10, TX10, 28)) (As := [.int (xs (i + 1))]) (rest := []) (b := ma) ⟨hx, hb, hml, hown, ht⟩ (q_branch l G A u _ ma bb th no nv ns V S LK RL J C M hRM1 hI.bd hI.lk (xs (i + 1))) (cwV 1 ht (gV kw_803 kw_804 kw_805 kw_5 kw_806) rfl rfl rfl yd_X10_branch ⟨(Nat.le_of_ble_eq_true rfl), (Nat.le_of_ble_eq_true rfl)⟩) hP hE hS (MG.m hM1) rfl rfl hl.1 rfl (Nat.le_of_ble_eq_true rfl) dL_law_1347 ⟨(by show _ ≤ 601024; omega), (by show _ ≤ 7293034; omega)⟩ (fun v u2 H locs hp hP hz hS => ?_)
  obtain ⟨ans, rfl, ha, hRM2⟩ := hp
  obtain ⟨hk2, hA2, hRM3⟩ := hRM2.re
  have hR2 := hR1.kpN hk2 rfl
  have ho3 := hk2 _ _ ho2 rfl
  refine W.eq (g2 := F0 m 1350 ls [.int ans]) rfl ?_
  obtain ⟨fK3, fH3, fF3, fB3, fO3, fW3, fV3, fN3, cO3, cF3, cH3, cV3, fS3, fC3, lO3, lA3, rA3, rB3, rD3, fM3, hM3, hX3⟩ := id hRM3
  refine lv_istore (lv' := [(6, .int ans), (5, .int (nI (oBranch nv ns V S (xs (i + 1))).1)), (4, .int (nI i)), (3, .ref oa), (2, .ref ma), (1, .ref xa), (0, .ref b)]) hx hb dL_law_1350 hl (by decide) rfl (fun ls hl => ?_)
  refine lv_aload_n hx hb dL_law_1352 rfl (lv_at hl 4 rfl) ?_
  refine fh_cV (q := (RX10, TX10, 28)) (As := []) (rest := []) (b := ma) ⟨hx, hb, hml, hown, ht⟩ (m_thrown l G A u2 _ hM3) (cwV 0 ht (gV kw_776 kw_777 kw_778 kw_5 kw_779) rfl rfl rfl yd_X10_thrown ⟨(Nat.le_of_ble_eq_true rfl), (Nat.le_of_ble_eq_true rfl)⟩) hP hE hS (MG.m hM3) rfl rfl hl.1 rfl (Nat.le_of_ble_eq_true rfl) dL_law_1353 ⟨(by show _ ≤ 601024; omega), (by show _ ≤ 7293034; omega)⟩ (fun v u H locs hp hP hz hS => ?_)
  obtain ⟨rfl, eu⟩ := hp
  rw [eu] at hP
  refine W.eq (g2 := F0 m 1356 ls [.int (nI (oBranch nv ns V S (xs (i + 1))).1)]) rfl ?_
  refine lv_iload hx hb dL_law_1356 (lv_at hl 1 rfl) ?_
  refine lv_icmp_eq (tgt := 1363) hx hb dL_law_1358 (by decide) (fun _ => ?_) (fun c9 => absurd (rfl) c9)
  refine lv_iload hx hb dL_law_1363 (lv_at hl 1 rfl) ?_
  have hle := oBranch_le nv ns V S (xs (i + 1))
  refine lv_if_ne (tgt := 1380) hx hb dL_law_1365 (by decide) (fun c1 => ?_) (fun c1 => ?_)
  · refine lv_goto (tgt := 1551) hx hb dL_law_1380 (by decide) ?_
    refine W.widen (k := cells + 940) (n := slots + 3900) (by omega) (by omega) ?_
    exact k _ _ _ _ ⟨_, _, _, _, _, _, _, _, _, _, _, _, f2, hA2, hR2.mono (by omega), hRM3, (hI.branch (xs (i + 1))), ho3⟩ hP hS (lv_sub hl [2, 3, 4, 5, 6] rfl)
  · have e0 : (oBranch nv ns V S (xs (i + 1))).1 = 0 := (nI_eq (by omega) (by decide)).mp c1
    refine lv_aload_n hx hb dL_law_1368 rfl (lv_at hl 3 rfl) ?_
    refine lv_iconst (v := (nI 0)) hx hb dL_law_1369 (by decide) ?_
    refine fh_lald (k := 0) hx hb hE.1 hP ho3 rfl (by decide) (by decide) dL_law_1370 ?_
    refine lv_iload hx hb dL_law_1371 (lv_at hl 0 rfl) ?_
    refine lv_i2l (v := (ans : Int32).toInt64) hx hb dL_law_1373 rfl ?_
    refine W.lcmp hx hb dL_law_1374 ?_
    refine lv_if_eq (tgt := 1380) hx hb dL_law_1375 (by decide) (fun _ => ?_) (fun c9 => absurd ((lg_cmp_eq _ _).mpr (by rw [hf2 e0, ha e0])) c9)
    refine lv_goto (tgt := 1551) hx hb dL_law_1380 (by decide) ?_
    refine W.widen (k := cells + 940) (n := slots + 3900) (by omega) (by omega) ?_
    exact k _ _ _ _ ⟨_, _, _, _, _, _, _, _, _, _, _, _, f2, hA2, hR2.mono (by omega), hRM3, (hI.branch (xs (i + 1))), ho3⟩ hP hS (lv_sub hl [2, 3, 4, 5, 6] rfl)

set_option maxRecDepth 100000 in
set_option maxHeartbeats 4000000 in
theorem lc_play {p : Program} {l : Launch} {e : Env} {s : State} {m : MethodId} {below : List Frame} {meth : Method} {c : Code} {b L : Nat} {xs : Nat → Int32} {G : fG} {A : Nat → Prop} (hst : l.stackTraces = false) (hA : ∀ q, s.heap.size ≤ q → A q) (hx : p.tables.exec = Jvm.exec) (hb : c.code = code) (hml : c.maxLocals = 8) (hown : s.vm.findClass "ObjectMergeLaw" = some m.cls) (ht : ∀ w ∈ wB, w.before #[Value.ref b] s = true) (hE : fh_Env G A s s.heap) (hXs : va_X b L xs s s.heap) (hbl : b < s.heap.size) (hbA : ¬ A b) (hL : L ≤ 5120) {xa ma oa : Nat} {bb : Nat → Nat} (i : Nat) (hi : i + 10 ≤ L) {H : Heap} {locs : List Loc} {ls : Array Slot} {cells slots : Nat} (hcs : cells + 940 ≤ 601024) (hss : slots + 3900 ≤ 7293034) {Kq : Nat} (hK8 : Kq < 900000) {h : FH} (hs : LawSt Kq A h xa ma oa bb) (hP : fh_P G vwCl h H) (hS : va_S A s.heap H locs) (hl : lv_has ls 8 [(4, .int (nI i)), (3, .ref oa), (2, .ref ma), (1, .ref xa), (0, .ref b)]) {Q : State → Prop} (k : ∀ (u : FH) (H : Heap) (locs : List Loc) (ls : Array Slot), LawSt (Kq + 100) A u xa ma oa bb → fh_P G vwCl u H → va_S A s.heap H locs → lv_has ls 8 [(4, .int (nI i)), (3, .ref oa), (2, .ref ma), (1, .ref xa), (0, .ref b)] → W p l e room_1 s m #[Value.ref b] below meth c H locs (cells + 940) (slots + 3900) Q (F0 m 1551 ls [])) : W p l e room_1 s m #[Value.ref b] below meth c H locs cells slots Q (F0 m 1383 ls []) := by
  obtain ⟨ad, th, no, nv, ns, V, S, LK, RL, J, C, M, f0, hAh, hR, hRM, hI, ho⟩ := hs
  have hX := hR.1
  have hA9 : ∀ q, H.size ≤ q → A q := fun q hq => hA q (Nat.le_trans hS.1 hq)
  refine lv_aload_n hx hb dL_law_1383 rfl (lv_at hl 3 rfl) ?_
  refine lv_aload_n hx hb dL_law_1384 rfl (lv_at hl 4 rfl) ?_
  refine lv_iload hx hb dL_law_1385 (lv_at hl 0 rfl) ?_
  refine lv_iconst (v := (nI 1)) hx hb dL_law_1387 (by decide) ?_
  refine lv_iadd hx hb dL_law_1388 ?_
  refine lv_topi (fun z9 ez9 => ?_)
  rw [show z9 = nI (i + 1) from ez9.trans (nI_add _ _)]
  refine lw_sld (k := (i + 1)) hx hb hXs hbl hbA hS (by omega) hL dL_law_1389 ?_
  refine lv_i2l (v := (xs (i + 1) : Int32).toInt64) hx hb dL_law_1390 rfl ?_
  refine lv_bipush (v := (nI 32)) hx hb dL_law_1391 (by decide) ?_
  refine lv_lshl (v := ((xs (i + 1) : Int32).toInt64) <<< (((nI 32) : Int32).toInt64 &&& 63)) hx hb dL_law_1393 rfl ?_
  refine lv_aload_n hx hb dL_law_1394 rfl (lv_at hl 4 rfl) ?_
  refine lv_iload hx hb dL_law_1395 (lv_at hl 0 rfl) ?_
  refine lv_iconst (v := (nI 2)) hx hb dL_law_1397 (by decide) ?_
  refine lv_iadd hx hb dL_law_1398 ?_
  refine lv_topi (fun z9 ez9 => ?_)
  rw [show z9 = nI (i + 2) from ez9.trans (nI_add _ _)]
  refine lw_sld (k := (i + 2)) hx hb hXs hbl hbA hS (by omega) hL dL_law_1399 ?_
  refine lv_i2l (v := (xs (i + 2) : Int32).toInt64) hx hb dL_law_1400 rfl ?_
  refine lv_ldc2 (v := 4294967295) hx hb hown (ht _ kw_978) dL_law_1401 ?_
  refine lv_land hx hb dL_law_1404 ?_
  refine lv_lor hx hb dL_law_1405 ?_
  refine lv_topl (fun y1 ey1 => ?_)
  refine lv_aload_n hx hb dL_law_1406 rfl (lv_at hl 4 rfl) ?_
  refine lv_iload hx hb dL_law_1407 (lv_at hl 0 rfl) ?_
  refine lv_iconst (v := (nI 3)) hx hb dL_law_1409 (by decide) ?_
  refine lv_iadd hx hb dL_law_1410 ?_
  refine lv_topi (fun z9 ez9 => ?_)
  rw [show z9 = nI (i + 3) from ez9.trans (nI_add _ _)]
  refine lw_sld (k := (i + 3)) hx hb hXs hbl hbA hS (by omega) hL dL_law_1411 ?_
  refine lv_aload_n hx hb dL_law_1412 rfl (lv_at hl 1 rfl) ?_
  refine fh_cSW (As := [.ref xa, .long y1, .int (xs (i + 3)), .ref oa]) (rest := []) ⟨hx, hb, hml, hown, ht⟩ (w_play l G A h _ hst hA9 hAh xa ad no nv ns V S LK RL J C M hR hI.bd hK8 y1 (xs (i + 3)) oa f0 ho) (vx_cwSW 4 ht (gS kw_641 kw_642 kw_0 kw_643) rfl rfl rfl yd_L_play.2 ⟨(Nat.le_of_ble_eq_true rfl), (Nat.le_of_ble_eq_true rfl)⟩) hP hE hS rfl hl.1 rfl (Nat.le_of_ble_eq_true rfl) dL_law_1413 ⟨(by show _ ≤ 601024; omega), (by show _ ≤ 7293034; omega)⟩ (fun v u H locs hp hP hz hS => ?_)
  obtain ⟨rfl, hA1, hk1, ⟨ad2, hR1⟩, f2, ho2, hf2⟩ := hp
  have hRM1 := hRM.kp2 hk1 rfl hA1
  refine W.eq (g2 := F0 m 1416 ls [.int (nI (oPlay no nv ns V S LK J C M y1 (xs (i + 3))).1)]) rfl ?_
  obtain ⟨fK, fH, fF, fB, fO, fW, fV, fN, cO, cF, cH, cV, fS, fC, lO, lA, rA, rB, rD, fM, hM1, hX1⟩ := id hRM1
  refine lv_istore (lv' := [(5, .int (nI (oPlay no nv ns V S LK J C M y1 (xs (i + 3))).1)), (4, .int (nI i)), (3, .ref oa), (2, .ref ma), (1, .ref xa), (0, .ref b)]) hx hb dL_law_1416 hl (by decide) rfl (fun ls hl => ?_)
  refine lv_aload_n hx hb dL_law_1418 rfl (lv_at hl 3 rfl) ?_
  refine lv_aload_n hx hb dL_law_1419 rfl (lv_at hl 5 rfl) ?_
  refine lv_iload hx hb dL_law_1420 (lv_at hl 1 rfl) ?_
  refine lv_iconst (v := (nI 1)) hx hb dL_law_1422 (by decide) ?_
  refine lv_iadd hx hb dL_law_1423 ?_
  refine lv_topi (fun z9 ez9 => ?_)
  rw [show z9 = nI (i + 1) from ez9.trans (nI_add _ _)]
  refine lw_sld (k := (i + 1)) hx hb hXs hbl hbA hS (by omega) hL dL_law_1424 ?_
  refine lv_i2l (v := (xs (i + 1) : Int32).toInt64) hx hb dL_law_1425 rfl ?_
  refine lv_bipush (v := (nI 32)) hx hb dL_law_1426 (by decide) ?_
  refine lv_lshl (v := ((xs (i + 1) : Int32).toInt64) <<< (((nI 32) : Int32).toInt64 &&& 63)) hx hb dL_law_1428 rfl ?_
  refine lv_aload_n hx hb dL_law_1429 rfl (lv_at hl 5 rfl) ?_
  refine lv_iload hx hb dL_law_1430 (lv_at hl 1 rfl) ?_
  refine lv_iconst (v := (nI 2)) hx hb dL_law_1432 (by decide) ?_
  refine lv_iadd hx hb dL_law_1433 ?_
  refine lv_topi (fun z9 ez9 => ?_)
  rw [show z9 = nI (i + 2) from ez9.trans (nI_add _ _)]
  refine lw_sld (k := (i + 2)) hx hb hXs hbl hbA hS (by omega) hL dL_law_1434 ?_
  refine lv_i2l (v := (xs (i + 2) : Int32).toInt64) hx hb dL_law_1435 rfl ?_
  refine lv_ldc2 (v := 4294967295) hx hb hown (ht _ kw_978) dL_law_1436 ?_
  refine lv_land hx hb dL_law_1439 ?_
  refine lv_lor hx hb dL_law_1440 ?_
  refine lv_topl (fun z9 ez9 => ?_)
  rw [show z9 = y1 from ez9.trans ey1.symm]
  refine lv_aload_n hx hb dL_law_1441 rfl (lv_at hl 5 rfl) ?_
  refine lv_iload hx hb dL_law_1442 (lv_at hl 1 rfl) ?_
  refine lv_iconst (v := (nI 3)) hx hb dL_law_1444 (by decide) ?_
  refine lv_iadd hx hb dL_law_1445 ?_
  refine lv_topi (fun z9 ez9 => ?_)
  rw [show z9 = nI (i + 3) from ez9.trans (nI_add _ _)]
  refine lw_sld (k := (i + 3)) hx hb hXs hbl hbA hS (by omega) hL dL_law_1446 ?_
  refine fh_cV (q := (RX10, TX10, 28)) (As := [.long y1, .int (xs (i + 3))]) (rest := []) (b := ma) ⟨hx, hb, hml, hown, ht⟩ (q_play l G A u _ ma bb th no nv ns V S LK RL J C M hRM1 hI.bd hI.lk hI.vn hI.mz y1 (xs (i + 3))) (cwV 2 ht (gV kw_930 kw_931 kw_932 kw_5 kw_933) rfl rfl rfl yd_X10_play ⟨(Nat.le_of_ble_eq_true rfl), (Nat.le_of_ble_eq_true rfl)⟩) hP hE hS (MG.m hM1) rfl rfl hl.1 rfl (Nat.le_of_ble_eq_true rfl) dL_law_1447 ⟨(by show _ ≤ 601024; omega), (by show _ ≤ 7293034; omega)⟩ (fun v u2 H locs hp hP hz hS => ?_)
  obtain ⟨ans, rfl, ha, hRM2⟩ := hp
  obtain ⟨hk2, hA2, hRM3⟩ := hRM2.re
  have hR2 := hR1.kpN hk2 rfl
  have ho3 := hk2 _ _ ho2 rfl
  refine W.eq (g2 := F0 m 1450 ls [.int ans]) rfl ?_
  obtain ⟨fK3, fH3, fF3, fB3, fO3, fW3, fV3, fN3, cO3, cF3, cH3, cV3, fS3, fC3, lO3, lA3, rA3, rB3, rD3, fM3, hM3, hX3⟩ := id hRM3
  refine lv_istore (lv' := [(6, .int ans), (5, .int (nI (oPlay no nv ns V S LK J C M y1 (xs (i + 3))).1)), (4, .int (nI i)), (3, .ref oa), (2, .ref ma), (1, .ref xa), (0, .ref b)]) hx hb dL_law_1450 hl (by decide) rfl (fun ls hl => ?_)
  refine lv_aload_n hx hb dL_law_1452 rfl (lv_at hl 4 rfl) ?_
  refine fh_cV (q := (RX10, TX10, 28)) (As := []) (rest := []) (b := ma) ⟨hx, hb, hml, hown, ht⟩ (m_thrown l G A u2 _ hM3) (cwV 0 ht (gV kw_776 kw_777 kw_778 kw_5 kw_779) rfl rfl rfl yd_X10_thrown ⟨(Nat.le_of_ble_eq_true rfl), (Nat.le_of_ble_eq_true rfl)⟩) hP hE hS (MG.m hM3) rfl rfl hl.1 rfl (Nat.le_of_ble_eq_true rfl) dL_law_1453 ⟨(by show _ ≤ 601024; omega), (by show _ ≤ 7293034; omega)⟩ (fun v u H locs hp hP hz hS => ?_)
  obtain ⟨rfl, eu⟩ := hp
  rw [eu] at hP
  refine W.eq (g2 := F0 m 1456 ls [.int (nI (oPlay no nv ns V S LK J C M y1 (xs (i + 3))).1)]) rfl ?_
  refine lv_iload hx hb dL_law_1456 (lv_at hl 1 rfl) ?_
  refine lv_icmp_eq (tgt := 1463) hx hb dL_law_1458 (by decide) (fun _ => ?_) (fun c9 => absurd (rfl) c9)
  refine lv_iload hx hb dL_law_1463 (lv_at hl 1 rfl) ?_
  have hle := oPlay_le no nv ns V S LK J C M y1 (xs (i + 3))
  refine lv_if_ne (tgt := 1480) hx hb dL_law_1465 (by decide) (fun c1 => ?_) (fun c1 => ?_)
  · refine lv_goto (tgt := 1551) hx hb dL_law_1480 (by decide) ?_
    refine W.widen (k := cells + 940) (n := slots + 3900) (by omega) (by omega) ?_
    exact k _ _ _ _ ⟨_, _, _, _, _, _, _, _, _, _, _, _, f2, hA2, hR2.mono (by omega), hRM3, (hI.play y1 (xs (i + 3))), ho3⟩ hP hS (lv_sub hl [2, 3, 4, 5, 6] rfl)
  · have e0 : (oPlay no nv ns V S LK J C M y1 (xs (i + 3))).1 = 0 := (nI_eq (by omega) (by decide)).mp c1
    refine lv_aload_n hx hb dL_law_1468 rfl (lv_at hl 3 rfl) ?_
    refine lv_iconst (v := (nI 0)) hx hb dL_law_1469 (by decide) ?_
    refine fh_lald (k := 0) hx hb hE.1 hP ho3 rfl (by decide) (by decide) dL_law_1470 ?_
    refine lv_iload hx hb dL_law_1471 (lv_at hl 0 rfl) ?_
    refine lv_i2l (v := (ans : Int32).toInt64) hx hb dL_law_1473 rfl ?_
    refine W.lcmp hx hb dL_law_1474 ?_
    refine lv_if_eq (tgt := 1480) hx hb dL_law_1475 (by decide) (fun _ => ?_) (fun c9 => absurd ((lg_cmp_eq _ _).mpr (by rw [hf2 e0, ha e0])) c9)
    refine lv_goto (tgt := 1551) hx hb dL_law_1480 (by decide) ?_
    refine W.widen (k := cells + 940) (n := slots + 3900) (by omega) (by omega) ?_
    exact k _ _ _ _ ⟨_, _, _, _, _, _, _, _, _, _, _, _, f2, hA2, hR2.mono (by omega), hRM3, (hI.play y1 (xs (i + 3))), ho3⟩ hP hS (lv_sub hl [2, 3, 4, 5, 6] rfl)

set_option maxRecDepth 100000 in
set_option maxHeartbeats 4000000 in
theorem lc_mark {p : Program} {l : Launch} {e : Env} {s : State} {m : MethodId} {below : List Frame} {meth : Method} {c : Code} {b L : Nat} {xs : Nat → Int32} {G : fG} {A : Nat → Prop} (hst : l.stackTraces = false) (hA : ∀ q, s.heap.size ≤ q → A q) (hx : p.tables.exec = Jvm.exec) (hb : c.code = code) (hml : c.maxLocals = 8) (hown : s.vm.findClass "ObjectMergeLaw" = some m.cls) (ht : ∀ w ∈ wB, w.before #[Value.ref b] s = true) (hE : fh_Env G A s s.heap) (hXs : va_X b L xs s s.heap) (hbl : b < s.heap.size) (hbA : ¬ A b) (hL : L ≤ 5120) {xa ma oa : Nat} {bb : Nat → Nat} (i : Nat) (hi : i + 10 ≤ L) {H : Heap} {locs : List Loc} {ls : Array Slot} {cells slots : Nat} (hcs : cells + 940 ≤ 601024) (hss : slots + 3900 ≤ 7293034) {Kq : Nat} (hK8 : Kq < 900000) {h : FH} (hs : LawSt Kq A h xa ma oa bb) (hP : fh_P G vwCl h H) (hS : va_S A s.heap H locs) (hl : lv_has ls 8 [(4, .int (nI i)), (3, .ref oa), (2, .ref ma), (1, .ref xa), (0, .ref b)]) {Q : State → Prop} (k : ∀ (u : FH) (H : Heap) (locs : List Loc) (ls : Array Slot), LawSt (Kq + 100) A u xa ma oa bb → fh_P G vwCl u H → va_S A s.heap H locs → lv_has ls 8 [(4, .int (nI i)), (3, .ref oa), (2, .ref ma), (1, .ref xa), (0, .ref b)] → W p l e room_1 s m #[Value.ref b] below meth c H locs (cells + 940) (slots + 3900) Q (F0 m 1551 ls [])) : W p l e room_1 s m #[Value.ref b] below meth c H locs cells slots Q (F0 m 1483 ls []) := by
  obtain ⟨ad, th, no, nv, ns, V, S, LK, RL, J, C, M, f0, hAh, hR, hRM, hI, ho⟩ := hs
  have hX := hR.1
  have hA9 : ∀ q, H.size ≤ q → A q := fun q hq => hA q (Nat.le_trans hS.1 hq)
  refine lv_aload_n hx hb dL_law_1483 rfl (lv_at hl 3 rfl) ?_
  refine lv_aload_n hx hb dL_law_1484 rfl (lv_at hl 4 rfl) ?_
  refine lv_iload hx hb dL_law_1485 (lv_at hl 0 rfl) ?_
  refine lv_iconst (v := (nI 1)) hx hb dL_law_1487 (by decide) ?_
  refine lv_iadd hx hb dL_law_1488 ?_
  refine lv_topi (fun z9 ez9 => ?_)
  rw [show z9 = nI (i + 1) from ez9.trans (nI_add _ _)]
  refine lw_sld (k := (i + 1)) hx hb hXs hbl hbA hS (by omega) hL dL_law_1489 ?_
  refine lv_aload_n hx hb dL_law_1490 rfl (lv_at hl 4 rfl) ?_
  refine lv_iload hx hb dL_law_1491 (lv_at hl 0 rfl) ?_
  refine lv_iconst (v := (nI 2)) hx hb dL_law_1493 (by decide) ?_
  refine lv_iadd hx hb dL_law_1494 ?_
  refine lv_topi (fun z9 ez9 => ?_)
  rw [show z9 = nI (i + 2) from ez9.trans (nI_add _ _)]
  refine lw_sld (k := (i + 2)) hx hb hXs hbl hbA hS (by omega) hL dL_law_1495 ?_
  refine lv_aload_n hx hb dL_law_1496 rfl (lv_at hl 1 rfl) ?_
  refine fh_cSW (As := [.ref xa, .int (xs (i + 1)), .int (xs (i + 2)), .ref oa]) (rest := []) ⟨hx, hb, hml, hown, ht⟩ (w_mark l G A h _ hst hA9 hAh xa ad no nv ns V S LK RL J C M hR hI.bd hK8 (xs (i + 1)) (xs (i + 2)) oa f0 ho) (vx_cwSW 4 ht (gS kw_669 kw_670 kw_0 kw_671) rfl rfl rfl yd_L_mark.2 ⟨(Nat.le_of_ble_eq_true rfl), (Nat.le_of_ble_eq_true rfl)⟩) hP hE hS rfl hl.1 rfl (Nat.le_of_ble_eq_true rfl) dL_law_1497 ⟨(by show _ ≤ 601024; omega), (by show _ ≤ 7293034; omega)⟩ (fun v u H locs hp hP hz hS => ?_)
  obtain ⟨rfl, hA1, hk1, ⟨ad2, hR1⟩, f2, ho2, hf2⟩ := hp
  have hRM1 := hRM.kp2 hk1 rfl hA1
  refine W.eq (g2 := F0 m 1500 ls [.int (nI (oMark no nv V M (xs (i + 1)) (xs (i + 2))).1)]) rfl ?_
  obtain ⟨fK, fH, fF, fB, fO, fW, fV, fN, cO, cF, cH, cV, fS, fC, lO, lA, rA, rB, rD, fM, hM1, hX1⟩ := id hRM1
  refine lv_istore (lv' := [(5, .int (nI (oMark no nv V M (xs (i + 1)) (xs (i + 2))).1)), (4, .int (nI i)), (3, .ref oa), (2, .ref ma), (1, .ref xa), (0, .ref b)]) hx hb dL_law_1500 hl (by decide) rfl (fun ls hl => ?_)
  refine lv_aload_n hx hb dL_law_1502 rfl (lv_at hl 3 rfl) ?_
  refine lv_aload_n hx hb dL_law_1503 rfl (lv_at hl 5 rfl) ?_
  refine lv_iload hx hb dL_law_1504 (lv_at hl 1 rfl) ?_
  refine lv_iconst (v := (nI 1)) hx hb dL_law_1506 (by decide) ?_
  refine lv_iadd hx hb dL_law_1507 ?_
  refine lv_topi (fun z9 ez9 => ?_)
  rw [show z9 = nI (i + 1) from ez9.trans (nI_add _ _)]
  refine lw_sld (k := (i + 1)) hx hb hXs hbl hbA hS (by omega) hL dL_law_1508 ?_
  refine lv_aload_n hx hb dL_law_1509 rfl (lv_at hl 5 rfl) ?_
  refine lv_iload hx hb dL_law_1510 (lv_at hl 1 rfl) ?_
  refine lv_iconst (v := (nI 2)) hx hb dL_law_1512 (by decide) ?_
  refine lv_iadd hx hb dL_law_1513 ?_
  refine lv_topi (fun z9 ez9 => ?_)
  rw [show z9 = nI (i + 2) from ez9.trans (nI_add _ _)]
  refine lw_sld (k := (i + 2)) hx hb hXs hbl hbA hS (by omega) hL dL_law_1514 ?_
  refine fh_cV (q := (RX10, TX10, 28)) (As := [.int (xs (i + 1)), .int (xs (i + 2))]) (rest := []) (b := ma) ⟨hx, hb, hml, hown, ht⟩ (q_mark l G A u _ ma bb th no nv ns V S LK RL J C M hRM1 hI.bd hI.lk (xs (i + 1)) (xs (i + 2))) (cwV 2 ht (gV kw_949 kw_950 kw_951 kw_5 kw_952) rfl rfl rfl yd_X10_mark ⟨(Nat.le_of_ble_eq_true rfl), (Nat.le_of_ble_eq_true rfl)⟩) hP hE hS (MG.m hM1) rfl rfl hl.1 rfl (Nat.le_of_ble_eq_true rfl) dL_law_1515 ⟨(by show _ ≤ 601024; omega), (by show _ ≤ 7293034; omega)⟩ (fun v u2 H locs hp hP hz hS => ?_)
  obtain ⟨ans, rfl, ha, hRM2⟩ := hp
  obtain ⟨hk2, hA2, hRM3⟩ := hRM2.re
  have hR2 := hR1.kpN hk2 rfl
  have ho3 := hk2 _ _ ho2 rfl
  refine W.eq (g2 := F0 m 1518 ls [.int ans]) rfl ?_
  obtain ⟨fK3, fH3, fF3, fB3, fO3, fW3, fV3, fN3, cO3, cF3, cH3, cV3, fS3, fC3, lO3, lA3, rA3, rB3, rD3, fM3, hM3, hX3⟩ := id hRM3
  refine lv_istore (lv' := [(6, .int ans), (5, .int (nI (oMark no nv V M (xs (i + 1)) (xs (i + 2))).1)), (4, .int (nI i)), (3, .ref oa), (2, .ref ma), (1, .ref xa), (0, .ref b)]) hx hb dL_law_1518 hl (by decide) rfl (fun ls hl => ?_)
  refine lv_aload_n hx hb dL_law_1520 rfl (lv_at hl 4 rfl) ?_
  refine fh_cV (q := (RX10, TX10, 28)) (As := []) (rest := []) (b := ma) ⟨hx, hb, hml, hown, ht⟩ (m_thrown l G A u2 _ hM3) (cwV 0 ht (gV kw_776 kw_777 kw_778 kw_5 kw_779) rfl rfl rfl yd_X10_thrown ⟨(Nat.le_of_ble_eq_true rfl), (Nat.le_of_ble_eq_true rfl)⟩) hP hE hS (MG.m hM3) rfl rfl hl.1 rfl (Nat.le_of_ble_eq_true rfl) dL_law_1521 ⟨(by show _ ≤ 601024; omega), (by show _ ≤ 7293034; omega)⟩ (fun v u H locs hp hP hz hS => ?_)
  obtain ⟨rfl, eu⟩ := hp
  rw [eu] at hP
  refine W.eq (g2 := F0 m 1524 ls [.int (nI (oMark no nv V M (xs (i + 1)) (xs (i + 2))).1)]) rfl ?_
  refine lv_iload hx hb dL_law_1524 (lv_at hl 1 rfl) ?_
  refine lv_icmp_eq (tgt := 1531) hx hb dL_law_1526 (by decide) (fun _ => ?_) (fun c9 => absurd (rfl) c9)
  refine lv_iload hx hb dL_law_1531 (lv_at hl 1 rfl) ?_
  have hle := oMark_le no nv V M (xs (i + 1)) (xs (i + 2))
  refine lv_if_ne (tgt := 1548) hx hb dL_law_1533 (by decide) (fun c1 => ?_) (fun c1 => ?_)
  · refine lv_goto (tgt := 1551) hx hb dL_law_1548 (by decide) ?_
    refine W.widen (k := cells + 940) (n := slots + 3900) (by omega) (by omega) ?_
    exact k _ _ _ _ ⟨_, _, _, _, _, _, _, _, _, _, _, _, f2, hA2, hR2.mono (by omega), hRM3, (hI.mark (xs (i + 1)) (xs (i + 2))), ho3⟩ hP hS (lv_sub hl [2, 3, 4, 5, 6] rfl)
  · have e0 : (oMark no nv V M (xs (i + 1)) (xs (i + 2))).1 = 0 := (nI_eq (by omega) (by decide)).mp c1
    refine lv_aload_n hx hb dL_law_1536 rfl (lv_at hl 3 rfl) ?_
    refine lv_iconst (v := (nI 0)) hx hb dL_law_1537 (by decide) ?_
    refine fh_lald (k := 0) hx hb hE.1 hP ho3 rfl (by decide) (by decide) dL_law_1538 ?_
    refine lv_iload hx hb dL_law_1539 (lv_at hl 0 rfl) ?_
    refine lv_i2l (v := (ans : Int32).toInt64) hx hb dL_law_1541 rfl ?_
    refine W.lcmp hx hb dL_law_1542 ?_
    refine lv_if_eq (tgt := 1548) hx hb dL_law_1543 (by decide) (fun _ => ?_) (fun c9 => absurd ((lg_cmp_eq _ _).mpr (by rw [hf2 e0, ha e0])) c9)
    refine lv_goto (tgt := 1551) hx hb dL_law_1548 (by decide) ?_
    refine W.widen (k := cells + 940) (n := slots + 3900) (by omega) (by omega) ?_
    exact k _ _ _ _ ⟨_, _, _, _, _, _, _, _, _, _, _, _, f2, hA2, hR2.mono (by omega), hRM3, (hI.mark (xs (i + 1)) (xs (i + 2))), ho3⟩ hP hS (lv_sub hl [2, 3, 4, 5, 6] rfl)
