set_option maxRecDepth 100000 in
set_option maxHeartbeats 4000000 in
theorem lc_object {p : Program} {l : Launch} {e : Env} {s : State} {m : MethodId} {below : List Frame} {meth : Method} {c : Code} {b L : Nat} {xs : Nat → Int32} {G : fG} {A : Nat → Prop} (hst : l.stackTraces = false) (hA : ∀ q, s.heap.size ≤ q → A q) (hx : p.tables.exec = Jvm.exec) (hb : c.code = code) (hml : c.maxLocals = 8) (hown : s.vm.findClass "ObjectMergeLaw" = some m.cls) (ht : ∀ w ∈ wB, w.before #[Value.ref b] s = true) (hE : fh_Env G A s s.heap) (hXs : va_X b L xs s s.heap) (hbl : b < s.heap.size) (hbA : ¬ A b) (hL : L ≤ 5120) {xa ma oa : Nat} {bb : Nat → Nat} (i : Nat) (hi : i + 10 ≤ L) {H : Heap} {locs : List Loc} {ls : Array Slot} {cells slots : Nat} (hcs : cells + 940 ≤ 601024) (hss : slots + 3900 ≤ 7293034) {Kq : Nat} (hK8 : Kq < 900000) {h : FH} (hs : LawSt Kq A h xa ma oa bb) (hP : fh_P G vwCl h H) (hS : va_S A s.heap H locs) (hl : lv_has ls 8 [(4, .int (nI i)), (3, .ref oa), (2, .ref ma), (1, .ref xa), (0, .ref b)]) {Q : State → Prop} (k : ∀ (u : FH) (H : Heap) (locs : List Loc) (ls : Array Slot), LawSt (Kq + 100) A u xa ma oa bb → fh_P G vwCl u H → va_S A s.heap H locs → lv_has ls 8 [(4, .int (nI i)), (3, .ref oa), (2, .ref ma), (1, .ref xa), (0, .ref b)] → W p l e room_1 s m #[Value.ref b] below meth c H locs (cells + 940) (slots + 3900) Q (F0 m 1551 ls [])) : W p l e room_1 s m #[Value.ref b] below meth c H locs cells slots Q (F0 m 128 ls []) := by
  obtain ⟨ad, th, no, nv, ns, V, S, LK, RL, J, C, M, f0, hAh, hR, hRM, hI, ho⟩ := hs
  have hX := hR.1
  have hA9 : ∀ q, H.size ≤ q → A q := fun q hq => hA q (Nat.le_trans hS.1 hq)
  refine lv_aload_n hx hb dL_law_128 rfl (lv_at hl 3 rfl) ?_
  refine lv_aload_n hx hb dL_law_129 rfl (lv_at hl 4 rfl) ?_
  refine lv_iload hx hb dL_law_130 (lv_at hl 0 rfl) ?_
  refine lv_iconst (v := (nI 1)) hx hb dL_law_132 (by decide) ?_
  refine lv_iadd hx hb dL_law_133 ?_
  refine lv_topi (fun z9 ez9 => ?_)
  rw [show z9 = nI (i + 1) from ez9.trans (nI_add _ _)]
  refine lw_sld (k := (i + 1)) hx hb hXs hbl hbA hS (by omega) hL dL_law_134 ?_
  refine lv_aload_n hx hb dL_law_135 rfl (lv_at hl 1 rfl) ?_
  refine fh_cSW (As := [.ref xa, .int (xs (i + 1)), .ref oa]) (rest := []) ⟨hx, hb, hml, hown, ht⟩ (w_object l G A h _ hst hA9 hAh xa ad no nv ns V S LK RL J C M hR hI.bd hK8 (xs (i + 1)) oa f0 ho) (vx_cwSW 3 ht (gS kw_175 kw_176 kw_0 kw_177) rfl rfl rfl yd_L_object.2 ⟨(Nat.le_of_ble_eq_true rfl), (Nat.le_of_ble_eq_true rfl)⟩) hP hE hS rfl hl.1 rfl (Nat.le_of_ble_eq_true rfl) dL_law_136 ⟨(by show _ ≤ 601024; omega), (by show _ ≤ 7293034; omega)⟩ (fun v u H locs hp hP hz hS => ?_)
  obtain ⟨rfl, hA1, hk1, ⟨ad2, hR1⟩, f2, ho2, hf2⟩ := hp
  have hRM1 := hRM.kp2 hk1 rfl hA1
  refine W.eq (g2 := F0 m 139 ls [.int (nI (oObj no nv V (xs (i + 1))).1)]) rfl ?_
  obtain ⟨fK, fH, fF, fB, fO, fW, fV, fN, cO, cF, cH, cV, fS, fC, lO, lA, rA, rB, rD, fM, hM1, hX1⟩ := id hRM1
  refine lv_istore (lv' := [(5, .int (nI (oObj no nv V (xs (i + 1))).1)), (4, .int (nI i)), (3, .ref oa), (2, .ref ma), (1, .ref xa), (0, .ref b)]) hx hb dL_law_139 hl (by decide) rfl (fun ls hl => ?_)
  refine lv_aload_n hx hb dL_law_141 rfl (lv_at hl 3 rfl) ?_
  refine lv_aload_n hx hb dL_law_142 rfl (lv_at hl 5 rfl) ?_
  refine lv_iload hx hb dL_law_143 (lv_at hl 1 rfl) ?_
  refine lv_iconst (v := (nI 1)) hx hb dL_law_145 (by decide) ?_
  refine lv_iadd hx hb dL_law_146 ?_
  refine lv_topi (fun z9 ez9 => ?_)
  rw [show z9 = nI (i + 1) from ez9.trans (nI_add _ _)]
  refine lw_sld (k := (i + 1)) hx hb hXs hbl hbA hS (by omega) hL dL_law_147 ?_
  refine fh_cV (q := (RX10, TX10, 28)) (As := [.int (xs (i + 1))]) (rest := []) (b := ma) ⟨hx, hb, hml, hown, ht⟩ (q_object l G A u _ ma bb th no nv ns V S LK RL J C M hRM1 hI.bd hI.lk (xs (i + 1))) (cwV 1 ht (gV kw_780 kw_781 kw_782 kw_5 kw_783) rfl rfl rfl yd_X10_object ⟨(Nat.le_of_ble_eq_true rfl), (Nat.le_of_ble_eq_true rfl)⟩) hP hE hS (MG.m hM1) rfl rfl hl.1 rfl (Nat.le_of_ble_eq_true rfl) dL_law_148 ⟨(by show _ ≤ 601024; omega), (by show _ ≤ 7293034; omega)⟩ (fun v u2 H locs hp hP hz hS => ?_)
  obtain ⟨ans, rfl, ha, hRM2⟩ := hp
  obtain ⟨hk2, hA2, hRM3⟩ := hRM2.re
  have hR2 := hR1.kpN hk2 rfl
  have ho3 := hk2 _ _ ho2 rfl
  refine W.eq (g2 := F0 m 151 ls [.int ans]) rfl ?_
  obtain ⟨fK3, fH3, fF3, fB3, fO3, fW3, fV3, fN3, cO3, cF3, cH3, cV3, fS3, fC3, lO3, lA3, rA3, rB3, rD3, fM3, hM3, hX3⟩ := id hRM3
  refine lv_istore (lv' := [(6, .int ans), (5, .int (nI (oObj no nv V (xs (i + 1))).1)), (4, .int (nI i)), (3, .ref oa), (2, .ref ma), (1, .ref xa), (0, .ref b)]) hx hb dL_law_151 hl (by decide) rfl (fun ls hl => ?_)
  refine lv_aload_n hx hb dL_law_153 rfl (lv_at hl 4 rfl) ?_
  refine fh_cV (q := (RX10, TX10, 28)) (As := []) (rest := []) (b := ma) ⟨hx, hb, hml, hown, ht⟩ (m_thrown l G A u2 _ hM3) (cwV 0 ht (gV kw_776 kw_777 kw_778 kw_5 kw_779) rfl rfl rfl yd_X10_thrown ⟨(Nat.le_of_ble_eq_true rfl), (Nat.le_of_ble_eq_true rfl)⟩) hP hE hS (MG.m hM3) rfl rfl hl.1 rfl (Nat.le_of_ble_eq_true rfl) dL_law_154 ⟨(by show _ ≤ 601024; omega), (by show _ ≤ 7293034; omega)⟩ (fun v u H locs hp hP hz hS => ?_)
  obtain ⟨rfl, eu⟩ := hp
  rw [eu] at hP
  refine W.eq (g2 := F0 m 157 ls [.int (nI (oObj no nv V (xs (i + 1))).1)]) rfl ?_
  refine lv_iload hx hb dL_law_157 (lv_at hl 1 rfl) ?_
  refine lv_icmp_eq (tgt := 164) hx hb dL_law_159 (by decide) (fun _ => ?_) (fun c9 => absurd (rfl) c9)
  refine lv_iload hx hb dL_law_164 (lv_at hl 1 rfl) ?_
  have hle := oObj_le no nv V (xs (i + 1))
  refine lv_if_ne (tgt := 181) hx hb dL_law_166 (by decide) (fun c1 => ?_) (fun c1 => ?_)
  · refine lv_goto (tgt := 1551) hx hb dL_law_181 (by decide) ?_
    refine W.widen (k := cells + 940) (n := slots + 3900) (by omega) (by omega) ?_
    exact k _ _ _ _ ⟨_, _, _, _, _, _, _, _, _, _, _, _, f2, hA2, hR2.mono (by omega), hRM3, (hI.object (xs (i + 1))), ho3⟩ hP hS (lv_sub hl [2, 3, 4, 5, 6] rfl)
  · have e0 : (oObj no nv V (xs (i + 1))).1 = 0 := (nI_eq (by omega) (by decide)).mp c1
    refine lv_aload_n hx hb dL_law_169 rfl (lv_at hl 3 rfl) ?_
    refine lv_iconst (v := (nI 0)) hx hb dL_law_170 (by decide) ?_
    refine fh_lald (k := 0) hx hb hE.1 hP ho3 rfl (by decide) (by decide) dL_law_171 ?_
    refine lv_iload hx hb dL_law_172 (lv_at hl 0 rfl) ?_
    refine lv_i2l (v := (ans : Int32).toInt64) hx hb dL_law_174 rfl ?_
    refine W.lcmp hx hb dL_law_175 ?_
    refine lv_if_eq (tgt := 181) hx hb dL_law_176 (by decide) (fun _ => ?_) (fun c9 => absurd ((lg_cmp_eq _ _).mpr (by rw [hf2 e0, ha e0])) c9)
    refine lv_goto (tgt := 1551) hx hb dL_law_181 (by decide) ?_
    refine W.widen (k := cells + 940) (n := slots + 3900) (by omega) (by omega) ?_
    exact k _ _ _ _ ⟨_, _, _, _, _, _, _, _, _, _, _, _, f2, hA2, hR2.mono (by omega), hRM3, (hI.object (xs (i + 1))), ho3⟩ hP hS (lv_sub hl [2, 3, 4, 5, 6] rfl)

set_option maxRecDepth 100000 in
set_option maxHeartbeats 4000000 in
theorem lc_session {p : Program} {l : Launch} {e : Env} {s : State} {m : MethodId} {below : List Frame} {meth : Method} {c : Code} {b L : Nat} {xs : Nat → Int32} {G : fG} {A : Nat → Prop} (hst : l.stackTraces = false) (hA : ∀ q, s.heap.size ≤ q → A q) (hx : p.tables.exec = Jvm.exec) (hb : c.code = code) (hml : c.maxLocals = 8) (hown : s.vm.findClass "ObjectMergeLaw" = some m.cls) (ht : ∀ w ∈ wB, w.before #[Value.ref b] s = true) (hE : fh_Env G A s s.heap) (hXs : va_X b L xs s s.heap) (hbl : b < s.heap.size) (hbA : ¬ A b) (hL : L ≤ 5120) {xa ma oa : Nat} {bb : Nat → Nat} (i : Nat) (hi : i + 10 ≤ L) {H : Heap} {locs : List Loc} {ls : Array Slot} {cells slots : Nat} (hcs : cells + 940 ≤ 601024) (hss : slots + 3900 ≤ 7293034) {Kq : Nat} (hK8 : Kq < 900000) {h : FH} (hs : LawSt Kq A h xa ma oa bb) (hP : fh_P G vwCl h H) (hS : va_S A s.heap H locs) (hl : lv_has ls 8 [(4, .int (nI i)), (3, .ref oa), (2, .ref ma), (1, .ref xa), (0, .ref b)]) {Q : State → Prop} (k : ∀ (u : FH) (H : Heap) (locs : List Loc) (ls : Array Slot), LawSt (Kq + 100) A u xa ma oa bb → fh_P G vwCl u H → va_S A s.heap H locs → lv_has ls 8 [(4, .int (nI i)), (3, .ref oa), (2, .ref ma), (1, .ref xa), (0, .ref b)] → W p l e room_1 s m #[Value.ref b] below meth c H locs (cells + 940) (slots + 3900) Q (F0 m 1551 ls [])) : W p l e room_1 s m #[Value.ref b] below meth c H locs cells slots Q (F0 m 184 ls []) := by
  obtain ⟨ad, th, no, nv, ns, V, S, LK, RL, J, C, M, f0, hAh, hR, hRM, hI, ho⟩ := hs
  have hX := hR.1
  have hA9 : ∀ q, H.size ≤ q → A q := fun q hq => hA q (Nat.le_trans hS.1 hq)
  refine lv_aload_n hx hb dL_law_184 rfl (lv_at hl 3 rfl) ?_
  refine fh_cV (q := (RX9, TX9, 11)) (As := []) (rest := []) (b := xa) ⟨hx, hb, hml, hown, ht⟩ (p_session l G A h _ hA9 hAh xa ad no nv ns V S LK RL J C M hR hI.bd hK8) (cwV 0 ht (gV kw_109 kw_110 kw_111 kw_1 kw_112) rfl rfl rfl yd_X9_session ⟨(Nat.le_of_ble_eq_true rfl), (Nat.le_of_ble_eq_true rfl)⟩) hP hE hS hX rfl rfl hl.1 rfl (Nat.le_of_ble_eq_true rfl) dL_law_185 ⟨(by show _ ≤ 601024; omega), (by show _ ≤ 7293034; omega)⟩ (fun v u H locs hp hP hz hS => ?_)
  obtain ⟨rfl, hA1, hk1, ad2, hR1⟩ := hp
  have hRM1 := hRM.kp2 hk1 rfl hA1
  have ho2 := hk1 _ _ ho rfl
  refine W.eq (g2 := F0 m 188 ls [.int ((oBegin ns V S (nv - 1)).1)]) rfl ?_
  obtain ⟨fK, fH, fF, fB, fO, fW, fV, fN, cO, cF, cH, cV, fS, fC, lO, lA, rA, rB, rD, fM, hM1, hX1⟩ := id hRM1
  refine lv_aload_n hx hb dL_law_188 rfl (lv_at hl 2 rfl) ?_
  refine fh_cV (q := (RX10, TX10, 28)) (As := []) (rest := [.int ((oBegin ns V S (nv - 1)).1)]) (b := ma) ⟨hx, hb, hml, hown, ht⟩ (q_session l G A u _ ma bb th no nv ns V S LK RL J C M hRM1 hI.bd hI.lk) (cwV 0 ht (gV kw_795 kw_796 kw_797 kw_5 kw_798) rfl rfl rfl yd_X10_session ⟨(Nat.le_of_ble_eq_true rfl), (Nat.le_of_ble_eq_true rfl)⟩) hP hE hS (MG.m hM1) rfl rfl hl.1 rfl (Nat.le_of_ble_eq_true rfl) dL_law_189 ⟨(by show _ ≤ 601024; omega), (by show _ ≤ 7293034; omega)⟩ (fun v u2 H locs hp hP hz hS => ?_)
  obtain ⟨ans, rfl, ha, hRM2⟩ := hp
  obtain ⟨hk2, hA2, hRM3⟩ := hRM2.re
  have hR2 := hR1.kpN hk2 rfl
  have ho3 := hk2 _ _ ho2 rfl
  obtain ⟨f2, ef2⟩ : ∃ z8, z8 = f0 := ⟨_, rfl⟩
  rw [← ef2] at ho3
  refine W.eq (g2 := F0 m 192 ls [.int ans, .int ((oBegin ns V S (nv - 1)).1)]) rfl ?_
  refine lv_icmp_eq (tgt := 1551) hx hb dL_law_192 (by decide) (fun _ => ?_) (fun c9 => absurd (ha.symm) c9)
  refine W.widen (k := cells + 940) (n := slots + 3900) (by omega) (by omega) ?_
  exact k _ _ _ _ ⟨_, _, _, _, _, _, _, _, _, _, _, _, f2, hA2, hR2.mono (by omega), hRM3, (hI.begin (by have := hI.bd.2.2.1; omega)), ho3⟩ hP hS (lv_sub hl [0, 1, 2, 3, 4] rfl)

set_option maxRecDepth 100000 in
set_option maxHeartbeats 4000000 in
theorem lc_set {p : Program} {l : Launch} {e : Env} {s : State} {m : MethodId} {below : List Frame} {meth : Method} {c : Code} {b L : Nat} {xs : Nat → Int32} {G : fG} {A : Nat → Prop} (hst : l.stackTraces = false) (hA : ∀ q, s.heap.size ≤ q → A q) (hx : p.tables.exec = Jvm.exec) (hb : c.code = code) (hml : c.maxLocals = 8) (hown : s.vm.findClass "ObjectMergeLaw" = some m.cls) (ht : ∀ w ∈ wB, w.before #[Value.ref b] s = true) (hE : fh_Env G A s s.heap) (hXs : va_X b L xs s s.heap) (hbl : b < s.heap.size) (hbA : ¬ A b) (hL : L ≤ 5120) {xa ma oa : Nat} {bb : Nat → Nat} (i : Nat) (hi : i + 10 ≤ L) {H : Heap} {locs : List Loc} {ls : Array Slot} {cells slots : Nat} (hcs : cells + 940 ≤ 601024) (hss : slots + 3900 ≤ 7293034) {Kq : Nat} (hK8 : Kq < 900000) {h : FH} (hs : LawSt Kq A h xa ma oa bb) (hP : fh_P G vwCl h H) (hS : va_S A s.heap H locs) (hl : lv_has ls 8 [(4, .int (nI i)), (3, .ref oa), (2, .ref ma), (1, .ref xa), (0, .ref b)]) {Q : State → Prop} (k : ∀ (u : FH) (H : Heap) (locs : List Loc) (ls : Array Slot), LawSt (Kq + 100) A u xa ma oa bb → fh_P G vwCl u H → va_S A s.heap H locs → lv_has ls 8 [(4, .int (nI i)), (3, .ref oa), (2, .ref ma), (1, .ref xa), (0, .ref b)] → W p l e room_1 s m #[Value.ref b] below meth c H locs (cells + 940) (slots + 3900) Q (F0 m 1551 ls [])) : W p l e room_1 s m #[Value.ref b] below meth c H locs cells slots Q (F0 m 197 ls []) := by
  obtain ⟨ad, th, no, nv, ns, V, S, LK, RL, J, C, M, f0, hAh, hR, hRM, hI, ho⟩ := hs
  have hX := hR.1
  have hA9 : ∀ q, H.size ≤ q → A q := fun q hq => hA q (Nat.le_trans hS.1 hq)
  refine lv_aload_n hx hb dL_law_197 rfl (lv_at hl 3 rfl) ?_
  refine lv_aload_n hx hb dL_law_198 rfl (lv_at hl 4 rfl) ?_
  refine lv_iload hx hb dL_law_199 (lv_at hl 0 rfl) ?_
  refine lv_iconst (v := (nI 1)) hx hb dL_law_201 (by decide) ?_
  refine lv_iadd hx hb dL_law_202 ?_
  refine lv_topi (fun z9 ez9 => ?_)
  rw [show z9 = nI (i + 1) from ez9.trans (nI_add _ _)]
  refine lw_sld (k := (i + 1)) hx hb hXs hbl hbA hS (by omega) hL dL_law_203 ?_
  refine lv_aload_n hx hb dL_law_204 rfl (lv_at hl 4 rfl) ?_
  refine lv_iload hx hb dL_law_205 (lv_at hl 0 rfl) ?_
  refine lv_iconst (v := (nI 2)) hx hb dL_law_207 (by decide) ?_
  refine lv_iadd hx hb dL_law_208 ?_
  refine lv_topi (fun z9 ez9 => ?_)
  rw [show z9 = nI (i + 2) from ez9.trans (nI_add _ _)]
  refine lw_sld (k := (i + 2)) hx hb hXs hbl hbA hS (by omega) hL dL_law_209 ?_
  refine lv_aload_n hx hb dL_law_210 rfl (lv_at hl 4 rfl) ?_
  refine lv_iload hx hb dL_law_211 (lv_at hl 0 rfl) ?_
  refine lv_iconst (v := (nI 3)) hx hb dL_law_213 (by decide) ?_
  refine lv_iadd hx hb dL_law_214 ?_
  refine lv_topi (fun z9 ez9 => ?_)
  rw [show z9 = nI (i + 3) from ez9.trans (nI_add _ _)]
  refine lw_sld (k := (i + 3)) hx hb hXs hbl hbA hS (by omega) hL dL_law_215 ?_
  refine lv_aload_n hx hb dL_law_216 rfl (lv_at hl 4 rfl) ?_
  refine lv_iload hx hb dL_law_217 (lv_at hl 0 rfl) ?_
  refine lv_iconst (v := (nI 4)) hx hb dL_law_219 (by decide) ?_
  refine lv_iadd hx hb dL_law_220 ?_
  refine lv_topi (fun z9 ez9 => ?_)
  rw [show z9 = nI (i + 4) from ez9.trans (nI_add _ _)]
  refine lw_sld (k := (i + 4)) hx hb hXs hbl hbA hS (by omega) hL dL_law_221 ?_
  refine lv_i2l (v := (xs (i + 4) : Int32).toInt64) hx hb dL_law_222 rfl ?_
  refine lv_bipush (v := (nI 32)) hx hb dL_law_223 (by decide) ?_
  refine lv_lshl (v := ((xs (i + 4) : Int32).toInt64) <<< (((nI 32) : Int32).toInt64 &&& 63)) hx hb dL_law_225 rfl ?_
  refine lv_aload_n hx hb dL_law_226 rfl (lv_at hl 4 rfl) ?_
  refine lv_iload hx hb dL_law_227 (lv_at hl 0 rfl) ?_
  refine lv_iconst (v := (nI 5)) hx hb dL_law_229 (by decide) ?_
  refine lv_iadd hx hb dL_law_230 ?_
  refine lv_topi (fun z9 ez9 => ?_)
  rw [show z9 = nI (i + 5) from ez9.trans (nI_add _ _)]
  refine lw_sld (k := (i + 5)) hx hb hXs hbl hbA hS (by omega) hL dL_law_231 ?_
  refine lv_i2l (v := (xs (i + 5) : Int32).toInt64) hx hb dL_law_232 rfl ?_
  refine lv_ldc2 (v := 4294967295) hx hb hown (ht _ kw_978) dL_law_233 ?_
  refine lv_land hx hb dL_law_236 ?_
  refine lv_lor hx hb dL_law_237 ?_
  refine lv_topl (fun y1 ey1 => ?_)
  refine lv_aload_n hx hb dL_law_238 rfl (lv_at hl 1 rfl) ?_
  refine fh_cSW (As := [.ref xa, .int (xs (i + 1)), .int (xs (i + 2)), .int (xs (i + 3)), .long y1, .ref oa]) (rest := []) ⟨hx, hb, hml, hown, ht⟩ (w_set l G A h _ hst hA9 hAh xa ad no nv ns V S LK RL J C M hR hI.bd hK8 (xs (i + 1)) (xs (i + 2)) (xs (i + 3)) y1 oa f0 ho) (vx_cwSW 6 ht (gS kw_277 kw_278 kw_0 kw_279) rfl rfl rfl yd_L_set.2 ⟨(Nat.le_of_ble_eq_true rfl), (Nat.le_of_ble_eq_true rfl)⟩) hP hE hS rfl hl.1 rfl (Nat.le_of_ble_eq_true rfl) dL_law_239 ⟨(by show _ ≤ 601024; omega), (by show _ ≤ 7293034; omega)⟩ (fun v u H locs hp hP hz hS => ?_)
  obtain ⟨rfl, hA1, hk1, ⟨ad2, hR1⟩, f2, ho2, hf2⟩ := hp
  have hRM1 := hRM.kp2 hk1 rfl hA1
  refine W.eq (g2 := F0 m 242 ls [.int (nI (oSet no ns S LK (xs (i + 1)) (xs (i + 2)) (xs (i + 3)) y1).1)]) rfl ?_
  obtain ⟨fK, fH, fF, fB, fO, fW, fV, fN, cO, cF, cH, cV, fS, fC, lO, lA, rA, rB, rD, fM, hM1, hX1⟩ := id hRM1
  refine lv_istore (lv' := [(5, .int (nI (oSet no ns S LK (xs (i + 1)) (xs (i + 2)) (xs (i + 3)) y1).1)), (4, .int (nI i)), (3, .ref oa), (2, .ref ma), (1, .ref xa), (0, .ref b)]) hx hb dL_law_242 hl (by decide) rfl (fun ls hl => ?_)
  refine lv_aload_n hx hb dL_law_244 rfl (lv_at hl 3 rfl) ?_
  refine lv_aload_n hx hb dL_law_245 rfl (lv_at hl 5 rfl) ?_
  refine lv_iload hx hb dL_law_246 (lv_at hl 1 rfl) ?_
  refine lv_iconst (v := (nI 1)) hx hb dL_law_248 (by decide) ?_
  refine lv_iadd hx hb dL_law_249 ?_
  refine lv_topi (fun z9 ez9 => ?_)
  rw [show z9 = nI (i + 1) from ez9.trans (nI_add _ _)]
  refine lw_sld (k := (i + 1)) hx hb hXs hbl hbA hS (by omega) hL dL_law_250 ?_
  refine lv_aload_n hx hb dL_law_251 rfl (lv_at hl 5 rfl) ?_
  refine lv_iload hx hb dL_law_252 (lv_at hl 1 rfl) ?_
  refine lv_iconst (v := (nI 2)) hx hb dL_law_254 (by decide) ?_
  refine lv_iadd hx hb dL_law_255 ?_
  refine lv_topi (fun z9 ez9 => ?_)
  rw [show z9 = nI (i + 2) from ez9.trans (nI_add _ _)]
  refine lw_sld (k := (i + 2)) hx hb hXs hbl hbA hS (by omega) hL dL_law_256 ?_
  refine lv_aload_n hx hb dL_law_257 rfl (lv_at hl 5 rfl) ?_
  refine lv_iload hx hb dL_law_258 (lv_at hl 1 rfl) ?_
  refine lv_iconst (v := (nI 3)) hx hb dL_law_260 (by decide) ?_
  refine lv_iadd hx hb dL_law_261 ?_
  refine lv_topi (fun z9 ez9 => ?_)
  rw [show z9 = nI (i + 3) from ez9.trans (nI_add _ _)]
  refine lw_sld (k := (i + 3)) hx hb hXs hbl hbA hS (by omega) hL dL_law_262 ?_
  refine lv_aload_n hx hb dL_law_263 rfl (lv_at hl 5 rfl) ?_
  refine lv_iload hx hb dL_law_264 (lv_at hl 1 rfl) ?_
  refine lv_iconst (v := (nI 4)) hx hb dL_law_266 (by decide) ?_
  refine lv_iadd hx hb dL_law_267 ?_
  refine lv_topi (fun z9 ez9 => ?_)
  rw [show z9 = nI (i + 4) from ez9.trans (nI_add _ _)]
  refine lw_sld (k := (i + 4)) hx hb hXs hbl hbA hS (by omega) hL dL_law_268 ?_
  refine lv_i2l (v := (xs (i + 4) : Int32).toInt64) hx hb dL_law_269 rfl ?_
  refine lv_bipush (v := (nI 32)) hx hb dL_law_270 (by decide) ?_
  refine lv_lshl (v := ((xs (i + 4) : Int32).toInt64) <<< (((nI 32) : Int32).toInt64 &&& 63)) hx hb dL_law_272 rfl ?_
  refine lv_aload_n hx hb dL_law_273 rfl (lv_at hl 5 rfl) ?_
  refine lv_iload hx hb dL_law_274 (lv_at hl 1 rfl) ?_
  refine lv_iconst (v := (nI 5)) hx hb dL_law_276 (by decide) ?_
  refine lv_iadd hx hb dL_law_277 ?_
  refine lv_topi (fun z9 ez9 => ?_)
  rw [show z9 = nI (i + 5) from ez9.trans (nI_add _ _)]
  refine lw_sld (k := (i + 5)) hx hb hXs hbl hbA hS (by omega) hL dL_law_278 ?_
  refine lv_i2l (v := (xs (i + 5) : Int32).toInt64) hx hb dL_law_279 rfl ?_
  refine lv_ldc2 (v := 4294967295) hx hb hown (ht _ kw_978) dL_law_280 ?_
  refine lv_land hx hb dL_law_283 ?_
  refine lv_lor hx hb dL_law_284 ?_
  refine lv_topl (fun z9 ez9 => ?_)
  rw [show z9 = y1 from ez9.trans ey1.symm]
  refine fh_cV (q := (RX10, TX10, 28)) (As := [.int (xs (i + 1)), .int (xs (i + 2)), .int (xs (i + 3)), .long y1]) (rest := []) (b := ma) ⟨hx, hb, hml, hown, ht⟩ (q_set l G A u _ ma bb th no nv ns V S LK RL J C M hRM1 hI.bd hI.lk (xs (i + 1)) (xs (i + 2)) (xs (i + 3)) y1) (cwV 4 ht (gV kw_807 kw_808 kw_809 kw_5 kw_810) rfl rfl rfl yd_X10_set ⟨(Nat.le_of_ble_eq_true rfl), (Nat.le_of_ble_eq_true rfl)⟩) hP hE hS (MG.m hM1) rfl rfl hl.1 rfl (Nat.le_of_ble_eq_true rfl) dL_law_285 ⟨(by show _ ≤ 601024; omega), (by show _ ≤ 7293034; omega)⟩ (fun v u2 H locs hp hP hz hS => ?_)
  obtain ⟨ans, rfl, ha, hRM2⟩ := hp
  obtain ⟨hk2, hA2, hRM3⟩ := hRM2.re
  have hR2 := hR1.kpN hk2 rfl
  have ho3 := hk2 _ _ ho2 rfl
  refine W.eq (g2 := F0 m 288 ls [.int ans]) rfl ?_
  obtain ⟨fK3, fH3, fF3, fB3, fO3, fW3, fV3, fN3, cO3, cF3, cH3, cV3, fS3, fC3, lO3, lA3, rA3, rB3, rD3, fM3, hM3, hX3⟩ := id hRM3
  refine lv_istore (lv' := [(6, .int ans), (5, .int (nI (oSet no ns S LK (xs (i + 1)) (xs (i + 2)) (xs (i + 3)) y1).1)), (4, .int (nI i)), (3, .ref oa), (2, .ref ma), (1, .ref xa), (0, .ref b)]) hx hb dL_law_288 hl (by decide) rfl (fun ls hl => ?_)
  refine lv_aload_n hx hb dL_law_290 rfl (lv_at hl 4 rfl) ?_
  refine fh_cV (q := (RX10, TX10, 28)) (As := []) (rest := []) (b := ma) ⟨hx, hb, hml, hown, ht⟩ (m_thrown l G A u2 _ hM3) (cwV 0 ht (gV kw_776 kw_777 kw_778 kw_5 kw_779) rfl rfl rfl yd_X10_thrown ⟨(Nat.le_of_ble_eq_true rfl), (Nat.le_of_ble_eq_true rfl)⟩) hP hE hS (MG.m hM3) rfl rfl hl.1 rfl (Nat.le_of_ble_eq_true rfl) dL_law_291 ⟨(by show _ ≤ 601024; omega), (by show _ ≤ 7293034; omega)⟩ (fun v u H locs hp hP hz hS => ?_)
  obtain ⟨rfl, eu⟩ := hp
  rw [eu] at hP
  refine W.eq (g2 := F0 m 294 ls [.int (nI (oSet no ns S LK (xs (i + 1)) (xs (i + 2)) (xs (i + 3)) y1).1)]) rfl ?_
  refine lv_iload hx hb dL_law_294 (lv_at hl 1 rfl) ?_
  refine lv_icmp_eq (tgt := 301) hx hb dL_law_296 (by decide) (fun _ => ?_) (fun c9 => absurd (rfl) c9)
  refine lv_iload hx hb dL_law_301 (lv_at hl 1 rfl) ?_
  have hle := oSet_le no ns S LK (xs (i + 1)) (xs (i + 2)) (xs (i + 3)) y1
  refine lv_if_ne (tgt := 325) hx hb dL_law_303 (by decide) (fun c1 => ?_) (fun c1 => ?_)
  · refine lv_goto (tgt := 1551) hx hb dL_law_325 (by decide) ?_
    refine W.widen (k := cells + 940) (n := slots + 3900) (by omega) (by omega) ?_
    exact k _ _ _ _ ⟨_, _, _, _, _, _, _, _, _, _, _, _, f2, hA2, hR2.mono (by omega), hRM3, (hI.set (xs (i + 1)) (xs (i + 2)) (xs (i + 3)) y1), ho3⟩ hP hS (lv_sub hl [2, 3, 4, 5, 6] rfl)
  · have e0 : (oSet no ns S LK (xs (i + 1)) (xs (i + 2)) (xs (i + 3)) y1).1 = 0 := (nI_eq (by omega) (by decide)).mp c1
    refine lv_aload_n hx hb dL_law_306 rfl (lv_at hl 3 rfl) ?_
    refine lv_iconst (v := (nI 0)) hx hb dL_law_307 (by decide) ?_
    refine fh_lald (k := 0) hx hb hE.1 hP ho3 rfl (by decide) (by decide) dL_law_308 ?_
    refine lv_iload hx hb dL_law_309 (lv_at hl 0 rfl) ?_
    have ha0 := ha e0
    have hf0 := hf2 e0
    generalize (oSet no ns S LK (xs (i + 1)) (xs (i + 2)) (xs (i + 3)) y1).2.1 = bv at ha0 hf0
    cases bv with
    | false =>
      refine lv_if_eq (tgt := 318) hx hb dL_law_311 (by decide) (fun _ => ?_) (fun c9 => absurd (ha0) c9)
      refine lv_lconst (v := 0) hx hb dL_law_318 (by decide) ?_
      refine W.lcmp hx hb dL_law_319 ?_
      refine lv_if_eq (tgt := 325) hx hb dL_law_320 (by decide) (fun _ => ?_) (fun c9 => absurd ((lg_cmp_eq _ _).mpr hf0) c9)
      refine lv_goto (tgt := 1551) hx hb dL_law_325 (by decide) ?_
      refine W.widen (k := cells + 940) (n := slots + 3900) (by omega) (by omega) ?_
      exact k _ _ _ _ ⟨_, _, _, _, _, _, _, _, _, _, _, _, f2, hA2, hR2.mono (by omega), hRM3, (hI.set (xs (i + 1)) (xs (i + 2)) (xs (i + 3)) y1), ho3⟩ hP hS (lv_sub hl [2, 3, 4, 5, 6] rfl)
    | true =>
      refine lv_if_eq (tgt := 318) hx hb dL_law_311 (by decide) (fun c9 => absurd c9 (fun z8 => absurd (ha0.symm.trans z8) (by decide))) (fun _ => ?_)
      refine lv_lconst (v := 1) hx hb dL_law_314 (by decide) ?_
      refine lv_goto (tgt := 319) hx hb dL_law_315 (by decide) ?_
      refine W.lcmp hx hb dL_law_319 ?_
      refine lv_if_eq (tgt := 325) hx hb dL_law_320 (by decide) (fun _ => ?_) (fun c9 => absurd ((lg_cmp_eq _ _).mpr hf0) c9)
      refine lv_goto (tgt := 1551) hx hb dL_law_325 (by decide) ?_
      refine W.widen (k := cells + 940) (n := slots + 3900) (by omega) (by omega) ?_
      exact k _ _ _ _ ⟨_, _, _, _, _, _, _, _, _, _, _, _, f2, hA2, hR2.mono (by omega), hRM3, (hI.set (xs (i + 1)) (xs (i + 2)) (xs (i + 3)) y1), ho3⟩ hP hS (lv_sub hl [2, 3, 4, 5, 6] rfl)

set_option maxRecDepth 100000 in
set_option maxHeartbeats 4000000 in
theorem lc_drop {p : Program} {l : Launch} {e : Env} {s : State} {m : MethodId} {below : List Frame} {meth : Method} {c : Code} {b L : Nat} {xs : Nat → Int32} {G : fG} {A : Nat → Prop} (hst : l.stackTraces = false) (hA : ∀ q, s.heap.size ≤ q → A q) (hx : p.tables.exec = Jvm.exec) (hb : c.code = code) (hml : c.maxLocals = 8) (hown : s.vm.findClass "ObjectMergeLaw" = some m.cls) (ht : ∀ w ∈ wB, w.before #[Value.ref b] s = true) (hE : fh_Env G A s s.heap) (hXs : va_X b L xs s s.heap) (hbl : b < s.heap.size) (hbA : ¬ A b) (hL : L ≤ 5120) {xa ma oa : Nat} {bb : Nat → Nat} (i : Nat) (hi : i + 10 ≤ L) {H : Heap} {locs : List Loc} {ls : Array Slot} {cells slots : Nat} (hcs : cells + 940 ≤ 601024) (hss : slots + 3900 ≤ 7293034) {Kq : Nat} (hK8 : Kq < 900000) {h : FH} (hs : LawSt Kq A h xa ma oa bb) (hP : fh_P G vwCl h H) (hS : va_S A s.heap H locs) (hl : lv_has ls 8 [(4, .int (nI i)), (3, .ref oa), (2, .ref ma), (1, .ref xa), (0, .ref b)]) {Q : State → Prop} (k : ∀ (u : FH) (H : Heap) (locs : List Loc) (ls : Array Slot), LawSt (Kq + 100) A u xa ma oa bb → fh_P G vwCl u H → va_S A s.heap H locs → lv_has ls 8 [(4, .int (nI i)), (3, .ref oa), (2, .ref ma), (1, .ref xa), (0, .ref b)] → W p l e room_1 s m #[Value.ref b] below meth c H locs (cells + 940) (slots + 3900) Q (F0 m 1551 ls [])) : W p l e room_1 s m #[Value.ref b] below meth c H locs cells slots Q (F0 m 328 ls []) := by
  obtain ⟨ad, th, no, nv, ns, V, S, LK, RL, J, C, M, f0, hAh, hR, hRM, hI, ho⟩ := hs
  have hX := hR.1
  have hA9 : ∀ q, H.size ≤ q → A q := fun q hq => hA q (Nat.le_trans hS.1 hq)
  refine lv_aload_n hx hb dL_law_328 rfl (lv_at hl 3 rfl) ?_
  refine lv_aload_n hx hb dL_law_329 rfl (lv_at hl 4 rfl) ?_
  refine lv_iload hx hb dL_law_330 (lv_at hl 0 rfl) ?_
  refine lv_iconst (v := (nI 1)) hx hb dL_law_332 (by decide) ?_
  refine lv_iadd hx hb dL_law_333 ?_
  refine lv_topi (fun z9 ez9 => ?_)
  rw [show z9 = nI (i + 1) from ez9.trans (nI_add _ _)]
  refine lw_sld (k := (i + 1)) hx hb hXs hbl hbA hS (by omega) hL dL_law_334 ?_
  refine lv_aload_n hx hb dL_law_335 rfl (lv_at hl 4 rfl) ?_
  refine lv_iload hx hb dL_law_336 (lv_at hl 0 rfl) ?_
  refine lv_iconst (v := (nI 2)) hx hb dL_law_338 (by decide) ?_
  refine lv_iadd hx hb dL_law_339 ?_
  refine lv_topi (fun z9 ez9 => ?_)
  rw [show z9 = nI (i + 2) from ez9.trans (nI_add _ _)]
  refine lw_sld (k := (i + 2)) hx hb hXs hbl hbA hS (by omega) hL dL_law_340 ?_
  refine lv_aload_n hx hb dL_law_341 rfl (lv_at hl 1 rfl) ?_
  refine fh_cSW (As := [.ref xa, .int (xs (i + 1)), .int (xs (i + 2)), .ref oa]) (rest := []) ⟨hx, hb, hml, hown, ht⟩ (w_drop l G A h _ hst hA9 hAh xa ad no nv ns V S LK RL J C M hR hI.bd hK8 (xs (i + 1)) (xs (i + 2)) oa f0 ho) (vx_cwSW 4 ht (gS kw_385 kw_386 kw_0 kw_387) rfl rfl rfl yd_L_drop.2 ⟨(Nat.le_of_ble_eq_true rfl), (Nat.le_of_ble_eq_true rfl)⟩) hP hE hS rfl hl.1 rfl (Nat.le_of_ble_eq_true rfl) dL_law_342 ⟨(by show _ ≤ 601024; omega), (by show _ ≤ 7293034; omega)⟩ (fun v u H locs hp hP hz hS => ?_)
  obtain ⟨rfl, hA1, hk1, ⟨ad2, hR1⟩, f2, ho2, hf2⟩ := hp
  have hRM1 := hRM.kp2 hk1 rfl hA1
  refine W.eq (g2 := F0 m 345 ls [.int (nI (oDrop no ns S LK (xs (i + 1)) (xs (i + 2))).1)]) rfl ?_
  obtain ⟨fK, fH, fF, fB, fO, fW, fV, fN, cO, cF, cH, cV, fS, fC, lO, lA, rA, rB, rD, fM, hM1, hX1⟩ := id hRM1
  refine lv_istore (lv' := [(5, .int (nI (oDrop no ns S LK (xs (i + 1)) (xs (i + 2))).1)), (4, .int (nI i)), (3, .ref oa), (2, .ref ma), (1, .ref xa), (0, .ref b)]) hx hb dL_law_345 hl (by decide) rfl (fun ls hl => ?_)
  refine lv_aload_n hx hb dL_law_347 rfl (lv_at hl 3 rfl) ?_
  refine lv_aload_n hx hb dL_law_348 rfl (lv_at hl 5 rfl) ?_
  refine lv_iload hx hb dL_law_349 (lv_at hl 1 rfl) ?_
  refine lv_iconst (v := (nI 1)) hx hb dL_law_351 (by decide) ?_
  refine lv_iadd hx hb dL_law_352 ?_
  refine lv_topi (fun z9 ez9 => ?_)
  rw [show z9 = nI (i + 1) from ez9.trans (nI_add _ _)]
  refine lw_sld (k := (i + 1)) hx hb hXs hbl hbA hS (by omega) hL dL_law_353 ?_
  refine lv_aload_n hx hb dL_law_354 rfl (lv_at hl 5 rfl) ?_
  refine lv_iload hx hb dL_law_355 (lv_at hl 1 rfl) ?_
  refine lv_iconst (v := (nI 2)) hx hb dL_law_357 (by decide) ?_
  refine lv_iadd hx hb dL_law_358 ?_
  refine lv_topi (fun z9 ez9 => ?_)
  rw [show z9 = nI (i + 2) from ez9.trans (nI_add _ _)]
  refine lw_sld (k := (i + 2)) hx hb hXs hbl hbA hS (by omega) hL dL_law_359 ?_
  refine fh_cV (q := (RX10, TX10, 28)) (As := [.int (xs (i + 1)), .int (xs (i + 2))]) (rest := []) (b := ma) ⟨hx, hb, hml, hown, ht⟩ (q_drop l G A u _ ma bb th no nv ns V S LK RL J C M hRM1 hI.bd hI.lk (xs (i + 1)) (xs (i + 2))) (cwV 2 ht (gV kw_834 kw_835 kw_836 kw_5 kw_837) rfl rfl rfl yd_X10_drop ⟨(Nat.le_of_ble_eq_true rfl), (Nat.le_of_ble_eq_true rfl)⟩) hP hE hS (MG.m hM1) rfl rfl hl.1 rfl (Nat.le_of_ble_eq_true rfl) dL_law_360 ⟨(by show _ ≤ 601024; omega), (by show _ ≤ 7293034; omega)⟩ (fun v u2 H locs hp hP hz hS => ?_)
  obtain ⟨ans, rfl, ha, hRM2⟩ := hp
  obtain ⟨hk2, hA2, hRM3⟩ := hRM2.re
  have hR2 := hR1.kpN hk2 rfl
  have ho3 := hk2 _ _ ho2 rfl
  refine W.eq (g2 := F0 m 363 ls [.int ans]) rfl ?_
  obtain ⟨fK3, fH3, fF3, fB3, fO3, fW3, fV3, fN3, cO3, cF3, cH3, cV3, fS3, fC3, lO3, lA3, rA3, rB3, rD3, fM3, hM3, hX3⟩ := id hRM3
  refine lv_istore (lv' := [(6, .int ans), (5, .int (nI (oDrop no ns S LK (xs (i + 1)) (xs (i + 2))).1)), (4, .int (nI i)), (3, .ref oa), (2, .ref ma), (1, .ref xa), (0, .ref b)]) hx hb dL_law_363 hl (by decide) rfl (fun ls hl => ?_)
  refine lv_aload_n hx hb dL_law_365 rfl (lv_at hl 4 rfl) ?_
  refine fh_cV (q := (RX10, TX10, 28)) (As := []) (rest := []) (b := ma) ⟨hx, hb, hml, hown, ht⟩ (m_thrown l G A u2 _ hM3) (cwV 0 ht (gV kw_776 kw_777 kw_778 kw_5 kw_779) rfl rfl rfl yd_X10_thrown ⟨(Nat.le_of_ble_eq_true rfl), (Nat.le_of_ble_eq_true rfl)⟩) hP hE hS (MG.m hM3) rfl rfl hl.1 rfl (Nat.le_of_ble_eq_true rfl) dL_law_366 ⟨(by show _ ≤ 601024; omega), (by show _ ≤ 7293034; omega)⟩ (fun v u H locs hp hP hz hS => ?_)
  obtain ⟨rfl, eu⟩ := hp
  rw [eu] at hP
  refine W.eq (g2 := F0 m 369 ls [.int (nI (oDrop no ns S LK (xs (i + 1)) (xs (i + 2))).1)]) rfl ?_
  refine lv_iload hx hb dL_law_369 (lv_at hl 1 rfl) ?_
  refine lv_icmp_eq (tgt := 376) hx hb dL_law_371 (by decide) (fun _ => ?_) (fun c9 => absurd (rfl) c9)
  refine lv_iload hx hb dL_law_376 (lv_at hl 1 rfl) ?_
  have hle := oDrop_le no ns S LK (xs (i + 1)) (xs (i + 2))
  refine lv_if_ne (tgt := 400) hx hb dL_law_378 (by decide) (fun c1 => ?_) (fun c1 => ?_)
  · refine lv_goto (tgt := 1551) hx hb dL_law_400 (by decide) ?_
    refine W.widen (k := cells + 940) (n := slots + 3900) (by omega) (by omega) ?_
    exact k _ _ _ _ ⟨_, _, _, _, _, _, _, _, _, _, _, _, f2, hA2, hR2.mono (by omega), hRM3, (hI.drop (xs (i + 1)) (xs (i + 2))), ho3⟩ hP hS (lv_sub hl [2, 3, 4, 5, 6] rfl)
  · have e0 : (oDrop no ns S LK (xs (i + 1)) (xs (i + 2))).1 = 0 := (nI_eq (by omega) (by decide)).mp c1
    refine lv_aload_n hx hb dL_law_381 rfl (lv_at hl 3 rfl) ?_
    refine lv_iconst (v := (nI 0)) hx hb dL_law_382 (by decide) ?_
    refine fh_lald (k := 0) hx hb hE.1 hP ho3 rfl (by decide) (by decide) dL_law_383 ?_
    refine lv_iload hx hb dL_law_384 (lv_at hl 0 rfl) ?_
    have ha0 := ha e0
    have hf0 := hf2 e0
    generalize (oDrop no ns S LK (xs (i + 1)) (xs (i + 2))).2.1 = bv at ha0 hf0
    cases bv with
    | false =>
      refine lv_if_eq (tgt := 393) hx hb dL_law_386 (by decide) (fun _ => ?_) (fun c9 => absurd (ha0) c9)
      refine lv_lconst (v := 0) hx hb dL_law_393 (by decide) ?_
      refine W.lcmp hx hb dL_law_394 ?_
      refine lv_if_eq (tgt := 400) hx hb dL_law_395 (by decide) (fun _ => ?_) (fun c9 => absurd ((lg_cmp_eq _ _).mpr hf0) c9)
      refine lv_goto (tgt := 1551) hx hb dL_law_400 (by decide) ?_
      refine W.widen (k := cells + 940) (n := slots + 3900) (by omega) (by omega) ?_
      exact k _ _ _ _ ⟨_, _, _, _, _, _, _, _, _, _, _, _, f2, hA2, hR2.mono (by omega), hRM3, (hI.drop (xs (i + 1)) (xs (i + 2))), ho3⟩ hP hS (lv_sub hl [2, 3, 4, 5, 6] rfl)
    | true =>
      refine lv_if_eq (tgt := 393) hx hb dL_law_386 (by decide) (fun c9 => absurd c9 (fun z8 => absurd (ha0.symm.trans z8) (by decide))) (fun _ => ?_)
      refine lv_lconst (v := 1) hx hb dL_law_389 (by decide) ?_
      refine lv_goto (tgt := 394) hx hb dL_law_390 (by decide) ?_
      refine W.lcmp hx hb dL_law_394 ?_
      refine lv_if_eq (tgt := 400) hx hb dL_law_395 (by decide) (fun _ => ?_) (fun c9 => absurd ((lg_cmp_eq _ _).mpr hf0) c9)
      refine lv_goto (tgt := 1551) hx hb dL_law_400 (by decide) ?_
      refine W.widen (k := cells + 940) (n := slots + 3900) (by omega) (by omega) ?_
      exact k _ _ _ _ ⟨_, _, _, _, _, _, _, _, _, _, _, _, f2, hA2, hR2.mono (by omega), hRM3, (hI.drop (xs (i + 1)) (xs (i + 2))), ho3⟩ hP hS (lv_sub hl [2, 3, 4, 5, 6] rfl)

set_option maxRecDepth 100000 in
set_option maxHeartbeats 4000000 in
theorem lc_make {p : Program} {l : Launch} {e : Env} {s : State} {m : MethodId} {below : List Frame} {meth : Method} {c : Code} {b L : Nat} {xs : Nat → Int32} {G : fG} {A : Nat → Prop} (hst : l.stackTraces = false) (hA : ∀ q, s.heap.size ≤ q → A q) (hx : p.tables.exec = Jvm.exec) (hb : c.code = code) (hml : c.maxLocals = 8) (hown : s.vm.findClass "ObjectMergeLaw" = some m.cls) (ht : ∀ w ∈ wB, w.before #[Value.ref b] s = true) (hE : fh_Env G A s s.heap) (hXs : va_X b L xs s s.heap) (hbl : b < s.heap.size) (hbA : ¬ A b) (hL : L ≤ 5120) {xa ma oa : Nat} {bb : Nat → Nat} (i : Nat) (hi : i + 10 ≤ L) {H : Heap} {locs : List Loc} {ls : Array Slot} {cells slots : Nat} (hcs : cells + 940 ≤ 601024) (hss : slots + 3900 ≤ 7293034) {Kq : Nat} (hK8 : Kq < 900000) {h : FH} (hs : LawSt Kq A h xa ma oa bb) (hP : fh_P G vwCl h H) (hS : va_S A s.heap H locs) (hl : lv_has ls 8 [(4, .int (nI i)), (3, .ref oa), (2, .ref ma), (1, .ref xa), (0, .ref b)]) {Q : State → Prop} (k : ∀ (u : FH) (H : Heap) (locs : List Loc) (ls : Array Slot), LawSt (Kq + 100) A u xa ma oa bb → fh_P G vwCl u H → va_S A s.heap H locs → lv_has ls 8 [(4, .int (nI i)), (3, .ref oa), (2, .ref ma), (1, .ref xa), (0, .ref b)] → W p l e room_1 s m #[Value.ref b] below meth c H locs (cells + 940) (slots + 3900) Q (F0 m 1551 ls [])) : W p l e room_1 s m #[Value.ref b] below meth c H locs cells slots Q (F0 m 403 ls []) := by
  obtain ⟨ad, th, no, nv, ns, V, S, LK, RL, J, C, M, f0, hAh, hR, hRM, hI, ho⟩ := hs
  have hX := hR.1
  have hA9 : ∀ q, H.size ≤ q → A q := fun q hq => hA q (Nat.le_trans hS.1 hq)
  refine lv_aload_n hx hb dL_law_403 rfl (lv_at hl 3 rfl) ?_
  refine lv_aload_n hx hb dL_law_404 rfl (lv_at hl 4 rfl) ?_
  refine lv_iload hx hb dL_law_405 (lv_at hl 0 rfl) ?_
  refine lv_iconst (v := (nI 1)) hx hb dL_law_407 (by decide) ?_
  refine lv_iadd hx hb dL_law_408 ?_
  refine lv_topi (fun z9 ez9 => ?_)
  rw [show z9 = nI (i + 1) from ez9.trans (nI_add _ _)]
  refine lw_sld (k := (i + 1)) hx hb hXs hbl hbA hS (by omega) hL dL_law_409 ?_
  refine lv_aload_n hx hb dL_law_410 rfl (lv_at hl 4 rfl) ?_
  refine lv_iload hx hb dL_law_411 (lv_at hl 0 rfl) ?_
  refine lv_iconst (v := (nI 2)) hx hb dL_law_413 (by decide) ?_
  refine lv_iadd hx hb dL_law_414 ?_
  refine lv_topi (fun z9 ez9 => ?_)
  rw [show z9 = nI (i + 2) from ez9.trans (nI_add _ _)]
  refine lw_sld (k := (i + 2)) hx hb hXs hbl hbA hS (by omega) hL dL_law_415 ?_
  refine lv_aload_n hx hb dL_law_416 rfl (lv_at hl 1 rfl) ?_
  refine fh_cSW (As := [.ref xa, .int (xs (i + 1)), .int (xs (i + 2)), .ref oa]) (rest := []) ⟨hx, hb, hml, hown, ht⟩ (w_make l G A h _ hst hA9 hAh xa ad no nv ns V S LK RL J C M hR hI.bd hK8 (xs (i + 1)) (xs (i + 2)) oa f0 ho) (vx_cwSW 4 ht (gS kw_392 kw_393 kw_0 kw_394) rfl rfl rfl yd_L_make.2 ⟨(Nat.le_of_ble_eq_true rfl), (Nat.le_of_ble_eq_true rfl)⟩) hP hE hS rfl hl.1 rfl (Nat.le_of_ble_eq_true rfl) dL_law_417 ⟨(by show _ ≤ 601024; omega), (by show _ ≤ 7293034; omega)⟩ (fun v u H locs hp hP hz hS => ?_)
  obtain ⟨rfl, hA1, hk1, ⟨ad2, hR1⟩, f2, ho2, hf2⟩ := hp
  have hRM1 := hRM.kp2 hk1 rfl hA1
  refine W.eq (g2 := F0 m 420 ls [.int (nI (oMake no ns S (xs (i + 1)) (xs (i + 2))).1)]) rfl ?_
  obtain ⟨fK, fH, fF, fB, fO, fW, fV, fN, cO, cF, cH, cV, fS, fC, lO, lA, rA, rB, rD, fM, hM1, hX1⟩ := id hRM1
  refine lv_istore (lv' := [(5, .int (nI (oMake no ns S (xs (i + 1)) (xs (i + 2))).1)), (4, .int (nI i)), (3, .ref oa), (2, .ref ma), (1, .ref xa), (0, .ref b)]) hx hb dL_law_420 hl (by decide) rfl (fun ls hl => ?_)
  refine lv_aload_n hx hb dL_law_422 rfl (lv_at hl 3 rfl) ?_
  refine lv_aload_n hx hb dL_law_423 rfl (lv_at hl 5 rfl) ?_
  refine lv_iload hx hb dL_law_424 (lv_at hl 1 rfl) ?_
  refine lv_iconst (v := (nI 1)) hx hb dL_law_426 (by decide) ?_
  refine lv_iadd hx hb dL_law_427 ?_
  refine lv_topi (fun z9 ez9 => ?_)
  rw [show z9 = nI (i + 1) from ez9.trans (nI_add _ _)]
  refine lw_sld (k := (i + 1)) hx hb hXs hbl hbA hS (by omega) hL dL_law_428 ?_
  refine lv_aload_n hx hb dL_law_429 rfl (lv_at hl 5 rfl) ?_
  refine lv_iload hx hb dL_law_430 (lv_at hl 1 rfl) ?_
  refine lv_iconst (v := (nI 2)) hx hb dL_law_432 (by decide) ?_
  refine lv_iadd hx hb dL_law_433 ?_
  refine lv_topi (fun z9 ez9 => ?_)
  rw [show z9 = nI (i + 2) from ez9.trans (nI_add _ _)]
  refine lw_sld (k := (i + 2)) hx hb hXs hbl hbA hS (by omega) hL dL_law_434 ?_
  refine fh_cV (q := (RX10, TX10, 28)) (As := [.int (xs (i + 1)), .int (xs (i + 2))]) (rest := []) (b := ma) ⟨hx, hb, hml, hown, ht⟩ (q_make l G A u _ ma bb th no nv ns V S LK RL J C M hRM1 hI.bd hI.lk (xs (i + 1)) (xs (i + 2))) (cwV 2 ht (gV kw_838 kw_839 kw_840 kw_5 kw_841) rfl rfl rfl yd_X10_make ⟨(Nat.le_of_ble_eq_true rfl), (Nat.le_of_ble_eq_true rfl)⟩) hP hE hS (MG.m hM1) rfl rfl hl.1 rfl (Nat.le_of_ble_eq_true rfl) dL_law_435 ⟨(by show _ ≤ 601024; omega), (by show _ ≤ 7293034; omega)⟩ (fun v u2 H locs hp hP hz hS => ?_)
  obtain ⟨ans, rfl, ha, hRM2⟩ := hp
  obtain ⟨hk2, hA2, hRM3⟩ := hRM2.re
  have hR2 := hR1.kpN hk2 rfl
  have ho3 := hk2 _ _ ho2 rfl
  refine W.eq (g2 := F0 m 438 ls [.int ans]) rfl ?_
  obtain ⟨fK3, fH3, fF3, fB3, fO3, fW3, fV3, fN3, cO3, cF3, cH3, cV3, fS3, fC3, lO3, lA3, rA3, rB3, rD3, fM3, hM3, hX3⟩ := id hRM3
  refine lv_istore (lv' := [(6, .int ans), (5, .int (nI (oMake no ns S (xs (i + 1)) (xs (i + 2))).1)), (4, .int (nI i)), (3, .ref oa), (2, .ref ma), (1, .ref xa), (0, .ref b)]) hx hb dL_law_438 hl (by decide) rfl (fun ls hl => ?_)
  refine lv_aload_n hx hb dL_law_440 rfl (lv_at hl 4 rfl) ?_
  refine fh_cV (q := (RX10, TX10, 28)) (As := []) (rest := []) (b := ma) ⟨hx, hb, hml, hown, ht⟩ (m_thrown l G A u2 _ hM3) (cwV 0 ht (gV kw_776 kw_777 kw_778 kw_5 kw_779) rfl rfl rfl yd_X10_thrown ⟨(Nat.le_of_ble_eq_true rfl), (Nat.le_of_ble_eq_true rfl)⟩) hP hE hS (MG.m hM3) rfl rfl hl.1 rfl (Nat.le_of_ble_eq_true rfl) dL_law_441 ⟨(by show _ ≤ 601024; omega), (by show _ ≤ 7293034; omega)⟩ (fun v u H locs hp hP hz hS => ?_)
  obtain ⟨rfl, eu⟩ := hp
  rw [eu] at hP
  refine W.eq (g2 := F0 m 444 ls [.int (nI (oMake no ns S (xs (i + 1)) (xs (i + 2))).1)]) rfl ?_
  refine lv_iload hx hb dL_law_444 (lv_at hl 1 rfl) ?_
  refine lv_icmp_eq (tgt := 451) hx hb dL_law_446 (by decide) (fun _ => ?_) (fun c9 => absurd (rfl) c9)
  refine lv_iload hx hb dL_law_451 (lv_at hl 1 rfl) ?_
  have hle := oMake_le no ns S (xs (i + 1)) (xs (i + 2))
  refine lv_if_ne (tgt := 468) hx hb dL_law_453 (by decide) (fun c1 => ?_) (fun c1 => ?_)
  · refine lv_goto (tgt := 1551) hx hb dL_law_468 (by decide) ?_
    refine W.widen (k := cells + 940) (n := slots + 3900) (by omega) (by omega) ?_
    exact k _ _ _ _ ⟨_, _, _, _, _, _, _, _, _, _, _, _, f2, hA2, hR2.mono (by omega), hRM3, (hI.make (xs (i + 1)) (xs (i + 2))), ho3⟩ hP hS (lv_sub hl [2, 3, 4, 5, 6] rfl)
  · have e0 : (oMake no ns S (xs (i + 1)) (xs (i + 2))).1 = 0 := (nI_eq (by omega) (by decide)).mp c1
    refine lv_aload_n hx hb dL_law_456 rfl (lv_at hl 3 rfl) ?_
    refine lv_iconst (v := (nI 0)) hx hb dL_law_457 (by decide) ?_
    refine fh_lald (k := 0) hx hb hE.1 hP ho3 rfl (by decide) (by decide) dL_law_458 ?_
    refine lv_iload hx hb dL_law_459 (lv_at hl 0 rfl) ?_
    refine lv_i2l (v := (ans : Int32).toInt64) hx hb dL_law_461 rfl ?_
    refine W.lcmp hx hb dL_law_462 ?_
    refine lv_if_eq (tgt := 468) hx hb dL_law_463 (by decide) (fun _ => ?_) (fun c9 => absurd ((lg_cmp_eq _ _).mpr (by rw [hf2 e0, ha e0])) c9)
    refine lv_goto (tgt := 1551) hx hb dL_law_468 (by decide) ?_
    refine W.widen (k := cells + 940) (n := slots + 3900) (by omega) (by omega) ?_
    exact k _ _ _ _ ⟨_, _, _, _, _, _, _, _, _, _, _, _, f2, hA2, hR2.mono (by omega), hRM3, (hI.make (xs (i + 1)) (xs (i + 2))), ho3⟩ hP hS (lv_sub hl [2, 3, 4, 5, 6] rfl)

set_option maxRecDepth 100000 in
set_option maxHeartbeats 4000000 in
theorem lc_join {p : Program} {l : Launch} {e : Env} {s : State} {m : MethodId} {below : List Frame} {meth : Method} {c : Code} {b L : Nat} {xs : Nat → Int32} {G : fG} {A : Nat → Prop} (hst : l.stackTraces = false) (hA : ∀ q, s.heap.size ≤ q → A q) (hx : p.tables.exec = Jvm.exec) (hb : c.code = code) (hml : c.maxLocals = 8) (hown : s.vm.findClass "ObjectMergeLaw" = some m.cls) (ht : ∀ w ∈ wB, w.before #[Value.ref b] s = true) (hE : fh_Env G A s s.heap) (hXs : va_X b L xs s s.heap) (hbl : b < s.heap.size) (hbA : ¬ A b) (hL : L ≤ 5120) {xa ma oa : Nat} {bb : Nat → Nat} (i : Nat) (hi : i + 10 ≤ L) {H : Heap} {locs : List Loc} {ls : Array Slot} {cells slots : Nat} (hcs : cells + 940 ≤ 601024) (hss : slots + 3900 ≤ 7293034) {Kq : Nat} (hK8 : Kq < 900000) {h : FH} (hs : LawSt Kq A h xa ma oa bb) (hP : fh_P G vwCl h H) (hS : va_S A s.heap H locs) (hl : lv_has ls 8 [(4, .int (nI i)), (3, .ref oa), (2, .ref ma), (1, .ref xa), (0, .ref b)]) {Q : State → Prop} (k : ∀ (u : FH) (H : Heap) (locs : List Loc) (ls : Array Slot), LawSt (Kq + 100) A u xa ma oa bb → fh_P G vwCl u H → va_S A s.heap H locs → lv_has ls 8 [(4, .int (nI i)), (3, .ref oa), (2, .ref ma), (1, .ref xa), (0, .ref b)] → W p l e room_1 s m #[Value.ref b] below meth c H locs (cells + 940) (slots + 3900) Q (F0 m 1551 ls [])) : W p l e room_1 s m #[Value.ref b] below meth c H locs cells slots Q (F0 m 471 ls []) := by
  obtain ⟨ad, th, no, nv, ns, V, S, LK, RL, J, C, M, f0, hAh, hR, hRM, hI, ho⟩ := hs
  have hX := hR.1
  have hA9 : ∀ q, H.size ≤ q → A q := fun q hq => hA q (Nat.le_trans hS.1 hq)
  refine lv_aload_n hx hb dL_law_471 rfl (lv_at hl 3 rfl) ?_
  refine lv_aload_n hx hb dL_law_472 rfl (lv_at hl 4 rfl) ?_
  refine lv_iload hx hb dL_law_473 (lv_at hl 0 rfl) ?_
  refine lv_iconst (v := (nI 1)) hx hb dL_law_475 (by decide) ?_
  refine lv_iadd hx hb dL_law_476 ?_
  refine lv_topi (fun z9 ez9 => ?_)
  rw [show z9 = nI (i + 1) from ez9.trans (nI_add _ _)]
  refine lw_sld (k := (i + 1)) hx hb hXs hbl hbA hS (by omega) hL dL_law_477 ?_
  refine lv_aload_n hx hb dL_law_478 rfl (lv_at hl 1 rfl) ?_
  refine fh_cSW (As := [.ref xa, .int (xs (i + 1)), .ref oa]) (rest := []) ⟨hx, hb, hml, hown, ht⟩ (w_join l G A h _ hst hA9 hAh xa ad no nv ns V S LK RL J C M hR hI.bd hK8 (xs (i + 1)) oa f0 ho) (vx_cwSW 3 ht (gS kw_399 kw_400 kw_0 kw_401) rfl rfl rfl yd_L_join.2 ⟨(Nat.le_of_ble_eq_true rfl), (Nat.le_of_ble_eq_true rfl)⟩) hP hE hS rfl hl.1 rfl (Nat.le_of_ble_eq_true rfl) dL_law_479 ⟨(by show _ ≤ 601024; omega), (by show _ ≤ 7293034; omega)⟩ (fun v u H locs hp hP hz hS => ?_)
  obtain ⟨rfl, hA1, hk1, ⟨ad2, hR1⟩, f2, ho2, hf2⟩ := hp
  have hRM1 := hRM.kp2 hk1 rfl hA1
  refine W.eq (g2 := F0 m 482 ls [.int (nI (oJoin nv ns V S LK J C M (xs (i + 1))).1)]) rfl ?_
  obtain ⟨fK, fH, fF, fB, fO, fW, fV, fN, cO, cF, cH, cV, fS, fC, lO, lA, rA, rB, rD, fM, hM1, hX1⟩ := id hRM1
  refine lv_istore (lv' := [(5, .int (nI (oJoin nv ns V S LK J C M (xs (i + 1))).1)), (4, .int (nI i)), (3, .ref oa), (2, .ref ma), (1, .ref xa), (0, .ref b)]) hx hb dL_law_482 hl (by decide) rfl (fun ls hl => ?_)
  refine lv_aload_n hx hb dL_law_484 rfl (lv_at hl 3 rfl) ?_
  refine lv_aload_n hx hb dL_law_485 rfl (lv_at hl 5 rfl) ?_
  refine lv_iload hx hb dL_law_486 (lv_at hl 1 rfl) ?_
  refine lv_iconst (v := (nI 1)) hx hb dL_law_488 (by decide) ?_
  refine lv_iadd hx hb dL_law_489 ?_
  refine lv_topi (fun z9 ez9 => ?_)
  rw [show z9 = nI (i + 1) from ez9.trans (nI_add _ _)]
  refine lw_sld (k := (i + 1)) hx hb hXs hbl hbA hS (by omega) hL dL_law_490 ?_
  refine fh_cV (q := (RX10, TX10, 28)) (As := [.int (xs (i + 1))]) (rest := []) (b := ma) ⟨hx, hb, hml, hown, ht⟩ (q_join l G A u _ ma bb th no nv ns V S LK RL J C M hRM1 hI.bd hI.lk hI.vn hI.mz hI.hSn hI.hmd (xs (i + 1))) (cwV 1 ht (gV kw_846 kw_847 kw_848 kw_5 kw_849) rfl rfl rfl yd_X10_join ⟨(Nat.le_of_ble_eq_true rfl), (Nat.le_of_ble_eq_true rfl)⟩) hP hE hS (MG.m hM1) rfl rfl hl.1 rfl (Nat.le_of_ble_eq_true rfl) dL_law_491 ⟨(by show _ ≤ 601024; omega), (by show _ ≤ 7293034; omega)⟩ (fun v u2 H locs hp hP hz hS => ?_)
  obtain ⟨ans, rfl, ha, hRM2⟩ := hp
  obtain ⟨hk2, hA2, hRM3⟩ := hRM2.re
  have hR2 := hR1.kpN hk2 rfl
  have ho3 := hk2 _ _ ho2 rfl
  refine W.eq (g2 := F0 m 494 ls [.int ans]) rfl ?_
  obtain ⟨fK3, fH3, fF3, fB3, fO3, fW3, fV3, fN3, cO3, cF3, cH3, cV3, fS3, fC3, lO3, lA3, rA3, rB3, rD3, fM3, hM3, hX3⟩ := id hRM3
  refine lv_istore (lv' := [(6, .int ans), (5, .int (nI (oJoin nv ns V S LK J C M (xs (i + 1))).1)), (4, .int (nI i)), (3, .ref oa), (2, .ref ma), (1, .ref xa), (0, .ref b)]) hx hb dL_law_494 hl (by decide) rfl (fun ls hl => ?_)
  refine lv_aload_n hx hb dL_law_496 rfl (lv_at hl 4 rfl) ?_
  refine fh_cV (q := (RX10, TX10, 28)) (As := []) (rest := []) (b := ma) ⟨hx, hb, hml, hown, ht⟩ (m_thrown l G A u2 _ hM3) (cwV 0 ht (gV kw_776 kw_777 kw_778 kw_5 kw_779) rfl rfl rfl yd_X10_thrown ⟨(Nat.le_of_ble_eq_true rfl), (Nat.le_of_ble_eq_true rfl)⟩) hP hE hS (MG.m hM3) rfl rfl hl.1 rfl (Nat.le_of_ble_eq_true rfl) dL_law_497 ⟨(by show _ ≤ 601024; omega), (by show _ ≤ 7293034; omega)⟩ (fun v u H locs hp hP hz hS => ?_)
  obtain ⟨rfl, eu⟩ := hp
  rw [eu] at hP
  refine W.eq (g2 := F0 m 500 ls [.int (nI (oJoin nv ns V S LK J C M (xs (i + 1))).1)]) rfl ?_
  refine lv_iload hx hb dL_law_500 (lv_at hl 1 rfl) ?_
  refine lv_icmp_eq (tgt := 507) hx hb dL_law_502 (by decide) (fun _ => ?_) (fun c9 => absurd (rfl) c9)
  refine lv_iload hx hb dL_law_507 (lv_at hl 1 rfl) ?_
  have hle := oJoin_le nv ns V S LK J C M (xs (i + 1))
  refine lv_if_ne (tgt := 524) hx hb dL_law_509 (by decide) (fun c1 => ?_) (fun c1 => ?_)
  · refine lv_goto (tgt := 1551) hx hb dL_law_524 (by decide) ?_
    refine W.widen (k := cells + 940) (n := slots + 3900) (by omega) (by omega) ?_
    exact k _ _ _ _ ⟨_, _, _, _, _, _, _, _, _, _, _, _, f2, hA2, hR2.mono (by omega), hRM3, (hI.join (xs (i + 1))), ho3⟩ hP hS (lv_sub hl [2, 3, 4, 5, 6] rfl)
  · have e0 : (oJoin nv ns V S LK J C M (xs (i + 1))).1 = 0 := (nI_eq (by omega) (by decide)).mp c1
    refine lv_aload_n hx hb dL_law_512 rfl (lv_at hl 3 rfl) ?_
    refine lv_iconst (v := (nI 0)) hx hb dL_law_513 (by decide) ?_
    refine fh_lald (k := 0) hx hb hE.1 hP ho3 rfl (by decide) (by decide) dL_law_514 ?_
    refine lv_iload hx hb dL_law_515 (lv_at hl 0 rfl) ?_
    refine lv_i2l (v := (ans : Int32).toInt64) hx hb dL_law_517 rfl ?_
    refine W.lcmp hx hb dL_law_518 ?_
    refine lv_if_eq (tgt := 524) hx hb dL_law_519 (by decide) (fun _ => ?_) (fun c9 => absurd ((lg_cmp_eq _ _).mpr (by rw [hf2 e0, ha e0])) c9)
    refine lv_goto (tgt := 1551) hx hb dL_law_524 (by decide) ?_
    refine W.widen (k := cells + 940) (n := slots + 3900) (by omega) (by omega) ?_
    exact k _ _ _ _ ⟨_, _, _, _, _, _, _, _, _, _, _, _, f2, hA2, hR2.mono (by omega), hRM3, (hI.join (xs (i + 1))), ho3⟩ hP hS (lv_sub hl [2, 3, 4, 5, 6] rfl)
