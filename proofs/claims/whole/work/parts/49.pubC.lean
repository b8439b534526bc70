set_option maxRecDepth 100000 in
set_option maxHeartbeats 4000000 in
theorem p_object (l : Launch) (G : fG) (A : Nat → Prop) (h : FH) (sz : Nat) (hst : l.stackTraces = false) (hA : ∀ q, sz ≤ q → A q) (hAh : fh_A A h) {Kq : Nat} (xa : Nat) (ad : Ad) (no nv ns : Nat) (V : Nat → St) (S : Nat → Ses) (LK : List Ar) (RL : List (Nat × Nat × Int64)) (J : Nat) (C : CL) (M : Nat → Int32) (hR : RepC Kq h xa ad no nv ns V S LK RL J C M) (hB9 : Bd no nv ns S RL J C) (hK8 : Kq < 900000) (k : Int32) : vx_Met l yX9_object wsX9_object { frames := 7, cells := 8, slots := 110, locals := 120 } (va_Pc [.ref xa, .int k] (fh_Pre G A h sz)) (fh_Q G (fun v u => (oObj no nv V k).1 = 0 ∧ v = some (.int (oObj no nv V k).2.1) ∧ fh_A A u ∧ kp kC h u ∧ ∃ ad2 : Ad, RepC Kq u xa ad2 ((oObj no nv V k).2.2.1) ((oObj no nv V k).2.2.2.1) ns ((oObj no nv V k).2.2.2.2) S LK RL J C M) A) (fh_X G (fun E u => u = h ∧ ((E = xE0 ∧ (oObj no nv V k).1 = 1))) A) 8 110 A := by
  refine fh_MetX [.ref xa, .int k] (by decide) rfl (Nat.le_of_ble_eq_true rfl) ?_
  intro p e s m below meth c hx hb hr hlocks hml hown hnm hts hsz hP hE hS htb ls hl
  have ht : ∀ w ∈ wB, w.before _ s = true := fun w h9 => hts w (List.mem_cons_of_mem _ h9)
  have hl : lv_has ls 4 [(0, .ref xa), (1, .int k)] := hl
  have hA0 : ∀ q, s.heap.size ≤ q → A q := fun q hq => hA q (by rw [← hsz]; exact hq)
  obtain ⟨hX, hV, hSs, hL, hRl, hC, hM, hI⟩ := id hR
  obtain ⟨hno, hnv, hnv0, hns, hbs, hCl, hCb, hJ, hRn, hRb⟩ := id hB9
  obtain ⟨⟨fs, s1, s2⟩, s3⟩ := id hSs
  obtain ⟨⟨fv, v1, v2⟩, v3⟩ := id hV
  refine lv_iload_n hx hb dX9_object_0 rfl (lv_at hl 1 rfl) ?_
  refine fh_cSX (As := [.int k]) (rest := []) ⟨hx, hb, hml, hown, ht⟩ (c_X_ckKind l G A h _ hst k) (va_cwS 1 ht (gS kw_183 kw_184 kw_1 kw_185) rfl rfl rfl yd_X9_checkKind.2 ⟨(Nat.le_of_ble_eq_true rfl), (Nat.le_of_ble_eq_true rfl)⟩) hP hE hS rfl hl.1 rfl (Nat.le_of_ble_eq_true rfl) dX9_object_1 ⟨(Nat.le_of_ble_eq_true rfl), (Nat.le_of_ble_eq_true rfl)⟩ (fun E9 u9 ⟨z1, z2, z3⟩ => ⟨z2, z1, by simp [oObj, z3]⟩) htb hlocks (Nat.le_of_ble_eq_true rfl) (Nat.le_of_ble_eq_true rfl) (fun v u H locs hp hP hz hS => ?_)
  obtain ⟨rfl, eu, kk, hkx⟩ := hp
  rw [eu] at hP
  refine W.eq (g2 := F0 m 4 ls []) rfl ?_
  refine lv_aload_n hx hb dX9_object_4 rfl (lv_at hl 0 rfl) ?_
  refine fh_get (C := RX9) (T := TX9) (N := 11) hx hb ht inX9 hown hE.1 hP hX rfl 5 (by decide) (ht _ kw_80) (fun _ h9 => h9) (v := .int (nI no)) rfl dX9_object_5 ?_
  refine lv_bipush (v := (nI 60)) hx hb dX9_object_8 (by decide) ?_
  refine lv_icmp_ge (tgt := 22) hx hb dX9_object_10 (by decide) (fun c1 => ?_) (fun c1 => ?_)
  · have d1 : no = 60 := by
      rcases Nat.lt_or_ge no 60 with z | z
      · exact absurd c1 (nI_ge z (by decide))
      · omega
    refine lv_iconst (v := (-1)) hx hb dX9_object_22 (by decide) ?_
    have ep : oObj no nv V k = (0, -1, no, nv, V) := by simp [oObj, hkx, d1]
    exact vx_ret (fh_iret hx hb hr hlocks (⟨by rw [ep], by rw [ep], hAh, kp.rf, ad, by rw [ep]; exact hR⟩) hP hS (by first | exact (Nat.le_of_ble_eq_true rfl) | omega) (by first | exact (Nat.le_of_ble_eq_true rfl) | omega) dX9_object_23)
  · have d1 : no < 60 := by
      rcases Nat.lt_or_ge no 60 with z | z
      · exact z
      · exact absurd (nI_le z (by omega)) c1
    refine lv_aload_n hx hb dX9_object_13 rfl (lv_at hl 0 rfl) ?_
    refine fh_get (C := RX9) (T := TX9) (N := 11) hx hb ht inX9 hown hE.1 hP hX rfl 1 (by decide) (ht _ kw_76) (fun _ h9 => h9) (v := .int (nI nv)) rfl dX9_object_14 ?_
    refine lv_bipush (v := (nI 40)) hx hb dX9_object_17 (by decide) ?_
    refine lv_icmp_lt (tgt := 24) hx hb dX9_object_19 (by decide) (fun c2 => ?_) (fun c2 => ?_)
    · have d2 : nv < 40 := (nI_ltI (by omega) (by decide)).mp c2
      refine lv_aload_n hx hb dX9_object_24 rfl (lv_at hl 0 rfl) ?_
      refine fh_cV (q := (RX9, TX9, 11)) (As := []) (rest := []) (b := xa) ⟨hx, hb, hml, hown, ht⟩ (c_X_newNum l G A h _ xa ad (ad 1 (nv - 1)) no nv ns RL.length hX (hAh _ _ hX)) (cwV 0 ht (gV kw_253 kw_255 kp_2 kw_1 kw_256) rfl rfl rfl yd_X9_newNumber ⟨(Nat.le_of_ble_eq_true rfl), (Nat.le_of_ble_eq_true rfl)⟩) hP hE hS hX rfl rfl hl.1 rfl (Nat.le_of_ble_eq_true rfl) dX9_object_25 ⟨(Nat.le_of_ble_eq_true rfl), (Nat.le_of_ble_eq_true rfl)⟩ (fun v u H locs hp hP hz hS => ?_)
      obtain ⟨rfl, eu⟩ := hp
      refine W.eq (g2 := F0 m 28 ls [.int (nI no)]) rfl ?_
      have hR1 : RepC Kq u xa ad (no + 1) nv ns V S LK RL J C M := hR.num (no + 1) eu
      have k1 : kp [18] h u := by rw [eu]; exact kp.rf.up hX rfl
      have hA1 : fh_A A u := by rw [eu]; exact hAh.up (hAh _ _ hX)
      obtain ⟨hXa, hVa, hSsa, hLa, hRla, hCa, hMa, hIa⟩ := id hR1
      obtain ⟨b1, fb, b2, b3⟩ := hVa.2 (nv - 1) (by omega)
      refine lv_istore_n (lv' := [(2, .int (nI no)), (0, .ref xa), (1, .int k)]) hx hb dX9_object_28 rfl hl (by decide) rfl (fun ls hl => ?_)
      refine lv_aload_n hx hb dX9_object_29 rfl (lv_at hl 1 rfl) ?_
      refine fh_get (C := RX9) (T := TX9) (N := 11) hx hb ht inX9 hown hE.1 hP hXa rfl 2 (by decide) (ht _ kw_77) (fun _ h9 => h9) (v := .ref (ad 1 (nv - 1))) rfl dX9_object_30 ?_
      have bd1 := fun (a9 : Nat) (e9 : fe) (q9 : u a9 = some e9) => hP.lt q9
      have sz1 := hS.1
      refine fh_cV (q := (RX8, TX8, 1)) (As := []) (rest := []) (b := (ad 1 (nv - 1))) ⟨hx, hb, hml, hown, ht⟩ (c_St_copy l G A u _ (fun q hq => hA0 q (Nat.le_trans hS.1 hq)) (ad 1 (nv - 1)) (ad 2 (nv - 1)) fb b1 b2 (fun i hi => pRo_cell' (b3 i hi))) (cwV 0 ht (gV kw_257 kw_143 kw_144 kw_2 kw_145) rfl rfl rfl yd_X8_copy ⟨(Nat.le_of_ble_eq_true rfl), (Nat.le_of_ble_eq_true rfl)⟩) hP hE hS b1 rfl rfl hl.1 rfl (Nat.le_of_ble_eq_true rfl) dX9_object_33 ⟨(Nat.le_of_ble_eq_true rfl), (Nat.le_of_ble_eq_true rfl)⟩ (fun v u1 H locs hp hP hz hS => ?_)
      obtain ⟨ta, tb, gn, hta, htb9, rfl, he1, t1, t2, hgn⟩ := hp
      refine W.eq (g2 := F0 m 36 ls [.ref ta]) rfl ?_
      have k2 : kp [] u u1 := kp.ext he1 bd1
      have hA2 : fh_A A u1 := hA1.ext he1 (fun q hq => hA0 q (by omega))
      refine lv_astore_n (lv' := [(3, .ref ta), (2, .int (nI no)), (0, .ref xa), (1, .int k)]) hx hb dX9_object_36 rfl hl (by decide) rfl (fun ls hl => ?_)
      refine lv_aload_n hx hb dX9_object_37 rfl (lv_at hl 0 rfl) ?_
      refine lv_iload_n hx hb dX9_object_38 rfl (lv_at hl 1 rfl) ?_
      have bdR := fun (a9 : Nat) (e9 : fe) (q9 : u1 a9 = some e9) => hP.lt q9
      have szR := hS.1
      have hge1 := hS.1
      have hlt1 := fun (a9 : Nat) (e9 : fe) (q9 : u1 a9 = some e9) => hP.lt q9
      refine fh_new (ci := 5) (C := RX5) (T := TX5) (N := 1) (fs := [.null]) hx hb ht inX5 tyX5 tyX5_ok hown (ht _ kw_258) (ht _ kw_259) (ht _ kw_10) hE.1 hP hS hA0 rfl (fun j hj => by rcases (show j = 0 by omega) with rfl <;> rfl) (Nat.le_of_ble_eq_true rfl) (Nat.le_of_ble_eq_true rfl) dX9_object_39 (fun r H er hAr hP hz_r hS => ?_)
      obtain ⟨h_2, eh_2⟩ : ∃ z, z = fh_up u1 r (.inr (5, [.null])) := ⟨_, rfl⟩
      have hP : fh_P G vwCl h_2 H := by rw [eh_2]; exact hP
      have f_2 : h_2 r = some (.inr (5, [.null])) := by rw [eh_2]; exact fh_up_self _ _ _
      have hsz_r : sz ≤ r := by rw [er, ← hsz]; exact hge1
      refine lv_dup hx hb dX9_object_42 rfl ?_
      refine fh_cIN (As := []) (rest := [.ref r, .int (nI no), .ref ta]) (b := r) ⟨hx, hb, hml, hown, ht⟩ (c_Row_init l G A h_2 _ (fun q hq => hA0 q (Nat.le_trans hS.1 hq)) r hAr f_2) (⟨va_cnB (host := "ObjectMerge") 0 ht (gB kw_262) rfl rfl rfl (hE.2.2.2.2.2.1 ("ObjectMerge", 71, ⟨"ObjectMerge$Row", "<init>", "()V"⟩, "ObjectMerge") (by decide)) (ht _ kw_10) yd_X5_init.2 ⟨(Nat.le_of_ble_eq_true rfl), (Nat.le_of_ble_eq_true rfl)⟩, rfl, (ht _ kw_261)⟩) hP hE hS rfl hl.1 rfl (Nat.le_of_ble_eq_true rfl) dX9_object_43 ⟨(Nat.le_of_ble_eq_true rfl), (Nat.le_of_ble_eq_true rfl)⟩ (fun v u2 H locs hp hP hz hS => ?_)
      obtain ⟨q9r, hq9r, rfl, eu2⟩ := hp
      refine W.eq (g2 := F0 m 46 ls [.ref r, .int (nI no), .ref ta]) rfl ?_
      have heR : fh_ext r u1 u2 := fun a9 h9 => by rw [eu2, fh_up_ne _ _ (by omega), fh_up_ne _ _ (by omega), eh_2, fh_up_ne _ _ (by omega)]
      have kR : kp [] u1 u2 := kp.ext heR (fun a9 e9 q9 => by rw [er]; exact bdR a9 e9 q9)
      have hrR : pRow u2 r (fun _ => 0) := ⟨q9r, _, by rw [eu2]; exact fh_up_self _ _ _, by rw [eu2, fh_up_ne _ _ (by omega)]; exact fh_up_self _ _ _, fun _ _ => rfl⟩
      have hAu2 : fh_A A u2 := hA2.ext heR (fun q hq => hA0 q (by omega))
      have t13 := kR _ _ t1 rfl
      have t23 := kR _ _ t2 rfl
      have hAtb : A tb := hA0 _ (by omega)
      refine fh_cV (q := (RX8, TX8, 1)) (As := [.int (nI no), .ref r]) (rest := []) (b := ta) ⟨hx, hb, hml, hown, ht⟩ (c_St_put l G A u2 _ ta tb no gn (some r) t13 t23 hAtb d1 (pRo_cell' (show pRo u2 (some r) (some (fun _ => 0)) from hrR))) (cwV 2 ht (gV kw_269 kw_270 kw_271 kw_2 kw_272) rfl rfl rfl yd_X8_put ⟨(Nat.le_of_ble_eq_true rfl), (Nat.le_of_ble_eq_true rfl)⟩) hP hE hS t13 rfl rfl hl.1 rfl (Nat.le_of_ble_eq_true rfl) dX9_object_46 ⟨(Nat.le_of_ble_eq_true rfl), (Nat.le_of_ble_eq_true rfl)⟩ (fun v u3 H locs hp hP hz hS => ?_)
      obtain ⟨rfl, eu3⟩ := hp
      refine W.eq (g2 := F0 m 49 ls []) rfl ?_
      have k3 : kp [3] u2 u3 := by rw [eu3]; exact kp.rf.up t23 rfl
      have k03 : kp [] u u3 := by rw [eu3]; exact (k2.trans kR).upn bd1 htb9
      have hR3 := hR1.kp0 k03
      have hA3 : fh_A A u3 := by rw [eu3]; exact hAu2.up hAtb
      have hT3 : pSt u3 ta tb (upN (V (nv - 1)) no (some (fun _ => 0))) := pSt_upd (k3 _ _ t13 rfl) (by rw [eu3]; exact fh_up_self _ _ _) (fun j hj => by rw [hgn j hj]; exact pRo_kp k03 rfl (b3 j hj)) (pRo_kp k3 rfl (show pRo u2 (some r) (some (fun _ => 0)) from hrR))
      have hX3 := k03 _ _ hXa rfl
      have v13 := k03 _ _ (k1 _ _ v1 rfl) rfl
      refine lv_aload_n hx hb dX9_object_49 rfl (lv_at hl 2 rfl) ?_
      refine lv_aload_n hx hb dX9_object_50 rfl (lv_at hl 0 rfl) ?_
      refine fh_cV (q := (RX9, TX9, 11)) (As := [.ref ta]) (rest := []) (b := xa) ⟨hx, hb, hml, hown, ht⟩ (c_X_addV l G A u3 _ xa ad (no + 1) nv ns RL.length hX3 (hA3 _ _ hX3) fv v13 (hA3 _ _ v13) d2 ta tb hT3.1) (cwV 1 ht (gV kw_273 kw_275 kp_3 kw_1 kw_276) rfl rfl rfl yd_X9_addVersion ⟨(Nat.le_of_ble_eq_true rfl), (Nat.le_of_ble_eq_true rfl)⟩) hP hE hS hX3 rfl rfl hl.1 rfl (Nat.le_of_ble_eq_true rfl) dX9_object_51 ⟨(Nat.le_of_ble_eq_true rfl), (Nat.le_of_ble_eq_true rfl)⟩ (fun v u4 H locs hp hP hz hS => ?_)
      obtain ⟨rfl, eu4⟩ := hp
      refine W.eq (g2 := F0 m 54 ls []) rfl ?_
      have k4 : kp [15, 18] u3 u4 := by rw [eu4]; exact (kp.rf.up v13 rfl).up hX3 rfl
      have hR4 := hR3.addV v13 v2 hT3 (fun j hj k9 hk => Nat.ne_of_lt (Nat.lt_of_lt_of_le (hSsa.lt bd1 j hj k9 hk) htb9)) hbs eu4
      refine lv_iload_n hx hb dX9_object_54 rfl (lv_at hl 1 rfl) ?_
      have ep : oObj no nv V k = (0, nI no, no + 1, nv + 1, upN V nv (upN (V (nv - 1)) no (some (fun _ => 0)))) := by simp [oObj, hkx, Nat.ne_of_lt d1, Nat.ne_of_lt d2]
      exact vx_ret (fh_iret hx hb hr hlocks (⟨by rw [ep], by rw [ep], by rw [eu4]; exact (hA3.up (hA3 _ _ v13)).up (hA3 _ _ hX3), ((k1.C rfl).trans (k03.C rfl)).trans (k4.C rfl), _, by rw [ep]; exact hR4⟩) hP hS (by first | exact (Nat.le_of_ble_eq_true rfl) | omega) (by first | exact (Nat.le_of_ble_eq_true rfl) | omega) dX9_object_55)
    · have d2 : nv = 40 := by
        rcases Nat.lt_or_ge nv 40 with z | z
        · exact absurd (nI_lt z (by decide)) c2
        · omega
      refine lv_iconst (v := (-1)) hx hb dX9_object_22 (by decide) ?_
      have ep : oObj no nv V k = (0, -1, no, nv, V) := by simp [oObj, hkx, d2]
      exact vx_ret (fh_iret hx hb hr hlocks (⟨by rw [ep], by rw [ep], hAh, kp.rf, ad, by rw [ep]; exact hR⟩) hP hS (by first | exact (Nat.le_of_ble_eq_true rfl) | omega) (by first | exact (Nat.le_of_ble_eq_true rfl) | omega) dX9_object_23)

set_option maxRecDepth 100000 in
set_option maxHeartbeats 4000000 in
theorem p_session (l : Launch) (G : fG) (A : Nat → Prop) (h : FH) (sz : Nat) (hA : ∀ q, sz ≤ q → A q) (hAh : fh_A A h) {Kq : Nat} (xa : Nat) (ad : Ad) (no nv ns : Nat) (V : Nat → St) (S : Nat → Ses) (LK : List Ar) (RL : List (Nat × Nat × Int64)) (J : Nat) (C : CL) (M : Nat → Int32) (hR : RepC Kq h xa ad no nv ns V S LK RL J C M) (hB9 : Bd no nv ns S RL J C) (hK8 : Kq < 900000)  : Met l yX9_session wsX9_session { frames := 7, cells := 8, slots := 580, locals := 120 } (va_Pc [.ref xa] (fh_Pre G A h sz)) (fh_Q G (fun v u => v = some (.int (oBegin ns V S (nv - 1)).1) ∧ fh_A A u ∧ kp kC h u ∧ ∃ ad2 : Ad, RepC Kq u xa ad2 no nv ((oBegin ns V S (nv - 1)).2.1) V ((oBegin ns V S (nv - 1)).2.2) LK RL J C M) A) 8 580 A := by
  refine fh_Met [.ref xa] (by decide) rfl (Nat.le_of_ble_eq_true rfl) ?_
  intro p e s m below meth c hx hb hr hlocks hml hown hnm hts hsz hP hE hS ls hl
  have ht : ∀ w ∈ wB, w.before _ s = true := fun w h9 => hts w (List.mem_cons_of_mem _ h9)
  have hl : lv_has ls 1 [(0, .ref xa)] := hl
  have hA0 : ∀ q, s.heap.size ≤ q → A q := fun q hq => hA q (by rw [← hsz]; exact hq)
  obtain ⟨hX, hV, hSs, hL, hRl, hC, hM, hI⟩ := id hR
  obtain ⟨hno, hnv, hnv0, hns, hbs, hCl, hCb, hJ, hRn, hRb⟩ := id hB9
  refine lv_aload_n hx hb dX9_session_0 rfl (lv_at hl 0 rfl) ?_
  refine fh_get (C := RX9) (T := TX9) (N := 11) hx hb ht inX9 hown hE.1 hP hX rfl 4 (by decide) (ht _ kw_79) (fun _ h9 => h9) (v := .int (nI ns)) rfl dX9_session_1 ?_
  refine lv_bipush (v := (nI 20)) hx hb dX9_session_4 (by decide) ?_
  refine lv_icmp_lt (tgt := 13) hx hb dX9_session_6 (by decide) (fun c1 => ?_) (fun c1 => ?_)
  · have d1 : ns < 20 := (nI_ltI (by omega) (by decide)).mp c1
    refine lv_aload_n hx hb dX9_session_13 rfl (lv_at hl 0 rfl) ?_
    refine lv_aload_n hx hb dX9_session_14 rfl (lv_at hl 0 rfl) ?_
    refine fh_get (C := RX9) (T := TX9) (N := 11) hx hb ht inX9 hown hE.1 hP hX rfl 2 (by decide) (ht _ kw_77) (fun _ h9 => h9) (v := .ref (ad 1 (nv - 1))) rfl dX9_session_15 ?_
    refine fh_cV (q := (RX9, TX9, 11)) (As := [.ref (ad 1 (nv - 1))]) (rest := []) (b := xa) ⟨hx, hb, hml, hown, ht⟩ (c_X_begin l G A h _ (fun q hq => hA0 q (Nat.le_trans hS.1 hq)) hAh xa ad no nv ns V S LK RL J C M hR (nv - 1) (by omega) d1 hJ) (cwV 1 ht (gV kw_113 kw_115 kp_0 kw_1 kw_116) rfl rfl rfl yd_X9_begin ⟨(Nat.le_of_ble_eq_true rfl), (Nat.le_of_ble_eq_true rfl)⟩) hP hE hS hX rfl rfl hl.1 rfl (Nat.le_of_ble_eq_true rfl) dX9_session_18 ⟨(Nat.le_of_ble_eq_true rfl), (Nat.le_of_ble_eq_true rfl)⟩ (fun v u H locs hp hP hz hS => ?_)
    obtain ⟨q, rfl, hA2, k2, hR2⟩ := hp
    refine W.eq (g2 := F0 m 21 ls [.ref (q 0)]) rfl ?_
    have sN := (hR2.2.2.1.2 ns (Nat.lt_succ_self ns)).1
    rw [adS_s] at sN
    refine fh_get (C := RX7) (T := TX7) (N := 6) hx hb ht inX7 hown hE.1 hP sN rfl 0 (by decide) (ht _ kw_149) (fun _ h9 => h9) (v := .int (nI ns)) rfl dX9_session_21 ?_
    have ep : oBegin ns V S (nv - 1) = (nI ns, ns + 1, upN S ns (nv - 1, V (nv - 1), true, [], fun _ => 0)) := by simp [oBegin, Nat.ne_of_lt d1]
    exact fh_iret hx hb hr hlocks (⟨by rw [ep], hA2, k2, _, by rw [ep]; exact hR2⟩) hP hS (Nat.le_of_ble_eq_true rfl) (Nat.le_of_ble_eq_true rfl) dX9_session_24
  · have d1 : ns = 20 := by
      rcases Nat.lt_or_ge ns 20 with z | z
      · exact absurd (nI_lt z (by decide)) c1
      · omega
    refine lv_iconst (v := (-1)) hx hb dX9_session_9 (by decide) ?_
    refine lv_goto (tgt := 24) hx hb dX9_session_10 (by decide) ?_
    have ep : oBegin ns V S (nv - 1) = (-1, ns, S) := by simp [oBegin, d1]
    exact fh_iret hx hb hr hlocks (⟨by rw [ep], hAh, kp.rf, ad, by rw [ep]; exact hR⟩) hP hS (Nat.le_of_ble_eq_true rfl) (Nat.le_of_ble_eq_true rfl) dX9_session_24

set_option maxRecDepth 100000 in
set_option maxHeartbeats 4000000 in
theorem p_branch (l : Launch) (G : fG) (A : Nat → Prop) (h : FH) (sz : Nat) (hst : l.stackTraces = false) (hA : ∀ q, sz ≤ q → A q) (hAh : fh_A A h) {Kq : Nat} (xa : Nat) (ad : Ad) (no nv ns : Nat) (V : Nat → St) (S : Nat → Ses) (LK : List Ar) (RL : List (Nat × Nat × Int64)) (J : Nat) (C : CL) (M : Nat → Int32) (hR : RepC Kq h xa ad no nv ns V S LK RL J C M) (hB9 : Bd no nv ns S RL J C) (hK8 : Kq < 900000) (x : Int32) : vx_Met l yX9_branch wsX9_branch { frames := 7, cells := 9, slots := 590, locals := 120 } (va_Pc [.ref xa, .int x] (fh_Pre G A h sz)) (fh_Q G (fun v u => (oBranch nv ns V S x).1 = 0 ∧ v = some (.int (oBranch nv ns V S x).2.1) ∧ fh_A A u ∧ kp kC h u ∧ ∃ ad2 : Ad, RepC Kq u xa ad2 no nv ((oBranch nv ns V S x).2.2.1) V ((oBranch nv ns V S x).2.2.2) LK RL J C M) A) (fh_X G (fun E u => u = h ∧ ((E = xE1 ∧ (oBranch nv ns V S x).1 = 1))) A) 9 590 A := by
  refine fh_MetX [.ref xa, .int x] (by decide) rfl (Nat.le_of_ble_eq_true rfl) ?_
  intro p e s m below meth c hx hb hr hlocks hml hown hnm hts hsz hP hE hS htb ls hl
  have ht : ∀ w ∈ wB, w.before _ s = true := fun w h9 => hts w (List.mem_cons_of_mem _ h9)
  have hl : lv_has ls 3 [(0, .ref xa), (1, .int x)] := hl
  have hA0 : ∀ q, s.heap.size ≤ q → A q := fun q hq => hA q (by rw [← hsz]; exact hq)
  obtain ⟨hX, hV, hSs, hL, hRl, hC, hM, hI⟩ := id hR
  obtain ⟨hno, hnv, hnv0, hns, hbs, hCl, hCb, hJ, hRn, hRb⟩ := id hB9
  obtain ⟨⟨fs, s1, s2⟩, s3⟩ := id hSs
  obtain ⟨⟨fv, v1, v2⟩, v3⟩ := id hV
  refine lv_aload_n hx hb dX9_branch_0 rfl (lv_at hl 0 rfl) ?_
  refine lv_iload_n hx hb dX9_branch_1 rfl (lv_at hl 1 rfl) ?_
  refine fh_cVX (q := (RX9, TX9, 11)) (As := [.int x]) (rest := []) (b := xa) ⟨hx, hb, hml, hown, ht⟩ (c_X_verOf l G A h _ hst xa ad no nv ns RL.length hX fv v1 (fun i => ad 1 i) v2 hnv x) (cwV 1 ht (gV kw_605 kw_607 kp_13 kw_1 kw_608) rfl rfl rfl yd_X9_versionOf ⟨(Nat.le_of_ble_eq_true rfl), (Nat.le_of_ble_eq_true rfl)⟩) hP hE hS hX rfl rfl hl.1 rfl (Nat.le_of_ble_eq_true rfl) dX9_branch_2 ⟨(Nat.le_of_ble_eq_true rfl), (Nat.le_of_ble_eq_true rfl)⟩ (fun E9 u9 ⟨z1, z2, z3⟩ => ⟨z2, z1, by simp [oBranch, z3]⟩) htb hlocks (Nat.le_of_ble_eq_true rfl) (Nat.le_of_ble_eq_true rfl) (fun v u H locs hp hP hz hS => ?_)
  obtain ⟨b, hbx, rfl, eu⟩ := hp
  rw [eu] at hP
  refine W.eq (g2 := F0 m 5 ls [.ref (ad 1 b)]) rfl ?_
  have hb9 := (ix_of (by omega) hbx).1
  refine lv_astore_n (lv' := [(2, .ref (ad 1 b)), (0, .ref xa), (1, .int x)]) hx hb dX9_branch_5 rfl hl (by decide) rfl (fun ls hl => ?_)
  refine lv_aload_n hx hb dX9_branch_6 rfl (lv_at hl 1 rfl) ?_
  refine fh_get (C := RX9) (T := TX9) (N := 11) hx hb ht inX9 hown hE.1 hP hX rfl 4 (by decide) (ht _ kw_79) (fun _ h9 => h9) (v := .int (nI ns)) rfl dX9_branch_7 ?_
  refine lv_bipush (v := (nI 20)) hx hb dX9_branch_10 (by decide) ?_
  refine lv_icmp_lt (tgt := 19) hx hb dX9_branch_12 (by decide) (fun c1 => ?_) (fun c1 => ?_)
  · have d1 : ns < 20 := (nI_ltI (by omega) (by decide)).mp c1
    refine lv_aload_n hx hb dX9_branch_19 rfl (lv_at hl 1 rfl) ?_
    refine lv_aload_n hx hb dX9_branch_20 rfl (lv_at hl 0 rfl) ?_
    refine fh_cV (q := (RX9, TX9, 11)) (As := [.ref (ad 1 b)]) (rest := []) (b := xa) ⟨hx, hb, hml, hown, ht⟩ (c_X_begin l G A h _ (fun q hq => hA0 q (Nat.le_trans hS.1 hq)) hAh xa ad no nv ns V S LK RL J C M hR b hb9 d1 hJ) (cwV 1 ht (gV kw_113 kw_115 kp_0 kw_1 kw_116) rfl rfl rfl yd_X9_begin ⟨(Nat.le_of_ble_eq_true rfl), (Nat.le_of_ble_eq_true rfl)⟩) hP hE hS hX rfl rfl hl.1 rfl (Nat.le_of_ble_eq_true rfl) dX9_branch_21 ⟨(Nat.le_of_ble_eq_true rfl), (Nat.le_of_ble_eq_true rfl)⟩ (fun v u H locs hp hP hz hS => ?_)
    obtain ⟨q, rfl, hA2, k2, hR2⟩ := hp
    refine W.eq (g2 := F0 m 24 ls [.ref (q 0)]) rfl ?_
    have sN := (hR2.2.2.1.2 ns (Nat.lt_succ_self ns)).1
    rw [adS_s] at sN
    refine fh_get (C := RX7) (T := TX7) (N := 6) hx hb ht inX7 hown hE.1 hP sN rfl 0 (by decide) (ht _ kw_149) (fun _ h9 => h9) (v := .int (nI ns)) rfl dX9_branch_24 ?_
    have ep : oBranch nv ns V S x = (0, nI ns, ns + 1, upN S ns (b, V b, true, [], fun _ => 0)) := by simp [oBranch, hbx, oBegin, Nat.ne_of_lt d1]
    exact vx_ret (fh_iret hx hb hr hlocks (⟨by rw [ep], by rw [ep], hA2, k2, _, by rw [ep]; exact hR2⟩) hP hS (by first | exact (Nat.le_of_ble_eq_true rfl) | omega) (by first | exact (Nat.le_of_ble_eq_true rfl) | omega) dX9_branch_27)
  · have d1 : ns = 20 := by
      rcases Nat.lt_or_ge ns 20 with z | z
      · exact absurd (nI_lt z (by decide)) c1
      · omega
    refine lv_iconst (v := (-1)) hx hb dX9_branch_15 (by decide) ?_
    refine lv_goto (tgt := 27) hx hb dX9_branch_16 (by decide) ?_
    have ep : oBranch nv ns V S x = (0, -1, ns, S) := by simp [oBranch, hbx, oBegin, d1]
    exact vx_ret (fh_iret hx hb hr hlocks (⟨by rw [ep], by rw [ep], hAh, kp.rf, ad, by rw [ep]; exact hR⟩) hP hS (by first | exact (Nat.le_of_ble_eq_true rfl) | omega) (by first | exact (Nat.le_of_ble_eq_true rfl) | omega) dX9_branch_27)

set_option maxRecDepth 100000 in
set_option maxHeartbeats 4000000 in
theorem p_join (l : Launch) (G : fG) (A : Nat → Prop) (h : FH) (sz : Nat) (hst : l.stackTraces = false) (hA : ∀ q, sz ≤ q → A q) (hAh : fh_A A h) {Kq : Nat} (xa : Nat) (ad : Ad) (no nv ns : Nat) (V : Nat → St) (S : Nat → Ses) (LK : List Ar) (RL : List (Nat × Nat × Int64)) (J : Nat) (C : CL) (M : Nat → Int32) (hR : RepC Kq h xa ad no nv ns V S LK RL J C M) (hB9 : Bd no nv ns S RL J C) (hK8 : Kq < 900000) (x : Int32) : vx_Met l yX9_join wsX9_join { frames := 7, cells := 730, slots := 2600, locals := 170 } (va_Pc [.ref xa, .int x] (fh_Pre G A h sz)) (fh_Q G (fun v u => (oJoin nv ns V S LK J C M x).1 = 0 ∧ v = some (.int (oJoin nv ns V S LK J C M x).2.1) ∧ fh_A A u ∧ kp kC h u ∧ ∃ ad2 : Ad, RepC Kq u xa ad2 no ((oJoin nv ns V S LK J C M x).2.2.1) ns ((oJoin nv ns V S LK J C M x).2.2.2.1) ((oJoin nv ns V S LK J C M x).2.2.2.2.1) ((oJoin nv ns V S LK J C M x).2.2.2.2.2.1) RL ((oJoin nv ns V S LK J C M x).2.2.2.2.2.2.1) ((oJoin nv ns V S LK J C M x).2.2.2.2.2.2.2.1) ((oJoin nv ns V S LK J C M x).2.2.2.2.2.2.2.2)) A) (fh_X G (fun E u => u = h ∧ ((E = xE1 ∧ (oJoin nv ns V S LK J C M x).1 = 1) ∨ (E = xE2 ∧ (oJoin nv ns V S LK J C M x).1 = 2))) A) 730 2600 A := by
  refine fh_MetX [.ref xa, .int x] (by decide) rfl (Nat.le_of_ble_eq_true rfl) ?_
  intro p e s m below meth c hx hb hr hlocks hml hown hnm hts hsz hP hE hS htb ls hl
  have ht : ∀ w ∈ wB, w.before _ s = true := fun w h9 => hts w (List.mem_cons_of_mem _ h9)
  have hl : lv_has ls 3 [(0, .ref xa), (1, .int x)] := hl
  have hA0 : ∀ q, s.heap.size ≤ q → A q := fun q hq => hA q (by rw [← hsz]; exact hq)
  obtain ⟨hX, hV, hSs, hL, hRl, hC, hM, hI⟩ := id hR
  obtain ⟨hno, hnv, hnv0, hns, hbs, hCl, hCb, hJ, hRn, hRb⟩ := id hB9
  obtain ⟨⟨fs, s1, s2⟩, s3⟩ := id hSs
  obtain ⟨⟨fv, v1, v2⟩, v3⟩ := id hV
  refine lv_aload_n hx hb dX9_join_0 rfl (lv_at hl 0 rfl) ?_
  refine lv_iload_n hx hb dX9_join_1 rfl (lv_at hl 1 rfl) ?_
  refine fh_cVX (q := (RX9, TX9, 11)) (As := [.int x]) (rest := []) (b := xa) ⟨hx, hb, hml, hown, ht⟩ (c_X_sesOf l G A h _ hst xa ad no nv ns RL.length hX fs s1 (fun i => ad (3 + i) 0) s2 hns x) (cwV 1 ht (gV kw_286 kw_288 kp_4 kw_1 kw_289) rfl rfl rfl yd_X9_sessionOf ⟨(Nat.le_of_ble_eq_true rfl), (Nat.le_of_ble_eq_true rfl)⟩) hP hE hS hX rfl rfl hl.1 rfl (Nat.le_of_ble_eq_true rfl) dX9_join_2 ⟨(Nat.le_of_ble_eq_true rfl), (Nat.le_of_ble_eq_true rfl)⟩ (fun E9 u9 ⟨z1, z2, z3⟩ => ⟨z2, Or.inl ⟨z1, by simp only [oJoin, z3]⟩⟩) htb hlocks (Nat.le_of_ble_eq_true rfl) (Nat.le_of_ble_eq_true rfl) (fun v u H locs hp hP hz hS => ?_)
  obtain ⟨i, hix, rfl, eu⟩ := hp
  rw [eu] at hP
  refine W.eq (g2 := F0 m 5 ls [.ref (ad (3 + i) 0)]) rfl ?_
  have hi := (ix_of (by omega) hix).1
  obtain ⟨q0, ⟨q1, fn, q2, q2b⟩, q6, nx, fo, fr, q3, q4, q5, q7, q8, q9⟩ := hSs.2 i hi
  refine lv_astore_n (lv' := [(2, .ref (ad (3 + i) 0)), (0, .ref xa), (1, .int x)]) hx hb dX9_join_5 rfl hl (by decide) rfl (fun ls hl => ?_)
  refine lv_aload_n hx hb dX9_join_6 rfl (lv_at hl 0 rfl) ?_
  refine fh_cSX (As := [.ref (ad (3 + i) 0)]) (rest := []) ⟨hx, hb, hml, hown, ht⟩ (c_X_ckOpen l G A h _ hst (ad (3 + i) 0) (ad 1 (S i).1) (ad (3 + i) 1) (ad (3 + i) 3) (ad (3 + i) 6) (nI i) (S i).2.2.1 q0) (va_cwS 1 ht (gS kw_315 kw_316 kw_1 kw_317) rfl rfl rfl yd_X9_checkOpen.2 ⟨(Nat.le_of_ble_eq_true rfl), (Nat.le_of_ble_eq_true rfl)⟩) hP hE hS rfl hl.1 rfl (Nat.le_of_ble_eq_true rfl) dX9_join_7 ⟨(Nat.le_of_ble_eq_true rfl), (Nat.le_of_ble_eq_true rfl)⟩ (fun E9 u9 ⟨z1, z2, z3⟩ => ⟨z2, Or.inr (⟨z1, by simp [oJoin, hix, z3]⟩)⟩) htb hlocks (Nat.le_of_ble_eq_true rfl) (Nat.le_of_ble_eq_true rfl) (fun v u H locs hp hP hz hS => ?_)
  obtain ⟨rfl, eu, hop⟩ := hp
  rw [eu] at hP
  refine W.eq (g2 := F0 m 10 ls []) rfl ?_
  refine lv_aload_n hx hb dX9_join_10 rfl (lv_at hl 1 rfl) ?_
  refine fh_get (C := RX9) (T := TX9) (N := 11) hx hb ht inX9 hown hE.1 hP hX rfl 1 (by decide) (ht _ kw_76) (fun _ h9 => h9) (v := .int (nI nv)) rfl dX9_join_11 ?_
  refine lv_bipush (v := (nI 40)) hx hb dX9_join_14 (by decide) ?_
  refine lv_icmp_lt (tgt := 23) hx hb dX9_join_16 (by decide) (fun c1 => ?_) (fun c1 => ?_)
  · have d1 : nv < 40 := (nI_ltI (by omega) (by decide)).mp c1
    refine lv_aload_n hx hb dX9_join_23 rfl (lv_at hl 1 rfl) ?_
    refine lv_aload_n hx hb dX9_join_24 rfl (lv_at hl 0 rfl) ?_
    refine fh_cV (q := (RX9, TX9, 11)) (As := [.ref (ad (3 + i) 0)]) (rest := []) (b := xa) ⟨hx, hb, hml, hown, ht⟩ (c_X_tryJoin l G A h _ (fun q hq => hA0 q (Nat.le_trans hS.1 hq)) hAh xa ad no nv ns V S LK RL J C M hR i hi d1 hnv0 hbs) (cwV 1 ht (gV kw_406 kw_408 kp_8 kw_1 kw_409) rfl rfl rfl yd_X9_tryJoin ⟨(Nat.le_of_ble_eq_true rfl), (Nat.le_of_ble_eq_true rfl)⟩) hP hE hS hX rfl rfl hl.1 rfl (Nat.le_of_ble_eq_true rfl) dX9_join_25 ⟨(Nat.le_of_ble_eq_true rfl), (Nat.le_of_ble_eq_true rfl)⟩ (fun v u H locs hp hP hz hS => ?_)
    obtain ⟨ad2, rfl, hA2, k2, hR2⟩ := hp
    refine W.eq (g2 := F0 m 28 ls [.int (nI (unsN (S i).2.2.2.2 (gathL (V (S i).1) (S i).2.1 (V (nv - 1)) 60)))]) rfl ?_
    have ep : oJoin nv ns V S LK J C M x = (0, nI (oTry nv V S LK M i).1, (oTry nv V S LK M i).2.1, (oTry nv V S LK M i).2.2.1, (oTry nv V S LK M i).2.2.2.1, (oTry nv V S LK M i).2.2.2.2.1, i, (oTry nv V S LK M i).2.2.2.2.2.1, (oTry nv V S LK M i).2.2.2.2.2.2) := by simp [oJoin, hix, hop, Nat.ne_of_lt d1]
    have e1 : (oTry nv V S LK M i).1 = unsN (S i).2.2.2.2 (gathL (V (S i).1) (S i).2.1 (V (nv - 1)) 60) := by unfold oTry; split <;> simp_all
    exact vx_ret (fh_iret hx hb hr hlocks (⟨by rw [ep], by rw [ep, e1], hA2, k2, ad2, by rw [ep]; rcases hR2 with ⟨d2, z⟩ | ⟨d2, z⟩ <;> simp only [oTry, d2, if_true, if_false] <;> exact z⟩) hP hS (Nat.le_of_ble_eq_true rfl) (Nat.le_of_ble_eq_true rfl) dX9_join_28)
  · have d1 : nv = 40 := by
      rcases Nat.lt_or_ge nv 40 with z | z
      · exact absurd (nI_lt z (by decide)) c1
      · omega
    refine lv_iconst (v := (-1)) hx hb dX9_join_19 (by decide) ?_
    refine lv_goto (tgt := 28) hx hb dX9_join_20 (by decide) ?_
    have ep : oJoin nv ns V S LK J C M x = (0, -1, nv, V, S, LK, J, C, M) := by simp [oJoin, hix, hop, d1]
    exact vx_ret (fh_iret hx hb hr hlocks (⟨by rw [ep], by rw [ep], hAh, kp.rf, ad, by rw [ep]; exact hR⟩) hP hS (by first | exact (Nat.le_of_ble_eq_true rfl) | omega) (by first | exact (Nat.le_of_ble_eq_true rfl) | omega) dX9_join_28)

set_option maxRecDepth 100000 in
set_option maxHeartbeats 4000000 in
theorem p_version (l : Launch) (G : fG) (A : Nat → Prop) (h : FH) (sz : Nat) (hA : ∀ q, sz ≤ q → A q) (hAh : fh_A A h) {Kq : Nat} (xa : Nat) (ad : Ad) (no nv ns : Nat) (V : Nat → St) (S : Nat → Ses) (LK : List Ar) (RL : List (Nat × Nat × Int64)) (J : Nat) (C : CL) (M : Nat → Int32) (hR : RepC Kq h xa ad no nv ns V S LK RL J C M) (hB9 : Bd no nv ns S RL J C) (hK8 : Kq < 900000)  : Met l yX9_version wsX9_version { frames := 0, cells := 0, slots := 0, locals := 0 } (va_Pc [.ref xa] (fh_Pre G A h sz)) (fh_Q G (fun v u => v = some (.int (nI (nv - 1))) ∧ u = h) A) 0 0 A := by
  refine fh_Met [.ref xa] (by decide) rfl (Nat.le_of_ble_eq_true rfl) ?_
  intro p e s m below meth c hx hb hr hlocks hml hown hnm hts hsz hP hE hS ls hl
  have ht : ∀ w ∈ wB, w.before _ s = true := fun w h9 => hts w (List.mem_cons_of_mem _ h9)
  have hl : lv_has ls 1 [(0, .ref xa)] := hl
  have hA0 : ∀ q, s.heap.size ≤ q → A q := fun q hq => hA q (by rw [← hsz]; exact hq)
  obtain ⟨hX, hV, hSs, hL, hRl, hC, hM, hI⟩ := id hR
  obtain ⟨hno, hnv, hnv0, -⟩ := id hB9
  refine lv_aload_n hx hb dX9_version_0 rfl (lv_at hl 0 rfl) ?_
  refine fh_get (C := RX9) (T := TX9) (N := 11) hx hb ht inX9 hown hE.1 hP hX rfl 1 (by decide) (ht _ kw_76) (fun _ h9 => h9) (v := .int (nI nv)) rfl dX9_version_1 ?_
  refine lv_iconst (v := (nI 1)) hx hb dX9_version_4 (by decide) ?_
  refine lv_isub hx hb dX9_version_5 ?_
  exact fh_iret hx hb hr hlocks (⟨congrArg (fun z => some (Value.int z)) (pk_sub hnv0), rfl⟩) hP hS (Nat.le_of_ble_eq_true rfl) (Nat.le_of_ble_eq_true rfl) dX9_version_6
