set_option maxRecDepth 100000 in
set_option maxHeartbeats 4000000 in
theorem w_object (l : Launch) (G : fG) (A : Nat → Prop) (h : FH) (sz : Nat) (hst : l.stackTraces = false) (hA : ∀ q, sz ≤ q → A q) (hAh : fh_A A h) {Kq : Nat} (xa : Nat) (ad : Ad) (no nv ns : Nat) (V : Nat → St) (S : Nat → Ses) (LK : List Ar) (RL : List (Nat × Nat × Int64)) (J : Nat) (C : CL) (M : Nat → Int32) (hR : RepC Kq h xa ad no nv ns V S LK RL J C M) (hB9 : Bd no nv ns S RL J C) (hK8 : Kq < 900000) (k : Int32) (oa : Nat) (f0 : Nat → Int64) (ho : h oa = some (aL 11 1 f0)) : Met l yL_object wsL_object { frames := 8, cells := 8, slots := 110, locals := 220 } (va_Pc [.ref xa, .int k, .ref oa] (fh_Pre G A h sz)) (fh_Q G (fun v u => v = some (.int (nI (oObj no nv V k).1)) ∧ fh_A A u ∧ kp kL h u ∧ (∃ ad2 : Ad, RepC (Kq + 100) u xa ad2 ((oObj no nv V k).2.2.1) ((oObj no nv V k).2.2.2.1) ns ((oObj no nv V k).2.2.2.2) S LK RL J C M) ∧ ∃ f2 : Nat → Int64, u oa = some (aL 11 1 f2) ∧ ((oObj no nv V k).1 = 0 → f2 0 = ((oObj no nv V k).2.1).toInt64)) A) 8 110 A := by
  refine fh_MetW [.ref xa, .int k, .ref oa] (by decide) rfl (Nat.le_of_ble_eq_true rfl) ?_
  intro p e s m below meth c hx hb hr hlocks hml hown hts hsz hP hE hS htb ls hl
  have ht : ∀ w ∈ wB, w.before _ s = true := fun w h9 => hts w (List.mem_cons_of_mem _ h9)
  have hl : lv_has ls 4 [(0, .ref xa), (1, .int k), (2, .ref oa)] := hl
  have hX := hR.1
  refine lv_aload_n hx hb dL_object_0 rfl (lv_at hl 2 rfl) ?_
  refine lv_iconst (v := (nI 0)) hx hb dL_object_1 (by decide) ?_
  refine lv_aload_n hx hb dL_object_2 rfl (lv_at hl 0 rfl) ?_
  refine lv_iload_n hx hb dL_object_3 rfl (lv_at hl 1 rfl) ?_
  refine fh_cVH (q := (RX9, TX9, 11)) (As := [.int k]) (rest := [.int (nI 0), .ref oa]) (b := xa) ⟨hx, hb, hml, hown, ht⟩ (p_object l G A h _ hst (by rw [hsz]; exact hA) hAh xa ad no nv ns V S LK RL J C M hR hB9 hK8 k) (cwV 1 ht (gV kw_179 kw_180 kw_181 kw_1 kw_182) rfl rfl rfl yd_X9_object ⟨(Nat.le_of_ble_eq_true rfl), (Nat.le_of_ble_eq_true rfl)⟩) hP hE hS hX rfl rfl hl.1 rfl (Nat.le_of_ble_eq_true rfl) dL_object_4 ⟨(Nat.le_of_ble_eq_true rfl), (Nat.le_of_ble_eq_true rfl)⟩ (fun E ce q9 u H locs hp hP hz hS hce hcv hcl => ?_) (fun v u H locs hp hP hz hS => ?_)
  · obtain ⟨eu, hp⟩ := hp
    rw [eu] at hP
    obtain ⟨rfl, e0⟩ := hp
    refine vx_catch (own := "ObjectMergeLaw") (name := xE0) hown [] ⟨0, 9, 12, 13⟩ [] htb (fun z hz => nomatch hz) (by decide) (by decide) (ht _ kw_178) (ct_at hE (by decide)) hce hcv hcl ?_
    refine W.eq (g2 := F0 m 12 ls [.ref q9]) rfl ?_
    refine lv_astore_n (lv' := [(3, .ref q9), (0, .ref xa), (1, .int k), (2, .ref oa)]) hx hb dL_object_12 rfl hl (by decide) rfl (fun ls hl => ?_)
    refine lv_iconst (v := (nI 1)) hx hb dL_object_13 (by decide) ?_
    have eb := oObj_bad (show (oObj no nv V k).1 ≠ 0 by rw [e0]; decide)
    exact fh_iret hx hb hr hlocks (⟨by rw [e0], hAh, kp.rf, ⟨ad, by rw [eb]; exact hR.mono (by omega)⟩, f0, ho, fun z => absurd z (by rw [e0]; decide)⟩) hP hS (by omega) (by omega) dL_object_14
  · obtain ⟨e0, rfl, hA1, hk1, ad2, hR1⟩ := hp
    have ho1 := hk1 _ _ ho rfl
    refine W.eq (g2 := F0 m 7 ls [.int ((oObj no nv V k).2.1), .int (nI 0), .ref oa]) rfl ?_
    refine lv_i2l (v := ((oObj no nv V k).2.1 : Int32).toInt64) hx hb dL_object_7 rfl ?_
    refine fh_last (k := 0) hx hb hE.1 hP hS ho1 (hA1 _ _ ho1) rfl (by decide) (by decide) dL_object_8 (fun H locs hP hz hS => ?_)
    obtain ⟨h_1, eh_1⟩ : ∃ z, z = fh_up u oa (.inl (11, 1, .inr (.inl (vp_updL f0 0 (((oObj no nv V k).2.1 : Int32).toInt64))))) := ⟨_, rfl⟩
    have hP : fh_P G vwCl h_1 H := by rw [eh_1]; exact hP
    have f_1 : h_1 oa = some (.inl (11, 1, .inr (.inl (vp_updL f0 0 (((oObj no nv V k).2.1 : Int32).toInt64))))) := by rw [eh_1]; exact fh_up_self _ _ _
    refine lv_goto (tgt := 15) hx hb dL_object_9 (by decide) ?_
    refine lv_iconst (v := (nI 0)) hx hb dL_object_15 (by decide) ?_
    have hk2 : kp [23] u h_1 := by rw [eh_1]; exact kp.rf.up2 ho1 rfl
    have hk3 : kp kL h h_1 := by rw [eh_1]; exact (kp.L hk1).up2 ho1 rfl
    exact fh_iret hx hb hr hlocks (⟨by rw [e0], by rw [eh_1]; exact hA1.up (hA1 _ _ ho1), hk3, ⟨_, (hR1.kpN hk2 rfl).mono (by omega)⟩, _, f_1, fun _ => rfl⟩) hP hS (by omega) (by omega) dL_object_16

set_option maxRecDepth 100000 in
set_option maxHeartbeats 4000000 in
theorem w_set (l : Launch) (G : fG) (A : Nat → Prop) (h : FH) (sz : Nat) (hst : l.stackTraces = false) (hA : ∀ q, sz ≤ q → A q) (hAh : fh_A A h) {Kq : Nat} (xa : Nat) (ad : Ad) (no nv ns : Nat) (V : Nat → St) (S : Nat → Ses) (LK : List Ar) (RL : List (Nat × Nat × Int64)) (J : Nat) (C : CL) (M : Nat → Int32) (hR : RepC Kq h xa ad no nv ns V S LK RL J C M) (hB9 : Bd no nv ns S RL J C) (hK8 : Kq < 900000) (x : Int32) (y : Int32) (zz : Int32) (vv : Int64) (oa : Nat) (f0 : Nat → Int64) (ho : h oa = some (aL 11 1 f0)) : Met l yL_set wsL_set { frames := 8, cells := 8, slots := 44, locals := 220 } (va_Pc [.ref xa, .int x, .int y, .int zz, .long vv, .ref oa] (fh_Pre G A h sz)) (fh_Q G (fun v u => v = some (.int (nI (oSet no ns S LK x y zz vv).1)) ∧ fh_A A u ∧ kp kL h u ∧ (∃ ad2 : Ad, RepC (Kq + 100) u xa ad2 no nv ns V ((oSet no ns S LK x y zz vv).2.2) LK RL J C M) ∧ ∃ f2 : Nat → Int64, u oa = some (aL 11 1 f2) ∧ ((oSet no ns S LK x y zz vv).1 = 0 → f2 0 = zL ((oSet no ns S LK x y zz vv).2.1))) A) 8 44 A := by
  refine fh_MetW [.ref xa, .int x, .int y, .int zz, .long vv, .ref oa] (by decide) rfl (Nat.le_of_ble_eq_true rfl) ?_
  intro p e s m below meth c hx hb hr hlocks hml hown hts hsz hP hE hS htb ls hl
  have ht : ∀ w ∈ wB, w.before _ s = true := fun w h9 => hts w (List.mem_cons_of_mem _ h9)
  have hl : lv_has ls 8 [(0, .ref xa), (1, .int x), (2, .int y), (3, .int zz), (4, .long vv), (6, .ref oa)] := hl
  have hX := hR.1
  refine lv_aload hx hb dL_set_0 (lv_at hl 5 rfl) ?_
  refine lv_iconst (v := (nI 0)) hx hb dL_set_2 (by decide) ?_
  refine lv_aload_n hx hb dL_set_3 rfl (lv_at hl 0 rfl) ?_
  refine lv_iload_n hx hb dL_set_4 rfl (lv_at hl 1 rfl) ?_
  refine lv_iload_n hx hb dL_set_5 rfl (lv_at hl 2 rfl) ?_
  refine lv_iload_n hx hb dL_set_6 rfl (lv_at hl 3 rfl) ?_
  refine lv_lload hx hb dL_set_7 (lv_at hl 4 rfl) ?_
  refine fh_cVH (q := (RX9, TX9, 11)) (As := [.int x, .int y, .int zz, .long vv]) (rest := [.int (nI 0), .ref oa]) (b := xa) ⟨hx, hb, hml, hown, ht⟩ (p_set l G A h _ hst (by rw [hsz]; exact hA) hAh xa ad no nv ns V S LK RL J C M hR hB9 hK8 x y zz vv) (cwV 4 ht (gV kw_282 kw_283 kw_284 kw_1 kw_285) rfl rfl rfl yd_X9_set ⟨(Nat.le_of_ble_eq_true rfl), (Nat.le_of_ble_eq_true rfl)⟩) hP hE hS hX rfl rfl hl.1 rfl (Nat.le_of_ble_eq_true rfl) dL_set_9 ⟨(Nat.le_of_ble_eq_true rfl), (Nat.le_of_ble_eq_true rfl)⟩ (fun E ce q9 u H locs hp hP hz hS hce hcv hcl => ?_) (fun v u H locs hp hP hz hS => ?_)
  · obtain ⟨eu, hp⟩ := hp
    rw [eu] at hP
    rcases hp with ⟨rfl, e0⟩ | ⟨rfl, e0⟩
    · refine vx_catch (own := "ObjectMergeLaw") (name := xE1) hown [] ⟨0, 21, 24, 19⟩ [⟨0, 21, 28, 21⟩] htb (fun z hz => nomatch hz) (by decide) (by decide) (ht _ kw_280) (ct_at hE (by decide)) hce hcv hcl ?_
      refine W.eq (g2 := F0 m 24 ls [.ref q9]) rfl ?_
      refine lv_astore (lv' := [(7, .ref q9), (0, .ref xa), (1, .int x), (2, .int y), (3, .int zz), (4, .long vv), (6, .ref oa)]) hx hb dL_set_24 hl (by decide) rfl (fun ls hl => ?_)
      refine lv_iconst (v := (nI 1)) hx hb dL_set_26 (by decide) ?_
      have eb := oSet_bad (show (oSet no ns S LK x y zz vv).1 ≠ 0 by rw [e0]; decide)
      exact fh_iret hx hb hr hlocks (⟨by rw [e0], hAh, kp.rf, ⟨ad, by rw [eb]; exact hR.mono (by omega)⟩, f0, ho, fun z => absurd z (by rw [e0]; decide)⟩) hP hS (by omega) (by omega) dL_set_27
    · have hpas : ∀ z8 ∈ ([⟨0, 21, 24, 19⟩] : List ExceptionTableEntry), covers z8 9 = false ∨ (z8.catchType ≠ 0 ∧ ∃ nm : String, (Cond.classLink "ObjectMergeLaw" z8.catchType nm).before [.ref xa, .int x, .int y, .int zz, .long vv, .ref oa].toArray s = true ∧ va_Nc xE2 nm s) := fun z8 hz => by
        rw [List.mem_singleton.mp hz]
        exact Or.inr ⟨by decide, _, (ht _ kw_280), nc_at hE (by decide)⟩
      refine vx_catch (own := "ObjectMergeLaw") (name := xE2) hown [⟨0, 21, 24, 19⟩] ⟨0, 21, 28, 21⟩ [] htb hpas (by decide) (by decide) (ht _ kw_281) (ct_at hE (by decide)) hce hcv hcl ?_
      refine W.eq (g2 := F0 m 28 ls [.ref q9]) rfl ?_
      refine lv_astore (lv' := [(7, .ref q9), (0, .ref xa), (1, .int x), (2, .int y), (3, .int zz), (4, .long vv), (6, .ref oa)]) hx hb dL_set_28 hl (by decide) rfl (fun ls hl => ?_)
      refine lv_iconst (v := (nI 2)) hx hb dL_set_30 (by decide) ?_
      have eb := oSet_bad (show (oSet no ns S LK x y zz vv).1 ≠ 0 by rw [e0]; decide)
      exact fh_iret hx hb hr hlocks (⟨by rw [e0], hAh, kp.rf, ⟨ad, by rw [eb]; exact hR.mono (by omega)⟩, f0, ho, fun z => absurd z (by rw [e0]; decide)⟩) hP hS (by omega) (by omega) dL_set_31
  · obtain ⟨e0, rfl, hA1, hk1, ad2, hR1⟩ := hp
    have ho1 := hk1 _ _ ho rfl
    obtain ⟨bv, ebv⟩ : ∃ z8, z8 = (oSet no ns S LK x y zz vv).2.1 := ⟨_, rfl⟩
    rw [← ebv]
    refine W.eq (g2 := F0 m 12 ls [.int (bI bv), .int (nI 0), .ref oa]) rfl ?_
    refine lv_if_eq (tgt := 19) hx hb dL_set_12 (by decide) (fun c1 => ?_) (fun c1 => ?_)
    · have eb2 : bv = false := by cases bv with
        | false => rfl
        | true => exact absurd c1 (by decide)
      refine lv_lconst (v := 0) hx hb dL_set_19 (by decide) ?_
      refine fh_last (k := 0) hx hb hE.1 hP hS ho1 (hA1 _ _ ho1) rfl (by decide) (by decide) dL_set_20 (fun H locs hP hz hS => ?_)
      obtain ⟨h_1, eh_1⟩ : ∃ z, z = fh_up u oa (.inl (11, 1, .inr (.inl (vp_updL f0 0 0)))) := ⟨_, rfl⟩
      have hP : fh_P G vwCl h_1 H := by rw [eh_1]; exact hP
      have f_1 : h_1 oa = some (.inl (11, 1, .inr (.inl (vp_updL f0 0 0)))) := by rw [eh_1]; exact fh_up_self _ _ _
      refine lv_goto (tgt := 32) hx hb dL_set_21 (by decide) ?_
      refine lv_iconst (v := (nI 0)) hx hb dL_set_32 (by decide) ?_
      have hk2 : kp [23] u h_1 := by rw [eh_1]; exact kp.rf.up2 ho1 rfl
      have hk3 : kp kL h h_1 := by rw [eh_1]; exact (kp.L hk1).up2 ho1 rfl
      exact fh_iret hx hb hr hlocks (⟨by rw [e0], by rw [eh_1]; exact hA1.up (hA1 _ _ ho1), hk3, ⟨_, (hR1.kpN hk2 rfl).mono (by omega)⟩, _, f_1, fun _ => (by rw [eb2]; rfl)⟩) hP hS (by omega) (by omega) dL_set_33
    · have eb2 : bv = true := by cases bv with
        | true => rfl
        | false => exact absurd rfl c1
      refine lv_lconst (v := 1) hx hb dL_set_15 (by decide) ?_
      refine lv_goto (tgt := 20) hx hb dL_set_16 (by decide) ?_
      refine fh_last (k := 0) hx hb hE.1 hP hS ho1 (hA1 _ _ ho1) rfl (by decide) (by decide) dL_set_20 (fun H locs hP hz hS => ?_)
      obtain ⟨h_1, eh_1⟩ : ∃ z, z = fh_up u oa (.inl (11, 1, .inr (.inl (vp_updL f0 0 1)))) := ⟨_, rfl⟩
      have hP : fh_P G vwCl h_1 H := by rw [eh_1]; exact hP
      have f_1 : h_1 oa = some (.inl (11, 1, .inr (.inl (vp_updL f0 0 1)))) := by rw [eh_1]; exact fh_up_self _ _ _
      refine lv_goto (tgt := 32) hx hb dL_set_21 (by decide) ?_
      refine lv_iconst (v := (nI 0)) hx hb dL_set_32 (by decide) ?_
      have hk2 : kp [23] u h_1 := by rw [eh_1]; exact kp.rf.up2 ho1 rfl
      have hk3 : kp kL h h_1 := by rw [eh_1]; exact (kp.L hk1).up2 ho1 rfl
      exact fh_iret hx hb hr hlocks (⟨by rw [e0], by rw [eh_1]; exact hA1.up (hA1 _ _ ho1), hk3, ⟨_, (hR1.kpN hk2 rfl).mono (by omega)⟩, _, f_1, fun _ => (by rw [eb2]; rfl)⟩) hP hS (by omega) (by omega) dL_set_33

set_option maxRecDepth 100000 in
set_option maxHeartbeats 4000000 in
theorem w_drop (l : Launch) (G : fG) (A : Nat → Prop) (h : FH) (sz : Nat) (hst : l.stackTraces = false) (hA : ∀ q, sz ≤ q → A q) (hAh : fh_A A h) {Kq : Nat} (xa : Nat) (ad : Ad) (no nv ns : Nat) (V : Nat → St) (S : Nat → Ses) (LK : List Ar) (RL : List (Nat × Nat × Int64)) (J : Nat) (C : CL) (M : Nat → Int32) (hR : RepC Kq h xa ad no nv ns V S LK RL J C M) (hB9 : Bd no nv ns S RL J C) (hK8 : Kq < 900000) (x : Int32) (y : Int32) (oa : Nat) (f0 : Nat → Int64) (ho : h oa = some (aL 11 1 f0)) : Met l yL_drop wsL_drop { frames := 8, cells := 8, slots := 44, locals := 220 } (va_Pc [.ref xa, .int x, .int y, .ref oa] (fh_Pre G A h sz)) (fh_Q G (fun v u => v = some (.int (nI (oDrop no ns S LK x y).1)) ∧ fh_A A u ∧ kp kL h u ∧ (∃ ad2 : Ad, RepC (Kq + 100) u xa ad2 no nv ns V ((oDrop no ns S LK x y).2.2) LK RL J C M) ∧ ∃ f2 : Nat → Int64, u oa = some (aL 11 1 f2) ∧ ((oDrop no ns S LK x y).1 = 0 → f2 0 = zL ((oDrop no ns S LK x y).2.1))) A) 8 44 A := by
  refine fh_MetW [.ref xa, .int x, .int y, .ref oa] (by decide) rfl (Nat.le_of_ble_eq_true rfl) ?_
  intro p e s m below meth c hx hb hr hlocks hml hown hts hsz hP hE hS htb ls hl
  have ht : ∀ w ∈ wB, w.before _ s = true := fun w h9 => hts w (List.mem_cons_of_mem _ h9)
  have hl : lv_has ls 5 [(0, .ref xa), (1, .int x), (2, .int y), (3, .ref oa)] := hl
  have hX := hR.1
  refine lv_aload_n hx hb dL_drop_0 rfl (lv_at hl 3 rfl) ?_
  refine lv_iconst (v := (nI 0)) hx hb dL_drop_1 (by decide) ?_
  refine lv_aload_n hx hb dL_drop_2 rfl (lv_at hl 0 rfl) ?_
  refine lv_iload_n hx hb dL_drop_3 rfl (lv_at hl 1 rfl) ?_
  refine lv_iload_n hx hb dL_drop_4 rfl (lv_at hl 2 rfl) ?_
  refine fh_cVH (q := (RX9, TX9, 11)) (As := [.int x, .int y]) (rest := [.int (nI 0), .ref oa]) (b := xa) ⟨hx, hb, hml, hown, ht⟩ (p_drop l G A h _ hst (by rw [hsz]; exact hA) hAh xa ad no nv ns V S LK RL J C M hR hB9 hK8 x y) (cwV 2 ht (gV kw_388 kw_389 kw_390 kw_1 kw_391) rfl rfl rfl yd_X9_drop ⟨(Nat.le_of_ble_eq_true rfl), (Nat.le_of_ble_eq_true rfl)⟩) hP hE hS hX rfl rfl hl.1 rfl (Nat.le_of_ble_eq_true rfl) dL_drop_5 ⟨(Nat.le_of_ble_eq_true rfl), (Nat.le_of_ble_eq_true rfl)⟩ (fun E ce q9 u H locs hp hP hz hS hce hcv hcl => ?_) (fun v u H locs hp hP hz hS => ?_)
  · obtain ⟨eu, hp⟩ := hp
    rw [eu] at hP
    rcases hp with ⟨rfl, e0⟩ | ⟨rfl, e0⟩
    · refine vx_catch (own := "ObjectMergeLaw") (name := xE1) hown [] ⟨0, 17, 20, 19⟩ [⟨0, 17, 24, 21⟩] htb (fun z hz => nomatch hz) (by decide) (by decide) (ht _ kw_280) (ct_at hE (by decide)) hce hcv hcl ?_
      refine W.eq (g2 := F0 m 20 ls [.ref q9]) rfl ?_
      refine lv_astore (lv' := [(4, .ref q9), (0, .ref xa), (1, .int x), (2, .int y), (3, .ref oa)]) hx hb dL_drop_20 hl (by decide) rfl (fun ls hl => ?_)
      refine lv_iconst (v := (nI 1)) hx hb dL_drop_22 (by decide) ?_
      have eb := oDrop_bad (show (oDrop no ns S LK x y).1 ≠ 0 by rw [e0]; decide)
      exact fh_iret hx hb hr hlocks (⟨by rw [e0], hAh, kp.rf, ⟨ad, by rw [eb]; exact hR.mono (by omega)⟩, f0, ho, fun z => absurd z (by rw [e0]; decide)⟩) hP hS (by omega) (by omega) dL_drop_23
    · have hpas : ∀ z8 ∈ ([⟨0, 17, 20, 19⟩] : List ExceptionTableEntry), covers z8 5 = false ∨ (z8.catchType ≠ 0 ∧ ∃ nm : String, (Cond.classLink "ObjectMergeLaw" z8.catchType nm).before [.ref xa, .int x, .int y, .ref oa].toArray s = true ∧ va_Nc xE2 nm s) := fun z8 hz => by
        rw [List.mem_singleton.mp hz]
        exact Or.inr ⟨by decide, _, (ht _ kw_280), nc_at hE (by decide)⟩
      refine vx_catch (own := "ObjectMergeLaw") (name := xE2) hown [⟨0, 17, 20, 19⟩] ⟨0, 17, 24, 21⟩ [] htb hpas (by decide) (by decide) (ht _ kw_281) (ct_at hE (by decide)) hce hcv hcl ?_
      refine W.eq (g2 := F0 m 24 ls [.ref q9]) rfl ?_
      refine lv_astore (lv' := [(4, .ref q9), (0, .ref xa), (1, .int x), (2, .int y), (3, .ref oa)]) hx hb dL_drop_24 hl (by decide) rfl (fun ls hl => ?_)
      refine lv_iconst (v := (nI 2)) hx hb dL_drop_26 (by decide) ?_
      have eb := oDrop_bad (show (oDrop no ns S LK x y).1 ≠ 0 by rw [e0]; decide)
      exact fh_iret hx hb hr hlocks (⟨by rw [e0], hAh, kp.rf, ⟨ad, by rw [eb]; exact hR.mono (by omega)⟩, f0, ho, fun z => absurd z (by rw [e0]; decide)⟩) hP hS (by omega) (by omega) dL_drop_27
  · obtain ⟨e0, rfl, hA1, hk1, ad2, hR1⟩ := hp
    have ho1 := hk1 _ _ ho rfl
    obtain ⟨bv, ebv⟩ : ∃ z8, z8 = (oDrop no ns S LK x y).2.1 := ⟨_, rfl⟩
    rw [← ebv]
    refine W.eq (g2 := F0 m 8 ls [.int (bI bv), .int (nI 0), .ref oa]) rfl ?_
    refine lv_if_eq (tgt := 15) hx hb dL_drop_8 (by decide) (fun c1 => ?_) (fun c1 => ?_)
    · have eb2 : bv = false := by cases bv with
        | false => rfl
        | true => exact absurd c1 (by decide)
      refine lv_lconst (v := 0) hx hb dL_drop_15 (by decide) ?_
      refine fh_last (k := 0) hx hb hE.1 hP hS ho1 (hA1 _ _ ho1) rfl (by decide) (by decide) dL_drop_16 (fun H locs hP hz hS => ?_)
      obtain ⟨h_1, eh_1⟩ : ∃ z, z = fh_up u oa (.inl (11, 1, .inr (.inl (vp_updL f0 0 0)))) := ⟨_, rfl⟩
      have hP : fh_P G vwCl h_1 H := by rw [eh_1]; exact hP
      have f_1 : h_1 oa = some (.inl (11, 1, .inr (.inl (vp_updL f0 0 0)))) := by rw [eh_1]; exact fh_up_self _ _ _
      refine lv_goto (tgt := 28) hx hb dL_drop_17 (by decide) ?_
      refine lv_iconst (v := (nI 0)) hx hb dL_drop_28 (by decide) ?_
      have hk2 : kp [23] u h_1 := by rw [eh_1]; exact kp.rf.up2 ho1 rfl
      have hk3 : kp kL h h_1 := by rw [eh_1]; exact (kp.L hk1).up2 ho1 rfl
      exact fh_iret hx hb hr hlocks (⟨by rw [e0], by rw [eh_1]; exact hA1.up (hA1 _ _ ho1), hk3, ⟨_, (hR1.kpN hk2 rfl).mono (by omega)⟩, _, f_1, fun _ => (by rw [eb2]; rfl)⟩) hP hS (by omega) (by omega) dL_drop_29
    · have eb2 : bv = true := by cases bv with
        | true => rfl
        | false => exact absurd rfl c1
      refine lv_lconst (v := 1) hx hb dL_drop_11 (by decide) ?_
      refine lv_goto (tgt := 16) hx hb dL_drop_12 (by decide) ?_
      refine fh_last (k := 0) hx hb hE.1 hP hS ho1 (hA1 _ _ ho1) rfl (by decide) (by decide) dL_drop_16 (fun H locs hP hz hS => ?_)
      obtain ⟨h_1, eh_1⟩ : ∃ z, z = fh_up u oa (.inl (11, 1, .inr (.inl (vp_updL f0 0 1)))) := ⟨_, rfl⟩
      have hP : fh_P G vwCl h_1 H := by rw [eh_1]; exact hP
      have f_1 : h_1 oa = some (.inl (11, 1, .inr (.inl (vp_updL f0 0 1)))) := by rw [eh_1]; exact fh_up_self _ _ _
      refine lv_goto (tgt := 28) hx hb dL_drop_17 (by decide) ?_
      refine lv_iconst (v := (nI 0)) hx hb dL_drop_28 (by decide) ?_
      have hk2 : kp [23] u h_1 := by rw [eh_1]; exact kp.rf.up2 ho1 rfl
      have hk3 : kp kL h h_1 := by rw [eh_1]; exact (kp.L hk1).up2 ho1 rfl
      exact fh_iret hx hb hr hlocks (⟨by rw [e0], by rw [eh_1]; exact hA1.up (hA1 _ _ ho1), hk3, ⟨_, (hR1.kpN hk2 rfl).mono (by omega)⟩, _, f_1, fun _ => (by rw [eb2]; rfl)⟩) hP hS (by omega) (by omega) dL_drop_29

set_option maxRecDepth 100000 in
set_option maxHeartbeats 4000000 in
theorem w_make (l : Launch) (G : fG) (A : Nat → Prop) (h : FH) (sz : Nat) (hst : l.stackTraces = false) (hA : ∀ q, sz ≤ q → A q) (hAh : fh_A A h) {Kq : Nat} (xa : Nat) (ad : Ad) (no nv ns : Nat) (V : Nat → St) (S : Nat → Ses) (LK : List Ar) (RL : List (Nat × Nat × Int64)) (J : Nat) (C : CL) (M : Nat → Int32) (hR : RepC Kq h xa ad no nv ns V S LK RL J C M) (hB9 : Bd no nv ns S RL J C) (hK8 : Kq < 900000) (x : Int32) (k : Int32) (oa : Nat) (f0 : Nat → Int64) (ho : h oa = some (aL 11 1 f0)) : Met l yL_make wsL_make { frames := 8, cells := 8, slots := 44, locals := 220 } (va_Pc [.ref xa, .int x, .int k, .ref oa] (fh_Pre G A h sz)) (fh_Q G (fun v u => v = some (.int (nI (oMake no ns S x k).1)) ∧ fh_A A u ∧ kp kL h u ∧ (∃ ad2 : Ad, RepC (Kq + 100) u xa ad2 ((oMake no ns S x k).2.2.1) nv ns V ((oMake no ns S x k).2.2.2) LK RL J C M) ∧ ∃ f2 : Nat → Int64, u oa = some (aL 11 1 f2) ∧ ((oMake no ns S x k).1 = 0 → f2 0 = ((oMake no ns S x k).2.1).toInt64)) A) 8 44 A := by
  refine fh_MetW [.ref xa, .int x, .int k, .ref oa] (by decide) rfl (Nat.le_of_ble_eq_true rfl) ?_
  intro p e s m below meth c hx hb hr hlocks hml hown hts hsz hP hE hS htb ls hl
  have ht : ∀ w ∈ wB, w.before _ s = true := fun w h9 => hts w (List.mem_cons_of_mem _ h9)
  have hl : lv_has ls 5 [(0, .ref xa), (1, .int x), (2, .int k), (3, .ref oa)] := hl
  have hX := hR.1
  refine lv_aload_n hx hb dL_make_0 rfl (lv_at hl 3 rfl) ?_
  refine lv_iconst (v := (nI 0)) hx hb dL_make_1 (by decide) ?_
  refine lv_aload_n hx hb dL_make_2 rfl (lv_at hl 0 rfl) ?_
  refine lv_iload_n hx hb dL_make_3 rfl (lv_at hl 1 rfl) ?_
  refine lv_iload_n hx hb dL_make_4 rfl (lv_at hl 2 rfl) ?_
  refine fh_cVH (q := (RX9, TX9, 11)) (As := [.int x, .int k]) (rest := [.int (nI 0), .ref oa]) (b := xa) ⟨hx, hb, hml, hown, ht⟩ (p_make l G A h _ hst (by rw [hsz]; exact hA) hAh xa ad no nv ns V S LK RL J C M hR hB9 hK8 x k) (cwV 2 ht (gV kw_395 kw_396 kw_397 kw_1 kw_398) rfl rfl rfl yd_X9_make ⟨(Nat.le_of_ble_eq_true rfl), (Nat.le_of_ble_eq_true rfl)⟩) hP hE hS hX rfl rfl hl.1 rfl (Nat.le_of_ble_eq_true rfl) dL_make_5 ⟨(Nat.le_of_ble_eq_true rfl), (Nat.le_of_ble_eq_true rfl)⟩ (fun E ce q9 u H locs hp hP hz hS hce hcv hcl => ?_) (fun v u H locs hp hP hz hS => ?_)
  · obtain ⟨eu, hp⟩ := hp
    rw [eu] at hP
    rcases hp with ⟨rfl, e0⟩ | ⟨rfl, e0⟩ | ⟨rfl, e0⟩
    · refine vx_catch (own := "ObjectMergeLaw") (name := xE1) hown [] ⟨0, 10, 13, 19⟩ [⟨0, 10, 17, 21⟩, ⟨0, 10, 21, 13⟩] htb (fun z hz => nomatch hz) (by decide) (by decide) (ht _ kw_280) (ct_at hE (by decide)) hce hcv hcl ?_
      refine W.eq (g2 := F0 m 13 ls [.ref q9]) rfl ?_
      refine lv_astore (lv' := [(4, .ref q9), (0, .ref xa), (1, .int x), (2, .int k), (3, .ref oa)]) hx hb dL_make_13 hl (by decide) rfl (fun ls hl => ?_)
      refine lv_iconst (v := (nI 1)) hx hb dL_make_15 (by decide) ?_
      have eb := oMake_bad (show (oMake no ns S x k).1 ≠ 0 by rw [e0]; decide)
      exact fh_iret hx hb hr hlocks (⟨by rw [e0], hAh, kp.rf, ⟨ad, by rw [eb]; exact hR.mono (by omega)⟩, f0, ho, fun z => absurd z (by rw [e0]; decide)⟩) hP hS (by omega) (by omega) dL_make_16
    · have hpas : ∀ z8 ∈ ([⟨0, 10, 13, 19⟩] : List ExceptionTableEntry), covers z8 5 = false ∨ (z8.catchType ≠ 0 ∧ ∃ nm : String, (Cond.classLink "ObjectMergeLaw" z8.catchType nm).before [.ref xa, .int x, .int k, .ref oa].toArray s = true ∧ va_Nc xE2 nm s) := fun z8 hz => by
        rw [List.mem_singleton.mp hz]
        exact Or.inr ⟨by decide, _, (ht _ kw_280), nc_at hE (by decide)⟩
      refine vx_catch (own := "ObjectMergeLaw") (name := xE2) hown [⟨0, 10, 13, 19⟩] ⟨0, 10, 17, 21⟩ [⟨0, 10, 21, 13⟩] htb hpas (by decide) (by decide) (ht _ kw_281) (ct_at hE (by decide)) hce hcv hcl ?_
      refine W.eq (g2 := F0 m 17 ls [.ref q9]) rfl ?_
      refine lv_astore (lv' := [(4, .ref q9), (0, .ref xa), (1, .int x), (2, .int k), (3, .ref oa)]) hx hb dL_make_17 hl (by decide) rfl (fun ls hl => ?_)
      refine lv_iconst (v := (nI 2)) hx hb dL_make_19 (by decide) ?_
      have eb := oMake_bad (show (oMake no ns S x k).1 ≠ 0 by rw [e0]; decide)
      exact fh_iret hx hb hr hlocks (⟨by rw [e0], hAh, kp.rf, ⟨ad, by rw [eb]; exact hR.mono (by omega)⟩, f0, ho, fun z => absurd z (by rw [e0]; decide)⟩) hP hS (by omega) (by omega) dL_make_20
    · have hpas : ∀ z8 ∈ ([⟨0, 10, 13, 19⟩, ⟨0, 10, 17, 21⟩] : List ExceptionTableEntry), covers z8 5 = false ∨ (z8.catchType ≠ 0 ∧ ∃ nm : String, (Cond.classLink "ObjectMergeLaw" z8.catchType nm).before [.ref xa, .int x, .int k, .ref oa].toArray s = true ∧ va_Nc xE0 nm s) := fun z8 hz => by
        rcases List.mem_cons.mp hz with rfl | hz
        · exact Or.inr ⟨by decide, _, (ht _ kw_280), nc_at hE (by decide)⟩
        rw [List.mem_singleton.mp hz]
        exact Or.inr ⟨by decide, _, (ht _ kw_281), nc_at hE (by decide)⟩
      refine vx_catch (own := "ObjectMergeLaw") (name := xE0) hown [⟨0, 10, 13, 19⟩, ⟨0, 10, 17, 21⟩] ⟨0, 10, 21, 13⟩ [] htb hpas (by decide) (by decide) (ht _ kw_178) (ct_at hE (by decide)) hce hcv hcl ?_
      refine W.eq (g2 := F0 m 21 ls [.ref q9]) rfl ?_
      refine lv_astore (lv' := [(4, .ref q9), (0, .ref xa), (1, .int x), (2, .int k), (3, .ref oa)]) hx hb dL_make_21 hl (by decide) rfl (fun ls hl => ?_)
      refine lv_iconst (v := (nI 3)) hx hb dL_make_23 (by decide) ?_
      have eb := oMake_bad (show (oMake no ns S x k).1 ≠ 0 by rw [e0]; decide)
      exact fh_iret hx hb hr hlocks (⟨by rw [e0], hAh, kp.rf, ⟨ad, by rw [eb]; exact hR.mono (by omega)⟩, f0, ho, fun z => absurd z (by rw [e0]; decide)⟩) hP hS (by omega) (by omega) dL_make_24
  · obtain ⟨e0, rfl, hA1, hk1, ad2, hR1⟩ := hp
    have ho1 := hk1 _ _ ho rfl
    refine W.eq (g2 := F0 m 8 ls [.int ((oMake no ns S x k).2.1), .int (nI 0), .ref oa]) rfl ?_
    refine lv_i2l (v := ((oMake no ns S x k).2.1 : Int32).toInt64) hx hb dL_make_8 rfl ?_
    refine fh_last (k := 0) hx hb hE.1 hP hS ho1 (hA1 _ _ ho1) rfl (by decide) (by decide) dL_make_9 (fun H locs hP hz hS => ?_)
    obtain ⟨h_1, eh_1⟩ : ∃ z, z = fh_up u oa (.inl (11, 1, .inr (.inl (vp_updL f0 0 (((oMake no ns S x k).2.1 : Int32).toInt64))))) := ⟨_, rfl⟩
    have hP : fh_P G vwCl h_1 H := by rw [eh_1]; exact hP
    have f_1 : h_1 oa = some (.inl (11, 1, .inr (.inl (vp_updL f0 0 (((oMake no ns S x k).2.1 : Int32).toInt64))))) := by rw [eh_1]; exact fh_up_self _ _ _
    refine lv_goto (tgt := 25) hx hb dL_make_10 (by decide) ?_
    refine lv_iconst (v := (nI 0)) hx hb dL_make_25 (by decide) ?_
    have hk2 : kp [23] u h_1 := by rw [eh_1]; exact kp.rf.up2 ho1 rfl
    have hk3 : kp kL h h_1 := by rw [eh_1]; exact (kp.L hk1).up2 ho1 rfl
    exact fh_iret hx hb hr hlocks (⟨by rw [e0], by rw [eh_1]; exact hA1.up (hA1 _ _ ho1), hk3, ⟨_, (hR1.kpN hk2 rfl).mono (by omega)⟩, _, f_1, fun _ => rfl⟩) hP hS (by omega) (by omega) dL_make_26

set_option maxRecDepth 100000 in
set_option maxHeartbeats 4000000 in
theorem w_join (l : Launch) (G : fG) (A : Nat → Prop) (h : FH) (sz : Nat) (hst : l.stackTraces = false) (hA : ∀ q, sz ≤ q → A q) (hAh : fh_A A h) {Kq : Nat} (xa : Nat) (ad : Ad) (no nv ns : Nat) (V : Nat → St) (S : Nat → Ses) (LK : List Ar) (RL : List (Nat × Nat × Int64)) (J : Nat) (C : CL) (M : Nat → Int32) (hR : RepC Kq h xa ad no nv ns V S LK RL J C M) (hB9 : Bd no nv ns S RL J C) (hK8 : Kq < 900000) (x : Int32) (oa : Nat) (f0 : Nat → Int64) (ho : h oa = some (aL 11 1 f0)) : Met l yL_join wsL_join { frames := 8, cells := 730, slots := 2600, locals := 220 } (va_Pc [.ref xa, .int x, .ref oa] (fh_Pre G A h sz)) (fh_Q G (fun v u => v = some (.int (nI (oJoin nv ns V S LK J C M x).1)) ∧ fh_A A u ∧ kp kL h u ∧ (∃ ad2 : Ad, RepC (Kq + 100) u xa ad2 no ((oJoin nv ns V S LK J C M x).2.2.1) ns ((oJoin nv ns V S LK J C M x).2.2.2.1) ((oJoin nv ns V S LK J C M x).2.2.2.2.1) ((oJoin nv ns V S LK J C M x).2.2.2.2.2.1) RL ((oJoin nv ns V S LK J C M x).2.2.2.2.2.2.1) ((oJoin nv ns V S LK J C M x).2.2.2.2.2.2.2.1) ((oJoin nv ns V S LK J C M x).2.2.2.2.2.2.2.2)) ∧ ∃ f2 : Nat → Int64, u oa = some (aL 11 1 f2) ∧ ((oJoin nv ns V S LK J C M x).1 = 0 → f2 0 = ((oJoin nv ns V S LK J C M x).2.1).toInt64)) A) 730 2600 A := by
  refine fh_MetW [.ref xa, .int x, .ref oa] (by decide) rfl (Nat.le_of_ble_eq_true rfl) ?_
  intro p e s m below meth c hx hb hr hlocks hml hown hts hsz hP hE hS htb ls hl
  have ht : ∀ w ∈ wB, w.before _ s = true := fun w h9 => hts w (List.mem_cons_of_mem _ h9)
  have hl : lv_has ls 4 [(0, .ref xa), (1, .int x), (2, .ref oa)] := hl
  have hX := hR.1
  refine lv_aload_n hx hb dL_join_0 rfl (lv_at hl 2 rfl) ?_
  refine lv_iconst (v := (nI 0)) hx hb dL_join_1 (by decide) ?_
  refine lv_aload_n hx hb dL_join_2 rfl (lv_at hl 0 rfl) ?_
  refine lv_iload_n hx hb dL_join_3 rfl (lv_at hl 1 rfl) ?_
  refine fh_cVH (q := (RX9, TX9, 11)) (As := [.int x]) (rest := [.int (nI 0), .ref oa]) (b := xa) ⟨hx, hb, hml, hown, ht⟩ (p_join l G A h _ hst (by rw [hsz]; exact hA) hAh xa ad no nv ns V S LK RL J C M hR hB9 hK8 x) (cwV 1 ht (gV kw_402 kw_403 kw_404 kw_1 kw_405) rfl rfl rfl yd_X9_join ⟨(Nat.le_of_ble_eq_true rfl), (Nat.le_of_ble_eq_true rfl)⟩) hP hE hS hX rfl rfl hl.1 rfl (Nat.le_of_ble_eq_true rfl) dL_join_4 ⟨(Nat.le_of_ble_eq_true rfl), (Nat.le_of_ble_eq_true rfl)⟩ (fun E ce q9 u H locs hp hP hz hS hce hcv hcl => ?_) (fun v u H locs hp hP hz hS => ?_)
  · obtain ⟨eu, hp⟩ := hp
    rw [eu] at hP
    rcases hp with ⟨rfl, e0⟩ | ⟨rfl, e0⟩
    · refine vx_catch (own := "ObjectMergeLaw") (name := xE1) hown [] ⟨0, 9, 12, 19⟩ [⟨0, 9, 15, 21⟩] htb (fun z hz => nomatch hz) (by decide) (by decide) (ht _ kw_280) (ct_at hE (by decide)) hce hcv hcl ?_
      refine W.eq (g2 := F0 m 12 ls [.ref q9]) rfl ?_
      refine lv_astore_n (lv' := [(3, .ref q9), (0, .ref xa), (1, .int x), (2, .ref oa)]) hx hb dL_join_12 rfl hl (by decide) rfl (fun ls hl => ?_)
      refine lv_iconst (v := (nI 1)) hx hb dL_join_13 (by decide) ?_
      have eb := oJoin_bad (show (oJoin nv ns V S LK J C M x).1 ≠ 0 by rw [e0]; decide)
      exact fh_iret hx hb hr hlocks (⟨by rw [e0], hAh, kp.rf, ⟨ad, by rw [eb]; exact hR.mono (by omega)⟩, f0, ho, fun z => absurd z (by rw [e0]; decide)⟩) hP hS (by omega) (by omega) dL_join_14
    · have hpas : ∀ z8 ∈ ([⟨0, 9, 12, 19⟩] : List ExceptionTableEntry), covers z8 4 = false ∨ (z8.catchType ≠ 0 ∧ ∃ nm : String, (Cond.classLink "ObjectMergeLaw" z8.catchType nm).before [.ref xa, .int x, .ref oa].toArray s = true ∧ va_Nc xE2 nm s) := fun z8 hz => by
        rw [List.mem_singleton.mp hz]
        exact Or.inr ⟨by decide, _, (ht _ kw_280), nc_at hE (by decide)⟩
      refine vx_catch (own := "ObjectMergeLaw") (name := xE2) hown [⟨0, 9, 12, 19⟩] ⟨0, 9, 15, 21⟩ [] htb hpas (by decide) (by decide) (ht _ kw_281) (ct_at hE (by decide)) hce hcv hcl ?_
      refine W.eq (g2 := F0 m 15 ls [.ref q9]) rfl ?_
      refine lv_astore_n (lv' := [(3, .ref q9), (0, .ref xa), (1, .int x), (2, .ref oa)]) hx hb dL_join_15 rfl hl (by decide) rfl (fun ls hl => ?_)
      refine lv_iconst (v := (nI 2)) hx hb dL_join_16 (by decide) ?_
      have eb := oJoin_bad (show (oJoin nv ns V S LK J C M x).1 ≠ 0 by rw [e0]; decide)
      exact fh_iret hx hb hr hlocks (⟨by rw [e0], hAh, kp.rf, ⟨ad, by rw [eb]; exact hR.mono (by omega)⟩, f0, ho, fun z => absurd z (by rw [e0]; decide)⟩) hP hS (by omega) (by omega) dL_join_17
  · obtain ⟨e0, rfl, hA1, hk1, ad2, hR1⟩ := hp
    have ho1 := hk1 _ _ ho rfl
    refine W.eq (g2 := F0 m 7 ls [.int ((oJoin nv ns V S LK J C M x).2.1), .int (nI 0), .ref oa]) rfl ?_
    refine lv_i2l (v := ((oJoin nv ns V S LK J C M x).2.1 : Int32).toInt64) hx hb dL_join_7 rfl ?_
    refine fh_last (k := 0) hx hb hE.1 hP hS ho1 (hA1 _ _ ho1) rfl (by decide) (by decide) dL_join_8 (fun H locs hP hz hS => ?_)
    obtain ⟨h_1, eh_1⟩ : ∃ z, z = fh_up u oa (.inl (11, 1, .inr (.inl (vp_updL f0 0 (((oJoin nv ns V S LK J C M x).2.1 : Int32).toInt64))))) := ⟨_, rfl⟩
    have hP : fh_P G vwCl h_1 H := by rw [eh_1]; exact hP
    have f_1 : h_1 oa = some (.inl (11, 1, .inr (.inl (vp_updL f0 0 (((oJoin nv ns V S LK J C M x).2.1 : Int32).toInt64))))) := by rw [eh_1]; exact fh_up_self _ _ _
    refine lv_goto (tgt := 18) hx hb dL_join_9 (by decide) ?_
    refine lv_iconst (v := (nI 0)) hx hb dL_join_18 (by decide) ?_
    have hk2 : kp [23] u h_1 := by rw [eh_1]; exact kp.rf.up2 ho1 rfl
    have hk3 : kp kL h h_1 := by rw [eh_1]; exact (kp.L hk1).up2 ho1 rfl
    exact fh_iret hx hb hr hlocks (⟨by rw [e0], by rw [eh_1]; exact hA1.up (hA1 _ _ ho1), hk3, ⟨_, (hR1.kpN hk2 rfl).mono (by omega)⟩, _, f_1, fun _ => rfl⟩) hP hS (by omega) (by omega) dL_join_19

set_option maxRecDepth 100000 in
set_option maxHeartbeats 4000000 in
theorem w_conflict (l : Launch) (G : fG) (A : Nat → Prop) (h : FH) (sz : Nat) (hst : l.stackTraces = false) (hA : ∀ q, sz ≤ q → A q) (hAh : fh_A A h) {Kq : Nat} (xa : Nat) (ad : Ad) (no nv ns : Nat) (V : Nat → St) (S : Nat → Ses) (LK : List Ar) (RL : List (Nat × Nat × Int64)) (J : Nat) (C : CL) (M : Nat → Int32) (hR : RepC Kq h xa ad no nv ns V S LK RL J C M) (hB9 : Bd no nv ns S RL J C) (hK8 : Kq < 900000) (k : Int32) (ww : Int32) (oa : Nat) (f0 : Nat → Int64) (ho : h oa = some (aL 11 1 f0)) : Met l yL_conflict wsL_conflict { frames := 8, cells := 4, slots := 24, locals := 220 } (va_Pc [.ref xa, .int k, .int ww, .ref oa] (fh_Pre G A h sz)) (fh_Q G (fun v u => v = some (.int (nI (oConf S J C k ww).1)) ∧ fh_A A u ∧ kp kL h u ∧ (∃ ad2 : Ad, RepC (Kq + 100) u xa ad2 no nv ns V S LK RL J C M) ∧ ∃ f2 : Nat → Int64, u oa = some (aL 11 1 f2) ∧ ((oConf S J C k ww).1 = 0 → f2 0 = ((oConf S J C k ww).2).toInt64)) A) 4 24 A := by
  refine fh_MetW [.ref xa, .int k, .int ww, .ref oa] (by decide) rfl (Nat.le_of_ble_eq_true rfl) ?_
  intro p e s m below meth c hx hb hr hlocks hml hown hts hsz hP hE hS htb ls hl
  have ht : ∀ w ∈ wB, w.before _ s = true := fun w h9 => hts w (List.mem_cons_of_mem _ h9)
  have hl : lv_has ls 5 [(0, .ref xa), (1, .int k), (2, .int ww), (3, .ref oa)] := hl
  have hX := hR.1
  refine lv_aload_n hx hb dL_conflict_0 rfl (lv_at hl 3 rfl) ?_
  refine lv_iconst (v := (nI 0)) hx hb dL_conflict_1 (by decide) ?_
  refine lv_aload_n hx hb dL_conflict_2 rfl (lv_at hl 0 rfl) ?_
  refine lv_iload_n hx hb dL_conflict_3 rfl (lv_at hl 1 rfl) ?_
  refine lv_iload_n hx hb dL_conflict_4 rfl (lv_at hl 2 rfl) ?_
  refine fh_cVH (q := (RX9, TX9, 11)) (As := [.int k, .int ww]) (rest := [.int (nI 0), .ref oa]) (b := xa) ⟨hx, hb, hml, hown, ht⟩ (p_conflict l G A h _ hst (by rw [hsz]; exact hA) hAh xa ad no nv ns V S LK RL J C M hR hB9 hK8 k ww) (cwV 2 ht (gV kw_477 kw_478 kw_479 kw_1 kw_480) rfl rfl rfl yd_X9_conflict ⟨(Nat.le_of_ble_eq_true rfl), (Nat.le_of_ble_eq_true rfl)⟩) hP hE hS hX rfl rfl hl.1 rfl (Nat.le_of_ble_eq_true rfl) dL_conflict_5 ⟨(Nat.le_of_ble_eq_true rfl), (Nat.le_of_ble_eq_true rfl)⟩ (fun E ce q9 u H locs hp hP hz hS hce hcv hcl => ?_) (fun v u H locs hp hP hz hS => ?_)
  · obtain ⟨eu, hp⟩ := hp
    rw [eu] at hP
    obtain ⟨rfl, e0⟩ := hp
    refine vx_catch (own := "ObjectMergeLaw") (name := xE1) hown [] ⟨0, 10, 13, 19⟩ [] htb (fun z hz => nomatch hz) (by decide) (by decide) (ht _ kw_280) (ct_at hE (by decide)) hce hcv hcl ?_
    refine W.eq (g2 := F0 m 13 ls [.ref q9]) rfl ?_
    refine lv_astore (lv' := [(4, .ref q9), (0, .ref xa), (1, .int k), (2, .int ww), (3, .ref oa)]) hx hb dL_conflict_13 hl (by decide) rfl (fun ls hl => ?_)
    refine lv_iconst (v := (nI 1)) hx hb dL_conflict_15 (by decide) ?_
    exact fh_iret hx hb hr hlocks (⟨by rw [e0], hAh, kp.rf, ⟨ad, hR.mono (by omega)⟩, f0, ho, fun z => absurd z (by rw [e0]; decide)⟩) hP hS (by omega) (by omega) dL_conflict_16
  · obtain ⟨e0, rfl, hA1, hk1, ad2, hR1⟩ := hp
    have ho1 := hk1 _ _ ho rfl
    refine W.eq (g2 := F0 m 8 ls [.int ((oConf S J C k ww).2), .int (nI 0), .ref oa]) rfl ?_
    refine lv_i2l (v := ((oConf S J C k ww).2 : Int32).toInt64) hx hb dL_conflict_8 rfl ?_
    refine fh_last (k := 0) hx hb hE.1 hP hS ho1 (hA1 _ _ ho1) rfl (by decide) (by decide) dL_conflict_9 (fun H locs hP hz hS => ?_)
    obtain ⟨h_1, eh_1⟩ : ∃ z, z = fh_up u oa (.inl (11, 1, .inr (.inl (vp_updL f0 0 (((oConf S J C k ww).2 : Int32).toInt64))))) := ⟨_, rfl⟩
    have hP : fh_P G vwCl h_1 H := by rw [eh_1]; exact hP
    have f_1 : h_1 oa = some (.inl (11, 1, .inr (.inl (vp_updL f0 0 (((oConf S J C k ww).2 : Int32).toInt64))))) := by rw [eh_1]; exact fh_up_self _ _ _
    refine lv_goto (tgt := 17) hx hb dL_conflict_10 (by decide) ?_
    refine lv_iconst (v := (nI 0)) hx hb dL_conflict_17 (by decide) ?_
    have hk2 : kp [23] u h_1 := by rw [eh_1]; exact kp.rf.up2 ho1 rfl
    have hk3 : kp kL h h_1 := by rw [eh_1]; exact (kp.L hk1).up2 ho1 rfl
    exact fh_iret hx hb hr hlocks (⟨by rw [e0], by rw [eh_1]; exact hA1.up (hA1 _ _ ho1), hk3, ⟨_, (hR1.kpN hk2 rfl).mono (by omega)⟩, _, f_1, fun _ => rfl⟩) hP hS (by omega) (by omega) dL_conflict_18

set_option maxRecDepth 100000 in
set_option maxHeartbeats 4000000 in
theorem w_settle (l : Launch) (G : fG) (A : Nat → Prop) (h : FH) (sz : Nat) (hst : l.stackTraces = false) (hA : ∀ q, sz ≤ q → A q) (hAh : fh_A A h) {Kq : Nat} (xa : Nat) (ad : Ad) (no nv ns : Nat) (V : Nat → St) (S : Nat → Ses) (LK : List Ar) (RL : List (Nat × Nat × Int64)) (J : Nat) (C : CL) (M : Nat → Int32) (hR : RepC Kq h xa ad no nv ns V S LK RL J C M) (hB9 : Bd no nv ns S RL J C) (hK8 : Kq < 900000) (k : Int32) (ww : Int32) (oa : Nat) (f0 : Nat → Int64) (ho : h oa = some (aL 11 1 f0)) : Met l yL_settle wsL_settle { frames := 8, cells := 4, slots := 24, locals := 220 } (va_Pc [.ref xa, .int k, .int ww, .ref oa] (fh_Pre G A h sz)) (fh_Q G (fun v u => v = some (.int (nI (oSettle S J C k ww).1)) ∧ fh_A A u ∧ kp kL h u ∧ (∃ ad2 : Ad, RepC (Kq + 100) u xa ad2 no nv ns V ((oSettle S J C k ww).2.2) LK RL J C M) ∧ ∃ f2 : Nat → Int64, u oa = some (aL 11 1 f2) ∧ ((oSettle S J C k ww).1 = 0 → f2 0 = zL ((oSettle S J C k ww).2.1))) A) 4 24 A := by
  refine fh_MetW [.ref xa, .int k, .int ww, .ref oa] (by decide) rfl (Nat.le_of_ble_eq_true rfl) ?_
  intro p e s m below meth c hx hb hr hlocks hml hown hts hsz hP hE hS htb ls hl
  have ht : ∀ w ∈ wB, w.before _ s = true := fun w h9 => hts w (List.mem_cons_of_mem _ h9)
  have hl : lv_has ls 5 [(0, .ref xa), (1, .int k), (2, .int ww), (3, .ref oa)] := hl
  have hX := hR.1
  refine lv_aload_n hx hb dL_settle_0 rfl (lv_at hl 3 rfl) ?_
  refine lv_iconst (v := (nI 0)) hx hb dL_settle_1 (by decide) ?_
  refine lv_aload_n hx hb dL_settle_2 rfl (lv_at hl 0 rfl) ?_
  refine lv_iload_n hx hb dL_settle_3 rfl (lv_at hl 1 rfl) ?_
  refine lv_iload_n hx hb dL_settle_4 rfl (lv_at hl 2 rfl) ?_
  refine fh_cVH (q := (RX9, TX9, 11)) (As := [.int k, .int ww]) (rest := [.int (nI 0), .ref oa]) (b := xa) ⟨hx, hb, hml, hown, ht⟩ (p_settle l G A h _ hst (by rw [hsz]; exact hA) hAh xa ad no nv ns V S LK RL J C M hR hB9 hK8 k ww) (cwV 2 ht (gV kw_494 kw_495 kw_496 kw_1 kw_497) rfl rfl rfl yd_X9_settle ⟨(Nat.le_of_ble_eq_true rfl), (Nat.le_of_ble_eq_true rfl)⟩) hP hE hS hX rfl rfl hl.1 rfl (Nat.le_of_ble_eq_true rfl) dL_settle_5 ⟨(Nat.le_of_ble_eq_true rfl), (Nat.le_of_ble_eq_true rfl)⟩ (fun E ce q9 u H locs hp hP hz hS hce hcv hcl => ?_) (fun v u H locs hp hP hz hS => ?_)
  · obtain ⟨eu, hp⟩ := hp
    rw [eu] at hP
    rcases hp with ⟨rfl, e0⟩ | ⟨rfl, e0⟩ | ⟨rfl, e0⟩
    · refine vx_catch (own := "ObjectMergeLaw") (name := xE1) hown [] ⟨0, 17, 20, 19⟩ [⟨0, 17, 24, 21⟩, ⟨0, 17, 28, 13⟩] htb (fun z hz => nomatch hz) (by decide) (by decide) (ht _ kw_280) (ct_at hE (by decide)) hce hcv hcl ?_
      refine W.eq (g2 := F0 m 20 ls [.ref q9]) rfl ?_
      refine lv_astore (lv' := [(4, .ref q9), (0, .ref xa), (1, .int k), (2, .int ww), (3, .ref oa)]) hx hb dL_settle_20 hl (by decide) rfl (fun ls hl => ?_)
      refine lv_iconst (v := (nI 1)) hx hb dL_settle_22 (by decide) ?_
      have eb := oSettle_bad (show (oSettle S J C k ww).1 ≠ 0 by rw [e0]; decide)
      exact fh_iret hx hb hr hlocks (⟨by rw [e0], hAh, kp.rf, ⟨ad, by rw [eb]; exact hR.mono (by omega)⟩, f0, ho, fun z => absurd z (by rw [e0]; decide)⟩) hP hS (by omega) (by omega) dL_settle_23
    · have hpas : ∀ z8 ∈ ([⟨0, 17, 20, 19⟩] : List ExceptionTableEntry), covers z8 5 = false ∨ (z8.catchType ≠ 0 ∧ ∃ nm : String, (Cond.classLink "ObjectMergeLaw" z8.catchType nm).before [.ref xa, .int k, .int ww, .ref oa].toArray s = true ∧ va_Nc xE2 nm s) := fun z8 hz => by
        rw [List.mem_singleton.mp hz]
        exact Or.inr ⟨by decide, _, (ht _ kw_280), nc_at hE (by decide)⟩
      refine vx_catch (own := "ObjectMergeLaw") (name := xE2) hown [⟨0, 17, 20, 19⟩] ⟨0, 17, 24, 21⟩ [⟨0, 17, 28, 13⟩] htb hpas (by decide) (by decide) (ht _ kw_281) (ct_at hE (by decide)) hce hcv hcl ?_
      refine W.eq (g2 := F0 m 24 ls [.ref q9]) rfl ?_
      refine lv_astore (lv' := [(4, .ref q9), (0, .ref xa), (1, .int k), (2, .int ww), (3, .ref oa)]) hx hb dL_settle_24 hl (by decide) rfl (fun ls hl => ?_)
      refine lv_iconst (v := (nI 2)) hx hb dL_settle_26 (by decide) ?_
      have eb := oSettle_bad (show (oSettle S J C k ww).1 ≠ 0 by rw [e0]; decide)
      exact fh_iret hx hb hr hlocks (⟨by rw [e0], hAh, kp.rf, ⟨ad, by rw [eb]; exact hR.mono (by omega)⟩, f0, ho, fun z => absurd z (by rw [e0]; decide)⟩) hP hS (by omega) (by omega) dL_settle_27
    · have hpas : ∀ z8 ∈ ([⟨0, 17, 20, 19⟩, ⟨0, 17, 24, 21⟩] : List ExceptionTableEntry), covers z8 5 = false ∨ (z8.catchType ≠ 0 ∧ ∃ nm : String, (Cond.classLink "ObjectMergeLaw" z8.catchType nm).before [.ref xa, .int k, .int ww, .ref oa].toArray s = true ∧ va_Nc xE0 nm s) := fun z8 hz => by
        rcases List.mem_cons.mp hz with rfl | hz
        · exact Or.inr ⟨by decide, _, (ht _ kw_280), nc_at hE (by decide)⟩
        rw [List.mem_singleton.mp hz]
        exact Or.inr ⟨by decide, _, (ht _ kw_281), nc_at hE (by decide)⟩
      refine vx_catch (own := "ObjectMergeLaw") (name := xE0) hown [⟨0, 17, 20, 19⟩, ⟨0, 17, 24, 21⟩] ⟨0, 17, 28, 13⟩ [] htb hpas (by decide) (by decide) (ht _ kw_178) (ct_at hE (by decide)) hce hcv hcl ?_
      refine W.eq (g2 := F0 m 28 ls [.ref q9]) rfl ?_
      refine lv_astore (lv' := [(4, .ref q9), (0, .ref xa), (1, .int k), (2, .int ww), (3, .ref oa)]) hx hb dL_settle_28 hl (by decide) rfl (fun ls hl => ?_)
      refine lv_iconst (v := (nI 3)) hx hb dL_settle_30 (by decide) ?_
      have eb := oSettle_bad (show (oSettle S J C k ww).1 ≠ 0 by rw [e0]; decide)
      exact fh_iret hx hb hr hlocks (⟨by rw [e0], hAh, kp.rf, ⟨ad, by rw [eb]; exact hR.mono (by omega)⟩, f0, ho, fun z => absurd z (by rw [e0]; decide)⟩) hP hS (by omega) (by omega) dL_settle_31
  · obtain ⟨e0, rfl, hA1, hk1, ad2, hR1⟩ := hp
    have ho1 := hk1 _ _ ho rfl
    obtain ⟨bv, ebv⟩ : ∃ z8, z8 = (oSettle S J C k ww).2.1 := ⟨_, rfl⟩
    rw [← ebv]
    refine W.eq (g2 := F0 m 8 ls [.int (bI bv), .int (nI 0), .ref oa]) rfl ?_
    refine lv_if_eq (tgt := 15) hx hb dL_settle_8 (by decide) (fun c1 => ?_) (fun c1 => ?_)
    · have eb2 : bv = false := by cases bv with
        | false => rfl
        | true => exact absurd c1 (by decide)
      refine lv_lconst (v := 0) hx hb dL_settle_15 (by decide) ?_
      refine fh_last (k := 0) hx hb hE.1 hP hS ho1 (hA1 _ _ ho1) rfl (by decide) (by decide) dL_settle_16 (fun H locs hP hz hS => ?_)
      obtain ⟨h_1, eh_1⟩ : ∃ z, z = fh_up u oa (.inl (11, 1, .inr (.inl (vp_updL f0 0 0)))) := ⟨_, rfl⟩
      have hP : fh_P G vwCl h_1 H := by rw [eh_1]; exact hP
      have f_1 : h_1 oa = some (.inl (11, 1, .inr (.inl (vp_updL f0 0 0)))) := by rw [eh_1]; exact fh_up_self _ _ _
      refine lv_goto (tgt := 32) hx hb dL_settle_17 (by decide) ?_
      refine lv_iconst (v := (nI 0)) hx hb dL_settle_32 (by decide) ?_
      have hk2 : kp [23] u h_1 := by rw [eh_1]; exact kp.rf.up2 ho1 rfl
      have hk3 : kp kL h h_1 := by rw [eh_1]; exact (kp.L hk1).up2 ho1 rfl
      exact fh_iret hx hb hr hlocks (⟨by rw [e0], by rw [eh_1]; exact hA1.up (hA1 _ _ ho1), hk3, ⟨_, (hR1.kpN hk2 rfl).mono (by omega)⟩, _, f_1, fun _ => (by rw [eb2]; rfl)⟩) hP hS (by omega) (by omega) dL_settle_33
    · have eb2 : bv = true := by cases bv with
        | true => rfl
        | false => exact absurd rfl c1
      refine lv_lconst (v := 1) hx hb dL_settle_11 (by decide) ?_
      refine lv_goto (tgt := 16) hx hb dL_settle_12 (by decide) ?_
      refine fh_last (k := 0) hx hb hE.1 hP hS ho1 (hA1 _ _ ho1) rfl (by decide) (by decide) dL_settle_16 (fun H locs hP hz hS => ?_)
      obtain ⟨h_1, eh_1⟩ : ∃ z, z = fh_up u oa (.inl (11, 1, .inr (.inl (vp_updL f0 0 1)))) := ⟨_, rfl⟩
      have hP : fh_P G vwCl h_1 H := by rw [eh_1]; exact hP
      have f_1 : h_1 oa = some (.inl (11, 1, .inr (.inl (vp_updL f0 0 1)))) := by rw [eh_1]; exact fh_up_self _ _ _
      refine lv_goto (tgt := 32) hx hb dL_settle_17 (by decide) ?_
      refine lv_iconst (v := (nI 0)) hx hb dL_settle_32 (by decide) ?_
      have hk2 : kp [23] u h_1 := by rw [eh_1]; exact kp.rf.up2 ho1 rfl
      have hk3 : kp kL h h_1 := by rw [eh_1]; exact (kp.L hk1).up2 ho1 rfl
      exact fh_iret hx hb hr hlocks (⟨by rw [e0], by rw [eh_1]; exact hA1.up (hA1 _ _ ho1), hk3, ⟨_, (hR1.kpN hk2 rfl).mono (by omega)⟩, _, f_1, fun _ => (by rw [eb2]; rfl)⟩) hP hS (by omega) (by omega) dL_settle_33

set_option maxRecDepth 100000 in
set_option maxHeartbeats 4000000 in
theorem w_at (l : Launch) (G : fG) (A : Nat → Prop) (h : FH) (sz : Nat) (hst : l.stackTraces = false) (hA : ∀ q, sz ≤ q → A q) (hAh : fh_A A h) {Kq : Nat} (xa : Nat) (ad : Ad) (no nv ns : Nat) (V : Nat → St) (S : Nat → Ses) (LK : List Ar) (RL : List (Nat × Nat × Int64)) (J : Nat) (C : CL) (M : Nat → Int32) (hR : RepC Kq h xa ad no nv ns V S LK RL J C M) (hB9 : Bd no nv ns S RL J C) (hK8 : Kq < 900000) (y : Int32) (zz : Int32) (oa : Nat) (f0 : Nat → Int64) (ho : h oa = some (aL 11 1 f0)) : Met l yL_at wsL_at { frames := 8, cells := 4, slots := 24, locals := 220 } (va_Pc [.ref xa, .int y, .int zz, .ref oa] (fh_Pre G A h sz)) (fh_Q G (fun v u => v = some (.int (nI (oAt no nv V y zz).1)) ∧ fh_A A u ∧ kp kL h u ∧ (∃ ad2 : Ad, RepC (Kq + 100) u xa ad2 no nv ns V S LK RL J C M) ∧ ∃ f2 : Nat → Int64, u oa = some (aL 11 1 f2) ∧ ((oAt no nv V y zz).1 = 0 → f2 0 = (oAt no nv V y zz).2)) A) 4 24 A := by
  refine fh_MetW [.ref xa, .int y, .int zz, .ref oa] (by decide) rfl (Nat.le_of_ble_eq_true rfl) ?_
  intro p e s m below meth c hx hb hr hlocks hml hown hts hsz hP hE hS htb ls hl
  have ht : ∀ w ∈ wB, w.before _ s = true := fun w h9 => hts w (List.mem_cons_of_mem _ h9)
  have hl : lv_has ls 5 [(0, .ref xa), (1, .int y), (2, .int zz), (3, .ref oa)] := hl
  have hX := hR.1
  refine lv_aload_n hx hb dL_at_0 rfl (lv_at hl 3 rfl) ?_
  refine lv_iconst (v := (nI 0)) hx hb dL_at_1 (by decide) ?_
  refine lv_aload_n hx hb dL_at_2 rfl (lv_at hl 0 rfl) ?_
  refine lv_iload_n hx hb dL_at_3 rfl (lv_at hl 1 rfl) ?_
  refine lv_iload_n hx hb dL_at_4 rfl (lv_at hl 2 rfl) ?_
  refine fh_cVH (q := (RX9, TX9, 11)) (As := [.int y, .int zz]) (rest := [.int (nI 0), .ref oa]) (b := xa) ⟨hx, hb, hml, hown, ht⟩ (p_at l G A h _ hst (by rw [hsz]; exact hA) hAh xa ad no nv ns V S LK RL J C M hR hB9 hK8 y zz) (cwV 2 ht (gV kw_506 kw_507 kw_508 kw_1 kw_509) rfl rfl rfl yd_X9_at ⟨(Nat.le_of_ble_eq_true rfl), (Nat.le_of_ble_eq_true rfl)⟩) hP hE hS hX rfl rfl hl.1 rfl (Nat.le_of_ble_eq_true rfl) dL_at_5 ⟨(Nat.le_of_ble_eq_true rfl), (Nat.le_of_ble_eq_true rfl)⟩ (fun E ce q9 u H locs hp hP hz hS hce hcv hcl => ?_) (fun v u H locs hp hP hz hS => ?_)
  · obtain ⟨eu, hp⟩ := hp
    rw [eu] at hP
    rcases hp with ⟨rfl, e0⟩ | ⟨rfl, e0⟩
    · refine vx_catch (own := "ObjectMergeLaw") (name := xE1) hown [] ⟨0, 9, 12, 19⟩ [⟨0, 9, 16, 21⟩] htb (fun z hz => nomatch hz) (by decide) (by decide) (ht _ kw_280) (ct_at hE (by decide)) hce hcv hcl ?_
      refine W.eq (g2 := F0 m 12 ls [.ref q9]) rfl ?_
      refine lv_astore (lv' := [(4, .ref q9), (0, .ref xa), (1, .int y), (2, .int zz), (3, .ref oa)]) hx hb dL_at_12 hl (by decide) rfl (fun ls hl => ?_)
      refine lv_iconst (v := (nI 1)) hx hb dL_at_14 (by decide) ?_
      exact fh_iret hx hb hr hlocks (⟨by rw [e0], hAh, kp.rf, ⟨ad, hR.mono (by omega)⟩, f0, ho, fun z => absurd z (by rw [e0]; decide)⟩) hP hS (by omega) (by omega) dL_at_15
    · have hpas : ∀ z8 ∈ ([⟨0, 9, 12, 19⟩] : List ExceptionTableEntry), covers z8 5 = false ∨ (z8.catchType ≠ 0 ∧ ∃ nm : String, (Cond.classLink "ObjectMergeLaw" z8.catchType nm).before [.ref xa, .int y, .int zz, .ref oa].toArray s = true ∧ va_Nc xE2 nm s) := fun z8 hz => by
        rw [List.mem_singleton.mp hz]
        exact Or.inr ⟨by decide, _, (ht _ kw_280), nc_at hE (by decide)⟩
      refine vx_catch (own := "ObjectMergeLaw") (name := xE2) hown [⟨0, 9, 12, 19⟩] ⟨0, 9, 16, 21⟩ [] htb hpas (by decide) (by decide) (ht _ kw_281) (ct_at hE (by decide)) hce hcv hcl ?_
      refine W.eq (g2 := F0 m 16 ls [.ref q9]) rfl ?_
      refine lv_astore (lv' := [(4, .ref q9), (0, .ref xa), (1, .int y), (2, .int zz), (3, .ref oa)]) hx hb dL_at_16 hl (by decide) rfl (fun ls hl => ?_)
      refine lv_iconst (v := (nI 2)) hx hb dL_at_18 (by decide) ?_
      exact fh_iret hx hb hr hlocks (⟨by rw [e0], hAh, kp.rf, ⟨ad, hR.mono (by omega)⟩, f0, ho, fun z => absurd z (by rw [e0]; decide)⟩) hP hS (by omega) (by omega) dL_at_19
  · obtain ⟨e0, rfl, hA1, hk1, ad2, hR1⟩ := hp
    have ho1 := hk1 _ _ ho rfl
    refine W.eq (g2 := F0 m 8 ls [.long ((oAt no nv V y zz).2), .int (nI 0), .ref oa]) rfl ?_
    refine fh_last (k := 0) hx hb hE.1 hP hS ho1 (hA1 _ _ ho1) rfl (by decide) (by decide) dL_at_8 (fun H locs hP hz hS => ?_)
    obtain ⟨h_1, eh_1⟩ : ∃ z, z = fh_up u oa (.inl (11, 1, .inr (.inl (vp_updL f0 0 ((oAt no nv V y zz).2))))) := ⟨_, rfl⟩
    have hP : fh_P G vwCl h_1 H := by rw [eh_1]; exact hP
    have f_1 : h_1 oa = some (.inl (11, 1, .inr (.inl (vp_updL f0 0 ((oAt no nv V y zz).2))))) := by rw [eh_1]; exact fh_up_self _ _ _
    refine lv_goto (tgt := 20) hx hb dL_at_9 (by decide) ?_
    refine lv_iconst (v := (nI 0)) hx hb dL_at_20 (by decide) ?_
    have hk2 : kp [23] u h_1 := by rw [eh_1]; exact kp.rf.up2 ho1 rfl
    have hk3 : kp kL h h_1 := by rw [eh_1]; exact (kp.L hk1).up2 ho1 rfl
    exact fh_iret hx hb hr hlocks (⟨by rw [e0], by rw [eh_1]; exact hA1.up (hA1 _ _ ho1), hk3, ⟨_, (hR1.kpN hk2 rfl).mono (by omega)⟩, _, f_1, fun _ => rfl⟩) hP hS (by omega) (by omega) dL_at_21
