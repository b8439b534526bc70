set_option maxRecDepth 100000 in
set_option maxHeartbeats 4000000 in
theorem w_lock (l : Launch) (G : fG) (A : Nat → Prop) (h : FH) (sz : Nat) (hst : l.stackTraces = false) (hA : ∀ q, sz ≤ q → A q) (hAh : fh_A A h) {Kq : Nat} (xa : Nat) (ad : Ad) (no nv ns : Nat) (V : Nat → St) (S : Nat → Ses) (LK : List Ar) (RL : List (Nat × Nat × Int64)) (J : Nat) (C : CL) (M : Nat → Int32) (hR : RepC Kq h xa ad no nv ns V S LK RL J C M) (hB9 : Bd no nv ns S RL J C) (hK8 : Kq < 900000) (x : Int32) (x0 : Int64) (y0 : Int64) (x1 : Int64) (y1 : Int64) (oa : Nat) (f0 : Nat → Int64) (ho : h oa = some (aL 11 1 f0)) : Met l yL_lock wsL_lock { frames := 8, cells := 4, slots := 24, locals := 220 } (va_Pc [.ref xa, .int x, .long x0, .long y0, .long x1, .long y1, .ref oa] (fh_Pre G A h sz)) (fh_Q G (fun v u => v = some (.int (nI (oLock ns S LK x x0 y0 x1 y1).1)) ∧ fh_A A u ∧ kp kL h u ∧ (∃ ad2 : Ad, RepC (Kq + 100) u xa ad2 no nv ns V S ((oLock ns S LK x x0 y0 x1 y1).2.2) RL J C M) ∧ ∃ f2 : Nat → Int64, u oa = some (aL 11 1 f2) ∧ ((oLock ns S LK x x0 y0 x1 y1).1 = 0 → f2 0 = zL ((oLock ns S LK x x0 y0 x1 y1).2.1))) A) 4 24 A := by
  refine fh_MetW [.ref xa, .int x, .long x0, .long y0, .long x1, .long y1, .ref oa] (by decide) rfl (Nat.le_of_ble_eq_true rfl) ?_
  intro p e s m below meth c hx hb hr hlocks hml hown hts hsz hP hE hS htb ls hl
  have ht : ∀ w ∈ wB, w.before _ s = true := fun w h9 => hts w (List.mem_cons_of_mem _ h9)
  have hl : lv_has ls 12 [(0, .ref xa), (1, .int x), (2, .long x0), (4, .long y0), (6, .long x1), (8, .long y1), (10, .ref oa)] := hl
  have hX := hR.1
  refine lv_aload hx hb dL_lock_0 (lv_at hl 6 rfl) ?_
  refine lv_iconst (v := (nI 0)) hx hb dL_lock_2 (by decide) ?_
  refine lv_aload_n hx hb dL_lock_3 rfl (lv_at hl 0 rfl) ?_
  refine lv_iload_n hx hb dL_lock_4 rfl (lv_at hl 1 rfl) ?_
  refine lv_lload_n hx hb dL_lock_5 rfl (lv_at hl 2 rfl) ?_
  refine lv_lload hx hb dL_lock_6 (lv_at hl 3 rfl) ?_
  refine lv_lload hx hb dL_lock_8 (lv_at hl 4 rfl) ?_
  refine lv_lload hx hb dL_lock_10 (lv_at hl 5 rfl) ?_
  refine fh_cVH (q := (RX9, TX9, 11)) (As := [.int x, .long x0, .long y0, .long x1, .long y1]) (rest := [.int (nI 0), .ref oa]) (b := xa) ⟨hx, hb, hml, hown, ht⟩ (p_lock l G A h _ hst (by rw [hsz]; exact hA) hAh xa ad no nv ns V S LK RL J C M hR hB9 hK8 x x0 y0 x1 y1) (cwV 5 ht (gV kw_513 kw_514 kw_515 kw_1 kw_516) rfl rfl rfl yd_X9_lock ⟨(Nat.le_of_ble_eq_true rfl), (Nat.le_of_ble_eq_true rfl)⟩) hP hE hS hX rfl rfl hl.1 rfl (Nat.le_of_ble_eq_true rfl) dL_lock_12 ⟨(Nat.le_of_ble_eq_true rfl), (Nat.le_of_ble_eq_true rfl)⟩ (fun E ce q9 u H locs hp hP hz hS hce hcv hcl => ?_) (fun v u H locs hp hP hz hS => ?_)
  · obtain ⟨eu, hp⟩ := hp
    rw [eu] at hP
    rcases hp with ⟨rfl, e0⟩ | ⟨rfl, e0⟩
    · refine vx_catch (own := "ObjectMergeLaw") (name := xE1) hown [] ⟨0, 24, 27, 19⟩ [⟨0, 24, 31, 21⟩] htb (fun z hz => nomatch hz) (by decide) (by decide) (ht _ kw_280) (ct_at hE (by decide)) hce hcv hcl ?_
      refine W.eq (g2 := F0 m 27 ls [.ref q9]) rfl ?_
      refine lv_astore (lv' := [(11, .ref q9), (0, .ref xa), (1, .int x), (2, .long x0), (4, .long y0), (6, .long x1), (8, .long y1), (10, .ref oa)]) hx hb dL_lock_27 hl (by decide) rfl (fun ls hl => ?_)
      refine lv_iconst (v := (nI 1)) hx hb dL_lock_29 (by decide) ?_
      have eb := oLock_bad (show (oLock ns S LK x x0 y0 x1 y1).1 ≠ 0 by rw [e0]; decide)
      exact fh_iret hx hb hr hlocks (⟨by rw [e0], hAh, kp.rf, ⟨ad, by rw [eb]; exact hR.mono (by omega)⟩, f0, ho, fun z => absurd z (by rw [e0]; decide)⟩) hP hS (by omega) (by omega) dL_lock_30
    · have hpas : ∀ z8 ∈ ([⟨0, 24, 27, 19⟩] : List ExceptionTableEntry), covers z8 12 = false ∨ (z8.catchType ≠ 0 ∧ ∃ nm : String, (Cond.classLink "ObjectMergeLaw" z8.catchType nm).before [.ref xa, .int x, .long x0, .long y0, .long x1, .long y1, .ref oa].toArray s = true ∧ va_Nc xE2 nm s) := fun z8 hz => by
        rw [List.mem_singleton.mp hz]
        exact Or.inr ⟨by decide, _, (ht _ kw_280), nc_at hE (by decide)⟩
      refine vx_catch (own := "ObjectMergeLaw") (name := xE2) hown [⟨0, 24, 27, 19⟩] ⟨0, 24, 31, 21⟩ [] htb hpas (by decide) (by decide) (ht _ kw_281) (ct_at hE (by decide)) hce hcv hcl ?_
      refine W.eq (g2 := F0 m 31 ls [.ref q9]) rfl ?_
      refine lv_astore (lv' := [(11, .ref q9), (0, .ref xa), (1, .int x), (2, .long x0), (4, .long y0), (6, .long x1), (8, .long y1), (10, .ref oa)]) hx hb dL_lock_31 hl (by decide) rfl (fun ls hl => ?_)
      refine lv_iconst (v := (nI 2)) hx hb dL_lock_33 (by decide) ?_
      have eb := oLock_bad (show (oLock ns S LK x x0 y0 x1 y1).1 ≠ 0 by rw [e0]; decide)
      exact fh_iret hx hb hr hlocks (⟨by rw [e0], hAh, kp.rf, ⟨ad, by rw [eb]; exact hR.mono (by omega)⟩, f0, ho, fun z => absurd z (by rw [e0]; decide)⟩) hP hS (by omega) (by omega) dL_lock_34
  · obtain ⟨e0, rfl, hA1, hk1, ad2, hR1⟩ := hp
    have ho1 := hk1 _ _ ho rfl
    obtain ⟨bv, ebv⟩ : ∃ z8, z8 = (oLock ns S LK x x0 y0 x1 y1).2.1 := ⟨_, rfl⟩
    rw [← ebv]
    refine W.eq (g2 := F0 m 15 ls [.int (bI bv), .int (nI 0), .ref oa]) rfl ?_
    refine lv_if_eq (tgt := 22) hx hb dL_lock_15 (by decide) (fun c1 => ?_) (fun c1 => ?_)
    · have eb2 : bv = false := by cases bv with
        | false => rfl
        | true => exact absurd c1 (by decide)
      refine lv_lconst (v := 0) hx hb dL_lock_22 (by decide) ?_
      refine fh_last (k := 0) hx hb hE.1 hP hS ho1 (hA1 _ _ ho1) rfl (by decide) (by decide) dL_lock_23 (fun H locs hP hz hS => ?_)
      obtain ⟨h_1, eh_1⟩ : ∃ z, z = fh_up u oa (.inl (11, 1, .inr (.inl (vp_updL f0 0 0)))) := ⟨_, rfl⟩
      have hP : fh_P G vwCl h_1 H := by rw [eh_1]; exact hP
      have f_1 : h_1 oa = some (.inl (11, 1, .inr (.inl (vp_updL f0 0 0)))) := by rw [eh_1]; exact fh_up_self _ _ _
      refine lv_goto (tgt := 35) hx hb dL_lock_24 (by decide) ?_
      refine lv_iconst (v := (nI 0)) hx hb dL_lock_35 (by decide) ?_
      have hk2 : kp [23] u h_1 := by rw [eh_1]; exact kp.rf.up2 ho1 rfl
      have hk3 : kp kL h h_1 := by rw [eh_1]; exact (kp.L hk1).up2 ho1 rfl
      exact fh_iret hx hb hr hlocks (⟨by rw [e0], by rw [eh_1]; exact hA1.up (hA1 _ _ ho1), hk3, ⟨_, (hR1.kpN hk2 rfl).mono (by omega)⟩, _, f_1, fun _ => (by rw [eb2]; rfl)⟩) hP hS (by omega) (by omega) dL_lock_36
    · have eb2 : bv = true := by cases bv with
        | true => rfl
        | false => exact absurd rfl c1
      refine lv_lconst (v := 1) hx hb dL_lock_18 (by decide) ?_
      refine lv_goto (tgt := 23) hx hb dL_lock_19 (by decide) ?_
      refine fh_last (k := 0) hx hb hE.1 hP hS ho1 (hA1 _ _ ho1) rfl (by decide) (by decide) dL_lock_23 (fun H locs hP hz hS => ?_)
      obtain ⟨h_1, eh_1⟩ : ∃ z, z = fh_up u oa (.inl (11, 1, .inr (.inl (vp_updL f0 0 1)))) := ⟨_, rfl⟩
      have hP : fh_P G vwCl h_1 H := by rw [eh_1]; exact hP
      have f_1 : h_1 oa = some (.inl (11, 1, .inr (.inl (vp_updL f0 0 1)))) := by rw [eh_1]; exact fh_up_self _ _ _
      refine lv_goto (tgt := 35) hx hb dL_lock_24 (by decide) ?_
      refine lv_iconst (v := (nI 0)) hx hb dL_lock_35 (by decide) ?_
      have hk2 : kp [23] u h_1 := by rw [eh_1]; exact kp.rf.up2 ho1 rfl
      have hk3 : kp kL h h_1 := by rw [eh_1]; exact (kp.L hk1).up2 ho1 rfl
      exact fh_iret hx hb hr hlocks (⟨by rw [e0], by rw [eh_1]; exact hA1.up (hA1 _ _ ho1), hk3, ⟨_, (hR1.kpN hk2 rfl).mono (by omega)⟩, _, f_1, fun _ => (by rw [eb2]; rfl)⟩) hP hS (by omega) (by omega) dL_lock_36

set_option maxRecDepth 100000 in
set_option maxHeartbeats 4000000 in
theorem w_apart (l : Launch) (G : fG) (A : Nat → Prop) (h : FH) (sz : Nat) (hst : l.stackTraces = false) (hA : ∀ q, sz ≤ q → A q) (hAh : fh_A A h) {Kq : Nat} (xa : Nat) (ad : Ad) (no nv ns : Nat) (V : Nat → St) (S : Nat → Ses) (LK : List Ar) (RL : List (Nat × Nat × Int64)) (J : Nat) (C : CL) (M : Nat → Int32) (hR : RepC Kq h xa ad no nv ns V S LK RL J C M) (hB9 : Bd no nv ns S RL J C) (hK8 : Kq < 900000) (x : Int32) (y : Int32) (d : Int64) (oa : Nat) (f0 : Nat → Int64) (ho : h oa = some (aL 11 1 f0)) : Met l yL_apart wsL_apart { frames := 8, cells := 4, slots := 24, locals := 220 } (va_Pc [.ref xa, .int x, .int y, .long d, .ref oa] (fh_Pre G A h sz)) (fh_Q G (fun v u => v = some (.int (nI (oApart no RL x y d).1)) ∧ fh_A A u ∧ kp kL h u ∧ (∃ ad2 : Ad, RepC (Kq + 100) u xa ad2 no nv ns V S LK ((oApart no RL x y d).2.2) J C M) ∧ ∃ f2 : Nat → Int64, u oa = some (aL 11 1 f2) ∧ ((oApart no RL x y d).1 = 0 → f2 0 = zL ((oApart no RL x y d).2.1))) A) 4 24 A := by
  refine fh_MetW [.ref xa, .int x, .int y, .long d, .ref oa] (by decide) rfl (Nat.le_of_ble_eq_true rfl) ?_
  intro p e s m below meth c hx hb hr hlocks hml hown hts hsz hP hE hS htb ls hl
  have ht : ∀ w ∈ wB, w.before _ s = true := fun w h9 => hts w (List.mem_cons_of_mem _ h9)
  have hl : lv_has ls 7 [(0, .ref xa), (1, .int x), (2, .int y), (3, .long d), (5, .ref oa)] := hl
  have hX := hR.1
  refine lv_aload hx hb dL_apart_0 (lv_at hl 4 rfl) ?_
  refine lv_iconst (v := (nI 0)) hx hb dL_apart_2 (by decide) ?_
  refine lv_aload_n hx hb dL_apart_3 rfl (lv_at hl 0 rfl) ?_
  refine lv_iload_n hx hb dL_apart_4 rfl (lv_at hl 1 rfl) ?_
  refine lv_iload_n hx hb dL_apart_5 rfl (lv_at hl 2 rfl) ?_
  refine lv_lload_n hx hb dL_apart_6 rfl (lv_at hl 3 rfl) ?_
  refine fh_cVH (q := (RX9, TX9, 11)) (As := [.int x, .int y, .long d]) (rest := [.int (nI 0), .ref oa]) (b := xa) ⟨hx, hb, hml, hown, ht⟩ (p_apart l G A h _ hst (by rw [hsz]; exact hA) hAh xa ad no nv ns V S LK RL J C M hR hB9 hK8 x y d) (cwV 3 ht (gV kw_551 kw_552 kw_553 kw_1 kw_554) rfl rfl rfl yd_X9_apart ⟨(Nat.le_of_ble_eq_true rfl), (Nat.le_of_ble_eq_true rfl)⟩) hP hE hS hX rfl rfl hl.1 rfl (Nat.le_of_ble_eq_true rfl) dL_apart_7 ⟨(Nat.le_of_ble_eq_true rfl), (Nat.le_of_ble_eq_true rfl)⟩ (fun E ce q9 u H locs hp hP hz hS hce hcv hcl => ?_) (fun v u H locs hp hP hz hS => ?_)
  · obtain ⟨eu, hp⟩ := hp
    rw [eu] at hP
    rcases hp with ⟨rfl, e0⟩ | ⟨rfl, e0⟩
    · refine vx_catch (own := "ObjectMergeLaw") (name := xE1) hown [] ⟨0, 19, 22, 19⟩ [⟨0, 19, 26, 13⟩] htb (fun z hz => nomatch hz) (by decide) (by decide) (ht _ kw_280) (ct_at hE (by decide)) hce hcv hcl ?_
      refine W.eq (g2 := F0 m 22 ls [.ref q9]) rfl ?_
      refine lv_astore (lv' := [(6, .ref q9), (0, .ref xa), (1, .int x), (2, .int y), (3, .long d), (5, .ref oa)]) hx hb dL_apart_22 hl (by decide) rfl (fun ls hl => ?_)
      refine lv_iconst (v := (nI 1)) hx hb dL_apart_24 (by decide) ?_
      have eb := oApart_bad (show (oApart no RL x y d).1 ≠ 0 by rw [e0]; decide)
      exact fh_iret hx hb hr hlocks (⟨by rw [e0], hAh, kp.rf, ⟨ad, by rw [eb]; exact hR.mono (by omega)⟩, f0, ho, fun z => absurd z (by rw [e0]; decide)⟩) hP hS (by omega) (by omega) dL_apart_25
    · have hpas : ∀ z8 ∈ ([⟨0, 19, 22, 19⟩] : List ExceptionTableEntry), covers z8 7 = false ∨ (z8.catchType ≠ 0 ∧ ∃ nm : String, (Cond.classLink "ObjectMergeLaw" z8.catchType nm).before [.ref xa, .int x, .int y, .long d, .ref oa].toArray s = true ∧ va_Nc xE0 nm s) := fun z8 hz => by
        rw [List.mem_singleton.mp hz]
        exact Or.inr ⟨by decide, _, (ht _ kw_280), nc_at hE (by decide)⟩
      refine vx_catch (own := "ObjectMergeLaw") (name := xE0) hown [⟨0, 19, 22, 19⟩] ⟨0, 19, 26, 13⟩ [] htb hpas (by decide) (by decide) (ht _ kw_178) (ct_at hE (by decide)) hce hcv hcl ?_
      refine W.eq (g2 := F0 m 26 ls [.ref q9]) rfl ?_
      refine lv_astore (lv' := [(6, .ref q9), (0, .ref xa), (1, .int x), (2, .int y), (3, .long d), (5, .ref oa)]) hx hb dL_apart_26 hl (by decide) rfl (fun ls hl => ?_)
      refine lv_iconst (v := (nI 2)) hx hb dL_apart_28 (by decide) ?_
      have eb := oApart_bad (show (oApart no RL x y d).1 ≠ 0 by rw [e0]; decide)
      exact fh_iret hx hb hr hlocks (⟨by rw [e0], hAh, kp.rf, ⟨ad, by rw [eb]; exact hR.mono (by omega)⟩, f0, ho, fun z => absurd z (by rw [e0]; decide)⟩) hP hS (by omega) (by omega) dL_apart_29
  · obtain ⟨e0, rfl, hA1, hk1, ad2, hR1⟩ := hp
    have ho1 := hk1 _ _ ho rfl
    obtain ⟨bv, ebv⟩ : ∃ z8, z8 = (oApart no RL x y d).2.1 := ⟨_, rfl⟩
    rw [← ebv]
    refine W.eq (g2 := F0 m 10 ls [.int (bI bv), .int (nI 0), .ref oa]) rfl ?_
    refine lv_if_eq (tgt := 17) hx hb dL_apart_10 (by decide) (fun c1 => ?_) (fun c1 => ?_)
    · have eb2 : bv = false := by cases bv with
        | false => rfl
        | true => exact absurd c1 (by decide)
      refine lv_lconst (v := 0) hx hb dL_apart_17 (by decide) ?_
      refine fh_last (k := 0) hx hb hE.1 hP hS ho1 (hA1 _ _ ho1) rfl (by decide) (by decide) dL_apart_18 (fun H locs hP hz hS => ?_)
      obtain ⟨h_1, eh_1⟩ : ∃ z, z = fh_up u oa (.inl (11, 1, .inr (.inl (vp_updL f0 0 0)))) := ⟨_, rfl⟩
      have hP : fh_P G vwCl h_1 H := by rw [eh_1]; exact hP
      have f_1 : h_1 oa = some (.inl (11, 1, .inr (.inl (vp_updL f0 0 0)))) := by rw [eh_1]; exact fh_up_self _ _ _
      refine lv_goto (tgt := 30) hx hb dL_apart_19 (by decide) ?_
      refine lv_iconst (v := (nI 0)) hx hb dL_apart_30 (by decide) ?_
      have hk2 : kp [23] u h_1 := by rw [eh_1]; exact kp.rf.up2 ho1 rfl
      have hk3 : kp kL h h_1 := by rw [eh_1]; exact (kp.L hk1).up2 ho1 rfl
      exact fh_iret hx hb hr hlocks (⟨by rw [e0], by rw [eh_1]; exact hA1.up (hA1 _ _ ho1), hk3, ⟨_, (hR1.kpN hk2 rfl).mono (by omega)⟩, _, f_1, fun _ => (by rw [eb2]; rfl)⟩) hP hS (by omega) (by omega) dL_apart_31
    · have eb2 : bv = true := by cases bv with
        | true => rfl
        | false => exact absurd rfl c1
      refine lv_lconst (v := 1) hx hb dL_apart_13 (by decide) ?_
      refine lv_goto (tgt := 18) hx hb dL_apart_14 (by decide) ?_
      refine fh_last (k := 0) hx hb hE.1 hP hS ho1 (hA1 _ _ ho1) rfl (by decide) (by decide) dL_apart_18 (fun H locs hP hz hS => ?_)
      obtain ⟨h_1, eh_1⟩ : ∃ z, z = fh_up u oa (.inl (11, 1, .inr (.inl (vp_updL f0 0 1)))) := ⟨_, rfl⟩
      have hP : fh_P G vwCl h_1 H := by rw [eh_1]; exact hP
      have f_1 : h_1 oa = some (.inl (11, 1, .inr (.inl (vp_updL f0 0 1)))) := by rw [eh_1]; exact fh_up_self _ _ _
      refine lv_goto (tgt := 30) hx hb dL_apart_19 (by decide) ?_
      refine lv_iconst (v := (nI 0)) hx hb dL_apart_30 (by decide) ?_
      have hk2 : kp [23] u h_1 := by rw [eh_1]; exact kp.rf.up2 ho1 rfl
      have hk3 : kp kL h h_1 := by rw [eh_1]; exact (kp.L hk1).up2 ho1 rfl
      exact fh_iret hx hb hr hlocks (⟨by rw [e0], by rw [eh_1]; exact hA1.up (hA1 _ _ ho1), hk3, ⟨_, (hR1.kpN hk2 rfl).mono (by omega)⟩, _, f_1, fun _ => (by rw [eb2]; rfl)⟩) hP hS (by omega) (by omega) dL_apart_31

set_option maxRecDepth 100000 in
set_option maxHeartbeats 4000000 in
theorem w_violation (l : Launch) (G : fG) (A : Nat → Prop) (h : FH) (sz : Nat) (hst : l.stackTraces = false) (hA : ∀ q, sz ≤ q → A q) (hAh : fh_A A h) {Kq : Nat} (xa : Nat) (ad : Ad) (no nv ns : Nat) (V : Nat → St) (S : Nat → Ses) (LK : List Ar) (RL : List (Nat × Nat × Int64)) (J : Nat) (C : CL) (M : Nat → Int32) (hR : RepC Kq h xa ad no nv ns V S LK RL J C M) (hB9 : Bd no nv ns S RL J C) (hK8 : Kq < 900000) (k : Int32) (ww : Int32) (oa : Nat) (f0 : Nat → Int64) (ho : h oa = some (aL 11 1 f0)) : Met l yL_violation wsL_violation { frames := 8, cells := 4, slots := 24, locals := 220 } (va_Pc [.ref xa, .int k, .int ww, .ref oa] (fh_Pre G A h sz)) (fh_Q G (fun v u => v = some (.int (nI (oViol RL (V (nv - 1)) k ww).1)) ∧ fh_A A u ∧ kp kL h u ∧ (∃ ad2 : Ad, RepC (Kq + 100) u xa ad2 no nv ns V S LK RL J C M) ∧ ∃ f2 : Nat → Int64, u oa = some (aL 11 1 f2) ∧ ((oViol RL (V (nv - 1)) k ww).1 = 0 → f2 0 = ((oViol RL (V (nv - 1)) k ww).2).toInt64)) A) 4 24 A := by
  refine fh_MetW [.ref xa, .int k, .int ww, .ref oa] (by decide) rfl (Nat.le_of_ble_eq_true rfl) ?_
  intro p e s m below meth c hx hb hr hlocks hml hown hts hsz hP hE hS htb ls hl
  have ht : ∀ w ∈ wB, w.before _ s = true := fun w h9 => hts w (List.mem_cons_of_mem _ h9)
  have hl : lv_has ls 5 [(0, .ref xa), (1, .int k), (2, .int ww), (3, .ref oa)] := hl
  have hX := hR.1
  refine lv_aload_n hx hb dL_violation_0 rfl (lv_at hl 3 rfl) ?_
  refine lv_iconst (v := (nI 0)) hx hb dL_violation_1 (by decide) ?_
  refine lv_aload_n hx hb dL_violation_2 rfl (lv_at hl 0 rfl) ?_
  refine lv_iload_n hx hb dL_violation_3 rfl (lv_at hl 1 rfl) ?_
  refine lv_iload_n hx hb dL_violation_4 rfl (lv_at hl 2 rfl) ?_
  refine fh_cVH (q := (RX9, TX9, 11)) (As := [.int k, .int ww]) (rest := [.int (nI 0), .ref oa]) (b := xa) ⟨hx, hb, hml, hown, ht⟩ (p_violation l G A h _ hst (by rw [hsz]; exact hA) hAh xa ad no nv ns V S LK RL J C M hR hB9 hK8 k ww) (cwV 2 ht (gV kw_577 kw_578 kw_579 kw_1 kw_580) rfl rfl rfl yd_X9_violation ⟨(Nat.le_of_ble_eq_true rfl), (Nat.le_of_ble_eq_true rfl)⟩) hP hE hS hX rfl rfl hl.1 rfl (Nat.le_of_ble_eq_true rfl) dL_violation_5 ⟨(Nat.le_of_ble_eq_true rfl), (Nat.le_of_ble_eq_true rfl)⟩ (fun E ce q9 u H locs hp hP hz hS hce hcv hcl => ?_) (fun v u H locs hp hP hz hS => ?_)
  · obtain ⟨eu, hp⟩ := hp
    rw [eu] at hP
    obtain ⟨rfl, e0⟩ := hp
    refine vx_catch (own := "ObjectMergeLaw") (name := xE1) hown [] ⟨0, 10, 13, 19⟩ [] htb (fun z hz => nomatch hz) (by decide) (by decide) (ht _ kw_280) (ct_at hE (by decide)) hce hcv hcl ?_
    refine W.eq (g2 := F0 m 13 ls [.ref q9]) rfl ?_
    refine lv_astore (lv' := [(4, .ref q9), (0, .ref xa), (1, .int k), (2, .int ww), (3, .ref oa)]) hx hb dL_violation_13 hl (by decide) rfl (fun ls hl => ?_)
    refine lv_iconst (v := (nI 1)) hx hb dL_violation_15 (by decide) ?_
    exact fh_iret hx hb hr hlocks (⟨by rw [e0], hAh, kp.rf, ⟨ad, hR.mono (by omega)⟩, f0, ho, fun z => absurd z (by rw [e0]; decide)⟩) hP hS (by omega) (by omega) dL_violation_16
  · obtain ⟨e0, rfl, hA1, hk1, ad2, hR1⟩ := hp
    have ho1 := hk1 _ _ ho rfl
    refine W.eq (g2 := F0 m 8 ls [.int ((oViol RL (V (nv - 1)) k ww).2), .int (nI 0), .ref oa]) rfl ?_
    refine lv_i2l (v := ((oViol RL (V (nv - 1)) k ww).2 : Int32).toInt64) hx hb dL_violation_8 rfl ?_
    refine fh_last (k := 0) hx hb hE.1 hP hS ho1 (hA1 _ _ ho1) rfl (by decide) (by decide) dL_violation_9 (fun H locs hP hz hS => ?_)
    obtain ⟨h_1, eh_1⟩ : ∃ z, z = fh_up u oa (.inl (11, 1, .inr (.inl (vp_updL f0 0 (((oViol RL (V (nv - 1)) k ww).2 : Int32).toInt64))))) := ⟨_, rfl⟩
    have hP : fh_P G vwCl h_1 H := by rw [eh_1]; exact hP
    have f_1 : h_1 oa = some (.inl (11, 1, .inr (.inl (vp_updL f0 0 (((oViol RL (V (nv - 1)) k ww).2 : Int32).toInt64))))) := by rw [eh_1]; exact fh_up_self _ _ _
    refine lv_goto (tgt := 17) hx hb dL_violation_10 (by decide) ?_
    refine lv_iconst (v := (nI 0)) hx hb dL_violation_17 (by decide) ?_
    have hk2 : kp [23] u h_1 := by rw [eh_1]; exact kp.rf.up2 ho1 rfl
    have hk3 : kp kL h h_1 := by rw [eh_1]; exact (kp.L hk1).up2 ho1 rfl
    exact fh_iret hx hb hr hlocks (⟨by rw [e0], by rw [eh_1]; exact hA1.up (hA1 _ _ ho1), hk3, ⟨_, (hR1.kpN hk2 rfl).mono (by omega)⟩, _, f_1, fun _ => rfl⟩) hP hS (by omega) (by omega) dL_violation_18

set_option maxRecDepth 100000 in
set_option maxHeartbeats 4000000 in
theorem w_difference (l : Launch) (G : fG) (A : Nat → Prop) (h : FH) (sz : Nat) (hst : l.stackTraces = false) (hA : ∀ q, sz ≤ q → A q) (hAh : fh_A A h) {Kq : Nat} (xa : Nat) (ad : Ad) (no nv ns : Nat) (V : Nat → St) (S : Nat → Ses) (LK : List Ar) (RL : List (Nat × Nat × Int64)) (J : Nat) (C : CL) (M : Nat → Int32) (hR : RepC Kq h xa ad no nv ns V S LK RL J C M) (hB9 : Bd no nv ns S RL J C) (hK8 : Kq < 900000) (aa : Int32) (bb : Int32) (k : Int32) (oa : Nat) (f0 : Nat → Int64) (ho : h oa = some (aL 11 1 f0)) : Met l yL_difference wsL_difference { frames := 8, cells := 4, slots := 24, locals := 220 } (va_Pc [.ref xa, .int aa, .int bb, .int k, .ref oa] (fh_Pre G A h sz)) (fh_Q G (fun v u => v = some (.int (nI (oDiff nv V aa bb k).1)) ∧ fh_A A u ∧ kp kL h u ∧ (∃ ad2 : Ad, RepC (Kq + 100) u xa ad2 no nv ns V S LK RL J C M) ∧ ∃ f2 : Nat → Int64, u oa = some (aL 11 1 f2) ∧ ((oDiff nv V aa bb k).1 = 0 → f2 0 = ((oDiff nv V aa bb k).2).toInt64)) A) 4 24 A := by
  refine fh_MetW [.ref xa, .int aa, .int bb, .int k, .ref oa] (by decide) rfl (Nat.le_of_ble_eq_true rfl) ?_
  intro p e s m below meth c hx hb hr hlocks hml hown hts hsz hP hE hS htb ls hl
  have ht : ∀ w ∈ wB, w.before _ s = true := fun w h9 => hts w (List.mem_cons_of_mem _ h9)
  have hl : lv_has ls 6 [(0, .ref xa), (1, .int aa), (2, .int bb), (3, .int k), (4, .ref oa)] := hl
  have hX := hR.1
  refine lv_aload hx hb dL_difference_0 (lv_at hl 4 rfl) ?_
  refine lv_iconst (v := (nI 0)) hx hb dL_difference_2 (by decide) ?_
  refine lv_aload_n hx hb dL_difference_3 rfl (lv_at hl 0 rfl) ?_
  refine lv_iload_n hx hb dL_difference_4 rfl (lv_at hl 1 rfl) ?_
  refine lv_iload_n hx hb dL_difference_5 rfl (lv_at hl 2 rfl) ?_
  refine lv_iload_n hx hb dL_difference_6 rfl (lv_at hl 3 rfl) ?_
  refine fh_cVH (q := (RX9, TX9, 11)) (As := [.int aa, .int bb, .int k]) (rest := [.int (nI 0), .ref oa]) (b := xa) ⟨hx, hb, hml, hown, ht⟩ (p_difference l G A h _ hst (by rw [hsz]; exact hA) hAh xa ad no nv ns V S LK RL J C M hR hB9 hK8 aa bb k) (cwV 3 ht (gV kw_601 kw_602 kw_603 kw_1 kw_604) rfl rfl rfl yd_X9_difference ⟨(Nat.le_of_ble_eq_true rfl), (Nat.le_of_ble_eq_true rfl)⟩) hP hE hS hX rfl rfl hl.1 rfl (Nat.le_of_ble_eq_true rfl) dL_difference_7 ⟨(Nat.le_of_ble_eq_true rfl), (Nat.le_of_ble_eq_true rfl)⟩ (fun E ce q9 u H locs hp hP hz hS hce hcv hcl => ?_) (fun v u H locs hp hP hz hS => ?_)
  · obtain ⟨eu, hp⟩ := hp
    rw [eu] at hP
    obtain ⟨rfl, e0⟩ := hp
    refine vx_catch (own := "ObjectMergeLaw") (name := xE1) hown [] ⟨0, 12, 15, 19⟩ [] htb (fun z hz => nomatch hz) (by decide) (by decide) (ht _ kw_280) (ct_at hE (by decide)) hce hcv hcl ?_
    refine W.eq (g2 := F0 m 15 ls [.ref q9]) rfl ?_
    refine lv_astore (lv' := [(5, .ref q9), (0, .ref xa), (1, .int aa), (2, .int bb), (3, .int k), (4, .ref oa)]) hx hb dL_difference_15 hl (by decide) rfl (fun ls hl => ?_)
    refine lv_iconst (v := (nI 1)) hx hb dL_difference_17 (by decide) ?_
    exact fh_iret hx hb hr hlocks (⟨by rw [e0], hAh, kp.rf, ⟨ad, hR.mono (by omega)⟩, f0, ho, fun z => absurd z (by rw [e0]; decide)⟩) hP hS (by omega) (by omega) dL_difference_18
  · obtain ⟨e0, rfl, hA1, hk1, ad2, hR1⟩ := hp
    have ho1 := hk1 _ _ ho rfl
    refine W.eq (g2 := F0 m 10 ls [.int ((oDiff nv V aa bb k).2), .int (nI 0), .ref oa]) rfl ?_
    refine lv_i2l (v := ((oDiff nv V aa bb k).2 : Int32).toInt64) hx hb dL_difference_10 rfl ?_
    refine fh_last (k := 0) hx hb hE.1 hP hS ho1 (hA1 _ _ ho1) rfl (by decide) (by decide) dL_difference_11 (fun H locs hP hz hS => ?_)
    obtain ⟨h_1, eh_1⟩ : ∃ z, z = fh_up u oa (.inl (11, 1, .inr (.inl (vp_updL f0 0 (((oDiff nv V aa bb k).2 : Int32).toInt64))))) := ⟨_, rfl⟩
    have hP : fh_P G vwCl h_1 H := by rw [eh_1]; exact hP
    have f_1 : h_1 oa = some (.inl (11, 1, .inr (.inl (vp_updL f0 0 (((oDiff nv V aa bb k).2 : Int32).toInt64))))) := by rw [eh_1]; exact fh_up_self _ _ _
    refine lv_goto (tgt := 19) hx hb dL_difference_12 (by decide) ?_
    refine lv_iconst (v := (nI 0)) hx hb dL_difference_19 (by decide) ?_
    have hk2 : kp [23] u h_1 := by rw [eh_1]; exact kp.rf.up2 ho1 rfl
    have hk3 : kp kL h h_1 := by rw [eh_1]; exact (kp.L hk1).up2 ho1 rfl
    exact fh_iret hx hb hr hlocks (⟨by rw [e0], by rw [eh_1]; exact hA1.up (hA1 _ _ ho1), hk3, ⟨_, (hR1.kpN hk2 rfl).mono (by omega)⟩, _, f_1, fun _ => rfl⟩) hP hS (by omega) (by omega) dL_difference_20

set_option maxRecDepth 100000 in
set_option maxHeartbeats 4000000 in
theorem w_undo (l : Launch) (G : fG) (A : Nat → Prop) (h : FH) (sz : Nat) (hst : l.stackTraces = false) (hA : ∀ q, sz ≤ q → A q) (hAh : fh_A A h) {Kq : Nat} (xa : Nat) (ad : Ad) (no nv ns : Nat) (V : Nat → St) (S : Nat → Ses) (LK : List Ar) (RL : List (Nat × Nat × Int64)) (J : Nat) (C : CL) (M : Nat → Int32) (hR : RepC Kq h xa ad no nv ns V S LK RL J C M) (hB9 : Bd no nv ns S RL J C) (hK8 : Kq < 900000) (x : Int32) (oa : Nat) (f0 : Nat → Int64) (ho : h oa = some (aL 11 1 f0)) : Met l yL_undo wsL_undo { frames := 8, cells := 4, slots := 24, locals := 220 } (va_Pc [.ref xa, .int x, .ref oa] (fh_Pre G A h sz)) (fh_Q G (fun v u => v = some (.int (nI (oUndo ns S x).1)) ∧ fh_A A u ∧ kp kL h u ∧ (∃ ad2 : Ad, RepC (Kq + 100) u xa ad2 no nv ns V ((oUndo ns S x).2.2) LK RL J C M) ∧ ∃ f2 : Nat → Int64, u oa = some (aL 11 1 f2) ∧ ((oUndo ns S x).1 = 0 → f2 0 = zL ((oUndo ns S x).2.1))) A) 4 24 A := by
  refine fh_MetW [.ref xa, .int x, .ref oa] (by decide) rfl (Nat.le_of_ble_eq_true rfl) ?_
  intro p e s m below meth c hx hb hr hlocks hml hown hts hsz hP hE hS htb ls hl
  have ht : ∀ w ∈ wB, w.before _ s = true := fun w h9 => hts w (List.mem_cons_of_mem _ h9)
  have hl : lv_has ls 4 [(0, .ref xa), (1, .int x), (2, .ref oa)] := hl
  have hX := hR.1
  refine lv_aload_n hx hb dL_undo_0 rfl (lv_at hl 2 rfl) ?_
  refine lv_iconst (v := (nI 0)) hx hb dL_undo_1 (by decide) ?_
  refine lv_aload_n hx hb dL_undo_2 rfl (lv_at hl 0 rfl) ?_
  refine lv_iload_n hx hb dL_undo_3 rfl (lv_at hl 1 rfl) ?_
  refine fh_cVH (q := (RX9, TX9, 11)) (As := [.int x]) (rest := [.int (nI 0), .ref oa]) (b := xa) ⟨hx, hb, hml, hown, ht⟩ (p_undo l G A h _ hst (by rw [hsz]; exact hA) hAh xa ad no nv ns V S LK RL J C M hR hB9 hK8 x) (cwV 1 ht (gV kw_614 kw_615 kw_616 kw_1 kw_617) rfl rfl rfl yd_X9_undo ⟨(Nat.le_of_ble_eq_true rfl), (Nat.le_of_ble_eq_true rfl)⟩) hP hE hS hX rfl rfl hl.1 rfl (Nat.le_of_ble_eq_true rfl) dL_undo_4 ⟨(Nat.le_of_ble_eq_true rfl), (Nat.le_of_ble_eq_true rfl)⟩ (fun E ce q9 u H locs hp hP hz hS hce hcv hcl => ?_) (fun v u H locs hp hP hz hS => ?_)
  · obtain ⟨eu, hp⟩ := hp
    rw [eu] at hP
    rcases hp with ⟨rfl, e0⟩ | ⟨rfl, e0⟩
    · refine vx_catch (own := "ObjectMergeLaw") (name := xE1) hown [] ⟨0, 16, 19, 19⟩ [⟨0, 16, 22, 21⟩] htb (fun z hz => nomatch hz) (by decide) (by decide) (ht _ kw_280) (ct_at hE (by decide)) hce hcv hcl ?_
      refine W.eq (g2 := F0 m 19 ls [.ref q9]) rfl ?_
      refine lv_astore_n (lv' := [(3, .ref q9), (0, .ref xa), (1, .int x), (2, .ref oa)]) hx hb dL_undo_19 rfl hl (by decide) rfl (fun ls hl => ?_)
      refine lv_iconst (v := (nI 1)) hx hb dL_undo_20 (by decide) ?_
      have eb := oUndo_bad (show (oUndo ns S x).1 ≠ 0 by rw [e0]; decide)
      exact fh_iret hx hb hr hlocks (⟨by rw [e0], hAh, kp.rf, ⟨ad, by rw [eb]; exact hR.mono (by omega)⟩, f0, ho, fun z => absurd z (by rw [e0]; decide)⟩) hP hS (by omega) (by omega) dL_undo_21
    · have hpas : ∀ z8 ∈ ([⟨0, 16, 19, 19⟩] : List ExceptionTableEntry), covers z8 4 = false ∨ (z8.catchType ≠ 0 ∧ ∃ nm : String, (Cond.classLink "ObjectMergeLaw" z8.catchType nm).before [.ref xa, .int x, .ref oa].toArray s = true ∧ va_Nc xE2 nm s) := fun z8 hz => by
        rw [List.mem_singleton.mp hz]
        exact Or.inr ⟨by decide, _, (ht _ kw_280), nc_at hE (by decide)⟩
      refine vx_catch (own := "ObjectMergeLaw") (name := xE2) hown [⟨0, 16, 19, 19⟩] ⟨0, 16, 22, 21⟩ [] htb hpas (by decide) (by decide) (ht _ kw_281) (ct_at hE (by decide)) hce hcv hcl ?_
      refine W.eq (g2 := F0 m 22 ls [.ref q9]) rfl ?_
      refine lv_astore_n (lv' := [(3, .ref q9), (0, .ref xa), (1, .int x), (2, .ref oa)]) hx hb dL_undo_22 rfl hl (by decide) rfl (fun ls hl => ?_)
      refine lv_iconst (v := (nI 2)) hx hb dL_undo_23 (by decide) ?_
      have eb := oUndo_bad (show (oUndo ns S x).1 ≠ 0 by rw [e0]; decide)
      exact fh_iret hx hb hr hlocks (⟨by rw [e0], hAh, kp.rf, ⟨ad, by rw [eb]; exact hR.mono (by omega)⟩, f0, ho, fun z => absurd z (by rw [e0]; decide)⟩) hP hS (by omega) (by omega) dL_undo_24
  · obtain ⟨e0, rfl, hA1, hk1, ad2, hR1⟩ := hp
    have ho1 := hk1 _ _ ho rfl
    obtain ⟨bv, ebv⟩ : ∃ z8, z8 = (oUndo ns S x).2.1 := ⟨_, rfl⟩
    rw [← ebv]
    refine W.eq (g2 := F0 m 7 ls [.int (bI bv), .int (nI 0), .ref oa]) rfl ?_
    refine lv_if_eq (tgt := 14) hx hb dL_undo_7 (by decide) (fun c1 => ?_) (fun c1 => ?_)
    · have eb2 : bv = false := by cases bv with
        | false => rfl
        | true => exact absurd c1 (by decide)
      refine lv_lconst (v := 0) hx hb dL_undo_14 (by decide) ?_
      refine fh_last (k := 0) hx hb hE.1 hP hS ho1 (hA1 _ _ ho1) rfl (by decide) (by decide) dL_undo_15 (fun H locs hP hz hS => ?_)
      obtain ⟨h_1, eh_1⟩ : ∃ z, z = fh_up u oa (.inl (11, 1, .inr (.inl (vp_updL f0 0 0)))) := ⟨_, rfl⟩
      have hP : fh_P G vwCl h_1 H := by rw [eh_1]; exact hP
      have f_1 : h_1 oa = some (.inl (11, 1, .inr (.inl (vp_updL f0 0 0)))) := by rw [eh_1]; exact fh_up_self _ _ _
      refine lv_goto (tgt := 25) hx hb dL_undo_16 (by decide) ?_
      refine lv_iconst (v := (nI 0)) hx hb dL_undo_25 (by decide) ?_
      have hk2 : kp [23] u h_1 := by rw [eh_1]; exact kp.rf.up2 ho1 rfl
      have hk3 : kp kL h h_1 := by rw [eh_1]; exact (kp.L hk1).up2 ho1 rfl
      exact fh_iret hx hb hr hlocks (⟨by rw [e0], by rw [eh_1]; exact hA1.up (hA1 _ _ ho1), hk3, ⟨_, (hR1.kpN hk2 rfl).mono (by omega)⟩, _, f_1, fun _ => (by rw [eb2]; rfl)⟩) hP hS (by omega) (by omega) dL_undo_26
    · have eb2 : bv = true := by cases bv with
        | true => rfl
        | false => exact absurd rfl c1
      refine lv_lconst (v := 1) hx hb dL_undo_10 (by decide) ?_
      refine lv_goto (tgt := 15) hx hb dL_undo_11 (by decide) ?_
      refine fh_last (k := 0) hx hb hE.1 hP hS ho1 (hA1 _ _ ho1) rfl (by decide) (by decide) dL_undo_15 (fun H locs hP hz hS => ?_)
      obtain ⟨h_1, eh_1⟩ : ∃ z, z = fh_up u oa (.inl (11, 1, .inr (.inl (vp_updL f0 0 1)))) := ⟨_, rfl⟩
      have hP : fh_P G vwCl h_1 H := by rw [eh_1]; exact hP
      have f_1 : h_1 oa = some (.inl (11, 1, .inr (.inl (vp_updL f0 0 1)))) := by rw [eh_1]; exact fh_up_self _ _ _
      refine lv_goto (tgt := 25) hx hb dL_undo_16 (by decide) ?_
      refine lv_iconst (v := (nI 0)) hx hb dL_undo_25 (by decide) ?_
      have hk2 : kp [23] u h_1 := by rw [eh_1]; exact kp.rf.up2 ho1 rfl
      have hk3 : kp kL h h_1 := by rw [eh_1]; exact (kp.L hk1).up2 ho1 rfl
      exact fh_iret hx hb hr hlocks (⟨by rw [e0], by rw [eh_1]; exact hA1.up (hA1 _ _ ho1), hk3, ⟨_, (hR1.kpN hk2 rfl).mono (by omega)⟩, _, f_1, fun _ => (by rw [eb2]; rfl)⟩) hP hS (by omega) (by omega) dL_undo_26

set_option maxRecDepth 100000 in
set_option maxHeartbeats 4000000 in
theorem w_branch (l : Launch) (G : fG) (A : Nat → Prop) (h : FH) (sz : Nat) (hst : l.stackTraces = false) (hA : ∀ q, sz ≤ q → A q) (hAh : fh_A A h) {Kq : Nat} (xa : Nat) (ad : Ad) (no nv ns : Nat) (V : Nat → St) (S : Nat → Ses) (LK : List Ar) (RL : List (Nat × Nat × Int64)) (J : Nat) (C : CL) (M : Nat → Int32) (hR : RepC Kq h xa ad no nv ns V S LK RL J C M) (hB9 : Bd no nv ns S RL J C) (hK8 : Kq < 900000) (x : Int32) (oa : Nat) (f0 : Nat → Int64) (ho : h oa = some (aL 11 1 f0)) : Met l yL_branch wsL_branch { frames := 8, cells := 9, slots := 590, locals := 220 } (va_Pc [.ref xa, .int x, .ref oa] (fh_Pre G A h sz)) (fh_Q G (fun v u => v = some (.int (nI (oBranch nv ns V S x).1)) ∧ fh_A A u ∧ kp kL h u ∧ (∃ ad2 : Ad, RepC (Kq + 100) u xa ad2 no nv ((oBranch nv ns V S x).2.2.1) V ((oBranch nv ns V S x).2.2.2) LK RL J C M) ∧ ∃ f2 : Nat → Int64, u oa = some (aL 11 1 f2) ∧ ((oBranch nv ns V S x).1 = 0 → f2 0 = ((oBranch nv ns V S x).2.1).toInt64)) A) 9 590 A := by
  refine fh_MetW [.ref xa, .int x, .ref oa] (by decide) rfl (Nat.le_of_ble_eq_true rfl) ?_
  intro p e s m below meth c hx hb hr hlocks hml hown hts hsz hP hE hS htb ls hl
  have ht : ∀ w ∈ wB, w.before _ s = true := fun w h9 => hts w (List.mem_cons_of_mem _ h9)
  have hl : lv_has ls 4 [(0, .ref xa), (1, .int x), (2, .ref oa)] := hl
  have hX := hR.1
  refine lv_aload_n hx hb dL_branch_0 rfl (lv_at hl 2 rfl) ?_
  refine lv_iconst (v := (nI 0)) hx hb dL_branch_1 (by decide) ?_
  refine lv_aload_n hx hb dL_branch_2 rfl (lv_at hl 0 rfl) ?_
  refine lv_iload_n hx hb dL_branch_3 rfl (lv_at hl 1 rfl) ?_
  refine fh_cVH (q := (RX9, TX9, 11)) (As := [.int x]) (rest := [.int (nI 0), .ref oa]) (b := xa) ⟨hx, hb, hml, hown, ht⟩ (p_branch l G A h _ hst (by rw [hsz]; exact hA) hAh xa ad no nv ns V S LK RL J C M hR hB9 hK8 x) (cwV 1 ht (gV kw_637 kw_638 kw_639 kw_1 kw_640) rfl rfl rfl yd_X9_branch ⟨(Nat.le_of_ble_eq_true rfl), (Nat.le_of_ble_eq_true rfl)⟩) hP hE hS hX rfl rfl hl.1 rfl (Nat.le_of_ble_eq_true rfl) dL_branch_4 ⟨(Nat.le_of_ble_eq_true rfl), (Nat.le_of_ble_eq_true rfl)⟩ (fun E ce q9 u H locs hp hP hz hS hce hcv hcl => ?_) (fun v u H locs hp hP hz hS => ?_)
  · obtain ⟨eu, hp⟩ := hp
    rw [eu] at hP
    obtain ⟨rfl, e0⟩ := hp
    refine vx_catch (own := "ObjectMergeLaw") (name := xE1) hown [] ⟨0, 9, 12, 19⟩ [] htb (fun z hz => nomatch hz) (by decide) (by decide) (ht _ kw_280) (ct_at hE (by decide)) hce hcv hcl ?_
    refine W.eq (g2 := F0 m 12 ls [.ref q9]) rfl ?_
    refine lv_astore_n (lv' := [(3, .ref q9), (0, .ref xa), (1, .int x), (2, .ref oa)]) hx hb dL_branch_12 rfl hl (by decide) rfl (fun ls hl => ?_)
    refine lv_iconst (v := (nI 1)) hx hb dL_branch_13 (by decide) ?_
    have eb := oBranch_bad (show (oBranch nv ns V S x).1 ≠ 0 by rw [e0]; decide)
    exact fh_iret hx hb hr hlocks (⟨by rw [e0], hAh, kp.rf, ⟨ad, by rw [eb]; exact hR.mono (by omega)⟩, f0, ho, fun z => absurd z (by rw [e0]; decide)⟩) hP hS (by omega) (by omega) dL_branch_14
  · obtain ⟨e0, rfl, hA1, hk1, ad2, hR1⟩ := hp
    have ho1 := hk1 _ _ ho rfl
    refine W.eq (g2 := F0 m 7 ls [.int ((oBranch nv ns V S x).2.1), .int (nI 0), .ref oa]) rfl ?_
    refine lv_i2l (v := ((oBranch nv ns V S x).2.1 : Int32).toInt64) hx hb dL_branch_7 rfl ?_
    refine fh_last (k := 0) hx hb hE.1 hP hS ho1 (hA1 _ _ ho1) rfl (by decide) (by decide) dL_branch_8 (fun H locs hP hz hS => ?_)
    obtain ⟨h_1, eh_1⟩ : ∃ z, z = fh_up u oa (.inl (11, 1, .inr (.inl (vp_updL f0 0 (((oBranch nv ns V S x).2.1 : Int32).toInt64))))) := ⟨_, rfl⟩
    have hP : fh_P G vwCl h_1 H := by rw [eh_1]; exact hP
    have f_1 : h_1 oa = some (.inl (11, 1, .inr (.inl (vp_updL f0 0 (((oBranch nv ns V S x).2.1 : Int32).toInt64))))) := by rw [eh_1]; exact fh_up_self _ _ _
    refine lv_goto (tgt := 15) hx hb dL_branch_9 (by decide) ?_
    refine lv_iconst (v := (nI 0)) hx hb dL_branch_15 (by decide) ?_
    have hk2 : kp [23] u h_1 := by rw [eh_1]; exact kp.rf.up2 ho1 rfl
    have hk3 : kp kL h h_1 := by rw [eh_1]; exact (kp.L hk1).up2 ho1 rfl
    exact fh_iret hx hb hr hlocks (⟨by rw [e0], by rw [eh_1]; exact hA1.up (hA1 _ _ ho1), hk3, ⟨_, (hR1.kpN hk2 rfl).mono (by omega)⟩, _, f_1, fun _ => rfl⟩) hP hS (by omega) (by omega) dL_branch_16

set_option maxRecDepth 100000 in
set_option maxHeartbeats 4000000 in
theorem w_play (l : Launch) (G : fG) (A : Nat → Prop) (h : FH) (sz : Nat) (hst : l.stackTraces = false) (hA : ∀ q, sz ≤ q → A q) (hAh : fh_A A h) {Kq : Nat} (xa : Nat) (ad : Ad) (no nv ns : Nat) (V : Nat → St) (S : Nat → Ses) (LK : List Ar) (RL : List (Nat × Nat × Int64)) (J : Nat) (C : CL) (M : Nat → Int32) (hR : RepC Kq h xa ad no nv ns V S LK RL J C M) (hB9 : Bd no nv ns S RL J C) (hK8 : Kq < 900000) (x : Int64) (t : Int32) (oa : Nat) (f0 : Nat → Int64) (ho : h oa = some (aL 11 1 f0)) : Met l yL_play wsL_play { frames := 8, cells := 930, slots := 3860, locals := 220 } (va_Pc [.ref xa, .long x, .int t, .ref oa] (fh_Pre G A h sz)) (fh_Q G (fun v u => v = some (.int (nI (oPlay no nv ns V S LK J C M x t).1)) ∧ fh_A A u ∧ kp kL h u ∧ (∃ ad2 : Ad, RepC (Kq + 100) u xa ad2 no ((oPlay no nv ns V S LK J C M x t).2.2.1) ((oPlay no nv ns V S LK J C M x t).2.2.2.1) ((oPlay no nv ns V S LK J C M x t).2.2.2.2.1) ((oPlay no nv ns V S LK J C M x t).2.2.2.2.2.1) ((oPlay no nv ns V S LK J C M x t).2.2.2.2.2.2.1) RL ((oPlay no nv ns V S LK J C M x t).2.2.2.2.2.2.2.1) ((oPlay no nv ns V S LK J C M x t).2.2.2.2.2.2.2.2.1) ((oPlay no nv ns V S LK J C M x t).2.2.2.2.2.2.2.2.2)) ∧ ∃ f2 : Nat → Int64, u oa = some (aL 11 1 f2) ∧ ((oPlay no nv ns V S LK J C M x t).1 = 0 → f2 0 = ((oPlay no nv ns V S LK J C M x t).2.1).toInt64)) A) 930 3860 A := by
  refine fh_MetW [.ref xa, .long x, .int t, .ref oa] (by decide) rfl (Nat.le_of_ble_eq_true rfl) ?_
  intro p e s m below meth c hx hb hr hlocks hml hown hts hsz hP hE hS htb ls hl
  have ht : ∀ w ∈ wB, w.before _ s = true := fun w h9 => hts w (List.mem_cons_of_mem _ h9)
  have hl : lv_has ls 6 [(0, .ref xa), (1, .long x), (3, .int t), (4, .ref oa)] := hl
  have hX := hR.1
  refine lv_aload hx hb dL_play_0 (lv_at hl 3 rfl) ?_
  refine lv_iconst (v := (nI 0)) hx hb dL_play_2 (by decide) ?_
  refine lv_aload_n hx hb dL_play_3 rfl (lv_at hl 0 rfl) ?_
  refine lv_lload_n hx hb dL_play_4 rfl (lv_at hl 1 rfl) ?_
  refine lv_iload_n hx hb dL_play_5 rfl (lv_at hl 2 rfl) ?_
  refine fh_cVH (q := (RX9, TX9, 11)) (As := [.long x, .int t]) (rest := [.int (nI 0), .ref oa]) (b := xa) ⟨hx, hb, hml, hown, ht⟩ (p_play l G A h _ hst (by rw [hsz]; exact hA) hAh xa ad no nv ns V S LK RL J C M hR hB9 hK8 x t) (cwV 2 ht (gV kw_644 kw_645 kw_646 kw_1 kw_647) rfl rfl rfl yd_X9_play ⟨(Nat.le_of_ble_eq_true rfl), (Nat.le_of_ble_eq_true rfl)⟩) hP hE hS hX rfl rfl hl.1 rfl (Nat.le_of_ble_eq_true rfl) dL_play_6 ⟨(Nat.le_of_ble_eq_true rfl), (Nat.le_of_ble_eq_true rfl)⟩ (fun E ce q9 u H locs hp hP hz hS hce hcv hcl => ?_) (fun v u H locs hp hP hz hS => ?_)
  · obtain ⟨eu, hp⟩ := hp
    rw [eu] at hP
    obtain ⟨rfl, e0⟩ := hp
    refine vx_catch (own := "ObjectMergeLaw") (name := xE0) hown [] ⟨0, 11, 14, 13⟩ [] htb (fun z hz => nomatch hz) (by decide) (by decide) (ht _ kw_178) (ct_at hE (by decide)) hce hcv hcl ?_
    refine W.eq (g2 := F0 m 14 ls [.ref q9]) rfl ?_
    refine lv_astore (lv' := [(5, .ref q9), (0, .ref xa), (1, .long x), (3, .int t), (4, .ref oa)]) hx hb dL_play_14 hl (by decide) rfl (fun ls hl => ?_)
    refine lv_iconst (v := (nI 1)) hx hb dL_play_16 (by decide) ?_
    have eb := oPlay_bad (show (oPlay no nv ns V S LK J C M x t).1 ≠ 0 by rw [e0]; decide)
    exact fh_iret hx hb hr hlocks (⟨by rw [e0], hAh, kp.rf, ⟨ad, by rw [eb]; exact hR.mono (by omega)⟩, f0, ho, fun z => absurd z (by rw [e0]; decide)⟩) hP hS (by omega) (by omega) dL_play_17
  · obtain ⟨e0, rfl, hA1, hk1, ad2, hR1⟩ := hp
    have ho1 := hk1 _ _ ho rfl
    refine W.eq (g2 := F0 m 9 ls [.int ((oPlay no nv ns V S LK J C M x t).2.1), .int (nI 0), .ref oa]) rfl ?_
    refine lv_i2l (v := ((oPlay no nv ns V S LK J C M x t).2.1 : Int32).toInt64) hx hb dL_play_9 rfl ?_
    refine fh_last (k := 0) hx hb hE.1 hP hS ho1 (hA1 _ _ ho1) rfl (by decide) (by decide) dL_play_10 (fun H locs hP hz hS => ?_)
    obtain ⟨h_1, eh_1⟩ : ∃ z, z = fh_up u oa (.inl (11, 1, .inr (.inl (vp_updL f0 0 (((oPlay no nv ns V S LK J C M x t).2.1 : Int32).toInt64))))) := ⟨_, rfl⟩
    have hP : fh_P G vwCl h_1 H := by rw [eh_1]; exact hP
    have f_1 : h_1 oa = some (.inl (11, 1, .inr (.inl (vp_updL f0 0 (((oPlay no nv ns V S LK J C M x t).2.1 : Int32).toInt64))))) := by rw [eh_1]; exact fh_up_self _ _ _
    refine lv_goto (tgt := 18) hx hb dL_play_11 (by decide) ?_
    refine lv_iconst (v := (nI 0)) hx hb dL_play_18 (by decide) ?_
    have hk2 : kp [23] u h_1 := by rw [eh_1]; exact kp.rf.up2 ho1 rfl
    have hk3 : kp kL h h_1 := by rw [eh_1]; exact (kp.L hk1).up2 ho1 rfl
    exact fh_iret hx hb hr hlocks (⟨by rw [e0], by rw [eh_1]; exact hA1.up (hA1 _ _ ho1), hk3, ⟨_, (hR1.kpN hk2 rfl).mono (by omega)⟩, _, f_1, fun _ => rfl⟩) hP hS (by omega) (by omega) dL_play_19

set_option maxRecDepth 100000 in
set_option maxHeartbeats 4000000 in
theorem w_mark (l : Launch) (G : fG) (A : Nat → Prop) (h : FH) (sz : Nat) (hst : l.stackTraces = false) (hA : ∀ q, sz ≤ q → A q) (hAh : fh_A A h) {Kq : Nat} (xa : Nat) (ad : Ad) (no nv ns : Nat) (V : Nat → St) (S : Nat → Ses) (LK : List Ar) (RL : List (Nat × Nat × Int64)) (J : Nat) (C : CL) (M : Nat → Int32) (hR : RepC Kq h xa ad no nv ns V S LK RL J C M) (hB9 : Bd no nv ns S RL J C) (hK8 : Kq < 900000) (y : Int32) (pp : Int32) (oa : Nat) (f0 : Nat → Int64) (ho : h oa = some (aL 11 1 f0)) : Met l yL_mark wsL_mark { frames := 8, cells := 4, slots := 24, locals := 220 } (va_Pc [.ref xa, .int y, .int pp, .ref oa] (fh_Pre G A h sz)) (fh_Q G (fun v u => v = some (.int (nI (oMark no nv V M y pp).1)) ∧ fh_A A u ∧ kp kL h u ∧ (∃ ad2 : Ad, RepC (Kq + 100) u xa ad2 no nv ns V S LK RL J C ((oMark no nv V M y pp).2.2)) ∧ ∃ f2 : Nat → Int64, u oa = some (aL 11 1 f2) ∧ ((oMark no nv V M y pp).1 = 0 → f2 0 = ((oMark no nv V M y pp).2.1).toInt64)) A) 4 24 A := by
  refine fh_MetW [.ref xa, .int y, .int pp, .ref oa] (by decide) rfl (Nat.le_of_ble_eq_true rfl) ?_
  intro p e s m below meth c hx hb hr hlocks hml hown hts hsz hP hE hS htb ls hl
  have ht : ∀ w ∈ wB, w.before _ s = true := fun w h9 => hts w (List.mem_cons_of_mem _ h9)
  have hl : lv_has ls 5 [(0, .ref xa), (1, .int y), (2, .int pp), (3, .ref oa)] := hl
  have hX := hR.1
  refine lv_aload_n hx hb dL_mark_0 rfl (lv_at hl 3 rfl) ?_
  refine lv_iconst (v := (nI 0)) hx hb dL_mark_1 (by decide) ?_
  refine lv_aload_n hx hb dL_mark_2 rfl (lv_at hl 0 rfl) ?_
  refine lv_iload_n hx hb dL_mark_3 rfl (lv_at hl 1 rfl) ?_
  refine lv_iload_n hx hb dL_mark_4 rfl (lv_at hl 2 rfl) ?_
  refine fh_cVH (q := (RX9, TX9, 11)) (As := [.int y, .int pp]) (rest := [.int (nI 0), .ref oa]) (b := xa) ⟨hx, hb, hml, hown, ht⟩ (p_mark l G A h _ hst (by rw [hsz]; exact hA) hAh xa ad no nv ns V S LK RL J C M hR hB9 hK8 y pp) (cwV 2 ht (gV kw_672 kw_673 kw_674 kw_1 kw_675) rfl rfl rfl yd_X9_mark ⟨(Nat.le_of_ble_eq_true rfl), (Nat.le_of_ble_eq_true rfl)⟩) hP hE hS hX rfl rfl hl.1 rfl (Nat.le_of_ble_eq_true rfl) dL_mark_5 ⟨(Nat.le_of_ble_eq_true rfl), (Nat.le_of_ble_eq_true rfl)⟩ (fun E ce q9 u H locs hp hP hz hS hce hcv hcl => ?_) (fun v u H locs hp hP hz hS => ?_)
  · obtain ⟨eu, hp⟩ := hp
    rw [eu] at hP
    rcases hp with ⟨rfl, e0⟩ | ⟨rfl, e0⟩
    · refine vx_catch (own := "ObjectMergeLaw") (name := xE1) hown [] ⟨0, 10, 13, 19⟩ [⟨0, 10, 17, 13⟩] htb (fun z hz => nomatch hz) (by decide) (by decide) (ht _ kw_280) (ct_at hE (by decide)) hce hcv hcl ?_
      refine W.eq (g2 := F0 m 13 ls [.ref q9]) rfl ?_
      refine lv_astore (lv' := [(4, .ref q9), (0, .ref xa), (1, .int y), (2, .int pp), (3, .ref oa)]) hx hb dL_mark_13 hl (by decide) rfl (fun ls hl => ?_)
      refine lv_iconst (v := (nI 1)) hx hb dL_mark_15 (by decide) ?_
      have eb := oMark_bad (show (oMark no nv V M y pp).1 ≠ 0 by rw [e0]; decide)
      exact fh_iret hx hb hr hlocks (⟨by rw [e0], hAh, kp.rf, ⟨ad, by rw [eb]; exact hR.mono (by omega)⟩, f0, ho, fun z => absurd z (by rw [e0]; decide)⟩) hP hS (by omega) (by omega) dL_mark_16
    · have hpas : ∀ z8 ∈ ([⟨0, 10, 13, 19⟩] : List ExceptionTableEntry), covers z8 5 = false ∨ (z8.catchType ≠ 0 ∧ ∃ nm : String, (Cond.classLink "ObjectMergeLaw" z8.catchType nm).before [.ref xa, .int y, .int pp, .ref oa].toArray s = true ∧ va_Nc xE0 nm s) := fun z8 hz => by
        rw [List.mem_singleton.mp hz]
        exact Or.inr ⟨by decide, _, (ht _ kw_280), nc_at hE (by decide)⟩
      refine vx_catch (own := "ObjectMergeLaw") (name := xE0) hown [⟨0, 10, 13, 19⟩] ⟨0, 10, 17, 13⟩ [] htb hpas (by decide) (by decide) (ht _ kw_178) (ct_at hE (by decide)) hce hcv hcl ?_
      refine W.eq (g2 := F0 m 17 ls [.ref q9]) rfl ?_
      refine lv_astore (lv' := [(4, .ref q9), (0, .ref xa), (1, .int y), (2, .int pp), (3, .ref oa)]) hx hb dL_mark_17 hl (by decide) rfl (fun ls hl => ?_)
      refine lv_iconst (v := (nI 2)) hx hb dL_mark_19 (by decide) ?_
      have eb := oMark_bad (show (oMark no nv V M y pp).1 ≠ 0 by rw [e0]; decide)
      exact fh_iret hx hb hr hlocks (⟨by rw [e0], hAh, kp.rf, ⟨ad, by rw [eb]; exact hR.mono (by omega)⟩, f0, ho, fun z => absurd z (by rw [e0]; decide)⟩) hP hS (by omega) (by omega) dL_mark_20
  · obtain ⟨e0, rfl, hA1, hk1, ad2, hR1⟩ := hp
    have ho1 := hk1 _ _ ho rfl
    refine W.eq (g2 := F0 m 8 ls [.int ((oMark no nv V M y pp).2.1), .int (nI 0), .ref oa]) rfl ?_
    refine lv_i2l (v := ((oMark no nv V M y pp).2.1 : Int32).toInt64) hx hb dL_mark_8 rfl ?_
    refine fh_last (k := 0) hx hb hE.1 hP hS ho1 (hA1 _ _ ho1) rfl (by decide) (by decide) dL_mark_9 (fun H locs hP hz hS => ?_)
    obtain ⟨h_1, eh_1⟩ : ∃ z, z = fh_up u oa (.inl (11, 1, .inr (.inl (vp_updL f0 0 (((oMark no nv V M y pp).2.1 : Int32).toInt64))))) := ⟨_, rfl⟩
    have hP : fh_P G vwCl h_1 H := by rw [eh_1]; exact hP
    have f_1 : h_1 oa = some (.inl (11, 1, .inr (.inl (vp_updL f0 0 (((oMark no nv V M y pp).2.1 : Int32).toInt64))))) := by rw [eh_1]; exact fh_up_self _ _ _
    refine lv_goto (tgt := 21) hx hb dL_mark_10 (by decide) ?_
    refine lv_iconst (v := (nI 0)) hx hb dL_mark_21 (by decide) ?_
    have hk2 : kp [23] u h_1 := by rw [eh_1]; exact kp.rf.up2 ho1 rfl
    have hk3 : kp kL h h_1 := by rw [eh_1]; exact (kp.L hk1).up2 ho1 rfl
    exact fh_iret hx hb hr hlocks (⟨by rw [e0], by rw [eh_1]; exact hA1.up (hA1 _ _ ho1), hk3, ⟨_, (hR1.kpN hk2 rfl).mono (by omega)⟩, _, f_1, fun _ => rfl⟩) hP hS (by omega) (by omega) dL_mark_22
