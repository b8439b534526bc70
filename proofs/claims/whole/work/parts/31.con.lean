set_option maxRecDepth 100000 in
set_option maxHeartbeats 4000000 in
theorem c_Ses_change (l : Launch) (G : fG) (A : Nat → Prop) (h : FH) (sz : Nat) (a ba na ch sd nb ob rw nx ct : Nat) (num opn : Int32) (fn : Nat → Option Nat) (fo : Nat → Int32) (fr : Nat → Option Nat) (ha : h a = some (oSes num ba na opn ch sd)) (hna : h na = some (oSt nb)) (hnb : h nb = some (aQ 1 60 fn)) (hch : h ch = some (oChg ob rw (nI nx) (nI ct))) (hob : h ob = some (aI 2 40 fo)) (hrw : h rw = some (aQ 3 40 fr)) (hn : nx < 1000000) (hc : ct ≤ 40) (hA1 : A ch) (hA2 : A ob) (hA3 : A rw) (hA4 : A nb) (i : Nat) (hi : i < 60) (o : Option Nat) (ho1 : ∀ r, fn i = some r → ∃ vs, h r = some (.inr (5, vs))) (ho2 : ∀ r, o = some r → ∃ vs, h r = some (.inr (5, vs))) : Met l yX7_change wsX7_change { frames := 3, cells := 0, slots := 0, locals := 65 } (va_Pc [.ref a, .int (nI i), va_rf o] (fh_Pre G A h sz)) (fh_Q G (fun v u => v = none ∧ u = fh_up (fh_up (fh_up (fh_up h ob (aI 2 40 (upd fo (nx % 40) (nI i)))) rw (aQ 3 40 (va_up fr (nx % 40) (fn i)))) ch (oChg ob rw (nI (nx + 1)) (nI (if ct < 40 then ct + 1 else 40)))) nb (aQ 1 60 (va_up fn i o))) A) 0 0 A := by
  refine fh_Met [.ref a, .int (nI i), va_rf o] (by decide) rfl (by cases o <;> exact (Nat.le_of_ble_eq_true rfl)) ?_
  intro p e s m below meth c hx hb hr hlocks hml hown hnm hts hsz hP hE hS ls hl
  have ht : ∀ w ∈ wB, w.before _ s = true := fun w h9 => hts w (List.mem_cons_of_mem _ h9)
  have e9 : lv_args 0 [.ref a, .int (nI i), va_rf o] = [(0, .ref a), (1, .int (nI i)), (2, va_rf o)] := by cases o <;> rfl
  rw [e9] at hl
  refine lv_aload_n hx hb dX7_change_0 rfl (lv_at hl 0 rfl) ?_
  refine fh_get (C := RX7) (T := TX7) (N := 6) hx hb ht inX7 hown hE.1 hP ha rfl 4 (by decide) (ht _ kw_155) (fun _ h9 => h9) (v := .ref ch) rfl dX7_change_1 ?_
  refine lv_iload_n hx hb dX7_change_4 rfl (lv_at hl 1 rfl) ?_
  refine lv_aload_n hx hb dX7_change_5 rfl (lv_at hl 0 rfl) ?_
  refine fh_get (C := RX7) (T := TX7) (N := 6) hx hb ht inX7 hown hE.1 hP ha rfl 2 (by decide) (ht _ kw_151) (fun _ h9 => h9) (v := .ref na) rfl dX7_change_6 ?_
  refine lv_iload_n hx hb dX7_change_9 rfl (lv_at hl 1 rfl) ?_
  refine fh_cV (q := (RX8, TX8, 1)) (As := [.int (nI i)]) (rest := [.int (nI i), .ref ch]) (b := na) ⟨hx, hb, hml, hown, ht⟩ (c_St_row l G A h _ na nb i fn hna hnb hi) (cwV 1 ht (gV kw_369 kw_338 kw_339 kw_2 kw_340) rfl rfl rfl yd_X8_row ⟨(Nat.le_of_ble_eq_true rfl), (Nat.le_of_ble_eq_true rfl)⟩) hP hE hS hna rfl rfl hl.1 rfl (Nat.le_of_ble_eq_true rfl) dX7_change_10 ⟨(Nat.le_of_ble_eq_true rfl), (Nat.le_of_ble_eq_true rfl)⟩ (fun v u H locs hp hP hz hS => ?_)
  obtain ⟨rfl, eu⟩ := hp
  rw [eu] at hP
  refine W.eq (g2 := F0 m 13 ls [va_rf (fn i), .int (nI i), .ref ch]) rfl ?_
  refine fh_cV (q := (RX1, TX1, 4)) (As := [.int (nI i), va_rf (fn i)]) (rest := []) (b := ch) ⟨hx, hb, hml, hown, ht⟩ (c_Chg_keep l G A h _ ch ob rw nx ct fo fr hch hob hrw hn hc hA1 hA2 hA3 (nI i) (fn i) ho1) (cwV 2 ht (gV kw_370 kw_371 kw_372 kw_12 kw_373) rfl rfl rfl yd_X1_keep ⟨(Nat.le_of_ble_eq_true rfl), (Nat.le_of_ble_eq_true rfl)⟩) hP hE hS hch rfl rfl hl.1 rfl (Nat.le_of_ble_eq_true rfl) dX7_change_13 ⟨(Nat.le_of_ble_eq_true rfl), (Nat.le_of_ble_eq_true rfl)⟩ (fun v u H locs hp hP hz hS => ?_)
  obtain ⟨rfl, eu⟩ := hp
  refine W.eq (g2 := F0 m 16 ls []) rfl ?_
  have fa1 := (congrFun eu a).trans ((fh_up_ne _ _ (fh_ne ha hch rfl)).trans ((fh_up_ne _ _ (fh_ne ha hrw rfl)).trans ((fh_up_ne _ _ (fh_ne ha hob rfl)).trans (ha))))
  have fna1 := (congrFun eu na).trans ((fh_up_ne _ _ (fh_ne hna hch rfl)).trans ((fh_up_ne _ _ (fh_ne hna hrw rfl)).trans ((fh_up_ne _ _ (fh_ne hna hob rfl)).trans (hna))))
  have fnb1 := (congrFun eu nb).trans ((fh_up_ne _ _ (fh_ne hnb hch rfl)).trans ((fh_up_ne _ _ (fh_ne hnb hrw rfl)).trans ((fh_up_ne _ _ (fh_ne hnb hob rfl)).trans (hnb))))
  have ho3 : ∀ r, o = some r → ∃ vs, u r = some (.inr (5, vs)) := fun r er => by
    obtain ⟨vs, h9⟩ := ho2 r er
    exact ⟨vs, (congrFun eu r).trans (by rw [fh_up_ne _ _ (fh_ne h9 hch rfl), fh_up_ne _ _ (fh_ne h9 hrw rfl), fh_up_ne _ _ (fh_ne h9 hob rfl)]; exact h9)⟩
  refine lv_aload_n hx hb dX7_change_16 rfl (lv_at hl 0 rfl) ?_
  refine fh_get (C := RX7) (T := TX7) (N := 6) hx hb ht inX7 hown hE.1 hP fa1 rfl 2 (by decide) (ht _ kw_151) (fun _ h9 => h9) (v := .ref na) rfl dX7_change_17 ?_
  refine lv_iload_n hx hb dX7_change_20 rfl (lv_at hl 1 rfl) ?_
  refine fh_aload_n hx hb dX7_change_21 rfl (lv_at hl 2 rfl) ?_
  refine fh_cV (q := (RX8, TX8, 1)) (As := [.int (nI i), va_rf o]) (rest := []) (b := na) ⟨hx, hb, hml, hown, ht⟩ (c_St_put l G A u _ na nb i fn o fna1 fnb1 hA4 hi ho3) (cwV 2 ht (gV kw_384 kw_270 kw_271 kw_2 kw_272) rfl rfl rfl yd_X8_put ⟨(Nat.le_of_ble_eq_true rfl), (Nat.le_of_ble_eq_true rfl)⟩) hP hE hS fna1 rfl rfl hl.1 rfl (Nat.le_of_ble_eq_true rfl) dX7_change_22 ⟨(Nat.le_of_ble_eq_true rfl), (Nat.le_of_ble_eq_true rfl)⟩ (fun v u2 H locs hp hP hz hS => ?_)
  obtain ⟨rfl, eu2⟩ := hp
  refine W.eq (g2 := F0 m 25 ls []) rfl ?_
  exact fh_vret hx hb hr hlocks (⟨rfl, by rw [eu2, eu]⟩) hP hS (Nat.le_of_ble_eq_true rfl) (Nat.le_of_ble_eq_true rfl) dX7_change_25

set_option maxRecDepth 100000 in
set_option maxHeartbeats 4000000 in
theorem c_Ses_back (l : Launch) (G : fG) (A : Nat → Prop) (h : FH) (sz : Nat) (a ba na ch sd nb ob rw nx ct : Nat) (num opn : Int32) (fn : Nat → Option Nat) (fo : Nat → Int32) (fr : Nat → Option Nat) (ha : h a = some (oSes num ba na opn ch sd)) (hna : h na = some (oSt nb)) (hnb : h nb = some (aQ 1 60 fn)) (hch : h ch = some (oChg ob rw (nI nx) (nI ct))) (hob : h ob = some (aI 2 40 fo)) (hrw : h rw = some (aQ 3 40 fr)) (hn : nx < 1000000) (hc : ct ≤ 40) (hA1 : A ch) (hA2 : A ob) (hA3 : A rw) (hA4 : A nb) (hcn : ct ≤ nx) (oi : Nat) (hoi : 0 < ct → fo ((nx - 1) % 40) = nI oi ∧ oi < 60 ∧ ∀ r, fr ((nx - 1) % 40) = some r → ∃ vs, h r = some (.inr (5, vs))) : Met l yX7_takeBack wsX7_takeBack { frames := 3, cells := 0, slots := 0, locals := 65 } (va_Pc [.ref a] (fh_Pre G A h sz)) (fh_Q G (fun v u => (ct = 0 ∧ v = some (.int 0) ∧ u = h) ∨ (0 < ct ∧ v = some (.int 1) ∧ u = fh_up (fh_up h ch (oChg ob rw (nI (nx - 1)) (nI (ct - 1)))) nb (aQ 1 60 (va_up fn oi (fr ((nx - 1) % 40)))))) A) 0 0 A := by
  refine fh_Met [.ref a] (by decide) rfl (Nat.le_of_ble_eq_true rfl) ?_
  intro p e s m below meth c hx hb hr hlocks hml hown hnm hts hsz hP hE hS ls hl
  have ht : ∀ w ∈ wB, w.before _ s = true := fun w h9 => hts w (List.mem_cons_of_mem _ h9)
  have hl : lv_has ls 1 [(0, .ref a)] := hl
  refine lv_aload_n hx hb dX7_takeBack_0 rfl (lv_at hl 0 rfl) ?_
  refine fh_get (C := RX7) (T := TX7) (N := 6) hx hb ht inX7 hown hE.1 hP ha rfl 4 (by decide) (ht _ kw_155) (fun _ h9 => h9) (v := .ref ch) rfl dX7_takeBack_1 ?_
  refine fh_cV (q := (RX1, TX1, 4)) (As := []) (rest := []) (b := ch) ⟨hx, hb, hml, hown, ht⟩ (c_Chg_back l G A h _ ch ob rw nx ct fo fr hch hob hrw hn hc hA1 hcn) (cwV 0 ht (gV kw_622 kw_623 kw_624 kw_12 kw_625) rfl rfl rfl yd_X1_stepBack ⟨(Nat.le_of_ble_eq_true rfl), (Nat.le_of_ble_eq_true rfl)⟩) hP hE hS hch rfl rfl hl.1 rfl (Nat.le_of_ble_eq_true rfl) dX7_takeBack_4 ⟨(Nat.le_of_ble_eq_true rfl), (Nat.le_of_ble_eq_true rfl)⟩ (fun v u H locs hp hP hz hS => ?_)
  rcases hp with ⟨c0, rfl, eu⟩ | ⟨c0, rfl, eu⟩
  · rw [eu] at hP
    refine W.eq (g2 := F0 m 7 ls [.int 0]) rfl ?_
    refine lv_if_ne (tgt := 12) hx hb dX7_takeBack_7 (by decide) (fun c9 => absurd (rfl) c9) (fun _ => ?_)
    refine lv_iconst (v := (nI 0)) hx hb dX7_takeBack_10 (by decide) ?_
    exact fh_zret hx hb hr hlocks rfl (Or.inl ⟨c0, rfl, rfl⟩) hP hS (Nat.le_of_ble_eq_true rfl) (Nat.le_of_ble_eq_true rfl) dX7_takeBack_11
  · refine W.eq (g2 := F0 m 7 ls [.int 1]) rfl ?_
    refine lv_if_ne (tgt := 12) hx hb dX7_takeBack_7 (by decide) (fun _ => ?_) (fun c9 => absurd c9 (by decide))
    obtain ⟨q1, q2, q3⟩ := hoi c0
    have hn2 : (nx - 1) < 1000000 := by omega
    have fa1 := (congrFun eu a).trans ((fh_up_ne _ _ (fh_ne ha hch rfl)).trans (ha))
    have fna1 := (congrFun eu na).trans ((fh_up_ne _ _ (fh_ne hna hch rfl)).trans (hna))
    have fnb1 := (congrFun eu nb).trans ((fh_up_ne _ _ (fh_ne hnb hch rfl)).trans (hnb))
    have fob1 := (congrFun eu ob).trans ((fh_up_ne _ _ (fh_ne hob hch rfl)).trans (hob))
    have frw1 := (congrFun eu rw).trans ((fh_up_ne _ _ (fh_ne hrw hch rfl)).trans (hrw))
    have fch1 := (congrFun eu ch).trans (fh_up_self _ _ _)
    have ho3 : ∀ r, fr ((nx - 1) % 40) = some r → ∃ vs, u r = some (.inr (5, vs)) := fun r er => by
      obtain ⟨vs, h9⟩ := q3 r er
      exact ⟨vs, (congrFun eu r).trans (by rw [fh_up_ne _ _ (fh_ne h9 hch rfl)]; exact h9)⟩
    refine lv_aload_n hx hb dX7_takeBack_12 rfl (lv_at hl 0 rfl) ?_
    refine fh_get (C := RX7) (T := TX7) (N := 6) hx hb ht inX7 hown hE.1 hP fa1 rfl 2 (by decide) (ht _ kw_151) (fun _ h9 => h9) (v := .ref na) rfl dX7_takeBack_13 ?_
    refine lv_aload_n hx hb dX7_takeBack_16 rfl (lv_at hl 0 rfl) ?_
    refine fh_get (C := RX7) (T := TX7) (N := 6) hx hb ht inX7 hown hE.1 hP fa1 rfl 4 (by decide) (ht _ kw_155) (fun _ h9 => h9) (v := .ref ch) rfl dX7_takeBack_17 ?_
    refine fh_cV (q := (RX1, TX1, 4)) (As := []) (rest := [.ref na]) (b := ch) ⟨hx, hb, hml, hown, ht⟩ (c_Chg_obj l G A u _ ch ob rw (nx - 1) (nI (ct - 1)) fo fr fch1 fob1 frw1 hn2) (cwV 0 ht (gV kw_626 kw_627 kw_628 kw_12 kw_629) rfl rfl rfl yd_X1_changedObject ⟨(Nat.le_of_ble_eq_true rfl), (Nat.le_of_ble_eq_true rfl)⟩) hP hE hS fch1 rfl rfl hl.1 rfl (Nat.le_of_ble_eq_true rfl) dX7_takeBack_20 ⟨(Nat.le_of_ble_eq_true rfl), (Nat.le_of_ble_eq_true rfl)⟩ (fun v u9 H locs hp hP hz hS => ?_)
    obtain ⟨rfl, eu9⟩ := hp
    rw [eu9] at hP
    refine W.eq (g2 := F0 m 23 ls [.int (fo ((nx - 1) % 40)), .ref na]) rfl ?_
    rw [q1]
    refine lv_aload_n hx hb dX7_takeBack_23 rfl (lv_at hl 0 rfl) ?_
    refine fh_get (C := RX7) (T := TX7) (N := 6) hx hb ht inX7 hown hE.1 hP fa1 rfl 4 (by decide) (ht _ kw_155) (fun _ h9 => h9) (v := .ref ch) rfl dX7_takeBack_24 ?_
    refine fh_cV (q := (RX1, TX1, 4)) (As := []) (rest := [.int (nI oi), .ref na]) (b := ch) ⟨hx, hb, hml, hown, ht⟩ (c_Chg_row l G A u _ ch ob rw (nx - 1) (nI (ct - 1)) fo fr fch1 fob1 frw1 hn2) (cwV 0 ht (gV kw_630 kw_631 kw_632 kw_12 kw_633) rfl rfl rfl yd_X1_rowBefore ⟨(Nat.le_of_ble_eq_true rfl), (Nat.le_of_ble_eq_true rfl)⟩) hP hE hS fch1 rfl rfl hl.1 rfl (Nat.le_of_ble_eq_true rfl) dX7_takeBack_27 ⟨(Nat.le_of_ble_eq_true rfl), (Nat.le_of_ble_eq_true rfl)⟩ (fun v u9 H locs hp hP hz hS => ?_)
    obtain ⟨rfl, eu9⟩ := hp
    rw [eu9] at hP
    refine W.eq (g2 := F0 m 30 ls [va_rf (fr ((nx - 1) % 40)), .int (nI oi), .ref na]) rfl ?_
    refine fh_cV (q := (RX8, TX8, 1)) (As := [.int (nI oi), va_rf (fr ((nx - 1) % 40))]) (rest := []) (b := na) ⟨hx, hb, hml, hown, ht⟩ (c_St_put l G A u _ na nb oi fn (fr ((nx - 1) % 40)) fna1 fnb1 hA4 q2 ho3) (cwV 2 ht (gV kw_384 kw_270 kw_271 kw_2 kw_272) rfl rfl rfl yd_X8_put ⟨(Nat.le_of_ble_eq_true rfl), (Nat.le_of_ble_eq_true rfl)⟩) hP hE hS fna1 rfl rfl hl.1 rfl (Nat.le_of_ble_eq_true rfl) dX7_takeBack_30 ⟨(Nat.le_of_ble_eq_true rfl), (Nat.le_of_ble_eq_true rfl)⟩ (fun v u2 H locs hp hP hz hS => ?_)
    obtain ⟨rfl, eu2⟩ := hp
    refine W.eq (g2 := F0 m 33 ls []) rfl ?_
    refine lv_iconst (v := (nI 1)) hx hb dX7_takeBack_33 (by decide) ?_
    exact fh_zret hx hb hr hlocks rfl (Or.inr ⟨c0, rfl, by rw [eu2, eu]⟩) hP hS (Nat.le_of_ble_eq_true rfl) (Nat.le_of_ble_eq_true rfl) dX7_takeBack_34

set_option maxRecDepth 100000 in
set_option maxHeartbeats 4000000 in
theorem c_Con_init (l : Launch) (G : fG) (A : Nat → Prop) (h : FH) (sz : Nat) (hA : ∀ q, sz ≤ q → A q) (a : Nat) (hAa : A a) (ha : h a = some (.inr (2, [.null, .null, .int 0]))) : Met l yX2_init wsX2_init { frames := 1, cells := 1, slots := 360, locals := 12 } (va_Pc [.ref a] (fh_Pre G A h sz)) (fh_Q G (fun v u => ∃ q, sz ≤ q ∧ v = none ∧ u = fh_up (fh_up h q (aI 5 360 (fun _ => 0))) a (oCon none q 0)) A) 1 360 A := by
  refine fh_Met [.ref a] (by decide) rfl (Nat.le_of_ble_eq_true rfl) ?_
  intro p e s m below meth c hx hb hr hlocks hml hown hnm hts hsz hP hE hS ls hl
  have ht : ∀ w ∈ wB, w.before _ s = true := fun w h9 => hts w (List.mem_cons_of_mem _ h9)
  have hl : lv_has ls 1 [(0, .ref a)] := hl
  have hA0 : ∀ q, s.heap.size ≤ q → A q := fun q hq => hA q (by rw [← hsz]; exact hq)
  refine lv_aload_n hx hb dX2_init_0 rfl (lv_at hl 0 rfl) ?_
  refine W.objInit hx hb hown (ht _ kw_62) (ht _ kw_26) (ht _ kw_27) rfl (by rw [hml]; exact hl.1) rfl dX2_init_1 (Nat.le_of_ble_eq_true rfl) (Nat.le_of_ble_eq_true rfl) ?_
  refine W.eq (g2 := F0 m 4 ls []) rfl ?_
  refine lv_aload_n hx hb dX2_init_4 rfl (lv_at hl 0 rfl) ?_
  refine lv_sipush (v := (nI 360)) hx hb dX2_init_5 (by decide) ?_
  have hge1 := hS.1
  have hlt1 := fun (a9 : Nat) (e9 : fe) (q9 : h a9 = some e9) => hP.lt q9
  refine fh_newa (atype := .int) (t0 := .int) (N' := 360) (a0 := (360, .inl (fun _ => 0))) hx hb (ht _ kw_74) rfl hE.1 hP hS hA0 5 rfl (fun _ => rfl) (by decide) (by decide) (by decide) (Nat.le_of_ble_eq_true rfl) (Nat.le_of_ble_eq_true rfl) dX2_init_8 (fun q H eq hAq hP hz_q hS => ?_)
  obtain ⟨h_2, eh_2⟩ : ∃ z, z = fh_up h q (.inl (5, 360, .inl (fun _ => 0))) := ⟨_, rfl⟩
  have g_2_0 := (congrFun eh_2 a).trans (fh_keepN ha (Nat.ne_of_lt (by rw [eq]; exact hlt1 _ _ ha)))
  have hP : fh_P G vwCl h_2 H := by rw [eh_2]; exact hP
  have f_2 : h_2 q = some (.inl (5, 360, .inl (fun _ => 0))) := by rw [eh_2]; exact fh_up_self _ _ _
  have hsz_q : sz ≤ q := by rw [eq, ← hsz]; exact hge1
  refine fh_putF (C := RX2) (T := TX2) (N := 3) (t := (.array .int)) hx hb ht inX2 tyX2 tyX2_ok nmX2 hown hE.1 hP hS g_2_0 (hAa) rfl 1 (by decide) (ht _ kw_65) (fun _ h9 => h9) rfl hnm rfl (by decide +kernel) rfl rfl (Nat.le_of_ble_eq_true rfl) dX2_init_10 (fun H locs hP hz hS => ?_)
  obtain ⟨h_3, eh_3⟩ : ∃ z, z = fh_up h_2 a (.inr (2, [.null, .ref q, .int 0])) := ⟨_, rfl⟩
  have hP : fh_P G vwCl h_3 H := by rw [eh_3]; exact hP
  have f_3 : h_3 a = some (.inr (2, [.null, .ref q, .int 0])) := by rw [eh_3]; exact fh_up_self _ _ _
  have g_3_1 := (congrFun eh_3 q).trans (fh_keep g_2_0 f_2 rfl)
  exact fh_vret hx hb hr hlocks (⟨q, hsz_q, rfl, by rw [eh_3, eh_2]; rfl⟩) hP hS (Nat.le_of_ble_eq_true rfl) (Nat.le_of_ble_eq_true rfl) dX2_init_13

set_option maxRecDepth 100000 in
set_option maxHeartbeats 4000000 in
theorem c_Con_has (l : Launch) (G : fG) (A : Nat → Prop) (h : FH) (sz : Nat) (a cd : Nat) (ow : Option Nat) (n : Nat) (fc : Nat → Int32) (ha : h a = some (oCon ow cd (nI n))) (hcd : h cd = some (aI 5 360 fc)) (hn : n ≤ 360) (x : Int32) : Met l yX2_has wsX2_has { frames := 0, cells := 0, slots := 0, locals := 0 } (va_Pc [.ref a, .int x] (fh_Pre G A h sz)) (fh_Q G (fun v u => (v = some (.int 1) ∧ (∃ k, k < n ∧ x = nI k) ∧ u = h) ∨ (v = some (.int 0) ∧ (∀ k, k < n → x ≠ nI k) ∧ u = h)) A) 0 0 A := by
  refine fh_Met [.ref a, .int x] (by decide) rfl (Nat.le_of_ble_eq_true rfl) ?_
  intro p e s m below meth c hx hb hr hlocks hml hown hnm hts hsz hP hE hS ls hl
  have ht : ∀ w ∈ wB, w.before _ s = true := fun w h9 => hts w (List.mem_cons_of_mem _ h9)
  have hl : lv_has ls 2 [(0, .ref a), (1, .int x)] := hl
  refine lv_iload_n hx hb dX2_has_0 rfl (lv_at hl 1 rfl) ?_
  refine lv_if_lt (tgt := 16) hx hb dX2_has_1 (by decide) (fun c1 => ?_) (fun c1 => ?_)
  · refine lv_iconst (v := (nI 0)) hx hb dX2_has_16 (by decide) ?_
    exact fh_zret hx hb hr hlocks rfl (Or.inr ⟨rfl, fun k hk q => nI_pos (n := k) (by omega) (q ▸ c1), rfl⟩) hP hS (Nat.le_of_ble_eq_true rfl) (Nat.le_of_ble_eq_true rfl) dX2_has_17
  · obtain ⟨j, hj, ej⟩ := nI_of c1
    subst ej
    refine lv_iload_n hx hb dX2_has_4 rfl (lv_at hl 1 rfl) ?_
    refine lv_aload_n hx hb dX2_has_5 rfl (lv_at hl 0 rfl) ?_
    refine fh_get (C := RX2) (T := TX2) (N := 3) hx hb ht inX2 hown hE.1 hP ha rfl 2 (by decide) (ht _ kw_66) (fun _ h9 => h9) (v := .int (nI n)) rfl dX2_has_6 ?_
    refine lv_icmp_ge (tgt := 16) hx hb dX2_has_9 (by decide) (fun c2 => ?_) (fun c2 => ?_)
    · refine lv_iconst (v := (nI 0)) hx hb dX2_has_16 (by decide) ?_
      exact fh_zret hx hb hr hlocks rfl (Or.inr ⟨rfl, fun k hk q => by have z := (nI_eq hj (by omega)).mp q; exact nI_ge (a := j) (b := n) (by omega) (by omega) c2, rfl⟩) hP hS (Nat.le_of_ble_eq_true rfl) (Nat.le_of_ble_eq_true rfl) dX2_has_17
    · have hjn : j < n := by
        rcases Nat.lt_or_ge j n with z | z
        · exact z
        · exact absurd (nI_le z hj) c2
      refine lv_iconst (v := (nI 1)) hx hb dX2_has_12 (by decide) ?_
      refine lv_goto (tgt := 17) hx hb dX2_has_13 (by decide) ?_
      exact fh_zret hx hb hr hlocks rfl (Or.inl ⟨rfl, ⟨j, hjn, rfl⟩, rfl⟩) hP hS (Nat.le_of_ble_eq_true rfl) (Nat.le_of_ble_eq_true rfl) dX2_has_17

set_option maxRecDepth 100000 in
set_option maxHeartbeats 4000000 in
theorem c_Con_obj (l : Launch) (G : fG) (A : Nat → Prop) (h : FH) (sz : Nat) (a cd : Nat) (ow : Option Nat) (n : Nat) (fc : Nat → Int32) (ha : h a = some (oCon ow cd (nI n))) (hcd : h cd = some (aI 5 360 fc)) (hn : n ≤ 360) (k : Nat) (hk : k < n) : Met l yX2_objectOf wsX2_objectOf { frames := 1, cells := 0, slots := 0, locals := 24 } (va_Pc [.ref a, .int (nI k)] (fh_Pre G A h sz)) (fh_Q G (fun v u => v = some (.int (fc k / nI 8)) ∧ u = h) A) 0 0 A := by
  refine fh_Met [.ref a, .int (nI k)] (by decide) rfl (Nat.le_of_ble_eq_true rfl) ?_
  intro p e s m below meth c hx hb hr hlocks hml hown hnm hts hsz hP hE hS ls hl
  have ht : ∀ w ∈ wB, w.before _ s = true := fun w h9 => hts w (List.mem_cons_of_mem _ h9)
  have hl : lv_has ls 2 [(0, .ref a), (1, .int (nI k))] := hl
  refine lv_aload_n hx hb dX2_objectOf_0 rfl (lv_at hl 0 rfl) ?_
  refine lv_iload_n hx hb dX2_objectOf_1 rfl (lv_at hl 1 rfl) ?_
  refine fh_cV (q := (RX2, TX2, 3)) (As := [.int (nI k)]) (rest := []) (b := a) ⟨hx, hb, hml, hown, ht⟩ (c_Con_has l G A h _ a cd ow n fc ha hcd hn (nI k)) (cwV 1 ht (gV kw_440 kw_441 kw_442 kw_4 kw_443) rfl rfl rfl yd_X2_has ⟨(Nat.le_of_ble_eq_true rfl), (Nat.le_of_ble_eq_true rfl)⟩) hP hE hS ha rfl rfl hl.1 rfl (Nat.le_of_ble_eq_true rfl) dX2_objectOf_2 ⟨(Nat.le_of_ble_eq_true rfl), (Nat.le_of_ble_eq_true rfl)⟩ (fun v u H locs hp hP hz hS => ?_)
  rcases hp with ⟨rfl, -, eu⟩ | ⟨-, hno, -⟩
  · rw [eu] at hP
    refine W.eq (g2 := F0 m 5 ls [.int 1]) rfl ?_
    refine lv_if_eq (tgt := 20) hx hb dX2_objectOf_5 (by decide) (fun c9 => absurd c9 (by decide)) (fun _ => ?_)
    refine lv_aload_n hx hb dX2_objectOf_8 rfl (lv_at hl 0 rfl) ?_
    refine fh_get (C := RX2) (T := TX2) (N := 3) hx hb ht inX2 hown hE.1 hP ha rfl 1 (by decide) (ht _ kw_65) (fun _ h9 => h9) (v := .ref cd) rfl dX2_objectOf_9 ?_
    refine lv_iload_n hx hb dX2_objectOf_12 rfl (lv_at hl 1 rfl) ?_
    refine fh_iald (k := k) hx hb hE.1 hP hcd rfl (by omega) (by decide) dX2_objectOf_13 ?_
    refine lv_bipush (v := (nI 8)) hx hb dX2_objectOf_14 (by decide) ?_
    refine lv_idiv hx hb dX2_objectOf_16 (by decide) ?_
    refine lv_goto (tgt := 21) hx hb dX2_objectOf_17 (by decide) ?_
    exact fh_iret hx hb hr hlocks (⟨rfl, rfl⟩) hP hS (Nat.le_of_ble_eq_true rfl) (Nat.le_of_ble_eq_true rfl) dX2_objectOf_21
  · exact absurd rfl (hno k hk)

set_option maxRecDepth 100000 in
set_option maxHeartbeats 4000000 in
theorem c_Con_fld (l : Launch) (G : fG) (A : Nat → Prop) (h : FH) (sz : Nat) (a cd : Nat) (ow : Option Nat) (n : Nat) (fc : Nat → Int32) (ha : h a = some (oCon ow cd (nI n))) (hcd : h cd = some (aI 5 360 fc)) (hn : n ≤ 360) (k : Nat) (hk : k < n) : Met l yX2_fieldOf wsX2_fieldOf { frames := 1, cells := 0, slots := 0, locals := 24 } (va_Pc [.ref a, .int (nI k)] (fh_Pre G A h sz)) (fh_Q G (fun v u => v = some (.int (fc k - fc k / nI 8 * nI 8)) ∧ u = h) A) 0 0 A := by
  refine fh_Met [.ref a, .int (nI k)] (by decide) rfl (Nat.le_of_ble_eq_true rfl) ?_
  intro p e s m below meth c hx hb hr hlocks hml hown hnm hts hsz hP hE hS ls hl
  have ht : ∀ w ∈ wB, w.before _ s = true := fun w h9 => hts w (List.mem_cons_of_mem _ h9)
  have hl : lv_has ls 2 [(0, .ref a), (1, .int (nI k))] := hl
  refine lv_aload_n hx hb dX2_fieldOf_0 rfl (lv_at hl 0 rfl) ?_
  refine lv_iload_n hx hb dX2_fieldOf_1 rfl (lv_at hl 1 rfl) ?_
  refine fh_cV (q := (RX2, TX2, 3)) (As := [.int (nI k)]) (rest := []) (b := a) ⟨hx, hb, hml, hown, ht⟩ (c_Con_has l G A h _ a cd ow n fc ha hcd hn (nI k)) (cwV 1 ht (gV kw_440 kw_441 kw_442 kw_4 kw_443) rfl rfl rfl yd_X2_has ⟨(Nat.le_of_ble_eq_true rfl), (Nat.le_of_ble_eq_true rfl)⟩) hP hE hS ha rfl rfl hl.1 rfl (Nat.le_of_ble_eq_true rfl) dX2_fieldOf_2 ⟨(Nat.le_of_ble_eq_true rfl), (Nat.le_of_ble_eq_true rfl)⟩ (fun v u H locs hp hP hz hS => ?_)
  rcases hp with ⟨rfl, -, eu⟩ | ⟨-, hno, -⟩
  · rw [eu] at hP
    refine W.eq (g2 := F0 m 5 ls [.int 1]) rfl ?_
    refine lv_if_eq (tgt := 20) hx hb dX2_fieldOf_5 (by decide) (fun c9 => absurd c9 (by decide)) (fun _ => ?_)
    refine lv_aload_n hx hb dX2_fieldOf_8 rfl (lv_at hl 0 rfl) ?_
    refine fh_get (C := RX2) (T := TX2) (N := 3) hx hb ht inX2 hown hE.1 hP ha rfl 1 (by decide) (ht _ kw_65) (fun _ h9 => h9) (v := .ref cd) rfl dX2_fieldOf_9 ?_
    refine lv_iload_n hx hb dX2_fieldOf_12 rfl (lv_at hl 1 rfl) ?_
    refine fh_iald (k := k) hx hb hE.1 hP hcd rfl (by omega) (by decide) dX2_fieldOf_13 ?_
    refine lv_bipush (v := (nI 8)) hx hb dX2_fieldOf_14 (by decide) ?_
    refine lv_irem hx hb dX2_fieldOf_16 (by decide) ?_
    refine lv_goto (tgt := 21) hx hb dX2_fieldOf_17 (by decide) ?_
    exact fh_iret hx hb hr hlocks (⟨rfl, rfl⟩) hP hS (Nat.le_of_ble_eq_true rfl) (Nat.le_of_ble_eq_true rfl) dX2_fieldOf_21
  · exact absurd rfl (hno k hk)
