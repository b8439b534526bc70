set_option maxRecDepth 100000 in
set_option maxHeartbeats 4000000 in
theorem c_Lk_init (l : Launch) (G : fG) (A : Nat → Prop) (h : FH) (sz : Nat) (hA : ∀ q, sz ≤ q → A q) (a : Nat) (hAa : A a) (ha : h a = some (.inr (4, [.null]))) : Met l yX4_init wsX4_init { frames := 1, cells := 1, slots := 10, locals := 12 } (va_Pc [.ref a] (fh_Pre G A h sz)) (fh_Q G (fun v u => ∃ q, sz ≤ q ∧ v = none ∧ u = fh_up (fh_up h q (aQ 6 10 (fun _ => none))) a (oLocks q)) A) 1 10 A := by
  refine fh_Met [.ref a] (by decide) rfl (Nat.le_of_ble_eq_true rfl) ?_
  intro p e s m below meth c hx hb hr hlocks hml hown hnm hts hsz hP hE hS ls hl
  have ht : ∀ w ∈ wB, w.before _ s = true := fun w h9 => hts w (List.mem_cons_of_mem _ h9)
  have hl : lv_has ls 1 [(0, .ref a)] := hl
  have hA0 : ∀ q, s.heap.size ≤ q → A q := fun q hq => hA q (by rw [← hsz]; exact hq)
  refine lv_aload_n hx hb dX4_init_0 rfl (lv_at hl 0 rfl) ?_
  refine W.objInit hx hb hown (ht _ kw_48) (ht _ kw_26) (ht _ kw_27) rfl (by rw [hml]; exact hl.1) rfl dX4_init_1 (Nat.le_of_ble_eq_true rfl) (Nat.le_of_ble_eq_true rfl) ?_
  refine W.eq (g2 := F0 m 4 ls []) rfl ?_
  refine lv_aload_n hx hb dX4_init_4 rfl (lv_at hl 0 rfl) ?_
  refine lv_bipush (v := (nI 10)) hx hb dX4_init_5 (by decide) ?_
  have hge1 := hS.1
  have hlt1 := fun (a9 : Nat) (e9 : fe) (q9 : h a9 = some e9) => hP.lt q9
  refine fh_newq (N' := 10) hx hb hown (ht _ kw_49) (hE.2.2.2.2.1 "ObjectMerge$Area" (by decide)) hE.1 hP hS hA0 6 rfl (by decide) (by decide) (by decide) (Nat.le_of_ble_eq_true rfl) (Nat.le_of_ble_eq_true rfl) dX4_init_7 (fun q H eq hAq hP hz_q hS => ?_)
  obtain ⟨h_2, eh_2⟩ : ∃ z, z = fh_up h q (.inl (6, 10, .inr (.inr (.inr (.inr (fun _ => none)))))) := ⟨_, rfl⟩
  have g_2_0 := (congrFun eh_2 a).trans (fh_keepN ha (Nat.ne_of_lt (by rw [eq]; exact hlt1 _ _ ha)))
  have hP : fh_P G vwCl h_2 H := by rw [eh_2]; exact hP
  have f_2 : h_2 q = some (.inl (6, 10, .inr (.inr (.inr (.inr (fun _ => none)))))) := by rw [eh_2]; exact fh_up_self _ _ _
  have hsz_q : sz ≤ q := by rw [eq, ← hsz]; exact hge1
  refine fh_putF (C := RX4) (T := TX4) (N := 1) (t := (.array (.object "ObjectMerge$Area"))) hx hb ht inX4 tyX4 tyX4_ok nmX4 hown hE.1 hP hS g_2_0 (hAa) rfl 0 (by decide) (ht _ kw_51) (fun _ h9 => h9) rfl hnm rfl (by decide +kernel) rfl rfl (Nat.le_of_ble_eq_true rfl) dX4_init_10 (fun H locs hP hz hS => ?_)
  obtain ⟨h_3, eh_3⟩ : ∃ z, z = fh_up h_2 a (.inr (4, [.ref q])) := ⟨_, rfl⟩
  have hP : fh_P G vwCl h_3 H := by rw [eh_3]; exact hP
  have f_3 : h_3 a = some (.inr (4, [.ref q])) := by rw [eh_3]; exact fh_up_self _ _ _
  have g_3_1 := (congrFun eh_3 q).trans (fh_keep g_2_0 f_2 rfl)
  exact fh_vret hx hb hr hlocks (⟨q, hsz_q, rfl, by rw [eh_3, eh_2]⟩) hP hS (Nat.le_of_ble_eq_true rfl) (Nat.le_of_ble_eq_true rfl) dX4_init_13

set_option maxRecDepth 100000 in
set_option maxHeartbeats 4000000 in
theorem c_Lk_bar (l : Launch) (G : fG) (A : Nat → Prop) (h : FH) (sz : Nat) (a b : Nat) (fa : Nat → Option Nat) (ar : Nat → Option Ar) (ha : h a = some (oLocks b)) (hb0 : h b = some (aQ 6 10 fa)) (har : ∀ i, i < 10 → pAr h (fa i) (ar i)) (sn : Int32) (r : Nat) (f : Rw) (hr0 : pRow h r f) : Met l yX4_bar wsX4_bar { frames := 1, cells := 0, slots := 0, locals := 24 } (va_Pc [.ref a, .int sn, .ref r] (fh_Pre G A h sz)) (fh_Q G (fun v u => v = some (.int (bI (lkBar ar sn (f 0) (f 1)))) ∧ u = h) A) 0 0 A := by
  refine fh_Met [.ref a, .int sn, .ref r] (by decide) rfl (Nat.le_of_ble_eq_true rfl) ?_
  intro p e s m below meth c hx hb hr hlocks hml hown hnm hts hsz hP hE hS ls hl
  have ht : ∀ w ∈ wB, w.before _ s = true := fun w h9 => hts w (List.mem_cons_of_mem _ h9)
  have hl : lv_has ls 5 [(0, .ref a), (1, .int sn), (2, .ref r)] := hl
  obtain ⟨rb, g0, hr1, hr2, hr3⟩ := hr0
  refine lv_iconst (v := (nI 0)) hx hb dX4_bar_0 (by decide) ?_
  refine lv_istore_n (lv' := [(3, .int (nI 0)), (0, .ref a), (1, .int sn), (2, .ref r)]) hx hb dX4_bar_1 rfl hl (by decide) rfl (fun ls hl => ?_)
  have loop : ∀ (n i : Nat), i + n = 10 → ∀ (_ : ∀ k, k < i → lkHit (ar k) sn (f 0) (f 1) = false), ∀ (H : Heap) (locs : List Loc) (ls : Array Slot), fh_P G vwCl h H → va_S A s.heap H locs → lv_has ls 5 [(3, .int (nI i)), (0, .ref a), (1, .int sn), (2, .ref r)] → W p l e (headSpec wsX4_bar { frames := 1, cells := 0, slots := 0, locals := 24 }).room s m [.ref a, .int sn, .ref r].toArray below meth c H locs 0 0 (MQ below (fh_Q G (fun v u => v = some (.int (bI (lkBar ar sn (f 0) (f 1)))) ∧ u = h) A) [.ref a, .int sn, .ref r].toArray s 0 0 A) (F0 m 2 ls []) := by
    intro n
    induction n with
    | zero =>
      intro i hin hk H locs ls hP hS hl
      refine lv_iload_n hx hb dX4_bar_2 rfl (lv_at hl 0 rfl) ?_
      refine lv_bipush (v := (nI 10)) hx hb dX4_bar_3 (by decide) ?_
      refine lv_icmp_ge (tgt := 56) hx hb dX4_bar_5 (by decide) (fun _ => ?_) (fun c9 => absurd (nI_le (by omega) (by omega)) c9)
      refine lv_iconst (v := (nI 0)) hx hb dX4_bar_56 (by decide) ?_
      exact fh_zret hx hb hr hlocks rfl (⟨congrArg (fun z => some (Value.int z)) (bI_0 (any10_f (fun k hk9 => hk k (by omega)))), rfl⟩) hP hS (Nat.le_of_ble_eq_true rfl) (Nat.le_of_ble_eq_true rfl) dX4_bar_57
    | succ n ih =>
      intro i hin hk H locs ls hP hS hl
      refine lv_iload_n hx hb dX4_bar_2 rfl (lv_at hl 0 rfl) ?_
      refine lv_bipush (v := (nI 10)) hx hb dX4_bar_3 (by decide) ?_
      refine lv_icmp_ge (tgt := 56) hx hb dX4_bar_5 (by decide) (fun c9 => absurd c9 (nI_ge (by omega) (by decide))) (fun _ => ?_)
      refine lv_aload_n hx hb dX4_bar_8 rfl (lv_at hl 1 rfl) ?_
      refine fh_get (C := RX4) (T := TX4) (N := 1) hx hb ht inX4 hown hE.1 hP ha rfl 0 (by decide) (ht _ kw_51) (fun _ h9 => h9) (v := .ref b) rfl dX4_bar_9 ?_
      refine lv_iload_n hx hb dX4_bar_12 rfl (lv_at hl 0 rfl) ?_
      refine fh_aald (k := i) hx hb hE.1 hP hb0 rfl (by omega) (by decide) dX4_bar_13 ?_
      have hi := har i (by omega)
      generalize efi : fa i = o at hi ⊢
      refine fh_astore (lv' := [(4, va_rf o), (3, .int (nI i)), (0, .ref a), (1, .int sn), (2, .ref r)]) hx hb dX4_bar_14 hl (by decide) rfl (fun ls hl => ?_)
      refine fh_aload hx hb dX4_bar_16 (lv_at hl 0 rfl) ?_
      refine fh_ifnull (tgt := 50) hx hb dX4_bar_18 (by decide) (fun eo => ?_) (fun x eo => ?_)
      · subst eo; have e8 := pAr_none hi
        have hl : lv_has ls 5 [(4, .null), (3, .int (nI i)), (0, .ref a), (1, .int sn), (2, .ref r)] := hl
        refine lv_iinc (v := nI (i + 1)) (lv' := [(3, .int (nI (i + 1))), (4, .null), (0, .ref a), (1, .int sn), (2, .ref r)]) hx hb dX4_bar_50 hl (k := 1) rfl (nI_1 _) (by decide) rfl (fun ls hl => ?_)
        refine lv_goto (tgt := 2) hx hb dX4_bar_53 (by decide) ?_
        exact ih (i + 1) (by omega) (lt_s hk (by rw [e8]; rfl)) H locs ls hP hS (lv_sub hl [0, 2, 3, 4] rfl)
      · subst eo; obtain ⟨x1, e8, hx1⟩ := pAr_some hi
        have hl : lv_has ls 5 [(4, .ref x), (3, .int (nI i)), (0, .ref a), (1, .int sn), (2, .ref r)] := hl
        refine lv_aload hx hb dX4_bar_21 (lv_at hl 0 rfl) ?_
        refine fh_get (C := RX0) (T := TX0) (N := 5) hx hb ht inX0 hown hE.1 hP hx1 rfl 0 (by decide) (ht _ kw_524) (fun _ h9 => h9) (v := .int x1.1) rfl dX4_bar_23 ?_
        refine lv_iload_n hx hb dX4_bar_26 rfl (lv_at hl 3 rfl) ?_
        refine lv_icmp_eq (tgt := 50) hx hb dX4_bar_27 (by decide) (fun c1 => ?_) (fun c1 => ?_)
        · refine lv_iinc (v := nI (i + 1)) (lv' := [(3, .int (nI (i + 1))), (4, .ref x), (0, .ref a), (1, .int sn), (2, .ref r)]) hx hb dX4_bar_50 hl (k := 1) rfl (nI_1 _) (by decide) rfl (fun ls hl => ?_)
          refine lv_goto (tgt := 2) hx hb dX4_bar_53 (by decide) ?_
          exact ih (i + 1) (by omega) (lt_s hk (by rw [e8]; simp [lkHit, c1])) H locs ls hP hS (lv_sub hl [0, 2, 3, 4] rfl)
        · refine lv_aload hx hb dX4_bar_30 (lv_at hl 0 rfl) ?_
          refine lv_aload_n hx hb dX4_bar_32 rfl (lv_at hl 4 rfl) ?_
          refine lv_iconst (v := (nI 0)) hx hb dX4_bar_33 (by decide) ?_
          refine fh_cV (q := (RX5, TX5, 1)) (As := [.int (nI 0)]) (rest := [.ref x]) (b := r) ⟨hx, hb, hml, hown, ht⟩ (c_Row_value l G A h _ r rb 0 g0 hr1 hr2 (by decide)) (cwV 1 ht (gV kw_354 kw_347 kw_348 kw_10 kw_349) rfl rfl rfl yd_X5_value ⟨(Nat.le_of_ble_eq_true rfl), (Nat.le_of_ble_eq_true rfl)⟩) hP hE hS hr1 rfl rfl hl.1 rfl (Nat.le_of_ble_eq_true rfl) dX4_bar_34 ⟨(Nat.le_of_ble_eq_true rfl), (Nat.le_of_ble_eq_true rfl)⟩ (fun v u H locs hp hP hz hS => ?_)
          obtain ⟨rfl, eu⟩ := hp
          rw [eu] at hP
          refine W.eq (g2 := F0 m 37 ls [.long (g0 0), .ref x]) rfl ?_
          refine lv_aload_n hx hb dX4_bar_37 rfl (lv_at hl 4 rfl) ?_
          refine lv_iconst (v := (nI 1)) hx hb dX4_bar_38 (by decide) ?_
          refine fh_cV (q := (RX5, TX5, 1)) (As := [.int (nI 1)]) (rest := [.long (g0 0), .ref x]) (b := r) ⟨hx, hb, hml, hown, ht⟩ (c_Row_value l G A h _ r rb 1 g0 hr1 hr2 (by decide)) (cwV 1 ht (gV kw_354 kw_347 kw_348 kw_10 kw_349) rfl rfl rfl yd_X5_value ⟨(Nat.le_of_ble_eq_true rfl), (Nat.le_of_ble_eq_true rfl)⟩) hP hE hS hr1 rfl rfl hl.1 rfl (Nat.le_of_ble_eq_true rfl) dX4_bar_39 ⟨(Nat.le_of_ble_eq_true rfl), (Nat.le_of_ble_eq_true rfl)⟩ (fun v u H locs hp hP hz hS => ?_)
          obtain ⟨rfl, eu⟩ := hp
          rw [eu] at hP
          refine W.eq (g2 := F0 m 42 ls [.long (g0 1), .long (g0 0), .ref x]) rfl ?_
          refine fh_cV (q := (RX0, TX0, 5)) (As := [.long (g0 0), .long (g0 1)]) (rest := []) (b := x) ⟨hx, hb, hml, hown, ht⟩ (c_Area_holds l G A h _ x x1.1 x1.2.1 x1.2.2.1 x1.2.2.2.1 x1.2.2.2.2 (g0 0) (g0 1) hx1) (cwV 2 ht (gV kw_355 kw_356 kw_357 kw_16 kw_358) rfl rfl rfl yd_X0_holds ⟨(Nat.le_of_ble_eq_true rfl), (Nat.le_of_ble_eq_true rfl)⟩) hP hE hS hx1 rfl rfl hl.1 rfl (Nat.le_of_ble_eq_true rfl) dX4_bar_42 ⟨(Nat.le_of_ble_eq_true rfl), (Nat.le_of_ble_eq_true rfl)⟩ (fun v u H locs hp hP hz hS => ?_)
          obtain ⟨rfl, eu⟩ := hp
          rw [eu] at hP
          refine W.eq (g2 := F0 m 45 ls [.int (bI (arHolds x1.2.1 x1.2.2.1 x1.2.2.2.1 x1.2.2.2.2 (g0 0) (g0 1)))]) rfl ?_
          rw [hr3 0 (by decide), hr3 1 (by decide)]
          refine lv_if_eq (tgt := 50) hx hb dX4_bar_45 (by decide) (fun c2 => ?_) (fun c2 => ?_)
          · refine lv_iinc (v := nI (i + 1)) (lv' := [(3, .int (nI (i + 1))), (4, .ref x), (0, .ref a), (1, .int sn), (2, .ref r)]) hx hb dX4_bar_50 hl (k := 1) rfl (nI_1 _) (by decide) rfl (fun ls hl => ?_)
            refine lv_goto (tgt := 2) hx hb dX4_bar_53 (by decide) ?_
            exact ih (i + 1) (by omega) (lt_s hk (by rw [e8]; simp [lkHit, bI_eq.mp c2])) H locs ls hP hS (lv_sub hl [0, 2, 3, 4] rfl)
          · refine lv_iconst (v := (nI 1)) hx hb dX4_bar_48 (by decide) ?_
            exact fh_zret hx hb hr hlocks rfl (⟨congrArg (fun z => some (Value.int z)) (bI_1 (any10_t (i := i) (by omega) (by rw [e8]; simp [lkHit, c1, show arHolds x1.2.1 x1.2.2.1 x1.2.2.2.1 x1.2.2.2.2 (f 0) (f 1) = true from by cases hq : arHolds x1.2.1 x1.2.2.1 x1.2.2.2.1 x1.2.2.2.2 (f 0) (f 1) with | true => rfl | false => exact absurd (bI_eq.mpr hq) c2]))), rfl⟩) hP hS (Nat.le_of_ble_eq_true rfl) (Nat.le_of_ble_eq_true rfl) dX4_bar_49
  exact loop 10 0 (by omega) (fun k hk => absurd hk (Nat.not_lt_zero k)) _ _ _ hP hS hl
