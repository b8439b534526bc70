set_option maxRecDepth 100000 in
set_option maxHeartbeats 4000000 in
theorem m_far (l : Launch) (G : fG) (A : Nat → Prop) (h : FH) (sz : Nat) (x y : Int64) : Met l yX10_far wsX10_far { frames := 0, cells := 0, slots := 0, locals := 0 } (va_Pc [.long x, .long y] (fh_Pre G A h sz)) (fh_Q G (fun v u => v = some (.long (cutF (wdF x y))) ∧ u = h) A) 0 0 A := by
  refine fh_Met [.long x, .long y] (by decide) rfl (Nat.le_of_ble_eq_true rfl) ?_
  intro p e s m below meth c hx hb hr hlocks hml hown hnm hts hsz hP hE hS ls hl
  have ht : ∀ w ∈ wB, w.before _ s = true := fun w h9 => hts w (List.mem_cons_of_mem _ h9)
  have hl : lv_has ls 10 [(0, .long x), (2, .long y)] := hl
  refine lv_lload_n hx hb dX10_far_0 rfl (lv_at hl 0 rfl) ?_
  refine lv_lload_n hx hb dX10_far_1 rfl (lv_at hl 1 rfl) ?_
  refine W.lcmp hx hb dX10_far_2 ?_
  refine lv_if_ge (tgt := 10) hx hb dX10_far_3 (by decide) (fun c1 => ?_) (fun c1 => ?_)
  · have ewd : x - y = wdF x y := by unfold wdF; have z := (lg_cmp_ge _ _).mp c1; have z2 : ¬ x < y := (by rw [Int64.lt_iff_toInt_lt]; rw [Int64.le_iff_toInt_le] at z; omega); rw [if_neg z2, if_neg z2]
    refine lv_lload_n hx hb dX10_far_10 rfl (lv_at hl 1 rfl) ?_
    refine lv_lstore (lv' := [(4, .long y), (0, .long x), (2, .long y)]) hx hb dX10_far_11 hl (by decide) rfl (fun ls hl => ?_)
    refine lv_lload_n hx hb dX10_far_13 rfl (lv_at hl 1 rfl) ?_
    refine lv_lload_n hx hb dX10_far_14 rfl (lv_at hl 2 rfl) ?_
    refine W.lcmp hx hb dX10_far_15 ?_
    refine lv_if_ge (tgt := 23) hx hb dX10_far_16 (by decide) (fun _ => ?_) (fun c9 => absurd (c1) c9)
    refine lv_lload_n hx hb dX10_far_23 rfl (lv_at hl 1 rfl) ?_
    refine lv_lstore (lv' := [(6, .long x), (4, .long y), (0, .long x), (2, .long y)]) hx hb dX10_far_24 hl (by decide) rfl (fun ls hl => ?_)
    refine lv_lload hx hb dX10_far_26 (lv_at hl 0 rfl) ?_
    refine lv_lload hx hb dX10_far_28 (lv_at hl 1 rfl) ?_
    refine lv_lsub hx hb dX10_far_30 ?_
    refine lv_topl (fun z9 ez9 => ?_)
    rw [show z9 = wdF x y from ez9.trans (ewd)]
    refine lv_lstore (lv' := [(8, .long (wdF x y)), (6, .long x), (4, .long y), (0, .long x), (2, .long y)]) hx hb dX10_far_31 hl (by decide) rfl (fun ls hl => ?_)
    refine lv_lload hx hb dX10_far_33 (lv_at hl 0 rfl) ?_
    refine lv_lconst (v := 0) hx hb dX10_far_35 (by decide) ?_
    refine W.lcmp hx hb dX10_far_36 ?_
    refine lv_if_lt (tgt := 49) hx hb dX10_far_37 (by decide) (fun c2 => ?_) (fun c2 => ?_)
    · have e1 := (lg_cmp_lt _ _).mp c2
      refine lv_ldc2 (v := 2000000000) hx hb hown (ht _ kw_977) dX10_far_49 ?_
      refine lv_goto (tgt := 57) hx hb dX10_far_52 (by decide) ?_
      exact fh_lret hx hb hr hlocks (⟨by unfold cutF; rw [if_pos (Or.inl e1)], rfl⟩) hP hS (Nat.le_of_ble_eq_true rfl) (Nat.le_of_ble_eq_true rfl) dX10_far_57
    · have e1 := mt (lg_cmp_lt _ _).mpr c2
      refine lv_lload hx hb dX10_far_40 (lv_at hl 0 rfl) ?_
      refine lv_ldc2 (v := 2000000000) hx hb hown (ht _ kw_977) dX10_far_42 ?_
      refine W.lcmp hx hb dX10_far_45 ?_
      refine lv_if_le (tgt := 55) hx hb dX10_far_46 (by decide) (fun c3 => ?_) (fun c3 => ?_)
      · have e2 : ¬ (2000000000 : Int64) < wdF x y := by have z := (lg_cmp_le _ _).mp c3; rw [Int64.le_iff_toInt_le] at z; rw [Int64.lt_iff_toInt_lt]; omega
        refine lv_lload hx hb dX10_far_55 (lv_at hl 0 rfl) ?_
        exact fh_lret hx hb hr hlocks (⟨by unfold cutF; rw [if_neg (fun q => q.elim e1 e2)], rfl⟩) hP hS (Nat.le_of_ble_eq_true rfl) (Nat.le_of_ble_eq_true rfl) dX10_far_57
      · have e2 : (2000000000 : Int64) < wdF x y := by have z := mt (lg_cmp_le _ _).mpr c3; rw [Int64.le_iff_toInt_le] at z; rw [Int64.lt_iff_toInt_lt]; omega
        refine lv_ldc2 (v := 2000000000) hx hb hown (ht _ kw_977) dX10_far_49 ?_
        refine lv_goto (tgt := 57) hx hb dX10_far_52 (by decide) ?_
        exact fh_lret hx hb hr hlocks (⟨by unfold cutF; rw [if_pos (Or.inr e2)], rfl⟩) hP hS (Nat.le_of_ble_eq_true rfl) (Nat.le_of_ble_eq_true rfl) dX10_far_57
  · have ewd : y - x = wdF x y := by unfold wdF; have z := mt (lg_cmp_ge _ _).mpr c1; have z2 : x < y := (by rw [Int64.lt_iff_toInt_lt]; rw [Int64.le_iff_toInt_le] at z; omega); rw [if_pos z2, if_pos z2]
    refine lv_lload_n hx hb dX10_far_6 rfl (lv_at hl 0 rfl) ?_
    refine lv_goto (tgt := 11) hx hb dX10_far_7 (by decide) ?_
    refine lv_lstore (lv' := [(4, .long x), (0, .long x), (2, .long y)]) hx hb dX10_far_11 hl (by decide) rfl (fun ls hl => ?_)
    refine lv_lload_n hx hb dX10_far_13 rfl (lv_at hl 1 rfl) ?_
    refine lv_lload_n hx hb dX10_far_14 rfl (lv_at hl 2 rfl) ?_
    refine W.lcmp hx hb dX10_far_15 ?_
    refine lv_if_ge (tgt := 23) hx hb dX10_far_16 (by decide) (fun c9 => absurd c9 (c1)) (fun _ => ?_)
    refine lv_lload_n hx hb dX10_far_19 rfl (lv_at hl 2 rfl) ?_
    refine lv_goto (tgt := 24) hx hb dX10_far_20 (by decide) ?_
    refine lv_lstore (lv' := [(6, .long y), (4, .long x), (0, .long x), (2, .long y)]) hx hb dX10_far_24 hl (by decide) rfl (fun ls hl => ?_)
    refine lv_lload hx hb dX10_far_26 (lv_at hl 0 rfl) ?_
    refine lv_lload hx hb dX10_far_28 (lv_at hl 1 rfl) ?_
    refine lv_lsub hx hb dX10_far_30 ?_
    refine lv_topl (fun z9 ez9 => ?_)
    rw [show z9 = wdF x y from ez9.trans (ewd)]
    refine lv_lstore (lv' := [(8, .long (wdF x y)), (6, .long y), (4, .long x), (0, .long x), (2, .long y)]) hx hb dX10_far_31 hl (by decide) rfl (fun ls hl => ?_)
    refine lv_lload hx hb dX10_far_33 (lv_at hl 0 rfl) ?_
    refine lv_lconst (v := 0) hx hb dX10_far_35 (by decide) ?_
    refine W.lcmp hx hb dX10_far_36 ?_
    refine lv_if_lt (tgt := 49) hx hb dX10_far_37 (by decide) (fun c2 => ?_) (fun c2 => ?_)
    · have e1 := (lg_cmp_lt _ _).mp c2
      refine lv_ldc2 (v := 2000000000) hx hb hown (ht _ kw_977) dX10_far_49 ?_
      refine lv_goto (tgt := 57) hx hb dX10_far_52 (by decide) ?_
      exact fh_lret hx hb hr hlocks (⟨by unfold cutF; rw [if_pos (Or.inl e1)], rfl⟩) hP hS (Nat.le_of_ble_eq_true rfl) (Nat.le_of_ble_eq_true rfl) dX10_far_57
    · have e1 := mt (lg_cmp_lt _ _).mpr c2
      refine lv_lload hx hb dX10_far_40 (lv_at hl 0 rfl) ?_
      refine lv_ldc2 (v := 2000000000) hx hb hown (ht _ kw_977) dX10_far_42 ?_
      refine W.lcmp hx hb dX10_far_45 ?_
      refine lv_if_le (tgt := 55) hx hb dX10_far_46 (by decide) (fun c3 => ?_) (fun c3 => ?_)
      · have e2 : ¬ (2000000000 : Int64) < wdF x y := by have z := (lg_cmp_le _ _).mp c3; rw [Int64.le_iff_toInt_le] at z; rw [Int64.lt_iff_toInt_lt]; omega
        refine lv_lload hx hb dX10_far_55 (lv_at hl 0 rfl) ?_
        exact fh_lret hx hb hr hlocks (⟨by unfold cutF; rw [if_neg (fun q => q.elim e1 e2)], rfl⟩) hP hS (Nat.le_of_ble_eq_true rfl) (Nat.le_of_ble_eq_true rfl) dX10_far_57
      · have e2 : (2000000000 : Int64) < wdF x y := by have z := mt (lg_cmp_le _ _).mpr c3; rw [Int64.le_iff_toInt_le] at z; rw [Int64.lt_iff_toInt_lt]; omega
        refine lv_ldc2 (v := 2000000000) hx hb hown (ht _ kw_977) dX10_far_49 ?_
        refine lv_goto (tgt := 57) hx hb dX10_far_52 (by decide) ?_
        exact fh_lret hx hb hr hlocks (⟨by unfold cutF; rw [if_pos (Or.inr e2)], rfl⟩) hP hS (Nat.le_of_ble_eq_true rfl) (Nat.le_of_ble_eq_true rfl) dX10_far_57

set_option maxRecDepth 100000 in
set_option maxHeartbeats 4000000 in
theorem m_isBroken (l : Launch) (G : fG) (A : Nat → Prop) (h : FH) (sz : Nat) {ma : Nat} {b : Nat → Nat} {th : Int32} {no nv ns J nc nl nr : Nat} {fK : Nat → Int32} {fH : Nat → Int32} {fF : Nat → Int64} {fB : Nat → Int32} {fO : Nat → Int32} {fW : Nat → Int32} {fV : Nat → Int64} {fN : Nat → Int32} {cO : Nat → Int32} {cF : Nat → Int32} {cH : Nat → Int32} {cV : Nat → Int64} {fS : Nat → Int32} {fC : Nat → Int32} {lO : Nat → Int32} {lA : Nat → Int64} {rA : Nat → Int32} {rB : Nat → Int32} {rD : Nat → Int64} {fM : Nat → Int32} (hM : MG A h h ma b th no nv ns J nc nl nr fK fH fF fB fO fW fV fN cO cF cH cV fS fC lO lA rA rB rD fM) (r : Nat) (hr20 : r < 20) (hnv0 : 0 < nv) (hnv : nv ≤ 40) (zH : bz fH) (T : St) (hrel : relR (rw1 fH (nv - 1)) (rx1 fF (nv - 1)) T) (q9 : Nat × Nat × Int64) (g1 : rA r = nI q9.1) (g2 : rB r = nI q9.2.1) (g3 : rD r = q9.2.2) (hb1 : q9.1 < 60) (hb2 : q9.2.1 < 60) (hd0 : ¬ q9.2.2 < 0) (hd1 : ¬ 1000000000 < q9.2.2) : Met l yX10_isBroken wsX10_isBroken { frames := 2, cells := 0, slots := 0, locals := 60 } (va_Pc [.ref ma, .int (nI r)] (fh_Pre G A h sz)) (fh_Q G (fun v u => v = some (.int (bI (rlBroken (T q9.1) (T q9.2.1) q9.2.2))) ∧ u = h) A) 0 0 A := by
  refine fh_Met [.ref ma, .int (nI r)] (by decide) rfl (Nat.le_of_ble_eq_true rfl) ?_
  intro p e s m below meth c hx hb hr hlocks hml hown hnm hts hsz hP hE hS ls hl
  have ht : ∀ w ∈ wB, w.before _ s = true := fun w h9 => hts w (List.mem_cons_of_mem _ h9)
  have hl : lv_has ls 4 [(0, .ref ma), (1, .int (nI r))] := hl
  refine lv_aload_n hx hb dX10_isBroken_0 rfl (lv_at hl 0 rfl) ?_
  refine fh_get (C := RX10) (T := TX10) (N := 28) hx hb ht inX10 hown hE.1 hP hM.m rfl 24 (by decide) (ht _ kw_714) (fun _ h9 => h9) (v := .ref (b 28)) rfl dX10_isBroken_1 ?_
  refine lv_iload_n hx hb dX10_isBroken_4 rfl (lv_at hl 1 rfl) ?_
  refine fh_iald (k := r) hx hb hE.1 hP hM.a28 rfl (hr20) (by decide) dX10_isBroken_5 ?_
  rw [g1]
  refine lv_istore_n (lv' := [(2, .int (nI q9.1)), (0, .ref ma), (1, .int (nI r))]) hx hb dX10_isBroken_6 rfl hl (by decide) rfl (fun ls hl => ?_)
  refine lv_aload_n hx hb dX10_isBroken_7 rfl (lv_at hl 1 rfl) ?_
  refine fh_get (C := RX10) (T := TX10) (N := 28) hx hb ht inX10 hown hE.1 hP hM.m rfl 25 (by decide) (ht _ kw_715) (fun _ h9 => h9) (v := .ref (b 29)) rfl dX10_isBroken_8 ?_
  refine lv_iload_n hx hb dX10_isBroken_11 rfl (lv_at hl 2 rfl) ?_
  refine fh_iald (k := r) hx hb hE.1 hP hM.a29 rfl (hr20) (by decide) dX10_isBroken_12 ?_
  rw [g2]
  refine lv_istore_n (lv' := [(3, .int (nI q9.2.1)), (2, .int (nI q9.1)), (0, .ref ma), (1, .int (nI r))]) hx hb dX10_isBroken_13 rfl hl (by decide) rfl (fun ls hl => ?_)
  refine lv_aload_n hx hb dX10_isBroken_14 rfl (lv_at hl 2 rfl) ?_
  refine lv_iload_n hx hb dX10_isBroken_15 rfl (lv_at hl 1 rfl) ?_
  refine fh_cV (q := (RX10, TX10, 28)) (As := [.int (nI q9.1)]) (rest := []) (b := ma) ⟨hx, hb, hml, hown, ht⟩ (m_headHas l G A h _ hM hnv0 hnv q9.1 hb1 zH) (cwV 1 ht (gV kw_874 kw_876 kp_29 kw_5 kw_877) rfl rfl rfl yd_X10_headHas ⟨(Nat.le_of_ble_eq_true rfl), (Nat.le_of_ble_eq_true rfl)⟩) hP hE hS hM.m rfl rfl hl.1 rfl (Nat.le_of_ble_eq_true rfl) dX10_isBroken_16 ⟨(Nat.le_of_ble_eq_true rfl), (Nat.le_of_ble_eq_true rfl)⟩ (fun v u H locs hp hP hz hS => ?_)
  rw [show fH (60 * (nv - 1) + q9.1) = bI (T q9.1).isSome from (hrel q9.1 hb1).1] at hp
  obtain ⟨rfl, eu⟩ := hp
  rw [eu] at hP
  refine W.eq (g2 := F0 m 19 ls [.int (bI (T q9.1).isSome)]) rfl ?_
  refine lv_if_eq (tgt := 30) hx hb dX10_isBroken_19 (by decide) (fun d1 => ?_) (fun d1 => ?_)
  · have e1 : T q9.1 = none := by have z := bI_eq.mp d1; revert z; cases T q9.1 <;> simp
    refine lv_iconst (v := (nI 0)) hx hb dX10_isBroken_30 (by decide) ?_
    exact fh_zret hx hb hr hlocks rfl (⟨congrArg (fun z => some (Value.int z)) (by rw [e1]; rfl), rfl⟩) hP hS (Nat.le_of_ble_eq_true rfl) (Nat.le_of_ble_eq_true rfl) dX10_isBroken_31
  · obtain ⟨r1, e1⟩ : ∃ r1, T q9.1 = some r1 := Option.isSome_iff_exists.mp (bI_nz d1)
    refine lv_aload_n hx hb dX10_isBroken_22 rfl (lv_at hl 2 rfl) ?_
    refine lv_iload_n hx hb dX10_isBroken_23 rfl (lv_at hl 0 rfl) ?_
    refine fh_cV (q := (RX10, TX10, 28)) (As := [.int (nI q9.2.1)]) (rest := []) (b := ma) ⟨hx, hb, hml, hown, ht⟩ (m_headHas l G A h _ hM hnv0 hnv q9.2.1 hb2 zH) (cwV 1 ht (gV kw_874 kw_876 kp_29 kw_5 kw_877) rfl rfl rfl yd_X10_headHas ⟨(Nat.le_of_ble_eq_true rfl), (Nat.le_of_ble_eq_true rfl)⟩) hP hE hS hM.m rfl rfl hl.1 rfl (Nat.le_of_ble_eq_true rfl) dX10_isBroken_24 ⟨(Nat.le_of_ble_eq_true rfl), (Nat.le_of_ble_eq_true rfl)⟩ (fun v u H locs hp hP hz hS => ?_)
    rw [show fH (60 * (nv - 1) + q9.2.1) = bI (T q9.2.1).isSome from (hrel q9.2.1 hb2).1] at hp
    obtain ⟨rfl, eu⟩ := hp
    rw [eu] at hP
    refine W.eq (g2 := F0 m 27 ls [.int (bI (T q9.2.1).isSome)]) rfl ?_
    refine lv_if_ne (tgt := 32) hx hb dX10_isBroken_27 (by decide) (fun d2 => ?_) (fun d2 => ?_)
    · obtain ⟨r2, e2⟩ : ∃ r2, T q9.2.1 = some r2 := Option.isSome_iff_exists.mp (bI_nz d2)
      refine lv_aload_n hx hb dX10_isBroken_32 rfl (lv_at hl 2 rfl) ?_
      refine lv_iload_n hx hb dX10_isBroken_33 rfl (lv_at hl 1 rfl) ?_
      refine lv_iconst (v := (nI 0)) hx hb dX10_isBroken_34 (by decide) ?_
      refine fh_cV (q := (RX10, TX10, 28)) (As := [.int (nI q9.1), .int (nI 0)]) (rest := []) (b := ma) ⟨hx, hb, hml, hown, ht⟩ (m_headVal l G A h _ hM hnv0 hnv q9.1 0 hb1 (by decide)) (cwV 2 ht (gV kw_882 kw_884 kp_31 kw_5 kw_885) rfl rfl rfl yd_X10_headValue ⟨(Nat.le_of_ble_eq_true rfl), (Nat.le_of_ble_eq_true rfl)⟩) hP hE hS hM.m rfl rfl hl.1 rfl (Nat.le_of_ble_eq_true rfl) dX10_isBroken_35 ⟨(Nat.le_of_ble_eq_true rfl), (Nat.le_of_ble_eq_true rfl)⟩ (fun v u H locs hp hP hz hS => ?_)
      rw [show fF (360 * (nv - 1) + 6 * q9.1 + 0) = r1 0 from by rw [Nat.add_assoc]; exact (hrel q9.1 hb1).2 r1 e1 0 (by decide)] at hp
      obtain ⟨rfl, eu⟩ := hp
      rw [eu] at hP
      refine W.eq (g2 := F0 m 38 ls [.long (r1 0)]) rfl ?_
      refine lv_aload_n hx hb dX10_isBroken_38 rfl (lv_at hl 2 rfl) ?_
      refine lv_iload_n hx hb dX10_isBroken_39 rfl (lv_at hl 0 rfl) ?_
      refine lv_iconst (v := (nI 0)) hx hb dX10_isBroken_40 (by decide) ?_
      refine fh_cV (q := (RX10, TX10, 28)) (As := [.int (nI q9.2.1), .int (nI 0)]) (rest := [.long (r1 0)]) (b := ma) ⟨hx, hb, hml, hown, ht⟩ (m_headVal l G A h _ hM hnv0 hnv q9.2.1 0 hb2 (by decide)) (cwV 2 ht (gV kw_882 kw_884 kp_31 kw_5 kw_885) rfl rfl rfl yd_X10_headValue ⟨(Nat.le_of_ble_eq_true rfl), (Nat.le_of_ble_eq_true rfl)⟩) hP hE hS hM.m rfl rfl hl.1 rfl (Nat.le_of_ble_eq_true rfl) dX10_isBroken_41 ⟨(Nat.le_of_ble_eq_true rfl), (Nat.le_of_ble_eq_true rfl)⟩ (fun v u H locs hp hP hz hS => ?_)
      rw [show fF (360 * (nv - 1) + 6 * q9.2.1 + 0) = r2 0 from by rw [Nat.add_assoc]; exact (hrel q9.2.1 hb2).2 r2 e2 0 (by decide)] at hp
      obtain ⟨rfl, eu⟩ := hp
      rw [eu] at hP
      refine W.eq (g2 := F0 m 44 ls [.long (r2 0), .long (r1 0)]) rfl ?_
      refine fh_cS (As := [.long (r1 0), .long (r2 0)]) (rest := []) ⟨hx, hb, hml, hown, ht⟩ (m_far l G A h _ (r1 0) (r2 0)) (va_cwS 2 ht (gS kw_974 kw_975 kw_5 kw_976) rfl rfl rfl yd_X10_far.2 ⟨(Nat.le_of_ble_eq_true rfl), (Nat.le_of_ble_eq_true rfl)⟩) hP hE hS rfl hl.1 rfl (Nat.le_of_ble_eq_true rfl) dX10_isBroken_44 ⟨(Nat.le_of_ble_eq_true rfl), (Nat.le_of_ble_eq_true rfl)⟩ (fun v u H locs hp hP hz hS => ?_)
      obtain ⟨rfl, eu⟩ := hp
      rw [eu] at hP
      refine W.eq (g2 := F0 m 47 ls [.long (cutF (wdF (r1 0) (r2 0)))]) rfl ?_
      refine lv_aload_n hx hb dX10_isBroken_47 rfl (lv_at hl 2 rfl) ?_
      refine lv_iload_n hx hb dX10_isBroken_48 rfl (lv_at hl 1 rfl) ?_
      refine lv_iconst (v := (nI 1)) hx hb dX10_isBroken_49 (by decide) ?_
      refine fh_cV (q := (RX10, TX10, 28)) (As := [.int (nI q9.1), .int (nI 1)]) (rest := [.long (cutF (wdF (r1 0) (r2 0)))]) (b := ma) ⟨hx, hb, hml, hown, ht⟩ (m_headVal l G A h _ hM hnv0 hnv q9.1 1 hb1 (by decide)) (cwV 2 ht (gV kw_882 kw_884 kp_31 kw_5 kw_885) rfl rfl rfl yd_X10_headValue ⟨(Nat.le_of_ble_eq_true rfl), (Nat.le_of_ble_eq_true rfl)⟩) hP hE hS hM.m rfl rfl hl.1 rfl (Nat.le_of_ble_eq_true rfl) dX10_isBroken_50 ⟨(Nat.le_of_ble_eq_true rfl), (Nat.le_of_ble_eq_true rfl)⟩ (fun v u H locs hp hP hz hS => ?_)
      rw [show fF (360 * (nv - 1) + 6 * q9.1 + 1) = r1 1 from by rw [Nat.add_assoc]; exact (hrel q9.1 hb1).2 r1 e1 1 (by decide)] at hp
      obtain ⟨rfl, eu⟩ := hp
      rw [eu] at hP
      refine W.eq (g2 := F0 m 53 ls [.long (r1 1), .long (cutF (wdF (r1 0) (r2 0)))]) rfl ?_
      refine lv_aload_n hx hb dX10_isBroken_53 rfl (lv_at hl 2 rfl) ?_
      refine lv_iload_n hx hb dX10_isBroken_54 rfl (lv_at hl 0 rfl) ?_
      refine lv_iconst (v := (nI 1)) hx hb dX10_isBroken_55 (by decide) ?_
      refine fh_cV (q := (RX10, TX10, 28)) (As := [.int (nI q9.2.1), .int (nI 1)]) (rest := [.long (r1 1), .long (cutF (wdF (r1 0) (r2 0)))]) (b := ma) ⟨hx, hb, hml, hown, ht⟩ (m_headVal l G A h _ hM hnv0 hnv q9.2.1 1 hb2 (by decide)) (cwV 2 ht (gV kw_882 kw_884 kp_31 kw_5 kw_885) rfl rfl rfl yd_X10_headValue ⟨(Nat.le_of_ble_eq_true rfl), (Nat.le_of_ble_eq_true rfl)⟩) hP hE hS hM.m rfl rfl hl.1 rfl (Nat.le_of_ble_eq_true rfl) dX10_isBroken_56 ⟨(Nat.le_of_ble_eq_true rfl), (Nat.le_of_ble_eq_true rfl)⟩ (fun v u H locs hp hP hz hS => ?_)
      rw [show fF (360 * (nv - 1) + 6 * q9.2.1 + 1) = r2 1 from by rw [Nat.add_assoc]; exact (hrel q9.2.1 hb2).2 r2 e2 1 (by decide)] at hp
      obtain ⟨rfl, eu⟩ := hp
      rw [eu] at hP
      refine W.eq (g2 := F0 m 59 ls [.long (r2 1), .long (r1 1), .long (cutF (wdF (r1 0) (r2 0)))]) rfl ?_
      refine fh_cS (As := [.long (r1 1), .long (r2 1)]) (rest := [.long (cutF (wdF (r1 0) (r2 0)))]) ⟨hx, hb, hml, hown, ht⟩ (m_far l G A h _ (r1 1) (r2 1)) (va_cwS 2 ht (gS kw_974 kw_975 kw_5 kw_976) rfl rfl rfl yd_X10_far.2 ⟨(Nat.le_of_ble_eq_true rfl), (Nat.le_of_ble_eq_true rfl)⟩) hP hE hS rfl hl.1 rfl (Nat.le_of_ble_eq_true rfl) dX10_isBroken_59 ⟨(Nat.le_of_ble_eq_true rfl), (Nat.le_of_ble_eq_true rfl)⟩ (fun v u H locs hp hP hz hS => ?_)
      obtain ⟨rfl, eu⟩ := hp
      rw [eu] at hP
      refine W.eq (g2 := F0 m 62 ls [.long (cutF (wdF (r1 1) (r2 1))), .long (cutF (wdF (r1 0) (r2 0)))]) rfl ?_
      refine lv_ladd hx hb dX10_isBroken_62 ?_
      refine lv_aload_n hx hb dX10_isBroken_63 rfl (lv_at hl 2 rfl) ?_
      refine fh_get (C := RX10) (T := TX10) (N := 28) hx hb ht inX10 hown hE.1 hP hM.m rfl 26 (by decide) (ht _ kw_716) (fun _ h9 => h9) (v := .ref (b 30)) rfl dX10_isBroken_64 ?_
      refine lv_iload_n hx hb dX10_isBroken_67 rfl (lv_at hl 3 rfl) ?_
      refine fh_lald (k := r) hx hb hE.1 hP hM.a30 rfl (hr20) (by decide) dX10_isBroken_68 ?_
      rw [g3]
      refine W.lcmp hx hb dX10_isBroken_69 ?_
      have ebr : rlBroken (some r1) (some r2) q9.2.2 = true ↔ cutF (wdF (r1 0) (r2 0)) + cutF (wdF (r1 1) (r2 1)) < q9.2.2 := by unfold rlBroken; dsimp only; rw [decide_eq_true_eq, gap_cut, gap_cut, far_gap hd0 hd1]
      refine lv_if_ge (tgt := 77) hx hb dX10_isBroken_70 (by decide) (fun d3 => ?_) (fun d3 => ?_)
      · refine lv_iconst (v := (nI 0)) hx hb dX10_isBroken_77 (by decide) ?_
        exact fh_zret hx hb hr hlocks rfl (⟨congrArg (fun z => some (Value.int z)) (by rw [e1, e2]; exact bI_0 (fun q => by have z := ebr.mp q; have z2 := (lg_cmp_ge _ _).mp d3; rw [Int64.lt_iff_toInt_lt] at z; rw [Int64.le_iff_toInt_le] at z2; omega)), rfl⟩) hP hS (Nat.le_of_ble_eq_true rfl) (Nat.le_of_ble_eq_true rfl) dX10_isBroken_78
      · refine lv_iconst (v := (nI 1)) hx hb dX10_isBroken_73 (by decide) ?_
        refine lv_goto (tgt := 78) hx hb dX10_isBroken_74 (by decide) ?_
        exact fh_zret hx hb hr hlocks rfl (⟨congrArg (fun z => some (Value.int z)) (by rw [e1, e2]; exact bI_1 (ebr.mpr (by have z2 := mt (lg_cmp_ge _ _).mpr d3; rw [Int64.le_iff_toInt_le] at z2; rw [Int64.lt_iff_toInt_lt]; omega))), rfl⟩) hP hS (Nat.le_of_ble_eq_true rfl) (Nat.le_of_ble_eq_true rfl) dX10_isBroken_78
    · have e2 : T q9.2.1 = none := by have z := bI_eq.mp d2; revert z; cases T q9.2.1 <;> simp
      refine lv_iconst (v := (nI 0)) hx hb dX10_isBroken_30 (by decide) ?_
      exact fh_zret hx hb hr hlocks rfl (⟨congrArg (fun z => some (Value.int z)) (by rw [e1, e2]; rfl), rfl⟩) hP hS (Nat.le_of_ble_eq_true rfl) (Nat.le_of_ble_eq_true rfl) dX10_isBroken_31

set_option maxRecDepth 100000 in
set_option maxHeartbeats 4000000 in
theorem q_violation (l : Launch) (G : fG) (A : Nat → Prop) (h : FH) (sz : Nat) (ma : Nat) (b : Nat → Nat) (th : Int32) (no nv ns : Nat) (V : Vs) (S : Ss) (LK : List Ar) (RL : Rl) (J : Nat) (C : CL) (M : Nat → Int32) (hp0 : RepM A h h ma b th no nv ns V S LK RL J C M) (hB9 : Bd no nv ns S RL J C) (hLk : LK.length ≤ 10) (hRd : ∀ q ∈ RL, ¬ q.2.2 < 0 ∧ ¬ 1000000000 < q.2.2) (kk ww : Int32) : Met l yX10_violation wsX10_violation { frames := 3, cells := 0, slots := 0, locals := 85 } (va_Pc [.ref ma, .int kk, .int ww] (fh_Pre G A h sz)) (fh_Q G (fun v u => ∃ ans : Int32, v = some (.int ans) ∧ ((oViol RL (V (nv - 1)) kk ww).1 = 0 → ans = (oViol RL (V (nv - 1)) kk ww).2) ∧ RepM A h u ma b (nI (oViol RL (V (nv - 1)) kk ww).1) no nv ns V S LK RL J C M) A) 0 0 A := by
  refine fh_Met [.ref ma, .int kk, .int ww] (by decide) rfl (Nat.le_of_ble_eq_true rfl) ?_
  intro p e s m below meth c hx hb hr hlocks hml hown hnm hts hsz hP hE hS ls hl
  have ht : ∀ w ∈ wB, w.before _ s = true := fun w h9 => hts w (List.mem_cons_of_mem _ h9)
  have hl : lv_has ls 5 [(0, .ref ma), (1, .int kk), (2, .int ww)] := hl
  obtain ⟨fK, fH, fF, fB, fO, fW, fV, fN, cO, cF, cH, cV, fS, fC, lO, lA, rA, rB, rD, fM, hM, hX⟩ := hp0
  obtain ⟨hno, hnv, hnv0, hns, hbs, hCl, hCb, hJ, hRn, hRb⟩ := id hB9
  obtain ⟨⟨zH, zO, zW, zcH⟩, xV, xS, xN, xL, xR, xC, xM⟩ := id hX
  rcases pk_ix ww (n := 2) (by decide) with z | z | ⟨n9, hn9, rfl⟩
  · refine lv_aload_n hx hb dX10_violation_0 rfl (lv_at hl 0 rfl) ?_
    refine lv_iload_n hx hb dX10_violation_1 rfl (lv_at hl 2 rfl) ?_
    refine lv_if_eq (tgt := 10) hx hb dX10_violation_2 (by decide) (fun c9 => absurd c9 (fun q => by rw [q] at z; exact absurd z (by decide))) (fun _ => ?_)
    refine lv_iload_n hx hb dX10_violation_5 rfl (lv_at hl 2 rfl) ?_
    refine lv_iconst (v := (nI 1)) hx hb dX10_violation_6 (by decide) ?_
    refine lv_icmp_ne (tgt := 14) hx hb dX10_violation_7 (by decide) (fun _ => ?_) (fun c9 => absurd c9 (fun q => by rw [q] at z; exact absurd z (by decide)))
    refine lv_iconst (v := (nI 1)) hx hb dX10_violation_14 (by decide) ?_
    refine fh_put (C := RX10) (T := TX10) (N := 28) (t := .int) hx hb ht inX10 tyX10 tyX10_ok nmX10 hown hE.1 hP hS hM.m (hM.A0) rfl 0 (by decide) (ht _ kw_690) (fun _ h9 => h9) rfl (by decide +kernel) rfl rfl (Nat.le_of_ble_eq_true rfl) dX10_violation_15 (fun H locs hP hz hS => ?_)
    obtain ⟨h_1, eh_1⟩ : ∃ z, z = fh_up h ma (.inr (10, [.int (nI 1), .int (nI no), .ref (b 12), .int (nI nv), .ref (b 13), .ref (b 14), .int (nI ns), .ref (b 15), .ref (b 16), .ref (b 17), .ref (b 18), .ref (b 19), .ref (b 20), .ref (b 21), .ref (b 22), .ref (b 23), .ref (b 24), .int (nI J), .int (nI C.length), .ref (b 25), .int (nI LK.length), .ref (b 26), .ref (b 27), .int (nI RL.length), .ref (b 28), .ref (b 29), .ref (b 30), .ref (b 31)])) := ⟨_, rfl⟩
    have hP : fh_P G vwCl h_1 H := by rw [eh_1]; exact hP
    have hM_1 := MG.sc hM (th2 := (nI 1)) (no2 := no) (nv2 := nv) (ns2 := ns) (J2 := J) (nc2 := C.length) (nl2 := LK.length) (nr2 := RL.length) eh_1
    refine lv_aload_n hx hb dX10_violation_18 rfl (lv_at hl 0 rfl) ?_
    refine fh_get (C := RX10) (T := TX10) (N := 28) hx hb ht inX10 hown hE.1 hP hM_1.m rfl 0 (by decide) (ht _ kw_690) (fun _ h9 => h9) (v := .int (nI 1)) rfl dX10_violation_19 ?_
    refine lv_if_eq (tgt := 27) hx hb dX10_violation_22 (by decide) (fun c9 => absurd c9 (by decide)) (fun _ => ?_)
    refine lv_iconst (v := (nI 0)) hx hb dX10_violation_25 (by decide) ?_
    have ep : oViol RL (V (nv - 1)) kk ww = (1, 0) := by simp [oViol, ix_none (Or.inl z)]
    exact fh_iret hx hb hr hlocks (⟨_, rfl, (fun z => by rw [ep] at z; cases z), by rw [ep]; exact ⟨_, _, _, _, _, _, _, _, _, _, _, _, _, _, _, _, _, _, _, _, hM_1, hX⟩⟩) hP hS (Nat.le_of_ble_eq_true rfl) (Nat.le_of_ble_eq_true rfl) dX10_violation_26
  · refine lv_aload_n hx hb dX10_violation_0 rfl (lv_at hl 0 rfl) ?_
    refine lv_iload_n hx hb dX10_violation_1 rfl (lv_at hl 2 rfl) ?_
    refine lv_if_eq (tgt := 10) hx hb dX10_violation_2 (by decide) (fun c9 => absurd c9 (fun q => by rw [q] at z; exact absurd z (by decide))) (fun _ => ?_)
    refine lv_iload_n hx hb dX10_violation_5 rfl (lv_at hl 2 rfl) ?_
    refine lv_iconst (v := (nI 1)) hx hb dX10_violation_6 (by decide) ?_
    refine lv_icmp_ne (tgt := 14) hx hb dX10_violation_7 (by decide) (fun _ => ?_) (fun c9 => absurd c9 (fun q => by rw [q] at z; exact absurd z (by decide)))
    refine lv_iconst (v := (nI 1)) hx hb dX10_violation_14 (by decide) ?_
    refine fh_put (C := RX10) (T := TX10) (N := 28) (t := .int) hx hb ht inX10 tyX10 tyX10_ok nmX10 hown hE.1 hP hS hM.m (hM.A0) rfl 0 (by decide) (ht _ kw_690) (fun _ h9 => h9) rfl (by decide +kernel) rfl rfl (Nat.le_of_ble_eq_true rfl) dX10_violation_15 (fun H locs hP hz hS => ?_)
    obtain ⟨h_1, eh_1⟩ : ∃ z, z = fh_up h ma (.inr (10, [.int (nI 1), .int (nI no), .ref (b 12), .int (nI nv), .ref (b 13), .ref (b 14), .int (nI ns), .ref (b 15), .ref (b 16), .ref (b 17), .ref (b 18), .ref (b 19), .ref (b 20), .ref (b 21), .ref (b 22), .ref (b 23), .ref (b 24), .int (nI J), .int (nI C.length), .ref (b 25), .int (nI LK.length), .ref (b 26), .ref (b 27), .int (nI RL.length), .ref (b 28), .ref (b 29), .ref (b 30), .ref (b 31)])) := ⟨_, rfl⟩
    have hP : fh_P G vwCl h_1 H := by rw [eh_1]; exact hP
    have hM_1 := MG.sc hM (th2 := (nI 1)) (no2 := no) (nv2 := nv) (ns2 := ns) (J2 := J) (nc2 := C.length) (nl2 := LK.length) (nr2 := RL.length) eh_1
    refine lv_aload_n hx hb dX10_violation_18 rfl (lv_at hl 0 rfl) ?_
    refine fh_get (C := RX10) (T := TX10) (N := 28) hx hb ht inX10 hown hE.1 hP hM_1.m rfl 0 (by decide) (ht _ kw_690) (fun _ h9 => h9) (v := .int (nI 1)) rfl dX10_violation_19 ?_
    refine lv_if_eq (tgt := 27) hx hb dX10_violation_22 (by decide) (fun c9 => absurd c9 (by decide)) (fun _ => ?_)
    refine lv_iconst (v := (nI 0)) hx hb dX10_violation_25 (by decide) ?_
    have ep : oViol RL (V (nv - 1)) kk ww = (1, 0) := by simp [oViol, ix_none (Or.inr z)]
    exact fh_iret hx hb hr hlocks (⟨_, rfl, (fun z => by rw [ep] at z; cases z), by rw [ep]; exact ⟨_, _, _, _, _, _, _, _, _, _, _, _, _, _, _, _, _, _, _, _, hM_1, hX⟩⟩) hP hS (Nat.le_of_ble_eq_true rfl) (Nat.le_of_ble_eq_true rfl) dX10_violation_26
  · have hwx := ix_some hn9 (by decide)
    have hlen : (brokenL RL (V (nv - 1))).length ≤ RL.length := List.length_filter_le _ _
    have tl : ∀ (hh : FH) (_ : MG A h hh ma b (nI 0) no nv ns J C.length LK.length RL.length fK fH fF fB fO fW fV fN cO cF cH cV fS fC lO lA rA rB rD fM) (H : Heap) (locs : List Loc) (ls : Array Slot), fh_P G vwCl hh H → va_S A s.heap H locs → lv_has ls 5 [(0, .ref ma), (1, .int kk), (2, .int (nI n9))] → W p l e (headSpec wsX10_violation { frames := 3, cells := 0, slots := 0, locals := 85 }).room s m [.ref ma, .int kk, .int (nI n9)].toArray below meth c H locs 0 0 (MQ below (fh_Q G (fun v u => ∃ ans : Int32, v = some (.int ans) ∧ ((oViol RL (V (nv - 1)) kk (nI n9)).1 = 0 → ans = (oViol RL (V (nv - 1)) kk (nI n9)).2) ∧ RepM A h u ma b (nI (oViol RL (V (nv - 1)) kk (nI n9)).1) no nv ns V S LK RL J C M) A) [.ref ma, .int kk, .int (nI n9)].toArray s 0 0 A) (F0 m 27 ls []) := by
      intro hh hM9 H locs ls hP hS hl
      by_cases c0 : kk < 0
      · refine lv_iload_n hx hb dX10_violation_27 rfl (lv_at hl 1 rfl) ?_
        refine lv_istore_n (lv' := [(3, .int kk), (0, .ref ma), (1, .int kk), (2, .int (nI n9))]) hx hb dX10_violation_28 rfl hl (by decide) rfl (fun ls hl => ?_)
        refine lv_iconst (v := (nI 0)) hx hb dX10_violation_29 (by decide) ?_
        refine lv_istore (lv' := [(4, .int (nI 0)), (3, .int kk), (0, .ref ma), (1, .int kk), (2, .int (nI n9))]) hx hb dX10_violation_30 hl (by decide) rfl (fun ls hl => ?_)
        refine lv_iload hx hb dX10_violation_32 (lv_at hl 0 rfl) ?_
        refine lv_aload_n hx hb dX10_violation_34 rfl (lv_at hl 2 rfl) ?_
        refine fh_get (C := RX10) (T := TX10) (N := 28) hx hb ht inX10 hown hE.1 hP hM9.m rfl 23 (by decide) (ht _ kw_713) (fun _ h9 => h9) (v := .int (nI RL.length)) rfl dX10_violation_35 ?_
        refine lv_icmp_ge (tgt := 92) hx hb dX10_violation_38 (by decide) (fun c1 => ?_) (fun c1 => ?_)
        · refine lv_iconst (v := (-1)) hx hb dX10_violation_92 (by decide) ?_
          have ep : oViol RL (V (nv - 1)) kk (nI n9) = (0, -1) := by simp only [oViol, hwx, ix_none (Or.inl c0)]
          exact fh_iret hx hb hr hlocks (⟨_, rfl, fun _ => (by rw [ep] <;> rfl), by rw [ep]; exact ⟨_, _, _, _, _, _, _, _, _, _, _, _, _, _, _, _, _, _, _, _, hM9, hX⟩⟩) hP hS (by first | exact (Nat.le_of_ble_eq_true rfl) | omega) (by first | exact (Nat.le_of_ble_eq_true rfl) | omega) dX10_violation_93
        · refine lv_iload_n hx hb dX10_violation_41 rfl (lv_at hl 3 rfl) ?_
          refine lv_if_lt (tgt := 92) hx hb dX10_violation_42 (by decide) (fun _ => ?_) (fun c9 => absurd (c0) c9)
          refine lv_iconst (v := (-1)) hx hb dX10_violation_92 (by decide) ?_
          have ep : oViol RL (V (nv - 1)) kk (nI n9) = (0, -1) := by simp only [oViol, hwx, ix_none (Or.inl c0)]
          exact fh_iret hx hb hr hlocks (⟨_, rfl, fun _ => (by rw [ep] <;> rfl), by rw [ep]; exact ⟨_, _, _, _, _, _, _, _, _, _, _, _, _, _, _, _, _, _, _, _, hM9, hX⟩⟩) hP hS (by first | exact (Nat.le_of_ble_eq_true rfl) | omega) (by first | exact (Nat.le_of_ble_eq_true rfl) | omega) dX10_violation_93
      · obtain ⟨k9, hk9, rfl⟩ := pk_neg c0
        refine lv_iload_n hx hb dX10_violation_27 rfl (lv_at hl 1 rfl) ?_
        refine lv_istore_n (lv' := [(3, .int (nI k9)), (0, .ref ma), (1, .int (nI k9)), (2, .int (nI n9))]) hx hb dX10_violation_28 rfl hl (by decide) rfl (fun ls hl => ?_)
        refine lv_iconst (v := (nI 0)) hx hb dX10_violation_29 (by decide) ?_
        refine lv_istore (lv' := [(4, .int (nI 0)), (3, .int (nI k9)), (0, .ref ma), (1, .int (nI k9)), (2, .int (nI n9))]) hx hb dX10_violation_30 hl (by decide) rfl (fun ls hl => ?_)
        have loop : ∀ (n r : Nat), r + n = RL.length → ∀ (n1 : Nat) (_ : n1 = (brokenL (RL.take r) (V (nv - 1))).length) (_ : n1 ≤ k9), ∀ (H : Heap) (locs : List Loc) (ls : Array Slot), fh_P G vwCl hh H → va_S A s.heap H locs → lv_has ls 5 [(4, .int (nI r)), (3, .int (nI (k9 - n1))), (0, .ref ma), (1, .int (nI k9)), (2, .int (nI n9))] → W p l e (headSpec wsX10_violation { frames := 3, cells := 0, slots := 0, locals := 85 }).room s m [.ref ma, .int (nI k9), .int (nI n9)].toArray below meth c H locs 0 0 (MQ below (fh_Q G (fun v u => ∃ ans : Int32, v = some (.int ans) ∧ ((oViol RL (V (nv - 1)) (nI k9) (nI n9)).1 = 0 → ans = (oViol RL (V (nv - 1)) (nI k9) (nI n9)).2) ∧ RepM A h u ma b (nI (oViol RL (V (nv - 1)) (nI k9) (nI n9)).1) no nv ns V S LK RL J C M) A) [.ref ma, .int (nI k9), .int (nI n9)].toArray s 0 0 A) (F0 m 32 ls []) := by
          intro n
          induction n with
          | zero =>
            intro r hin n1 en hk H locs ls hP hS hl
            refine lv_iload hx hb dX10_violation_32 (lv_at hl 0 rfl) ?_
            refine lv_aload_n hx hb dX10_violation_34 rfl (lv_at hl 2 rfl) ?_
            refine fh_get (C := RX10) (T := TX10) (N := 28) hx hb ht inX10 hown hE.1 hP hM9.m rfl 23 (by decide) (ht _ kw_713) (fun _ h9 => h9) (v := .int (nI RL.length)) rfl dX10_violation_35 ?_
            refine lv_icmp_ge (tgt := 92) hx hb dX10_violation_38 (by decide) (fun _ => ?_) (fun c9 => absurd (nI_le (by omega) (by omega)) c9)
            refine lv_iconst (v := (-1)) hx hb dX10_violation_92 (by decide) ?_
            have e3 : ix (nI k9) (brokenL RL (V (nv - 1))).length = none := ix_none (Or.inr (nI_le (by rw [← List.take_of_length_le (show RL.length ≤ r by omega)]; rw [en] at hk; exact hk) hk9))
            have ep : oViol RL (V (nv - 1)) (nI k9) (nI n9) = (0, -1) := by simp only [oViol, hwx, e3]
            exact fh_iret hx hb hr hlocks (⟨_, rfl, fun _ => (by rw [ep] <;> rfl), by rw [ep]; exact ⟨_, _, _, _, _, _, _, _, _, _, _, _, _, _, _, _, _, _, _, _, hM9, hX⟩⟩) hP hS (by first | exact (Nat.le_of_ble_eq_true rfl) | omega) (by first | exact (Nat.le_of_ble_eq_true rfl) | omega) dX10_violation_93
          | succ n ih =>
            intro r hin n1 en hk H locs ls hP hS hl
            have hrr : r < RL.length := by omega
            obtain ⟨q9, e0⟩ : ∃ q9, RL[r]? = some q9 := ⟨_, List.getElem?_eq_getElem hrr⟩
            obtain ⟨g1, g2, g3⟩ := xR r q9 e0
            have hb9 := hRb _ (List.mem_of_getElem? e0)
            have hd9 := hRd _ (List.mem_of_getElem? e0)
            refine lv_iload hx hb dX10_violation_32 (lv_at hl 0 rfl) ?_
            refine lv_aload_n hx hb dX10_violation_34 rfl (lv_at hl 2 rfl) ?_
            refine fh_get (C := RX10) (T := TX10) (N := 28) hx hb ht inX10 hown hE.1 hP hM9.m rfl 23 (by decide) (ht _ kw_713) (fun _ h9 => h9) (v := .int (nI RL.length)) rfl dX10_violation_35 ?_
            refine lv_icmp_ge (tgt := 92) hx hb dX10_violation_38 (by decide) (fun c9 => absurd c9 (nI_ge hrr (by omega))) (fun _ => ?_)
            refine lv_iload_n hx hb dX10_violation_41 rfl (lv_at hl 3 rfl) ?_
            refine lv_if_lt (tgt := 92) hx hb dX10_violation_42 (by decide) (fun c9 => absurd c9 (c0)) (fun _ => ?_)
            refine lv_aload_n hx hb dX10_violation_45 rfl (lv_at hl 2 rfl) ?_
            refine lv_iload hx hb dX10_violation_46 (lv_at hl 0 rfl) ?_
            refine fh_cV (q := (RX10, TX10, 28)) (As := [.int (nI r)]) (rest := []) (b := ma) ⟨hx, hb, hml, hown, ht⟩ (m_isBroken l G A hh _ hM9.re r (by omega) hnv0 hnv zH (V (nv - 1)) (xV (nv - 1) (by omega)).1 q9 g1 g2 g3 hb9.1 hb9.2 hd9.1 hd9.2) (cwV 1 ht (gV kw_970 kw_972 kp_41 kw_5 kw_973) rfl rfl rfl yd_X10_isBroken ⟨(Nat.le_of_ble_eq_true rfl), (Nat.le_of_ble_eq_true rfl)⟩) hP hE hS hM9.m rfl rfl hl.1 rfl (Nat.le_of_ble_eq_true rfl) dX10_violation_48 ⟨(Nat.le_of_ble_eq_true rfl), (Nat.le_of_ble_eq_true rfl)⟩ (fun v u H locs hp hP hz hS => ?_)
            obtain ⟨rfl, eu⟩ := hp
            rw [eu] at hP
            refine W.eq (g2 := F0 m 51 ls [.int (bI (rlBroken ((V (nv - 1)) q9.1) ((V (nv - 1)) q9.2.1) q9.2.2))]) rfl ?_
            refine lv_if_ne (tgt := 57) hx hb dX10_violation_51 (by decide) (fun c1 => ?_) (fun c1 => ?_)
            · have hbr := bI_nz c1
              have e1 : brokenL (RL.take (r + 1)) (V (nv - 1)) = (brokenL (RL.take r) (V (nv - 1))) ++ [q9] := by unfold brokenL; rw [filt_s e0, if_pos hbr]
              have e2 : (brokenL RL (V (nv - 1)))[n1]? = some q9 := by rw [en]; exact filt_at (P := fun q => rlBroken ((V (nv - 1)) q.1) ((V (nv - 1)) q.2.1) q.2.2) e0 hbr
              refine lv_iload_n hx hb dX10_violation_57 rfl (lv_at hl 1 rfl) ?_
              refine lv_if_ne (tgt := 83) hx hb dX10_violation_58 (by decide) (fun c2 => ?_) (fun c2 => ?_)
              · have e3 : n1 < k9 := by
                  rcases Nat.lt_or_ge n1 k9 with z | z
                  · exact z
                  · exact absurd (by rw [show k9 - n1 = 0 by omega]; rfl) c2
                refine lv_iinc (v := nI (k9 - (n1 + 1))) (lv' := [(3, .int (nI (k9 - (n1 + 1)))), (4, .int (nI r)), (0, .ref ma), (1, .int (nI k9)), (2, .int (nI n9))]) hx hb dX10_violation_83 hl (k := 1) rfl ((sb_m1 (by omega)).trans (congrArg nI (by omega))) (by decide) rfl (fun ls hl => ?_)
                refine lv_iinc (v := nI (r + 1)) (lv' := [(4, .int (nI (r + 1))), (3, .int (nI (k9 - (n1 + 1)))), (0, .ref ma), (1, .int (nI k9)), (2, .int (nI n9))]) hx hb dX10_violation_86 hl (k := 1) rfl (nI_1 _) (by decide) rfl (fun ls hl => ?_)
                refine lv_goto (tgt := 32) hx hb dX10_violation_89 (by decide) ?_
                exact ih (r + 1) (by omega) (n1 + 1) (by rw [en, e1, List.length_append]; rfl) e3 H locs ls hP hS (lv_sub hl [0, 1, 2, 3, 4] rfl)
              · have e3 : n1 = k9 := by
                  rcases Nat.lt_or_ge n1 k9 with z | z
                  · exact absurd c2 (nI_ne0 (by omega) (by omega))
                  · omega
                have e4 : ix (nI k9) (brokenL RL (V (nv - 1))).length = some n1 := by rw [e3] at e2 ⊢; exact ix_some (List.getElem?_eq_some_iff.mp e2).1 (by omega)
                refine lv_iload_n hx hb dX10_violation_61 rfl (lv_at hl 4 rfl) ?_
                refine lv_if_ne (tgt := 75) hx hb dX10_violation_62 (by decide) (fun c3 => ?_) (fun c3 => ?_)
                · have e5 : ¬ n9 = 0 := fun z => c3 (by rw [z]; rfl)
                  refine lv_aload_n hx hb dX10_violation_75 rfl (lv_at hl 2 rfl) ?_
                  refine fh_get (C := RX10) (T := TX10) (N := 28) hx hb ht inX10 hown hE.1 hP hM9.m rfl 25 (by decide) (ht _ kw_715) (fun _ h9 => h9) (v := .ref (b 29)) rfl dX10_violation_76 ?_
                  refine lv_iload hx hb dX10_violation_79 (lv_at hl 0 rfl) ?_
                  refine fh_iald (k := r) hx hb hE.1 hP hM9.a29 rfl (by omega) (by decide) dX10_violation_81 ?_
                  rw [g2]
                  have ep : oViol RL (V (nv - 1)) (nI k9) (nI n9) = (0, nI q9.2.1) := by simp only [oViol, hwx, e4, getD_of e2]; rw [if_neg e5]
                  exact fh_iret hx hb hr hlocks (⟨_, rfl, fun _ => (by rw [ep] <;> rfl), by rw [ep]; exact ⟨_, _, _, _, _, _, _, _, _, _, _, _, _, _, _, _, _, _, _, _, hM9, hX⟩⟩) hP hS (by first | exact (Nat.le_of_ble_eq_true rfl) | omega) (by first | exact (Nat.le_of_ble_eq_true rfl) | omega) dX10_violation_82
                · have e5 : n9 = 0 := (nI_eq (by omega) (by decide)).mp (c3.trans nI_0.symm)
                  refine lv_aload_n hx hb dX10_violation_65 rfl (lv_at hl 2 rfl) ?_
                  refine fh_get (C := RX10) (T := TX10) (N := 28) hx hb ht inX10 hown hE.1 hP hM9.m rfl 24 (by decide) (ht _ kw_714) (fun _ h9 => h9) (v := .ref (b 28)) rfl dX10_violation_66 ?_
                  refine lv_iload hx hb dX10_violation_69 (lv_at hl 0 rfl) ?_
                  refine fh_iald (k := r) hx hb hE.1 hP hM9.a28 rfl (by omega) (by decide) dX10_violation_71 ?_
                  rw [g1]
                  refine lv_goto (tgt := 82) hx hb dX10_violation_72 (by decide) ?_
                  have ep : oViol RL (V (nv - 1)) (nI k9) (nI n9) = (0, nI q9.1) := by simp only [oViol, hwx, e4, getD_of e2]; rw [if_pos e5]
                  exact fh_iret hx hb hr hlocks (⟨_, rfl, fun _ => (by rw [ep] <;> rfl), by rw [ep]; exact ⟨_, _, _, _, _, _, _, _, _, _, _, _, _, _, _, _, _, _, _, _, hM9, hX⟩⟩) hP hS (by first | exact (Nat.le_of_ble_eq_true rfl) | omega) (by first | exact (Nat.le_of_ble_eq_true rfl) | omega) dX10_violation_82
            · have e1 : brokenL (RL.take (r + 1)) (V (nv - 1)) = (brokenL (RL.take r) (V (nv - 1))) ++ [] := by have z := bI_eq.mp c1; unfold brokenL; rw [filt_s e0, if_neg (by rw [z]; decide)]
              refine lv_goto (tgt := 86) hx hb dX10_violation_54 (by decide) ?_
              refine lv_iinc (v := nI (r + 1)) (lv' := [(4, .int (nI (r + 1))), (3, .int (nI (k9 - n1))), (0, .ref ma), (1, .int (nI k9)), (2, .int (nI n9))]) hx hb dX10_violation_86 hl (k := 0) rfl (nI_1 _) (by decide) rfl (fun ls hl => ?_)
              refine lv_goto (tgt := 32) hx hb dX10_violation_89 (by decide) ?_
              exact ih (r + 1) (by omega) n1 (by rw [en, e1, List.append_nil]) hk H locs ls hP hS (lv_sub hl [0, 1, 2, 3, 4] rfl)
        exact loop RL.length 0 (by omega) 0 (by simp [brokenL]) (Nat.zero_le _) _ _ _ hP hS hl
    rcases (show n9 = 0 ∨ n9 = 1 by omega) with e9 | e9
    · refine lv_aload_n hx hb dX10_violation_0 rfl (lv_at hl 0 rfl) ?_
      refine lv_iload_n hx hb dX10_violation_1 rfl (lv_at hl 2 rfl) ?_
      refine lv_if_eq (tgt := 10) hx hb dX10_violation_2 (by decide) (fun _ => ?_) (fun c9 => absurd (by rw [e9]; rfl) c9)
      refine lv_iconst (v := (nI 0)) hx hb dX10_violation_10 (by decide) ?_
      refine lv_goto (tgt := 15) hx hb dX10_violation_11 (by decide) ?_
      refine fh_put (C := RX10) (T := TX10) (N := 28) (t := .int) hx hb ht inX10 tyX10 tyX10_ok nmX10 hown hE.1 hP hS hM.m (hM.A0) rfl 0 (by decide) (ht _ kw_690) (fun _ h9 => h9) rfl (by decide +kernel) rfl rfl (Nat.le_of_ble_eq_true rfl) dX10_violation_15 (fun H locs hP hz hS => ?_)
      obtain ⟨h_1, eh_1⟩ : ∃ z, z = fh_up h ma (.inr (10, [.int (nI 0), .int (nI no), .ref (b 12), .int (nI nv), .ref (b 13), .ref (b 14), .int (nI ns), .ref (b 15), .ref (b 16), .ref (b 17), .ref (b 18), .ref (b 19), .ref (b 20), .ref (b 21), .ref (b 22), .ref (b 23), .ref (b 24), .int (nI J), .int (nI C.length), .ref (b 25), .int (nI LK.length), .ref (b 26), .ref (b 27), .int (nI RL.length), .ref (b 28), .ref (b 29), .ref (b 30), .ref (b 31)])) := ⟨_, rfl⟩
      have hP : fh_P G vwCl h_1 H := by rw [eh_1]; exact hP
      have hM_1 := MG.sc hM (th2 := (nI 0)) (no2 := no) (nv2 := nv) (ns2 := ns) (J2 := J) (nc2 := C.length) (nl2 := LK.length) (nr2 := RL.length) eh_1
      refine lv_aload_n hx hb dX10_violation_18 rfl (lv_at hl 0 rfl) ?_
      refine fh_get (C := RX10) (T := TX10) (N := 28) hx hb ht inX10 hown hE.1 hP hM_1.m rfl 0 (by decide) (ht _ kw_690) (fun _ h9 => h9) (v := .int (nI 0)) rfl dX10_violation_19 ?_
      refine lv_if_eq (tgt := 27) hx hb dX10_violation_22 (by decide) (fun _ => ?_) (fun c9 => absurd (rfl) c9)
      refine W.eq (g2 := F0 m 27 ls []) rfl ?_
      exact tl h_1 hM_1 _ _ _ hP hS (lv_sub hl [0, 1, 2] rfl)
    · refine lv_aload_n hx hb dX10_violation_0 rfl (lv_at hl 0 rfl) ?_
      refine lv_iload_n hx hb dX10_violation_1 rfl (lv_at hl 2 rfl) ?_
      refine lv_if_eq (tgt := 10) hx hb dX10_violation_2 (by decide) (fun c9 => absurd c9 (by rw [e9]; decide)) (fun _ => ?_)
      refine lv_iload_n hx hb dX10_violation_5 rfl (lv_at hl 2 rfl) ?_
      refine lv_iconst (v := (nI 1)) hx hb dX10_violation_6 (by decide) ?_
      refine lv_icmp_ne (tgt := 14) hx hb dX10_violation_7 (by decide) (fun c9 => absurd (by rw [e9]) c9) (fun _ => ?_)
      refine lv_iconst (v := (nI 0)) hx hb dX10_violation_10 (by decide) ?_
      refine lv_goto (tgt := 15) hx hb dX10_violation_11 (by decide) ?_
      refine fh_put (C := RX10) (T := TX10) (N := 28) (t := .int) hx hb ht inX10 tyX10 tyX10_ok nmX10 hown hE.1 hP hS hM.m (hM.A0) rfl 0 (by decide) (ht _ kw_690) (fun _ h9 => h9) rfl (by decide +kernel) rfl rfl (Nat.le_of_ble_eq_true rfl) dX10_violation_15 (fun H locs hP hz hS => ?_)
      obtain ⟨h_1, eh_1⟩ : ∃ z, z = fh_up h ma (.inr (10, [.int (nI 0), .int (nI no), .ref (b 12), .int (nI nv), .ref (b 13), .ref (b 14), .int (nI ns), .ref (b 15), .ref (b 16), .ref (b 17), .ref (b 18), .ref (b 19), .ref (b 20), .ref (b 21), .ref (b 22), .ref (b 23), .ref (b 24), .int (nI J), .int (nI C.length), .ref (b 25), .int (nI LK.length), .ref (b 26), .ref (b 27), .int (nI RL.length), .ref (b 28), .ref (b 29), .ref (b 30), .ref (b 31)])) := ⟨_, rfl⟩
      have hP : fh_P G vwCl h_1 H := by rw [eh_1]; exact hP
      have hM_1 := MG.sc hM (th2 := (nI 0)) (no2 := no) (nv2 := nv) (ns2 := ns) (J2 := J) (nc2 := C.length) (nl2 := LK.length) (nr2 := RL.length) eh_1
      refine lv_aload_n hx hb dX10_violation_18 rfl (lv_at hl 0 rfl) ?_
      refine fh_get (C := RX10) (T := TX10) (N := 28) hx hb ht inX10 hown hE.1 hP hM_1.m rfl 0 (by decide) (ht _ kw_690) (fun _ h9 => h9) (v := .int (nI 0)) rfl dX10_violation_19 ?_
      refine lv_if_eq (tgt := 27) hx hb dX10_violation_22 (by decide) (fun _ => ?_) (fun c9 => absurd (rfl) c9)
      refine W.eq (g2 := F0 m 27 ls []) rfl ?_
      exact tl h_1 hM_1 _ _ _ hP hS (lv_sub hl [0, 1, 2] rfl)

set_option maxRecDepth 100000 in
set_option maxHeartbeats 4000000 in
theorem q_difference (l : Launch) (G : fG) (A : Nat → Prop) (h : FH) (sz : Nat) (ma : Nat) (b : Nat → Nat) (th : Int32) (no nv ns : Nat) (V : Vs) (S : Ss) (LK : List Ar) (RL : Rl) (J : Nat) (C : CL) (M : Nat → Int32) (hp0 : RepM A h h ma b th no nv ns V S LK RL J C M) (hB9 : Bd no nv ns S RL J C) (hLk : LK.length ≤ 10) (hVn : ∀ v, v < nv → ∀ o, no ≤ o → V v o = none) (aa bb kk : Int32) : Met l yX10_difference wsX10_difference { frames := 3, cells := 0, slots := 0, locals := 85 } (va_Pc [.ref ma, .int aa, .int bb, .int kk] (fh_Pre G A h sz)) (fh_Q G (fun v u => ∃ ans : Int32, v = some (.int ans) ∧ ((oDiff nv V aa bb kk).1 = 0 → ans = (oDiff nv V aa bb kk).2) ∧ RepM A h u ma b (nI (oDiff nv V aa bb kk).1) no nv ns V S LK RL J C M) A) 0 0 A := by
  refine fh_Met [.ref ma, .int aa, .int bb, .int kk] (by decide) rfl (Nat.le_of_ble_eq_true rfl) ?_
  intro p e s m below meth c hx hb hr hlocks hml hown hnm hts hsz hP hE hS ls hl
  have ht : ∀ w ∈ wB, w.before _ s = true := fun w h9 => hts w (List.mem_cons_of_mem _ h9)
  have hl : lv_has ls 11 [(0, .ref ma), (1, .int aa), (2, .int bb), (3, .int kk)] := hl
  obtain ⟨fK, fH, fF, fB, fO, fW, fV, fN, cO, cF, cH, cV, fS, fC, lO, lA, rA, rB, rD, fM, hM, hX⟩ := hp0
  obtain ⟨hno, hnv, hnv0, hns, hbs, hCl, hCb, hJ, hRn, hRb⟩ := id hB9
  obtain ⟨⟨zH, zO, zW, zcH⟩, xV, xS, xN, xL, xR, xC, xM⟩ := id hX
  rcases pk_ix aa (n := nv) (by omega) with z | z | ⟨i1, hi1, rfl⟩
  · refine lv_iload_n hx hb dX10_difference_0 rfl (lv_at hl 1 rfl) ?_
    refine lv_if_lt (tgt := 28) hx hb dX10_difference_1 (by decide) (fun _ => ?_) (fun c9 => absurd (z) c9)
    refine lv_iconst (v := (nI 0)) hx hb dX10_difference_28 (by decide) ?_
    refine lv_istore (lv' := [(4, .int (nI 0)), (0, .ref ma), (1, .int aa), (2, .int bb), (3, .int kk)]) hx hb dX10_difference_29 hl (by decide) rfl (fun ls hl => ?_)
    refine lv_aload_n hx hb dX10_difference_31 rfl (lv_at hl 1 rfl) ?_
    refine lv_iload hx hb dX10_difference_32 (lv_at hl 0 rfl) ?_
    refine lv_if_eq (tgt := 41) hx hb dX10_difference_34 (by decide) (fun _ => ?_) (fun c9 => absurd (rfl) c9)
    refine lv_iconst (v := (nI 1)) hx hb dX10_difference_41 (by decide) ?_
    refine fh_put (C := RX10) (T := TX10) (N := 28) (t := .int) hx hb ht inX10 tyX10 tyX10_ok nmX10 hown hE.1 hP hS hM.m (hM.A0) rfl 0 (by decide) (ht _ kw_690) (fun _ h9 => h9) rfl (by decide +kernel) rfl rfl (Nat.le_of_ble_eq_true rfl) dX10_difference_42 (fun H locs hP hz hS => ?_)
    obtain ⟨h_1, eh_1⟩ : ∃ z, z = fh_up h ma (.inr (10, [.int (nI 1), .int (nI no), .ref (b 12), .int (nI nv), .ref (b 13), .ref (b 14), .int (nI ns), .ref (b 15), .ref (b 16), .ref (b 17), .ref (b 18), .ref (b 19), .ref (b 20), .ref (b 21), .ref (b 22), .ref (b 23), .ref (b 24), .int (nI J), .int (nI C.length), .ref (b 25), .int (nI LK.length), .ref (b 26), .ref (b 27), .int (nI RL.length), .ref (b 28), .ref (b 29), .ref (b 30), .ref (b 31)])) := ⟨_, rfl⟩
    have hP : fh_P G vwCl h_1 H := by rw [eh_1]; exact hP
    have hM_1 := MG.sc hM (th2 := (nI 1)) (no2 := no) (nv2 := nv) (ns2 := ns) (J2 := J) (nc2 := C.length) (nl2 := LK.length) (nr2 := RL.length) eh_1
    refine lv_aload_n hx hb dX10_difference_45 rfl (lv_at hl 1 rfl) ?_
    refine fh_get (C := RX10) (T := TX10) (N := 28) hx hb ht inX10 hown hE.1 hP hM_1.m rfl 0 (by decide) (ht _ kw_690) (fun _ h9 => h9) (v := .int (nI 1)) rfl dX10_difference_46 ?_
    refine lv_if_eq (tgt := 54) hx hb dX10_difference_49 (by decide) (fun c9 => absurd c9 (by decide)) (fun _ => ?_)
    refine lv_iconst (v := (nI 0)) hx hb dX10_difference_52 (by decide) ?_
    have ep : oDiff nv V aa bb kk = (1, 0) := by simp [oDiff, ix_none (Or.inl z)]
    exact fh_iret hx hb hr hlocks (⟨_, rfl, (fun z => by rw [ep] at z; cases z), by rw [ep]; exact ⟨_, _, _, _, _, _, _, _, _, _, _, _, _, _, _, _, _, _, _, _, hM_1, hX⟩⟩) hP hS (Nat.le_of_ble_eq_true rfl) (Nat.le_of_ble_eq_true rfl) dX10_difference_53
  · refine lv_iload_n hx hb dX10_difference_0 rfl (lv_at hl 1 rfl) ?_
    refine lv_if_lt (tgt := 28) hx hb dX10_difference_1 (by decide) (fun c9 => absurd c9 (fun q => by rw [Int32.lt_iff_toInt_lt] at q; rw [Int32.le_iff_toInt_le, nI_toInt (by omega)] at z; have : (0 : Int32).toInt = 0 := rfl; omega)) (fun _ => ?_)
    refine lv_iload_n hx hb dX10_difference_4 rfl (lv_at hl 1 rfl) ?_
    refine lv_aload_n hx hb dX10_difference_5 rfl (lv_at hl 0 rfl) ?_
    refine fh_get (C := RX10) (T := TX10) (N := 28) hx hb ht inX10 hown hE.1 hP hM.m rfl 3 (by decide) (ht _ kw_693) (fun _ h9 => h9) (v := .int (nI nv)) rfl dX10_difference_6 ?_
    refine lv_icmp_ge (tgt := 28) hx hb dX10_difference_9 (by decide) (fun _ => ?_) (fun c9 => absurd (z) c9)
    refine lv_iconst (v := (nI 0)) hx hb dX10_difference_28 (by decide) ?_
    refine lv_istore (lv' := [(4, .int (nI 0)), (0, .ref ma), (1, .int aa), (2, .int bb), (3, .int kk)]) hx hb dX10_difference_29 hl (by decide) rfl (fun ls hl => ?_)
    refine lv_aload_n hx hb dX10_difference_31 rfl (lv_at hl 1 rfl) ?_
    refine lv_iload hx hb dX10_difference_32 (lv_at hl 0 rfl) ?_
    refine lv_if_eq (tgt := 41) hx hb dX10_difference_34 (by decide) (fun _ => ?_) (fun c9 => absurd (rfl) c9)
    refine lv_iconst (v := (nI 1)) hx hb dX10_difference_41 (by decide) ?_
    refine fh_put (C := RX10) (T := TX10) (N := 28) (t := .int) hx hb ht inX10 tyX10 tyX10_ok nmX10 hown hE.1 hP hS hM.m (hM.A0) rfl 0 (by decide) (ht _ kw_690) (fun _ h9 => h9) rfl (by decide +kernel) rfl rfl (Nat.le_of_ble_eq_true rfl) dX10_difference_42 (fun H locs hP hz hS => ?_)
    obtain ⟨h_1, eh_1⟩ : ∃ z, z = fh_up h ma (.inr (10, [.int (nI 1), .int (nI no), .ref (b 12), .int (nI nv), .ref (b 13), .ref (b 14), .int (nI ns), .ref (b 15), .ref (b 16), .ref (b 17), .ref (b 18), .ref (b 19), .ref (b 20), .ref (b 21), .ref (b 22), .ref (b 23), .ref (b 24), .int (nI J), .int (nI C.length), .ref (b 25), .int (nI LK.length), .ref (b 26), .ref (b 27), .int (nI RL.length), .ref (b 28), .ref (b 29), .ref (b 30), .ref (b 31)])) := ⟨_, rfl⟩
    have hP : fh_P G vwCl h_1 H := by rw [eh_1]; exact hP
    have hM_1 := MG.sc hM (th2 := (nI 1)) (no2 := no) (nv2 := nv) (ns2 := ns) (J2 := J) (nc2 := C.length) (nl2 := LK.length) (nr2 := RL.length) eh_1
    refine lv_aload_n hx hb dX10_difference_45 rfl (lv_at hl 1 rfl) ?_
    refine fh_get (C := RX10) (T := TX10) (N := 28) hx hb ht inX10 hown hE.1 hP hM_1.m rfl 0 (by decide) (ht _ kw_690) (fun _ h9 => h9) (v := .int (nI 1)) rfl dX10_difference_46 ?_
    refine lv_if_eq (tgt := 54) hx hb dX10_difference_49 (by decide) (fun c9 => absurd c9 (by decide)) (fun _ => ?_)
    refine lv_iconst (v := (nI 0)) hx hb dX10_difference_52 (by decide) ?_
    have ep : oDiff nv V aa bb kk = (1, 0) := by simp [oDiff, ix_none (Or.inr z)]
    exact fh_iret hx hb hr hlocks (⟨_, rfl, (fun z => by rw [ep] at z; cases z), by rw [ep]; exact ⟨_, _, _, _, _, _, _, _, _, _, _, _, _, _, _, _, _, _, _, _, hM_1, hX⟩⟩) hP hS (Nat.le_of_ble_eq_true rfl) (Nat.le_of_ble_eq_true rfl) dX10_difference_53
  · have h1x := ix_some hi1 (show nv < 2 ^ 31 by omega)
    rcases pk_ix bb (n := nv) (by omega) with z | z | ⟨i2, hi2, rfl⟩
    · refine lv_iload_n hx hb dX10_difference_0 rfl (lv_at hl 1 rfl) ?_
      refine lv_if_lt (tgt := 28) hx hb dX10_difference_1 (by decide) (fun c9 => absurd c9 (nI_pos (by omega))) (fun _ => ?_)
      refine lv_iload_n hx hb dX10_difference_4 rfl (lv_at hl 1 rfl) ?_
      refine lv_aload_n hx hb dX10_difference_5 rfl (lv_at hl 0 rfl) ?_
      refine fh_get (C := RX10) (T := TX10) (N := 28) hx hb ht inX10 hown hE.1 hP hM.m rfl 3 (by decide) (ht _ kw_693) (fun _ h9 => h9) (v := .int (nI nv)) rfl dX10_difference_6 ?_
      refine lv_icmp_ge (tgt := 28) hx hb dX10_difference_9 (by decide) (fun c9 => absurd c9 (nI_ge hi1 (by omega))) (fun _ => ?_)
      refine lv_iload_n hx hb dX10_difference_12 rfl (lv_at hl 2 rfl) ?_
      refine lv_if_lt (tgt := 28) hx hb dX10_difference_13 (by decide) (fun _ => ?_) (fun c9 => absurd (z) c9)
      refine lv_iconst (v := (nI 0)) hx hb dX10_difference_28 (by decide) ?_
      refine lv_istore (lv' := [(4, .int (nI 0)), (0, .ref ma), (1, .int (nI i1)), (2, .int bb), (3, .int kk)]) hx hb dX10_difference_29 hl (by decide) rfl (fun ls hl => ?_)
      refine lv_aload_n hx hb dX10_difference_31 rfl (lv_at hl 1 rfl) ?_
      refine lv_iload hx hb dX10_difference_32 (lv_at hl 0 rfl) ?_
      refine lv_if_eq (tgt := 41) hx hb dX10_difference_34 (by decide) (fun _ => ?_) (fun c9 => absurd (rfl) c9)
      refine lv_iconst (v := (nI 1)) hx hb dX10_difference_41 (by decide) ?_
      refine fh_put (C := RX10) (T := TX10) (N := 28) (t := .int) hx hb ht inX10 tyX10 tyX10_ok nmX10 hown hE.1 hP hS hM.m (hM.A0) rfl 0 (by decide) (ht _ kw_690) (fun _ h9 => h9) rfl (by decide +kernel) rfl rfl (Nat.le_of_ble_eq_true rfl) dX10_difference_42 (fun H locs hP hz hS => ?_)
      obtain ⟨h_1, eh_1⟩ : ∃ z, z = fh_up h ma (.inr (10, [.int (nI 1), .int (nI no), .ref (b 12), .int (nI nv), .ref (b 13), .ref (b 14), .int (nI ns), .ref (b 15), .ref (b 16), .ref (b 17), .ref (b 18), .ref (b 19), .ref (b 20), .ref (b 21), .ref (b 22), .ref (b 23), .ref (b 24), .int (nI J), .int (nI C.length), .ref (b 25), .int (nI LK.length), .ref (b 26), .ref (b 27), .int (nI RL.length), .ref (b 28), .ref (b 29), .ref (b 30), .ref (b 31)])) := ⟨_, rfl⟩
      have hP : fh_P G vwCl h_1 H := by rw [eh_1]; exact hP
      have hM_1 := MG.sc hM (th2 := (nI 1)) (no2 := no) (nv2 := nv) (ns2 := ns) (J2 := J) (nc2 := C.length) (nl2 := LK.length) (nr2 := RL.length) eh_1
      refine lv_aload_n hx hb dX10_difference_45 rfl (lv_at hl 1 rfl) ?_
      refine fh_get (C := RX10) (T := TX10) (N := 28) hx hb ht inX10 hown hE.1 hP hM_1.m rfl 0 (by decide) (ht _ kw_690) (fun _ h9 => h9) (v := .int (nI 1)) rfl dX10_difference_46 ?_
      refine lv_if_eq (tgt := 54) hx hb dX10_difference_49 (by decide) (fun c9 => absurd c9 (by decide)) (fun _ => ?_)
      refine lv_iconst (v := (nI 0)) hx hb dX10_difference_52 (by decide) ?_
      have ep : oDiff nv V (nI i1) bb kk = (1, 0) := by simp [oDiff, h1x, ix_none (Or.inl z)]
      exact fh_iret hx hb hr hlocks (⟨_, rfl, (fun z => by rw [ep] at z; cases z), by rw [ep]; exact ⟨_, _, _, _, _, _, _, _, _, _, _, _, _, _, _, _, _, _, _, _, hM_1, hX⟩⟩) hP hS (Nat.le_of_ble_eq_true rfl) (Nat.le_of_ble_eq_true rfl) dX10_difference_53
    · refine lv_iload_n hx hb dX10_difference_0 rfl (lv_at hl 1 rfl) ?_
      refine lv_if_lt (tgt := 28) hx hb dX10_difference_1 (by decide) (fun c9 => absurd c9 (nI_pos (by omega))) (fun _ => ?_)
      refine lv_iload_n hx hb dX10_difference_4 rfl (lv_at hl 1 rfl) ?_
      refine lv_aload_n hx hb dX10_difference_5 rfl (lv_at hl 0 rfl) ?_
      refine fh_get (C := RX10) (T := TX10) (N := 28) hx hb ht inX10 hown hE.1 hP hM.m rfl 3 (by decide) (ht _ kw_693) (fun _ h9 => h9) (v := .int (nI nv)) rfl dX10_difference_6 ?_
      refine lv_icmp_ge (tgt := 28) hx hb dX10_difference_9 (by decide) (fun c9 => absurd c9 (nI_ge hi1 (by omega))) (fun _ => ?_)
      refine lv_iload_n hx hb dX10_difference_12 rfl (lv_at hl 2 rfl) ?_
      refine lv_if_lt (tgt := 28) hx hb dX10_difference_13 (by decide) (fun c9 => absurd c9 (fun q => by rw [Int32.lt_iff_toInt_lt] at q; rw [Int32.le_iff_toInt_le, nI_toInt (by omega)] at z; have : (0 : Int32).toInt = 0 := rfl; omega)) (fun _ => ?_)
      refine lv_iload_n hx hb dX10_difference_16 rfl (lv_at hl 2 rfl) ?_
      refine lv_aload_n hx hb dX10_difference_17 rfl (lv_at hl 0 rfl) ?_
      refine fh_get (C := RX10) (T := TX10) (N := 28) hx hb ht inX10 hown hE.1 hP hM.m rfl 3 (by decide) (ht _ kw_693) (fun _ h9 => h9) (v := .int (nI nv)) rfl dX10_difference_18 ?_
      refine lv_icmp_ge (tgt := 28) hx hb dX10_difference_21 (by decide) (fun _ => ?_) (fun c9 => absurd (z) c9)
      refine lv_iconst (v := (nI 0)) hx hb dX10_difference_28 (by decide) ?_
      refine lv_istore (lv' := [(4, .int (nI 0)), (0, .ref ma), (1, .int (nI i1)), (2, .int bb), (3, .int kk)]) hx hb dX10_difference_29 hl (by decide) rfl (fun ls hl => ?_)
      refine lv_aload_n hx hb dX10_difference_31 rfl (lv_at hl 1 rfl) ?_
      refine lv_iload hx hb dX10_difference_32 (lv_at hl 0 rfl) ?_
      refine lv_if_eq (tgt := 41) hx hb dX10_difference_34 (by decide) (fun _ => ?_) (fun c9 => absurd (rfl) c9)
      refine lv_iconst (v := (nI 1)) hx hb dX10_difference_41 (by decide) ?_
      refine fh_put (C := RX10) (T := TX10) (N := 28) (t := .int) hx hb ht inX10 tyX10 tyX10_ok nmX10 hown hE.1 hP hS hM.m (hM.A0) rfl 0 (by decide) (ht _ kw_690) (fun _ h9 => h9) rfl (by decide +kernel) rfl rfl (Nat.le_of_ble_eq_true rfl) dX10_difference_42 (fun H locs hP hz hS => ?_)
      obtain ⟨h_1, eh_1⟩ : ∃ z, z = fh_up h ma (.inr (10, [.int (nI 1), .int (nI no), .ref (b 12), .int (nI nv), .ref (b 13), .ref (b 14), .int (nI ns), .ref (b 15), .ref (b 16), .ref (b 17), .ref (b 18), .ref (b 19), .ref (b 20), .ref (b 21), .ref (b 22), .ref (b 23), .ref (b 24), .int (nI J), .int (nI C.length), .ref (b 25), .int (nI LK.length), .ref (b 26), .ref (b 27), .int (nI RL.length), .ref (b 28), .ref (b 29), .ref (b 30), .ref (b 31)])) := ⟨_, rfl⟩
      have hP : fh_P G vwCl h_1 H := by rw [eh_1]; exact hP
      have hM_1 := MG.sc hM (th2 := (nI 1)) (no2 := no) (nv2 := nv) (ns2 := ns) (J2 := J) (nc2 := C.length) (nl2 := LK.length) (nr2 := RL.length) eh_1
      refine lv_aload_n hx hb dX10_difference_45 rfl (lv_at hl 1 rfl) ?_
      refine fh_get (C := RX10) (T := TX10) (N := 28) hx hb ht inX10 hown hE.1 hP hM_1.m rfl 0 (by decide) (ht _ kw_690) (fun _ h9 => h9) (v := .int (nI 1)) rfl dX10_difference_46 ?_
      refine lv_if_eq (tgt := 54) hx hb dX10_difference_49 (by decide) (fun c9 => absurd c9 (by decide)) (fun _ => ?_)
      refine lv_iconst (v := (nI 0)) hx hb dX10_difference_52 (by decide) ?_
      have ep : oDiff nv V (nI i1) bb kk = (1, 0) := by simp [oDiff, h1x, ix_none (Or.inr z)]
      exact fh_iret hx hb hr hlocks (⟨_, rfl, (fun z => by rw [ep] at z; cases z), by rw [ep]; exact ⟨_, _, _, _, _, _, _, _, _, _, _, _, _, _, _, _, _, _, _, _, hM_1, hX⟩⟩) hP hS (Nat.le_of_ble_eq_true rfl) (Nat.le_of_ble_eq_true rfl) dX10_difference_53
    · have h2x := ix_some hi2 (show nv < 2 ^ 31 by omega)
      refine lv_iload_n hx hb dX10_difference_0 rfl (lv_at hl 1 rfl) ?_
      refine lv_if_lt (tgt := 28) hx hb dX10_difference_1 (by decide) (fun c9 => absurd c9 (nI_pos (by omega))) (fun _ => ?_)
      refine lv_iload_n hx hb dX10_difference_4 rfl (lv_at hl 1 rfl) ?_
      refine lv_aload_n hx hb dX10_difference_5 rfl (lv_at hl 0 rfl) ?_
      refine fh_get (C := RX10) (T := TX10) (N := 28) hx hb ht inX10 hown hE.1 hP hM.m rfl 3 (by decide) (ht _ kw_693) (fun _ h9 => h9) (v := .int (nI nv)) rfl dX10_difference_6 ?_
      refine lv_icmp_ge (tgt := 28) hx hb dX10_difference_9 (by decide) (fun c9 => absurd c9 (nI_ge hi1 (by omega))) (fun _ => ?_)
      refine lv_iload_n hx hb dX10_difference_12 rfl (lv_at hl 2 rfl) ?_
      refine lv_if_lt (tgt := 28) hx hb dX10_difference_13 (by decide) (fun c9 => absurd c9 (nI_pos (by omega))) (fun _ => ?_)
      refine lv_iload_n hx hb dX10_difference_16 rfl (lv_at hl 2 rfl) ?_
      refine lv_aload_n hx hb dX10_difference_17 rfl (lv_at hl 0 rfl) ?_
      refine fh_get (C := RX10) (T := TX10) (N := 28) hx hb ht inX10 hown hE.1 hP hM.m rfl 3 (by decide) (ht _ kw_693) (fun _ h9 => h9) (v := .int (nI nv)) rfl dX10_difference_18 ?_
      refine lv_icmp_ge (tgt := 28) hx hb dX10_difference_21 (by decide) (fun c9 => absurd c9 (nI_ge hi2 (by omega))) (fun _ => ?_)
      refine lv_iconst (v := (nI 1)) hx hb dX10_difference_24 (by decide) ?_
      refine lv_goto (tgt := 29) hx hb dX10_difference_25 (by decide) ?_
      refine lv_istore (lv' := [(4, .int (nI 1)), (0, .ref ma), (1, .int (nI i1)), (2, .int (nI i2)), (3, .int kk)]) hx hb dX10_difference_29 hl (by decide) rfl (fun ls hl => ?_)
      refine lv_aload_n hx hb dX10_difference_31 rfl (lv_at hl 1 rfl) ?_
      refine lv_iload hx hb dX10_difference_32 (lv_at hl 0 rfl) ?_
      refine lv_if_eq (tgt := 41) hx hb dX10_difference_34 (by decide) (fun c9 => absurd c9 (by decide)) (fun _ => ?_)
      refine lv_iconst (v := (nI 0)) hx hb dX10_difference_37 (by decide) ?_
      refine lv_goto (tgt := 42) hx hb dX10_difference_38 (by decide) ?_
      refine fh_put (C := RX10) (T := TX10) (N := 28) (t := .int) hx hb ht inX10 tyX10 tyX10_ok nmX10 hown hE.1 hP hS hM.m (hM.A0) rfl 0 (by decide) (ht _ kw_690) (fun _ h9 => h9) rfl (by decide +kernel) rfl rfl (Nat.le_of_ble_eq_true rfl) dX10_difference_42 (fun H locs hP hz hS => ?_)
      obtain ⟨h_1, eh_1⟩ : ∃ z, z = fh_up h ma (.inr (10, [.int (nI 0), .int (nI no), .ref (b 12), .int (nI nv), .ref (b 13), .ref (b 14), .int (nI ns), .ref (b 15), .ref (b 16), .ref (b 17), .ref (b 18), .ref (b 19), .ref (b 20), .ref (b 21), .ref (b 22), .ref (b 23), .ref (b 24), .int (nI J), .int (nI C.length), .ref (b 25), .int (nI LK.length), .ref (b 26), .ref (b 27), .int (nI RL.length), .ref (b 28), .ref (b 29), .ref (b 30), .ref (b 31)])) := ⟨_, rfl⟩
      have hP : fh_P G vwCl h_1 H := by rw [eh_1]; exact hP
      have hM_1 := MG.sc hM (th2 := (nI 0)) (no2 := no) (nv2 := nv) (ns2 := ns) (J2 := J) (nc2 := C.length) (nl2 := LK.length) (nr2 := RL.length) eh_1
      refine lv_aload_n hx hb dX10_difference_45 rfl (lv_at hl 1 rfl) ?_
      refine fh_get (C := RX10) (T := TX10) (N := 28) hx hb ht inX10 hown hE.1 hP hM_1.m rfl 0 (by decide) (ht _ kw_690) (fun _ h9 => h9) (v := .int (nI 0)) rfl dX10_difference_46 ?_
      refine lv_if_eq (tgt := 54) hx hb dX10_difference_49 (by decide) (fun _ => ?_) (fun c9 => absurd (rfl) c9)
      have edl : (diffL (V i1) (V i2) 60) = (diffL (V i1) (V i2) no) := diffL_no (hVn i1 hi1) (hVn i2 hi2) hno
      have hdl6 := diffL_len (V i1) (V i2) 60
      have r1 := (xV i1 hi1).1
      have r2 := (xV i2 hi2).1
      by_cases c0 : kk < 0
      · refine lv_iload_n hx hb dX10_difference_54 rfl (lv_at hl 4 rfl) ?_
        refine lv_istore (lv' := [(5, .int kk), (4, .int (nI 1)), (0, .ref ma), (1, .int (nI i1)), (2, .int (nI i2)), (3, .int kk)]) hx hb dX10_difference_55 hl (by decide) rfl (fun ls hl => ?_)
        refine lv_iconst (v := (nI 0)) hx hb dX10_difference_57 (by decide) ?_
        refine lv_istore (lv' := [(6, .int (nI 0)), (5, .int kk), (4, .int (nI 1)), (0, .ref ma), (1, .int (nI i1)), (2, .int (nI i2)), (3, .int kk)]) hx hb dX10_difference_58 hl (by decide) rfl (fun ls hl => ?_)
        refine lv_iload hx hb dX10_difference_60 (lv_at hl 0 rfl) ?_
        refine lv_aload_n hx hb dX10_difference_62 rfl (lv_at hl 3 rfl) ?_
        refine fh_get (C := RX10) (T := TX10) (N := 28) hx hb ht inX10 hown hE.1 hP hM_1.m rfl 1 (by decide) (ht _ kw_691) (fun _ h9 => h9) (v := .int (nI no)) rfl dX10_difference_63 ?_
        refine lv_icmp_ge (tgt := 238) hx hb dX10_difference_66 (by decide) (fun c1 => ?_) (fun c1 => ?_)
        · refine lv_iconst (v := (-1)) hx hb dX10_difference_238 (by decide) ?_
          have ep : oDiff nv V (nI i1) (nI i2) kk = (0, -1) := by simp only [oDiff, h1x, h2x, ix_none (Or.inl c0)]
          exact fh_iret hx hb hr hlocks (⟨_, rfl, fun _ => (by rw [ep] <;> rfl), by rw [ep]; exact ⟨_, _, _, _, _, _, _, _, _, _, _, _, _, _, _, _, _, _, _, _, hM_1, hX⟩⟩) hP hS (by first | exact (Nat.le_of_ble_eq_true rfl) | omega) (by first | exact (Nat.le_of_ble_eq_true rfl) | omega) dX10_difference_239
        · refine lv_iload_n hx hb dX10_difference_69 rfl (lv_at hl 6 rfl) ?_
          refine lv_if_lt (tgt := 238) hx hb dX10_difference_70 (by decide) (fun _ => ?_) (fun c9 => absurd (c0) c9)
          refine lv_iconst (v := (-1)) hx hb dX10_difference_238 (by decide) ?_
          have ep : oDiff nv V (nI i1) (nI i2) kk = (0, -1) := by simp only [oDiff, h1x, h2x, ix_none (Or.inl c0)]
          exact fh_iret hx hb hr hlocks (⟨_, rfl, fun _ => (by rw [ep] <;> rfl), by rw [ep]; exact ⟨_, _, _, _, _, _, _, _, _, _, _, _, _, _, _, _, _, _, _, _, hM_1, hX⟩⟩) hP hS (by first | exact (Nat.le_of_ble_eq_true rfl) | omega) (by first | exact (Nat.le_of_ble_eq_true rfl) | omega) dX10_difference_239
      · obtain ⟨k9, hk9, rfl⟩ := pk_neg c0
        refine lv_iload_n hx hb dX10_difference_54 rfl (lv_at hl 4 rfl) ?_
        refine lv_istore (lv' := [(5, .int (nI k9)), (4, .int (nI 1)), (0, .ref ma), (1, .int (nI i1)), (2, .int (nI i2)), (3, .int (nI k9))]) hx hb dX10_difference_55 hl (by decide) rfl (fun ls hl => ?_)
        refine lv_iconst (v := (nI 0)) hx hb dX10_difference_57 (by decide) ?_
        refine lv_istore (lv' := [(6, .int (nI 0)), (5, .int (nI k9)), (4, .int (nI 1)), (0, .ref ma), (1, .int (nI i1)), (2, .int (nI i2)), (3, .int (nI k9))]) hx hb dX10_difference_58 hl (by decide) rfl (fun ls hl => ?_)
        have loop : ∀ (n o : Nat), o + n = no → ∀ (n1 : Nat) (_ : n1 = (diffL (V i1) (V i2) o).length) (_ : n1 ≤ k9), ∀ (H : Heap) (locs : List Loc) (ls : Array Slot), fh_P G vwCl h_1 H → va_S A s.heap H locs → lv_has ls 11 [(6, .int (nI o)), (5, .int (nI (k9 - n1))), (4, .int (nI 1)), (0, .ref ma), (1, .int (nI i1)), (2, .int (nI i2)), (3, .int (nI k9))] → W p l e (headSpec wsX10_difference { frames := 3, cells := 0, slots := 0, locals := 85 }).room s m [.ref ma, .int (nI i1), .int (nI i2), .int (nI k9)].toArray below meth c H locs 0 0 (MQ below (fh_Q G (fun v u => ∃ ans : Int32, v = some (.int ans) ∧ ((oDiff nv V (nI i1) (nI i2) (nI k9)).1 = 0 → ans = (oDiff nv V (nI i1) (nI i2) (nI k9)).2) ∧ RepM A h u ma b (nI (oDiff nv V (nI i1) (nI i2) (nI k9)).1) no nv ns V S LK RL J C M) A) [.ref ma, .int (nI i1), .int (nI i2), .int (nI k9)].toArray s 0 0 A) (F0 m 60 ls []) := by
          intro n
          induction n with
          | zero =>
            intro o hin n1 en hk H locs ls hP hS hl
            refine lv_iload hx hb dX10_difference_60 (lv_at hl 0 rfl) ?_
            refine lv_aload_n hx hb dX10_difference_62 rfl (lv_at hl 3 rfl) ?_
            refine fh_get (C := RX10) (T := TX10) (N := 28) hx hb ht inX10 hown hE.1 hP hM_1.m rfl 1 (by decide) (ht _ kw_691) (fun _ h9 => h9) (v := .int (nI no)) rfl dX10_difference_63 ?_
            refine lv_icmp_ge (tgt := 238) hx hb dX10_difference_66 (by decide) (fun _ => ?_) (fun c9 => absurd (nI_le (by omega) (by omega)) c9)
            refine lv_iconst (v := (-1)) hx hb dX10_difference_238 (by decide) ?_
            have eo9 : o = no := by omega
            have e3 : ix (nI k9) (diffL (V i1) (V i2) 60).length = none := ix_none (Or.inr (nI_le (by rw [edl, ← eo9, ← en]; exact hk) hk9))
            have ep : oDiff nv V (nI i1) (nI i2) (nI k9) = (0, -1) := by simp only [oDiff, h1x, h2x, e3]
            exact fh_iret hx hb hr hlocks (⟨_, rfl, fun _ => (by rw [ep] <;> rfl), by rw [ep]; exact ⟨_, _, _, _, _, _, _, _, _, _, _, _, _, _, _, _, _, _, _, _, hM_1, hX⟩⟩) hP hS (by first | exact (Nat.le_of_ble_eq_true rfl) | omega) (by first | exact (Nat.le_of_ble_eq_true rfl) | omega) dX10_difference_239
          | succ n ih =>
            intro o hin n1 en hk H locs ls hP hS hl
            have ho : o < no := by omega
            have ihO := ih
            have hinO := hin
            have ho60 : o < 60 := by omega
            refine lv_iload hx hb dX10_difference_60 (lv_at hl 0 rfl) ?_
            refine lv_aload_n hx hb dX10_difference_62 rfl (lv_at hl 3 rfl) ?_
            refine fh_get (C := RX10) (T := TX10) (N := 28) hx hb ht inX10 hown hE.1 hP hM_1.m rfl 1 (by decide) (ht _ kw_691) (fun _ h9 => h9) (v := .int (nI no)) rfl dX10_difference_63 ?_
            refine lv_icmp_ge (tgt := 238) hx hb dX10_difference_66 (by decide) (fun c9 => absurd c9 (nI_ge ho (by omega))) (fun _ => ?_)
            refine lv_iload_n hx hb dX10_difference_69 rfl (lv_at hl 6 rfl) ?_
            refine lv_if_lt (tgt := 238) hx hb dX10_difference_70 (by decide) (fun c9 => absurd c9 (c0)) (fun _ => ?_)
            refine lv_aload_n hx hb dX10_difference_73 rfl (lv_at hl 3 rfl) ?_
            refine fh_get (C := RX10) (T := TX10) (N := 28) hx hb ht inX10 hown hE.1 hP hM_1.m rfl 4 (by decide) (ht _ kw_694) (fun _ h9 => h9) (v := .ref (b 13)) rfl dX10_difference_74 ?_
            refine lv_bipush (v := (nI 60)) hx hb dX10_difference_77 (by decide) ?_
            refine lv_iload_n hx hb dX10_difference_79 rfl (lv_at hl 4 rfl) ?_
            refine lv_imul hx hb dX10_difference_80 ?_
            refine lv_topi (fun z9 ez9 => ?_)
            rw [show z9 = nI (60 * i1) from ez9.trans (pk_mul _ _)]
            refine lv_iload hx hb dX10_difference_81 (lv_at hl 0 rfl) ?_
            refine lv_iadd hx hb dX10_difference_83 ?_
            refine lv_topi (fun z9 ez9 => ?_)
            rw [show z9 = nI ((60 * i1) + o) from ez9.trans (nI_add _ _)]
            refine fh_zald (k := ((60 * i1) + o)) hx hb hE.1 hP hM_1.a13 rfl (by omega) (by decide) dX10_difference_84 ?_
            rw [show fH (60 * i1 + o) = bI (V i1 o).isSome from (r1 o ho60).1]
            refine lv_istore (lv' := [(7, .int (bI (V i1 o).isSome)), (6, .int (nI o)), (5, .int (nI (k9 - n1))), (4, .int (nI 1)), (0, .ref ma), (1, .int (nI i1)), (2, .int (nI i2)), (3, .int (nI k9))]) hx hb dX10_difference_85 hl (by decide) rfl (fun ls hl => ?_)
            refine lv_aload_n hx hb dX10_difference_87 rfl (lv_at hl 4 rfl) ?_
            refine fh_get (C := RX10) (T := TX10) (N := 28) hx hb ht inX10 hown hE.1 hP hM_1.m rfl 4 (by decide) (ht _ kw_694) (fun _ h9 => h9) (v := .ref (b 13)) rfl dX10_difference_88 ?_
            refine lv_bipush (v := (nI 60)) hx hb dX10_difference_91 (by decide) ?_
            refine lv_iload_n hx hb dX10_difference_93 rfl (lv_at hl 6 rfl) ?_
            refine lv_imul hx hb dX10_difference_94 ?_
            refine lv_topi (fun z9 ez9 => ?_)
            rw [show z9 = nI (60 * i2) from ez9.trans (pk_mul _ _)]
            refine lv_iload hx hb dX10_difference_95 (lv_at hl 1 rfl) ?_
            refine lv_iadd hx hb dX10_difference_97 ?_
            refine lv_topi (fun z9 ez9 => ?_)
            rw [show z9 = nI ((60 * i2) + o) from ez9.trans (nI_add _ _)]
            refine fh_zald (k := ((60 * i2) + o)) hx hb hE.1 hP hM_1.a13 rfl (by omega) (by decide) dX10_difference_98 ?_
            rw [show fH (60 * i2 + o) = bI (V i2 o).isSome from (r2 o ho60).1]
            refine lv_istore (lv' := [(8, .int (bI (V i2 o).isSome)), (7, .int (bI (V i1 o).isSome)), (6, .int (nI o)), (5, .int (nI (k9 - n1))), (4, .int (nI 1)), (0, .ref ma), (1, .int (nI i1)), (2, .int (nI i2)), (3, .int (nI k9))]) hx hb dX10_difference_99 hl (by decide) rfl (fun ls hl => ?_)
            refine lv_iconst (v := (nI 0)) hx hb dX10_difference_101 (by decide) ?_
            refine lv_istore (lv' := [(9, .int (nI 0)), (8, .int (bI (V i2 o).isSome)), (7, .int (bI (V i1 o).isSome)), (6, .int (nI o)), (5, .int (nI (k9 - n1))), (4, .int (nI 1)), (0, .ref ma), (1, .int (nI i1)), (2, .int (nI i2)), (3, .int (nI k9))]) hx hb dX10_difference_102 hl (by decide) rfl (fun ls hl => ?_)
            have lop2 : ∀ (n j : Nat), j + n = 7 → ∀ (n2 : Nat) (_ : n2 = (diffL (V i1) (V i2) o ++ diffO (V i1 o) (V i2 o) o j).length) (_ : n2 ≤ k9), ∀ (H : Heap) (locs : List Loc) (ls : Array Slot), fh_P G vwCl h_1 H → va_S A s.heap H locs → lv_has ls 11 [(9, .int (nI j)), (5, .int (nI (k9 - n2))), (8, .int (bI (V i2 o).isSome)), (7, .int (bI (V i1 o).isSome)), (6, .int (nI o)), (4, .int (nI 1)), (0, .ref ma), (1, .int (nI i1)), (2, .int (nI i2)), (3, .int (nI k9))] → W p l e (headSpec wsX10_difference { frames := 3, cells := 0, slots := 0, locals := 85 }).room s m [.ref ma, .int (nI i1), .int (nI i2), .int (nI k9)].toArray below meth c H locs 0 0 (MQ below (fh_Q G (fun v u => ∃ ans : Int32, v = some (.int ans) ∧ ((oDiff nv V (nI i1) (nI i2) (nI k9)).1 = 0 → ans = (oDiff nv V (nI i1) (nI i2) (nI k9)).2) ∧ RepM A h u ma b (nI (oDiff nv V (nI i1) (nI i2) (nI k9)).1) no nv ns V S LK RL J C M) A) [.ref ma, .int (nI i1), .int (nI i2), .int (nI k9)].toArray s 0 0 A) (F0 m 104 ls []) := by
              intro n
              induction n with
              | zero =>
                intro j hin n2 en2 hk2 H locs ls hP hS hl
                have j7 : j = 7 := by omega
                refine lv_iload hx hb dX10_difference_104 (lv_at hl 0 rfl) ?_
                refine lv_bipush (v := (nI 7)) hx hb dX10_difference_106 (by decide) ?_
                refine lv_icmp_ge (tgt := 232) hx hb dX10_difference_108 (by decide) (fun _ => ?_) (fun c9 => absurd (nI_le (by omega) (by omega)) c9)
                refine lv_iinc (v := nI (o + 1)) (lv' := [(6, .int (nI (o + 1))), (9, .int (nI j)), (5, .int (nI (k9 - n2))), (8, .int (bI (V i2 o).isSome)), (7, .int (bI (V i1 o).isSome)), (4, .int (nI 1)), (0, .ref ma), (1, .int (nI i1)), (2, .int (nI i2)), (3, .int (nI k9))]) hx hb dX10_difference_232 hl (k := 4) rfl (nI_1 _) (by decide) rfl (fun ls hl => ?_)
                refine lv_goto (tgt := 60) hx hb dX10_difference_235 (by decide) ?_
                exact ihO (o + 1) (by omega) n2 (by rw [en2, j7]; rfl) hk2 H locs ls hP hS (lv_sub hl [0, 2, 5, 6, 7, 8, 9] rfl)
              | succ n ih =>
                intro j hin n2 en2 hk2 H locs ls hP hS hl
                have hj : j < 7 := by omega
                refine lv_iload hx hb dX10_difference_104 (lv_at hl 0 rfl) ?_
                refine lv_bipush (v := (nI 7)) hx hb dX10_difference_106 (by decide) ?_
                refine lv_icmp_ge (tgt := 232) hx hb dX10_difference_108 (by decide) (fun c9 => absurd c9 (nI_ge hj (by decide))) (fun _ => ?_)
                have tl : ∀ (c9 : Bool) (_ : c9 = differO (V i1 o) (V i2 o) j) (H : Heap) (locs : List Loc) (ls : Array Slot), fh_P G vwCl h_1 H → va_S A s.heap H locs → lv_has ls 11 [(9, .int (nI j)), (5, .int (nI (k9 - n2))), (8, .int (bI (V i2 o).isSome)), (7, .int (bI (V i1 o).isSome)), (6, .int (nI o)), (4, .int (nI 1)), (0, .ref ma), (1, .int (nI i1)), (2, .int (nI i2)), (3, .int (nI k9))] → W p l e (headSpec wsX10_difference { frames := 3, cells := 0, slots := 0, locals := 85 }).room s m [.ref ma, .int (nI i1), .int (nI i2), .int (nI k9)].toArray below meth c H locs 0 0 (MQ below (fh_Q G (fun v u => ∃ ans : Int32, v = some (.int ans) ∧ ((oDiff nv V (nI i1) (nI i2) (nI k9)).1 = 0 → ans = (oDiff nv V (nI i1) (nI i2) (nI k9)).2) ∧ RepM A h u ma b (nI (oDiff nv V (nI i1) (nI i2) (nI k9)).1) no nv ns V S LK RL J C M) A) [.ref ma, .int (nI i1), .int (nI i2), .int (nI k9)].toArray s 0 0 A) (F0 m 190 ls [.int (bI c9)]) := by
                  intro c9 hc9 H locs ls hP hS hl
                  refine lv_istore (lv' := [(10, .int (bI c9)), (9, .int (nI j)), (5, .int (nI (k9 - n2))), (8, .int (bI (V i2 o).isSome)), (7, .int (bI (V i1 o).isSome)), (6, .int (nI o)), (4, .int (nI 1)), (0, .ref ma), (1, .int (nI i1)), (2, .int (nI i2)), (3, .int (nI k9))]) hx hb dX10_difference_190 hl (by decide) rfl (fun ls hl => ?_)
                  refine lv_iload hx hb dX10_difference_192 (lv_at hl 0 rfl) ?_
                  refine lv_if_eq (tgt := 211) hx hb dX10_difference_194 (by decide) (fun c1 => ?_) (fun c1 => ?_)
                  · have e1 := bI_eq.mp c1
                    have e2 : (diffL (V i1) (V i2) o ++ diffO (V i1 o) (V i2 o) o (j + 1)) = (diffL (V i1) (V i2) o ++ diffO (V i1 o) (V i2 o) o j) := by rw [diffO_s, if_neg (by rw [← hc9, e1]; decide), List.append_nil]
                    refine lv_iload hx hb dX10_difference_211 (lv_at hl 2 rfl) ?_
                    refine lv_iload hx hb dX10_difference_213 (lv_at hl 0 rfl) ?_
                    refine lv_if_eq (tgt := 222) hx hb dX10_difference_215 (by decide) (fun _ => ?_) (fun c9 => absurd (c1) c9)
                    refine lv_iconst (v := (nI 0)) hx hb dX10_difference_222 (by decide) ?_
                    refine lv_isub hx hb dX10_difference_223 ?_
                    refine lv_topi (fun z9 ez9 => ?_)
                    rw [show z9 = nI (k9 - n2) from ez9.trans (pk_sub (Nat.zero_le _))]
                    refine lv_istore (lv' := [(5, .int (nI (k9 - n2))), (10, .int (bI c9)), (9, .int (nI j)), (8, .int (bI (V i2 o).isSome)), (7, .int (bI (V i1 o).isSome)), (6, .int (nI o)), (4, .int (nI 1)), (0, .ref ma), (1, .int (nI i1)), (2, .int (nI i2)), (3, .int (nI k9))]) hx hb dX10_difference_224 hl (by decide) rfl (fun ls hl => ?_)
                    refine lv_iinc (v := nI (j + 1)) (lv' := [(9, .int (nI (j + 1))), (5, .int (nI (k9 - n2))), (10, .int (bI c9)), (8, .int (bI (V i2 o).isSome)), (7, .int (bI (V i1 o).isSome)), (6, .int (nI o)), (4, .int (nI 1)), (0, .ref ma), (1, .int (nI i1)), (2, .int (nI i2)), (3, .int (nI k9))]) hx hb dX10_difference_226 hl (k := 2) rfl (nI_1 _) (by decide) rfl (fun ls hl => ?_)
                    refine lv_goto (tgt := 104) hx hb dX10_difference_229 (by decide) ?_
                    exact ih (j + 1) (by omega) n2 (by rw [e2]; exact en2) hk2 H locs ls hP hS (lv_sub hl [0, 1, 3, 4, 5, 6, 7, 8, 9, 10] rfl)
                  · have e1 := bI_nz c1
                    have hd9 : differO (V i1 o) (V i2 o) j = true := hc9 ▸ e1
                    have e2 : (diffL (V i1) (V i2) 60)[n2]? = some (o, j) := by rw [en2]; exact diffL_at ho60 hj hd9
                    refine lv_iload hx hb dX10_difference_197 (lv_at hl 2 rfl) ?_
                    refine lv_if_ne (tgt := 211) hx hb dX10_difference_199 (by decide) (fun c2 => ?_) (fun c2 => ?_)
                    · have e3 : n2 < k9 := by
                        rcases Nat.lt_or_ge n2 k9 with z | z
                        · exact z
                        · exact absurd (by rw [show k9 - n2 = 0 by omega]; rfl) c2
                      refine lv_iload hx hb dX10_difference_211 (lv_at hl 2 rfl) ?_
                      refine lv_iload hx hb dX10_difference_213 (lv_at hl 0 rfl) ?_
                      refine lv_if_eq (tgt := 222) hx hb dX10_difference_215 (by decide) (fun c9 => absurd c9 (c1)) (fun _ => ?_)
                      refine lv_iconst (v := (nI 1)) hx hb dX10_difference_218 (by decide) ?_
                      refine lv_goto (tgt := 223) hx hb dX10_difference_219 (by decide) ?_
                      refine lv_isub hx hb dX10_difference_223 ?_
                      refine lv_topi (fun z9 ez9 => ?_)
                      rw [show z9 = nI (k9 - (n2 + 1)) from ez9.trans ((pk_sub (by omega)).trans (congrArg nI (by omega)))]
                      refine lv_istore (lv' := [(5, .int (nI (k9 - (n2 + 1)))), (10, .int (bI c9)), (9, .int (nI j)), (8, .int (bI (V i2 o).isSome)), (7, .int (bI (V i1 o).isSome)), (6, .int (nI o)), (4, .int (nI 1)), (0, .ref ma), (1, .int (nI i1)), (2, .int (nI i2)), (3, .int (nI k9))]) hx hb dX10_difference_224 hl (by decide) rfl (fun ls hl => ?_)
                      refine lv_iinc (v := nI (j + 1)) (lv' := [(9, .int (nI (j + 1))), (5, .int (nI (k9 - (n2 + 1)))), (10, .int (bI c9)), (8, .int (bI (V i2 o).isSome)), (7, .int (bI (V i1 o).isSome)), (6, .int (nI o)), (4, .int (nI 1)), (0, .ref ma), (1, .int (nI i1)), (2, .int (nI i2)), (3, .int (nI k9))]) hx hb dX10_difference_226 hl (k := 2) rfl (nI_1 _) (by decide) rfl (fun ls hl => ?_)
                      refine lv_goto (tgt := 104) hx hb dX10_difference_229 (by decide) ?_
                      exact ih (j + 1) (by omega) (n2 + 1) (by rw [diffO_s, if_pos hd9, ← List.append_assoc, List.length_append, ← en2]; rfl) e3 H locs ls hP hS (lv_sub hl [0, 1, 3, 4, 5, 6, 7, 8, 9, 10] rfl)
                    · have e3 : n2 = k9 := by
                        rcases Nat.lt_or_ge n2 k9 with z | z
                        · exact absurd c2 (nI_ne0 (by omega) (by omega))
                        · omega
                      have e4 : ix (nI k9) (diffL (V i1) (V i2) 60).length = some n2 := by rw [e3] at e2 ⊢; exact ix_some (List.getElem?_eq_some_iff.mp e2).1 (by omega)
                      refine lv_bipush (v := (nI 8)) hx hb dX10_difference_202 (by decide) ?_
                      refine lv_iload hx hb dX10_difference_204 (lv_at hl 5 rfl) ?_
                      refine lv_imul hx hb dX10_difference_206 ?_
                      refine lv_topi (fun z9 ez9 => ?_)
                      rw [show z9 = nI (8 * o) from ez9.trans (pk_mul _ _)]
                      refine lv_iload hx hb dX10_difference_207 (lv_at hl 1 rfl) ?_
                      refine lv_iadd hx hb dX10_difference_209 ?_
                      refine lv_topi (fun z9 ez9 => ?_)
                      rw [show z9 = nI ((8 * o) + j) from ez9.trans (nI_add _ _)]
                      have ep : oDiff nv V (nI i1) (nI i2) (nI k9) = (0, nI (8 * o + j)) := by simp only [oDiff, h1x, h2x, e4, getD_of e2]
                      exact fh_iret hx hb hr hlocks (⟨_, rfl, fun _ => (by rw [ep] <;> rfl), by rw [ep]; exact ⟨_, _, _, _, _, _, _, _, _, _, _, _, _, _, _, _, _, _, _, _, hM_1, hX⟩⟩) hP hS (by first | exact (Nat.le_of_ble_eq_true rfl) | omega) (by first | exact (Nat.le_of_ble_eq_true rfl) | omega) dX10_difference_210
                refine lv_iload hx hb dX10_difference_111 (lv_at hl 0 rfl) ?_
                refine lv_bipush (v := (nI 6)) hx hb dX10_difference_113 (by decide) ?_
                refine lv_icmp_ne (tgt := 133) hx hb dX10_difference_115 (by decide) (fun f1 => ?_) (fun f1 => ?_)
                · have j6 : ¬ j = 6 := fun z => f1 (by rw [z])
                  refine lv_iload hx hb dX10_difference_133 (lv_at hl 3 rfl) ?_
                  refine lv_if_eq (tgt := 189) hx hb dX10_difference_135 (by decide) (fun f2 => ?_) (fun f2 => ?_)
                  · have e1 : V i1 o = none := by have z := bI_eq.mp f2; revert z; cases V i1 o <;> simp
                    refine lv_iconst (v := (nI 0)) hx hb dX10_difference_189 (by decide) ?_
                    refine W.eq (g2 := F0 m 190 ls [.int (nI 0)]) rfl ?_
                    exact tl false (by rw [e1]; cases V i2 o <;> simp [differO, j6]) _ _ _ hP hS (lv_sub hl [0, 1, 2, 3, 4, 5, 6, 7, 8, 9] rfl)
                  · obtain ⟨w1, e1⟩ : ∃ w1, V i1 o = some w1 := Option.isSome_iff_exists.mp (bI_nz f2)
                    refine lv_iload hx hb dX10_difference_138 (lv_at hl 2 rfl) ?_
                    refine lv_if_eq (tgt := 189) hx hb dX10_difference_140 (by decide) (fun f3 => ?_) (fun f3 => ?_)
                    · have e2 : V i2 o = none := by have z := bI_eq.mp f3; revert z; cases V i2 o <;> simp
                      refine lv_iconst (v := (nI 0)) hx hb dX10_difference_189 (by decide) ?_
                      refine W.eq (g2 := F0 m 190 ls [.int (nI 0)]) rfl ?_
                      exact tl false (by rw [e1, e2]; simp [differO, j6]) _ _ _ hP hS (lv_sub hl [0, 1, 2, 3, 4, 5, 6, 7, 8, 9] rfl)
                    · obtain ⟨w2, e2⟩ : ∃ w2, V i2 o = some w2 := Option.isSome_iff_exists.mp (bI_nz f3)
                      refine lv_aload_n hx hb dX10_difference_143 rfl (lv_at hl 6 rfl) ?_
                      refine fh_get (C := RX10) (T := TX10) (N := 28) hx hb ht inX10 hown hE.1 hP hM_1.m rfl 5 (by decide) (ht _ kw_695) (fun _ h9 => h9) (v := .ref (b 14)) rfl dX10_difference_144 ?_
                      refine lv_sipush (v := (nI 360)) hx hb dX10_difference_147 (by decide) ?_
                      refine lv_iload_n hx hb dX10_difference_150 rfl (lv_at hl 7 rfl) ?_
                      refine lv_imul hx hb dX10_difference_151 ?_
                      refine lv_topi (fun z9 ez9 => ?_)
                      rw [show z9 = nI (360 * i1) from ez9.trans (pk_mul _ _)]
                      refine lv_bipush (v := (nI 6)) hx hb dX10_difference_152 (by decide) ?_
                      refine lv_iload hx hb dX10_difference_154 (lv_at hl 4 rfl) ?_
                      refine lv_imul hx hb dX10_difference_156 ?_
                      refine lv_topi (fun z9 ez9 => ?_)
                      rw [show z9 = nI (6 * o) from ez9.trans (pk_mul _ _)]
                      refine lv_iadd hx hb dX10_difference_157 ?_
                      refine lv_topi (fun z9 ez9 => ?_)
                      rw [show z9 = nI ((360 * i1) + (6 * o)) from ez9.trans (nI_add _ _)]
                      refine lv_iload hx hb dX10_difference_158 (lv_at hl 0 rfl) ?_
                      refine lv_iadd hx hb dX10_difference_160 ?_
                      refine lv_topi (fun z9 ez9 => ?_)
                      rw [show z9 = nI (((360 * i1) + (6 * o)) + j) from ez9.trans (nI_add _ _)]
                      refine fh_lald (k := (((360 * i1) + (6 * o)) + j)) hx hb hE.1 hP hM_1.a14 rfl (by omega) (by decide) dX10_difference_161 ?_
                      rw [show fF (360 * i1 + 6 * o + j) = w1 j by rw [Nat.add_assoc]; exact (r1 o ho60).2 w1 e1 j (by omega)]
                      refine lv_aload_n hx hb dX10_difference_162 rfl (lv_at hl 6 rfl) ?_
                      refine fh_get (C := RX10) (T := TX10) (N := 28) hx hb ht inX10 hown hE.1 hP hM_1.m rfl 5 (by decide) (ht _ kw_695) (fun _ h9 => h9) (v := .ref (b 14)) rfl dX10_difference_163 ?_
                      refine lv_sipush (v := (nI 360)) hx hb dX10_difference_166 (by decide) ?_
                      refine lv_iload_n hx hb dX10_difference_169 rfl (lv_at hl 8 rfl) ?_
                      refine lv_imul hx hb dX10_difference_170 ?_
                      refine lv_topi (fun z9 ez9 => ?_)
                      rw [show z9 = nI (360 * i2) from ez9.trans (pk_mul _ _)]
                      refine lv_bipush (v := (nI 6)) hx hb dX10_difference_171 (by decide) ?_
                      refine lv_iload hx hb dX10_difference_173 (lv_at hl 4 rfl) ?_
                      refine lv_imul hx hb dX10_difference_175 ?_
                      refine lv_topi (fun z9 ez9 => ?_)
                      rw [show z9 = nI (6 * o) from ez9.trans (pk_mul _ _)]
                      refine lv_iadd hx hb dX10_difference_176 ?_
                      refine lv_topi (fun z9 ez9 => ?_)
                      rw [show z9 = nI ((360 * i2) + (6 * o)) from ez9.trans (nI_add _ _)]
                      refine lv_iload hx hb dX10_difference_177 (lv_at hl 0 rfl) ?_
                      refine lv_iadd hx hb dX10_difference_179 ?_
                      refine lv_topi (fun z9 ez9 => ?_)
                      rw [show z9 = nI (((360 * i2) + (6 * o)) + j) from ez9.trans (nI_add _ _)]
                      refine fh_lald (k := (((360 * i2) + (6 * o)) + j)) hx hb hE.1 hP hM_1.a14 rfl (by omega) (by decide) dX10_difference_180 ?_
                      rw [show fF (360 * i2 + 6 * o + j) = w2 j by rw [Nat.add_assoc]; exact (r2 o ho60).2 w2 e2 j (by omega)]
                      refine W.lcmp hx hb dX10_difference_181 ?_
                      refine lv_if_eq (tgt := 189) hx hb dX10_difference_182 (by decide) (fun f4 => ?_) (fun f4 => ?_)
                      · have f5 := (lg_cmp_eq _ _).mp f4
                        refine lv_iconst (v := (nI 0)) hx hb dX10_difference_189 (by decide) ?_
                        refine W.eq (g2 := F0 m 190 ls [.int (nI 0)]) rfl ?_
                        exact tl false (by rw [e1, e2]; simp [differO, f5]) _ _ _ hP hS (lv_sub hl [0, 1, 2, 3, 4, 5, 6, 7, 8, 9] rfl)
                      · have f5 := mt (lg_cmp_eq _ _).mpr f4
                        refine lv_iconst (v := (nI 1)) hx hb dX10_difference_185 (by decide) ?_
                        refine lv_goto (tgt := 190) hx hb dX10_difference_186 (by decide) ?_
                        refine W.eq (g2 := F0 m 190 ls [.int (nI 1)]) rfl ?_
                        exact tl true (by rw [e1, e2]; simp [differO, f5]; omega) _ _ _ hP hS (lv_sub hl [0, 1, 2, 3, 4, 5, 6, 7, 8, 9] rfl)
                · have j6 : j = 6 := (nI_eq (by omega) (by decide)).mp f1
                  refine lv_iload hx hb dX10_difference_118 (lv_at hl 3 rfl) ?_
                  refine lv_iload hx hb dX10_difference_120 (lv_at hl 2 rfl) ?_
                  refine lv_icmp_eq (tgt := 129) hx hb dX10_difference_122 (by decide) (fun f2 => ?_) (fun f2 => ?_)
                  · have f3 := bI_inj.mp f2
                    refine lv_iconst (v := (nI 0)) hx hb dX10_difference_129 (by decide) ?_
                    refine lv_goto (tgt := 190) hx hb dX10_difference_130 (by decide) ?_
                    refine W.eq (g2 := F0 m 190 ls [.int (nI 0)]) rfl ?_
                    exact tl false (by rw [j6, differO_6]; simp [f3]) _ _ _ hP hS (lv_sub hl [0, 1, 2, 3, 4, 5, 6, 7, 8, 9] rfl)
                  · have f3 : ¬ (V i1 o).isSome = (V i2 o).isSome := fun q => f2 (by rw [q])
                    refine lv_iconst (v := (nI 1)) hx hb dX10_difference_125 (by decide) ?_
                    refine lv_goto (tgt := 190) hx hb dX10_difference_126 (by decide) ?_
                    refine W.eq (g2 := F0 m 190 ls [.int (nI 1)]) rfl ?_
                    exact tl true (by rw [j6, differO_6]; simp [f3]) _ _ _ hP hS (lv_sub hl [0, 1, 2, 3, 4, 5, 6, 7, 8, 9] rfl)
            exact lop2 7 0 (by omega) n1 (by rw [en, show diffO (V i1 o) (V i2 o) o 0 = [] from rfl, List.append_nil]) hk _ _ _ hP hS (lv_sub hl [0, 4, 1, 2, 3, 5, 6, 7, 8, 9] rfl)
        exact loop no 0 (by omega) 0 rfl (Nat.zero_le _) _ _ _ hP hS hl
