set_option maxRecDepth 100000 in
set_option maxHeartbeats 4000000 in
theorem m_add (l : Launch) (G : fG) (A : Nat → Prop) (h : FH) (sz : Nat) {ma : Nat} {b : Nat → Nat} {th : Int32} {no nv ns J nc nl nr : Nat} {fK : Nat → Int32} {fH : Nat → Int32} {fF : Nat → Int64} {fB : Nat → Int32} {fO : Nat → Int32} {fW : Nat → Int32} {fV : Nat → Int64} {fN : Nat → Int32} {cO : Nat → Int32} {cF : Nat → Int32} {cH : Nat → Int32} {cV : Nat → Int64} {fS : Nat → Int32} {fC : Nat → Int32} {lO : Nat → Int32} {lA : Nat → Int64} {rA : Nat → Int32} {rB : Nat → Int32} {rD : Nat → Int64} {fM : Nat → Int32} (hM : MG A h h ma b th no nv ns J nc nl nr fK fH fF fB fO fW fV fN cO cF cH cV fS fC lO lA rA rB rD fM) (o k : Nat) (hnc : nc < 420) : Met l yX10_add wsX10_add { frames := 0, cells := 0, slots := 0, locals := 0 } (va_Pc [.ref ma, .int (nI o), .int (nI k)] (fh_Pre G A h sz)) (fh_Q G (fun v u => v = none ∧ MG A h u ma b th no nv ns J (nc + 1) nl nr fK fH fF fB fO fW fV fN cO cF cH cV fS (upd fC nc (nI (7 * o + k))) lO lA rA rB rD fM) A) 0 0 A := by
  refine fh_Met [.ref ma, .int (nI o), .int (nI k)] (by decide) rfl (Nat.le_of_ble_eq_true rfl) ?_
  intro p e s m below meth c hx hb hr hlocks hml hown hnm hts hsz hP hE hS ls hl
  have ht : ∀ w ∈ wB, w.before _ s = true := fun w h9 => hts w (List.mem_cons_of_mem _ h9)
  have hl : lv_has ls 3 [(0, .ref ma), (1, .int (nI o)), (2, .int (nI k))] := hl
  refine lv_aload_n hx hb dX10_add_0 rfl (lv_at hl 0 rfl) ?_
  refine fh_get (C := RX10) (T := TX10) (N := 28) hx hb ht inX10 hown hE.1 hP hM.m rfl 19 (by decide) (ht _ kw_709) (fun _ h9 => h9) (v := .ref (b 25)) rfl dX10_add_1 ?_
  refine lv_aload_n hx hb dX10_add_4 rfl (lv_at hl 0 rfl) ?_
  refine fh_get (C := RX10) (T := TX10) (N := 28) hx hb ht inX10 hown hE.1 hP hM.m rfl 18 (by decide) (ht _ kw_708) (fun _ h9 => h9) (v := .int (nI nc)) rfl dX10_add_5 ?_
  refine lv_bipush (v := (nI 7)) hx hb dX10_add_8 (by decide) ?_
  refine lv_iload_n hx hb dX10_add_10 rfl (lv_at hl 1 rfl) ?_
  refine lv_imul hx hb dX10_add_11 ?_
  refine lv_topi (fun z9 ez9 => ?_)
  rw [show z9 = nI (7 * o) from ez9.trans (pk_mul _ _)]
  refine lv_iload_n hx hb dX10_add_12 rfl (lv_at hl 2 rfl) ?_
  refine lv_iadd hx hb dX10_add_13 ?_
  refine lv_topi (fun z9 ez9 => ?_)
  rw [show z9 = nI ((7 * o) + k) from ez9.trans (nI_add _ _)]
  refine fh_iast (k := nc) hx hb hE.1 hP hS hM.a25 (hM.A25) rfl (hnc) (by decide) dX10_add_14 (fun H locs hP hz hS => ?_)
  obtain ⟨h_1, eh_1⟩ : ∃ z, z = fh_up h (b 25) (.inl (25, 420, .inl (upd fC nc (nI ((7 * o) + k))))) := ⟨_, rfl⟩
  have hP : fh_P G vwCl h_1 H := by rw [eh_1]; exact hP
  have hM_1 := MG.w25 hM (f2 := upd fC nc (nI ((7 * o) + k))) eh_1
  refine lv_aload_n hx hb dX10_add_15 rfl (lv_at hl 0 rfl) ?_
  refine lv_dup hx hb dX10_add_16 rfl ?_
  refine fh_get (C := RX10) (T := TX10) (N := 28) hx hb ht inX10 hown hE.1 hP hM_1.m rfl 18 (by decide) (ht _ kw_708) (fun _ h9 => h9) (v := .int (nI nc)) rfl dX10_add_17 ?_
  refine lv_iconst (v := (nI 1)) hx hb dX10_add_20 (by decide) ?_
  refine lv_iadd hx hb dX10_add_21 ?_
  refine lv_topi (fun z9 ez9 => ?_)
  rw [show z9 = nI (nc + 1) from ez9.trans (nI_add _ _)]
  refine fh_put (C := RX10) (T := TX10) (N := 28) (t := .int) hx hb ht inX10 tyX10 tyX10_ok nmX10 hown hE.1 hP hS hM_1.m (hM_1.A0) rfl 18 (by decide) (ht _ kw_708) (fun _ h9 => h9) rfl (by decide +kernel) rfl rfl (Nat.le_of_ble_eq_true rfl) dX10_add_22 (fun H locs hP hz hS => ?_)
  obtain ⟨h_2, eh_2⟩ : ∃ z, z = fh_up h_1 ma (.inr (10, [.int th, .int (nI no), .ref (b 12), .int (nI nv), .ref (b 13), .ref (b 14), .int (nI ns), .ref (b 15), .ref (b 16), .ref (b 17), .ref (b 18), .ref (b 19), .ref (b 20), .ref (b 21), .ref (b 22), .ref (b 23), .ref (b 24), .int (nI J), .int (nI (nc + 1)), .ref (b 25), .int (nI nl), .ref (b 26), .ref (b 27), .int (nI nr), .ref (b 28), .ref (b 29), .ref (b 30), .ref (b 31)])) := ⟨_, rfl⟩
  have hP : fh_P G vwCl h_2 H := by rw [eh_2]; exact hP
  have hM_2 := MG.sc hM_1 (th2 := th) (no2 := no) (nv2 := nv) (ns2 := ns) (J2 := J) (nc2 := (nc + 1)) (nl2 := nl) (nr2 := nr) eh_2
  exact fh_vret hx hb hr hlocks (⟨rfl, hM_2⟩) hP hS (Nat.le_of_ble_eq_true rfl) (Nat.le_of_ble_eq_true rfl) dX10_add_25

set_option maxRecDepth 100000 in
set_option maxHeartbeats 4000000 in
theorem m_find (l : Launch) (G : fG) (A : Nat → Prop) (h : FH) (sz : Nat) {ma : Nat} {b : Nat → Nat} {th : Int32} {no nv ns J nc nl nr : Nat} {fK : Nat → Int32} {fH : Nat → Int32} {fF : Nat → Int64} {fB : Nat → Int32} {fO : Nat → Int32} {fW : Nat → Int32} {fV : Nat → Int64} {fN : Nat → Int32} {cO : Nat → Int32} {cF : Nat → Int32} {cH : Nat → Int32} {cV : Nat → Int64} {fS : Nat → Int32} {fC : Nat → Int32} {lO : Nat → Int32} {lA : Nat → Int64} {rA : Nat → Int32} {rB : Nat → Int32} {rD : Nat → Int64} {fM : Nat → Int32} (hM : MG A h h ma b th no nv ns J nc nl nr fK fH fF fB fO fW fV fN cO cF cH cV fS fC lO lA rA rB rD fM) (i o vb : Nat) (hi : i < 20) (ho : o < 60) (hb9 : fB i = nI vb) (hvb : vb < 40) (hnv : 0 < nv) (hnv2 : nv ≤ 40) (zH : bz fH) (zW : bz fW) (B N T : Ro) (hB : fH (60 * vb + o) = bI B.isSome ∧ ∀ r, B = some r → ∀ k, k < 6 → fF (360 * vb + 6 * o + k) = r k) (hN : fW (60 * i + o) = bI N.isSome ∧ ∀ r, N = some r → ∀ k, k < 6 → fV (360 * i + 6 * o + k) = r k) (hT : fH (60 * (nv - 1) + o) = bI T.isSome ∧ ∀ r, T = some r → ∀ k, k < 6 → fF (360 * (nv - 1) + 6 * o + k) = r k) (L : CL) (hnc : nc = L.length) (hL : mC fC L) (hL6 : L.length ≤ 6 * o) : Met l yX10_findConflicts wsX10_findConflicts { frames := 3, cells := 0, slots := 0, locals := 80 } (va_Pc [.ref ma, .int (nI i), .int (nI o)] (fh_Pre G A h sz)) (fh_Q G (fun v u => ∃ fC2, v = none ∧ MG A h u ma b th no nv ns J ((L ++ (if alikeO B N = true then [] else gathO B N T o 7)).length) nl nr fK fH fF fB fO fW fV fN cO cF cH cV fS fC2 lO lA rA rB rD fM ∧ mC fC2 (L ++ (if alikeO B N = true then [] else gathO B N T o 7))) A) 0 0 A := by
  refine fh_Met [.ref ma, .int (nI i), .int (nI o)] (by decide) rfl (Nat.le_of_ble_eq_true rfl) ?_
  intro p e s m below meth c hx hb hr hlocks hml hown hnm hts hsz hP hE hS ls hl
  have ht : ∀ w ∈ wB, w.before _ s = true := fun w h9 => hts w (List.mem_cons_of_mem _ h9)
  have hl : lv_has ls 11 [(0, .ref ma), (1, .int (nI i)), (2, .int (nI o))] := hl
  refine lv_aload_n hx hb dX10_findConflicts_0 rfl (lv_at hl 0 rfl) ?_
  refine fh_get (C := RX10) (T := TX10) (N := 28) hx hb ht inX10 hown hE.1 hP hM.m rfl 9 (by decide) (ht _ kw_699) (fun _ h9 => h9) (v := .ref (b 17)) rfl dX10_findConflicts_1 ?_
  refine lv_bipush (v := (nI 60)) hx hb dX10_findConflicts_4 (by decide) ?_
  refine lv_iload_n hx hb dX10_findConflicts_6 rfl (lv_at hl 1 rfl) ?_
  refine lv_imul hx hb dX10_findConflicts_7 ?_
  refine lv_topi (fun z9 ez9 => ?_)
  rw [show z9 = nI (60 * i) from ez9.trans (pk_mul _ _)]
  refine lv_iload_n hx hb dX10_findConflicts_8 rfl (lv_at hl 2 rfl) ?_
  refine lv_iadd hx hb dX10_findConflicts_9 ?_
  refine lv_topi (fun z9 ez9 => ?_)
  rw [show z9 = nI ((60 * i) + o) from ez9.trans (nI_add _ _)]
  refine fh_zald (k := ((60 * i) + o)) hx hb hE.1 hP hM.a17 rfl (by omega) (by decide) dX10_findConflicts_10 ?_
  rw [hN.1]
  refine lv_istore_n (lv' := [(3, .int (bI N.isSome)), (0, .ref ma), (1, .int (nI i)), (2, .int (nI o))]) hx hb dX10_findConflicts_11 rfl hl (by decide) rfl (fun ls hl => ?_)
  refine lv_aload_n hx hb dX10_findConflicts_12 rfl (lv_at hl 1 rfl) ?_
  refine lv_iload_n hx hb dX10_findConflicts_13 rfl (lv_at hl 2 rfl) ?_
  refine lv_iload_n hx hb dX10_findConflicts_14 rfl (lv_at hl 3 rfl) ?_
  refine fh_cV (q := (RX10, TX10, 28)) (As := [.int (nI i), .int (nI o)]) (rest := []) (b := ma) ⟨hx, hb, hml, hown, ht⟩ (m_baseHas l G A h _ hM.re i o vb hi ho hb9 hvb zH) (cwV 2 ht (gV kw_858 kw_860 kp_25 kw_5 kw_861) rfl rfl rfl yd_X10_baseHas ⟨(Nat.le_of_ble_eq_true rfl), (Nat.le_of_ble_eq_true rfl)⟩) hP hE hS hM.m rfl rfl hl.1 rfl (Nat.le_of_ble_eq_true rfl) dX10_findConflicts_15 ⟨(Nat.le_of_ble_eq_true rfl), (Nat.le_of_ble_eq_true rfl)⟩ (fun v u H locs hp hP hz hS => ?_)
  rw [hB.1] at hp
  obtain ⟨rfl, eu⟩ := hp
  rw [eu] at hP
  refine W.eq (g2 := F0 m 18 ls [.int (bI B.isSome)]) rfl ?_
  refine lv_if_eq (tgt := 34) hx hb dX10_findConflicts_18 (by decide) (fun d1 => ?_) (fun d1 => ?_)
  · have eB : B = none := by have z := bI_eq.mp d1; revert z; cases B <;> simp
    have ex : (if alikeO B N = true then [] else gathO B N T o 7) = [] := by rw [eB, gath_none]; split <;> rfl
    exact fh_vret hx hb hr hlocks (⟨fC, rfl, by rw [ex, List.append_nil, ← hnc]; exact hM, by rw [ex, List.append_nil]; exact hL⟩) hP hS (Nat.le_of_ble_eq_true rfl) (Nat.le_of_ble_eq_true rfl) dX10_findConflicts_34
  · obtain ⟨b9, eB⟩ : ∃ r, B = some r := Option.isSome_iff_exists.mp (bI_nz d1)
    refine lv_iload_n hx hb dX10_findConflicts_21 rfl (lv_at hl 0 rfl) ?_
    refine lv_if_eq (tgt := 35) hx hb dX10_findConflicts_22 (by decide) (fun d2 => ?_) (fun d2 => ?_)
    · have eN : N = none := by have z := bI_eq.mp d2; revert z; cases N <;> simp
      refine lv_iload_n hx hb dX10_findConflicts_35 rfl (lv_at hl 0 rfl) ?_
      refine lv_if_ne (tgt := 64) hx hb dX10_findConflicts_36 (by decide) (fun c9 => absurd (d2) c9) (fun _ => ?_)
      refine lv_aload_n hx hb dX10_findConflicts_39 rfl (lv_at hl 1 rfl) ?_
      refine lv_iload_n hx hb dX10_findConflicts_40 rfl (lv_at hl 3 rfl) ?_
      refine fh_cV (q := (RX10, TX10, 28)) (As := [.int (nI o)]) (rest := []) (b := ma) ⟨hx, hb, hml, hown, ht⟩ (m_headHas l G A h _ hM.re hnv hnv2 o ho zH) (cwV 1 ht (gV kw_874 kw_876 kp_29 kw_5 kw_877) rfl rfl rfl yd_X10_headHas ⟨(Nat.le_of_ble_eq_true rfl), (Nat.le_of_ble_eq_true rfl)⟩) hP hE hS hM.m rfl rfl hl.1 rfl (Nat.le_of_ble_eq_true rfl) dX10_findConflicts_41 ⟨(Nat.le_of_ble_eq_true rfl), (Nat.le_of_ble_eq_true rfl)⟩ (fun v u H locs hp hP hz hS => ?_)
      rw [hT.1] at hp
      obtain ⟨rfl, eu⟩ := hp
      rw [eu] at hP
      refine W.eq (g2 := F0 m 44 ls [.int (bI T.isSome)]) rfl ?_
      refine lv_if_eq (tgt := 63) hx hb dX10_findConflicts_44 (by decide) (fun d3 => ?_) (fun d3 => ?_)
      · have eT : T = none := by have z := bI_eq.mp d3; revert z; cases T <;> simp
        have ex : (if alikeO B N = true then [] else gathO B N T o 7) = [] := by rw [eB, eN, if_neg (show ¬ alikeO (some b9) none = true from fun z => by cases z), gath_7 (fun k hk => clash_mn hk)]; rw [eT]; rfl
        exact fh_vret hx hb hr hlocks (⟨fC, rfl, by rw [ex, List.append_nil, ← hnc]; exact hM, by rw [ex, List.append_nil]; exact hL⟩) hP hS (Nat.le_of_ble_eq_true rfl) (Nat.le_of_ble_eq_true rfl) dX10_findConflicts_63
      · obtain ⟨t9, eT⟩ : ∃ r, T = some r := Option.isSome_iff_exists.mp (bI_nz d3)
        refine lv_aload_n hx hb dX10_findConflicts_47 rfl (lv_at hl 1 rfl) ?_
        refine lv_iload_n hx hb dX10_findConflicts_48 rfl (lv_at hl 2 rfl) ?_
        refine lv_iload_n hx hb dX10_findConflicts_49 rfl (lv_at hl 3 rfl) ?_
        refine fh_cV (q := (RX10, TX10, 28)) (As := [.int (nI i), .int (nI o)]) (rest := []) (b := ma) ⟨hx, hb, hml, hown, ht⟩ (m_headBase l G A h _ hM.re i o vb hi ho hb9 hvb hnv hnv2) (cwV 2 ht (gV kw_878 kw_880 kp_30 kw_5 kw_881) rfl rfl rfl yd_X10_isHeadAsBase ⟨(Nat.le_of_ble_eq_true rfl), (Nat.le_of_ble_eq_true rfl)⟩) hP hE hS hM.m rfl rfl hl.1 rfl (Nat.le_of_ble_eq_true rfl) dX10_findConflicts_50 ⟨(Nat.le_of_ble_eq_true rfl), (Nat.le_of_ble_eq_true rfl)⟩ (fun v u H locs hp hP hz hS => ?_)
        rw [rwEq_congr (hT.2 t9 eT) (hB.2 b9 eB)] at hp
        obtain ⟨rfl, eu⟩ := hp
        rw [eu] at hP
        refine W.eq (g2 := F0 m 53 ls [.int (bI (rwEq t9 b9))]) rfl ?_
        refine lv_if_ne (tgt := 63) hx hb dX10_findConflicts_53 (by decide) (fun d4 => ?_) (fun d4 => ?_)
        · have ex : (if alikeO B N = true then [] else gathO B N T o 7) = [] := by rw [eB, eN, if_neg (show ¬ alikeO (some b9) none = true from fun z => by cases z), gath_7 (fun k hk => clash_mn hk)]; rw [eT, if_neg (by simp [seClash, alikeO, bI_nz d4])]
          exact fh_vret hx hb hr hlocks (⟨fC, rfl, by rw [ex, List.append_nil, ← hnc]; exact hM, by rw [ex, List.append_nil]; exact hL⟩) hP hS (Nat.le_of_ble_eq_true rfl) (Nat.le_of_ble_eq_true rfl) dX10_findConflicts_63
        · refine lv_aload_n hx hb dX10_findConflicts_56 rfl (lv_at hl 1 rfl) ?_
          refine lv_iload_n hx hb dX10_findConflicts_57 rfl (lv_at hl 3 rfl) ?_
          refine lv_bipush (v := (nI 6)) hx hb dX10_findConflicts_58 (by decide) ?_
          refine fh_cV (q := (RX10, TX10, 28)) (As := [.int (nI o), .int (nI 6)]) (rest := []) (b := ma) ⟨hx, hb, hml, hown, ht⟩ (m_add l G A h _ hM.re o 6 (by omega)) (cwV 2 ht (gV kw_886 kw_888 kp_32 kw_5 kw_889) rfl rfl rfl yd_X10_add ⟨(Nat.le_of_ble_eq_true rfl), (Nat.le_of_ble_eq_true rfl)⟩) hP hE hS hM.m rfl rfl hl.1 rfl (Nat.le_of_ble_eq_true rfl) dX10_findConflicts_60 ⟨(Nat.le_of_ble_eq_true rfl), (Nat.le_of_ble_eq_true rfl)⟩ (fun v u H locs hp hP hz hS => ?_)
          obtain ⟨rfl, hM2⟩ := hp
          refine W.eq (g2 := F0 m 63 ls []) rfl ?_
          have hM3 := MG.tr hM.kept hM2
          have ex : (if alikeO B N = true then [] else gathO B N T o 7) = [(o, 6)] := by rw [eB, eN, if_neg (show ¬ alikeO (some b9) none = true from fun z => by cases z), gath_7 (fun k hk => clash_mn hk)]; rw [eT, if_pos (by simp [seClash, alikeO, bI_eq.mp d4])]
          exact fh_vret hx hb hr hlocks (⟨_, rfl, by rw [ex, List.length_append, ← hnc]; exact hM3, by rw [ex, hnc]; exact mC_add hL (o, 6)⟩) hP hS (Nat.le_of_ble_eq_true rfl) (Nat.le_of_ble_eq_true rfl) dX10_findConflicts_63
    · obtain ⟨m9, eN⟩ : ∃ r, N = some r := Option.isSome_iff_exists.mp (bI_nz d2)
      refine lv_aload_n hx hb dX10_findConflicts_25 rfl (lv_at hl 1 rfl) ?_
      refine lv_iload_n hx hb dX10_findConflicts_26 rfl (lv_at hl 2 rfl) ?_
      refine lv_iload_n hx hb dX10_findConflicts_27 rfl (lv_at hl 3 rfl) ?_
      refine fh_cV (q := (RX10, TX10, 28)) (As := [.int (nI i), .int (nI o)]) (rest := []) (b := ma) ⟨hx, hb, hml, hown, ht⟩ (m_ownBase l G A h _ hM.re i o vb hi ho hb9 hvb) (cwV 2 ht (gV kw_862 kw_864 kp_26 kw_5 kw_865) rfl rfl rfl yd_X10_isOwnAsBase ⟨(Nat.le_of_ble_eq_true rfl), (Nat.le_of_ble_eq_true rfl)⟩) hP hE hS hM.m rfl rfl hl.1 rfl (Nat.le_of_ble_eq_true rfl) dX10_findConflicts_28 ⟨(Nat.le_of_ble_eq_true rfl), (Nat.le_of_ble_eq_true rfl)⟩ (fun v u H locs hp hP hz hS => ?_)
      rw [rwEq_congr (hN.2 m9 eN) (hB.2 b9 eB)] at hp
      obtain ⟨rfl, eu⟩ := hp
      rw [eu] at hP
      refine W.eq (g2 := F0 m 31 ls [.int (bI (rwEq m9 b9))]) rfl ?_
      refine lv_if_eq (tgt := 35) hx hb dX10_findConflicts_31 (by decide) (fun d5 => ?_) (fun d5 => ?_)
      · have ea : ¬ alikeO (some b9) (some m9) = true := fun z => by have z2 : rwEq b9 m9 = true := z; rw [rwEq_comm, bI_eq.mp d5] at z2; cases z2
        refine lv_iload_n hx hb dX10_findConflicts_35 rfl (lv_at hl 0 rfl) ?_
        refine lv_if_ne (tgt := 64) hx hb dX10_findConflicts_36 (by decide) (fun _ => ?_) (fun c9 => absurd c9 (d2))
        refine lv_aload_n hx hb dX10_findConflicts_64 rfl (lv_at hl 1 rfl) ?_
        refine lv_iload_n hx hb dX10_findConflicts_65 rfl (lv_at hl 3 rfl) ?_
        refine fh_cV (q := (RX10, TX10, 28)) (As := [.int (nI o)]) (rest := []) (b := ma) ⟨hx, hb, hml, hown, ht⟩ (m_headHas l G A h _ hM.re hnv hnv2 o ho zH) (cwV 1 ht (gV kw_874 kw_876 kp_29 kw_5 kw_877) rfl rfl rfl yd_X10_headHas ⟨(Nat.le_of_ble_eq_true rfl), (Nat.le_of_ble_eq_true rfl)⟩) hP hE hS hM.m rfl rfl hl.1 rfl (Nat.le_of_ble_eq_true rfl) dX10_findConflicts_66 ⟨(Nat.le_of_ble_eq_true rfl), (Nat.le_of_ble_eq_true rfl)⟩ (fun v u H locs hp hP hz hS => ?_)
        rw [hT.1] at hp
        obtain ⟨rfl, eu⟩ := hp
        rw [eu] at hP
        refine W.eq (g2 := F0 m 69 ls [.int (bI T.isSome)]) rfl ?_
        refine lv_if_ne (tgt := 80) hx hb dX10_findConflicts_69 (by decide) (fun d6 => ?_) (fun d6 => ?_)
        · obtain ⟨t9, eT⟩ : ∃ r, T = some r := Option.isSome_iff_exists.mp (bI_nz d6)
          refine lv_iconst (v := (nI 0)) hx hb dX10_findConflicts_80 (by decide) ?_
          refine lv_istore (lv' := [(4, .int (nI 0)), (3, .int (bI N.isSome)), (0, .ref ma), (1, .int (nI i)), (2, .int (nI o))]) hx hb dX10_findConflicts_81 hl (by decide) rfl (fun ls hl => ?_)
          have loop : ∀ (n k : Nat), k + n = 6 → ∀ (hh : FH) (f2 : Nat → Int32) (_ : MG A h hh ma b th no nv ns J ((L ++ gathO (some b9) (some m9) (some t9) o k).length) nl nr fK fH fF fB fO fW fV fN cO cF cH cV fS f2 lO lA rA rB rD fM) (_ : mC f2 (L ++ gathO (some b9) (some m9) (some t9) o k)), ∀ (H : Heap) (locs : List Loc) (ls : Array Slot), fh_P G vwCl hh H → va_S A s.heap H locs → lv_has ls 11 [(4, .int (nI k)), (3, .int (bI N.isSome)), (0, .ref ma), (1, .int (nI i)), (2, .int (nI o))] → W p l e (headSpec wsX10_findConflicts { frames := 3, cells := 0, slots := 0, locals := 80 }).room s m [.ref ma, .int (nI i), .int (nI o)].toArray below meth c H locs 0 0 (MQ below (fh_Q G (fun v u => ∃ fC2, v = none ∧ MG A h u ma b th no nv ns J ((L ++ (if alikeO B N = true then [] else gathO B N T o 7)).length) nl nr fK fH fF fB fO fW fV fN cO cF cH cV fS fC2 lO lA rA rB rD fM ∧ mC fC2 (L ++ (if alikeO B N = true then [] else gathO B N T o 7))) A) [.ref ma, .int (nI i), .int (nI o)].toArray s 0 0 A) (F0 m 83 ls []) := by
            intro n
            induction n with
            | zero =>
              intro k hin hh f2 hM9 hC9 H locs ls hP hS hl
              have k6 : k = 6 := by omega
              refine lv_iload hx hb dX10_findConflicts_83 (lv_at hl 0 rfl) ?_
              refine lv_bipush (v := (nI 6)) hx hb dX10_findConflicts_85 (by decide) ?_
              refine lv_icmp_ge (tgt := 156) hx hb dX10_findConflicts_87 (by decide) (fun _ => ?_) (fun c9 => absurd (nI_le (by omega) (by omega)) c9)
              have ex : (if alikeO B N = true then [] else gathO B N T o 7) = gathO (some b9) (some m9) (some t9) o k := by rw [eB, eN, if_neg ea, eT, gath_ff, k6]
              exact fh_vret hx hb hr hlocks (⟨f2, rfl, by rw [ex]; exact hM9, by rw [ex]; exact hC9⟩) hP hS (Nat.le_of_ble_eq_true rfl) (Nat.le_of_ble_eq_true rfl) dX10_findConflicts_156
            | succ n ih =>
              intro k hin hh f2 hM9 hC9 H locs ls hP hS hl
              have hk : k < 6 := by omega
              refine lv_iload hx hb dX10_findConflicts_83 (lv_at hl 0 rfl) ?_
              refine lv_bipush (v := (nI 6)) hx hb dX10_findConflicts_85 (by decide) ?_
              refine lv_icmp_ge (tgt := 156) hx hb dX10_findConflicts_87 (by decide) (fun c9 => absurd c9 (nI_ge (by omega) (by decide))) (fun _ => ?_)
              refine lv_aload_n hx hb dX10_findConflicts_90 rfl (lv_at hl 2 rfl) ?_
              refine lv_iload_n hx hb dX10_findConflicts_91 rfl (lv_at hl 3 rfl) ?_
              refine lv_iload_n hx hb dX10_findConflicts_92 rfl (lv_at hl 4 rfl) ?_
              refine lv_iload hx hb dX10_findConflicts_93 (lv_at hl 0 rfl) ?_
              refine fh_cV (q := (RX10, TX10, 28)) (As := [.int (nI i), .int (nI o), .int (nI k)]) (rest := []) (b := ma) ⟨hx, hb, hml, hown, ht⟩ (m_baseVal l G A hh _ hM9.re i o k vb hi ho hk hb9 hvb) (cwV 3 ht (gV kw_870 kw_872 kp_28 kw_5 kw_873) rfl rfl rfl yd_X10_baseValue ⟨(Nat.le_of_ble_eq_true rfl), (Nat.le_of_ble_eq_true rfl)⟩) hP hE hS hM9.m rfl rfl hl.1 rfl (Nat.le_of_ble_eq_true rfl) dX10_findConflicts_95 ⟨(Nat.le_of_ble_eq_true rfl), (Nat.le_of_ble_eq_true rfl)⟩ (fun v u H locs hp hP hz hS => ?_)
              rw [hB.2 b9 eB k hk] at hp
              obtain ⟨rfl, eu⟩ := hp
              rw [eu] at hP
              refine W.eq (g2 := F0 m 98 ls [.long (b9 k)]) rfl ?_
              refine lv_lstore (lv' := [(5, .long (b9 k)), (4, .int (nI k)), (3, .int (bI N.isSome)), (0, .ref ma), (1, .int (nI i)), (2, .int (nI o))]) hx hb dX10_findConflicts_98 hl (by decide) rfl (fun ls hl => ?_)
              refine lv_aload_n hx hb dX10_findConflicts_100 rfl (lv_at hl 3 rfl) ?_
              refine lv_iload_n hx hb dX10_findConflicts_101 rfl (lv_at hl 5 rfl) ?_
              refine lv_iload hx hb dX10_findConflicts_102 (lv_at hl 1 rfl) ?_
              refine fh_cV (q := (RX10, TX10, 28)) (As := [.int (nI o), .int (nI k)]) (rest := []) (b := ma) ⟨hx, hb, hml, hown, ht⟩ (m_headVal l G A hh _ hM9.re hnv hnv2 o k ho hk) (cwV 2 ht (gV kw_882 kw_884 kp_31 kw_5 kw_885) rfl rfl rfl yd_X10_headValue ⟨(Nat.le_of_ble_eq_true rfl), (Nat.le_of_ble_eq_true rfl)⟩) hP hE hS hM9.m rfl rfl hl.1 rfl (Nat.le_of_ble_eq_true rfl) dX10_findConflicts_104 ⟨(Nat.le_of_ble_eq_true rfl), (Nat.le_of_ble_eq_true rfl)⟩ (fun v u H locs hp hP hz hS => ?_)
              rw [hT.2 t9 eT k hk] at hp
              obtain ⟨rfl, eu⟩ := hp
              rw [eu] at hP
              refine W.eq (g2 := F0 m 107 ls [.long (t9 k)]) rfl ?_
              refine lv_lstore (lv' := [(7, .long (t9 k)), (5, .long (b9 k)), (4, .int (nI k)), (3, .int (bI N.isSome)), (0, .ref ma), (1, .int (nI i)), (2, .int (nI o))]) hx hb dX10_findConflicts_107 hl (by decide) rfl (fun ls hl => ?_)
              refine lv_aload_n hx hb dX10_findConflicts_109 rfl (lv_at hl 4 rfl) ?_
              refine lv_iload_n hx hb dX10_findConflicts_110 rfl (lv_at hl 5 rfl) ?_
              refine lv_iload_n hx hb dX10_findConflicts_111 rfl (lv_at hl 6 rfl) ?_
              refine lv_iload hx hb dX10_findConflicts_112 (lv_at hl 2 rfl) ?_
              refine fh_cV (q := (RX10, TX10, 28)) (As := [.int (nI i), .int (nI o), .int (nI k)]) (rest := []) (b := ma) ⟨hx, hb, hml, hown, ht⟩ (m_ownVal l G A hh _ hM9.re i o k hi ho hk) (cwV 3 ht (gV kw_866 kw_868 kp_27 kw_5 kw_869) rfl rfl rfl yd_X10_ownValue ⟨(Nat.le_of_ble_eq_true rfl), (Nat.le_of_ble_eq_true rfl)⟩) hP hE hS hM9.m rfl rfl hl.1 rfl (Nat.le_of_ble_eq_true rfl) dX10_findConflicts_114 ⟨(Nat.le_of_ble_eq_true rfl), (Nat.le_of_ble_eq_true rfl)⟩ (fun v u H locs hp hP hz hS => ?_)
              rw [hN.2 m9 eN k hk] at hp
              obtain ⟨rfl, eu⟩ := hp
              rw [eu] at hP
              refine W.eq (g2 := F0 m 117 ls [.long (m9 k)]) rfl ?_
              refine lv_lstore (lv' := [(9, .long (m9 k)), (7, .long (t9 k)), (5, .long (b9 k)), (4, .int (nI k)), (3, .int (bI N.isSome)), (0, .ref ma), (1, .int (nI i)), (2, .int (nI o))]) hx hb dX10_findConflicts_117 hl (by decide) rfl (fun ls hl => ?_)
              refine lv_lload hx hb dX10_findConflicts_119 (lv_at hl 0 rfl) ?_
              refine lv_lload hx hb dX10_findConflicts_121 (lv_at hl 2 rfl) ?_
              refine W.lcmp hx hb dX10_findConflicts_123 ?_
              refine lv_if_eq (tgt := 150) hx hb dX10_findConflicts_124 (by decide) (fun e0 => ?_) (fun e0 => ?_)
              · refine lv_iinc (v := nI (k + 1)) (lv' := [(4, .int (nI (k + 1))), (9, .long (m9 k)), (7, .long (t9 k)), (5, .long (b9 k)), (3, .int (bI N.isSome)), (0, .ref ma), (1, .int (nI i)), (2, .int (nI o))]) hx hb dX10_findConflicts_150 hl (k := 3) rfl (nI_1 _) (by decide) rfl (fun ls hl => ?_)
                refine lv_goto (tgt := 83) hx hb dX10_findConflicts_153 (by decide) ?_
                have es : (L ++ gathO (some b9) (some m9) (some t9) o (k + 1)) = (L ++ gathO (some b9) (some m9) (some t9) o k) := by rw [gathO_s, if_neg (by rw [seClash_3 hk]; simp [(lg_cmp_eq _ _).mp e0]), List.append_nil]
                exact ih (k + 1) (by omega) hh f2 (by rw [es]; exact hM9) (by rw [es]; exact hC9) H locs ls hP hS (lv_sub hl [0, 4, 5, 6, 7] rfl)
              · refine lv_lload hx hb dX10_findConflicts_127 (lv_at hl 1 rfl) ?_
                refine lv_lload hx hb dX10_findConflicts_129 (lv_at hl 2 rfl) ?_
                refine W.lcmp hx hb dX10_findConflicts_131 ?_
                refine lv_if_eq (tgt := 150) hx hb dX10_findConflicts_132 (by decide) (fun e1 => ?_) (fun e1 => ?_)
                · refine lv_iinc (v := nI (k + 1)) (lv' := [(4, .int (nI (k + 1))), (9, .long (m9 k)), (7, .long (t9 k)), (5, .long (b9 k)), (3, .int (bI N.isSome)), (0, .ref ma), (1, .int (nI i)), (2, .int (nI o))]) hx hb dX10_findConflicts_150 hl (k := 3) rfl (nI_1 _) (by decide) rfl (fun ls hl => ?_)
                  refine lv_goto (tgt := 83) hx hb dX10_findConflicts_153 (by decide) ?_
                  have es : (L ++ gathO (some b9) (some m9) (some t9) o (k + 1)) = (L ++ gathO (some b9) (some m9) (some t9) o k) := by rw [gathO_s, if_neg (by rw [seClash_3 hk]; simp [(lg_cmp_eq _ _).mp e1]), List.append_nil]
                  exact ih (k + 1) (by omega) hh f2 (by rw [es]; exact hM9) (by rw [es]; exact hC9) H locs ls hP hS (lv_sub hl [0, 4, 5, 6, 7] rfl)
                · refine lv_lload hx hb dX10_findConflicts_135 (lv_at hl 1 rfl) ?_
                  refine lv_lload hx hb dX10_findConflicts_137 (lv_at hl 0 rfl) ?_
                  refine W.lcmp hx hb dX10_findConflicts_139 ?_
                  refine lv_if_eq (tgt := 150) hx hb dX10_findConflicts_140 (by decide) (fun e2 => ?_) (fun e2 => ?_)
                  · refine lv_iinc (v := nI (k + 1)) (lv' := [(4, .int (nI (k + 1))), (9, .long (m9 k)), (7, .long (t9 k)), (5, .long (b9 k)), (3, .int (bI N.isSome)), (0, .ref ma), (1, .int (nI i)), (2, .int (nI o))]) hx hb dX10_findConflicts_150 hl (k := 3) rfl (nI_1 _) (by decide) rfl (fun ls hl => ?_)
                    refine lv_goto (tgt := 83) hx hb dX10_findConflicts_153 (by decide) ?_
                    have es : (L ++ gathO (some b9) (some m9) (some t9) o (k + 1)) = (L ++ gathO (some b9) (some m9) (some t9) o k) := by rw [gathO_s, if_neg (by rw [seClash_3 hk]; simp [(lg_cmp_eq _ _).mp e2]), List.append_nil]
                    exact ih (k + 1) (by omega) hh f2 (by rw [es]; exact hM9) (by rw [es]; exact hC9) H locs ls hP hS (lv_sub hl [0, 4, 5, 6, 7] rfl)
                  · have ecl : seClash (some b9) (some m9) (some t9) k = true := by rw [seClash_3 hk]; have z0 := mt (lg_cmp_eq _ _).mpr e0; have z1 := mt (lg_cmp_eq _ _).mpr e1; have z2 := mt (lg_cmp_eq _ _).mpr e2; simp [z0, z1, z2]
                    have hlt := gathO_lt (i := o) (show k < 7 by omega) ecl
                    have hle : (L ++ gathO (some b9) (some m9) (some t9) o k).length < 420 := by rw [List.length_append]; omega
                    refine lv_aload_n hx hb dX10_findConflicts_143 rfl (lv_at hl 5 rfl) ?_
                    refine lv_iload_n hx hb dX10_findConflicts_144 rfl (lv_at hl 7 rfl) ?_
                    refine lv_iload hx hb dX10_findConflicts_145 (lv_at hl 3 rfl) ?_
                    refine fh_cV (q := (RX10, TX10, 28)) (As := [.int (nI o), .int (nI k)]) (rest := []) (b := ma) ⟨hx, hb, hml, hown, ht⟩ (m_add l G A hh _ hM9.re o k hle) (cwV 2 ht (gV kw_886 kw_888 kp_32 kw_5 kw_889) rfl rfl rfl yd_X10_add ⟨(Nat.le_of_ble_eq_true rfl), (Nat.le_of_ble_eq_true rfl)⟩) hP hE hS hM9.m rfl rfl hl.1 rfl (Nat.le_of_ble_eq_true rfl) dX10_findConflicts_147 ⟨(Nat.le_of_ble_eq_true rfl), (Nat.le_of_ble_eq_true rfl)⟩ (fun v u H locs hp hP hz hS => ?_)
                    obtain ⟨rfl, hM2⟩ := hp
                    refine W.eq (g2 := F0 m 150 ls []) rfl ?_
                    have hM3 := MG.tr hM9.kept hM2
                    refine lv_iinc (v := nI (k + 1)) (lv' := [(4, .int (nI (k + 1))), (9, .long (m9 k)), (7, .long (t9 k)), (5, .long (b9 k)), (3, .int (bI N.isSome)), (0, .ref ma), (1, .int (nI i)), (2, .int (nI o))]) hx hb dX10_findConflicts_150 hl (k := 3) rfl (nI_1 _) (by decide) rfl (fun ls hl => ?_)
                    refine lv_goto (tgt := 83) hx hb dX10_findConflicts_153 (by decide) ?_
                    have es : (L ++ gathO (some b9) (some m9) (some t9) o (k + 1)) = (L ++ gathO (some b9) (some m9) (some t9) o k) ++ [(o, k)] := by rw [gathO_s, if_pos ecl, List.append_assoc]
                    exact ih (k + 1) (by omega) u _ (by rw [es, List.length_append]; exact hM3) (by rw [es]; exact mC_add hC9 (o, k)) H locs ls hP hS (lv_sub hl [0, 4, 5, 6, 7] rfl)
          exact loop 6 0 (by omega) h fC (by rw [show gathO (some b9) (some m9) (some t9) o 0 = [] from rfl, List.append_nil, ← hnc]; exact hM) (by rw [show gathO (some b9) (some m9) (some t9) o 0 = [] from rfl, List.append_nil]; exact hL) _ _ _ hP hS (lv_sub hl [0, 1, 2, 3, 4] rfl)
        · have eT : T = none := by have z := bI_eq.mp d6; revert z; cases T <;> simp
          refine lv_aload_n hx hb dX10_findConflicts_72 rfl (lv_at hl 1 rfl) ?_
          refine lv_iload_n hx hb dX10_findConflicts_73 rfl (lv_at hl 3 rfl) ?_
          refine lv_bipush (v := (nI 6)) hx hb dX10_findConflicts_74 (by decide) ?_
          refine fh_cV (q := (RX10, TX10, 28)) (As := [.int (nI o), .int (nI 6)]) (rest := []) (b := ma) ⟨hx, hb, hml, hown, ht⟩ (m_add l G A h _ hM.re o 6 (by omega)) (cwV 2 ht (gV kw_886 kw_888 kp_32 kw_5 kw_889) rfl rfl rfl yd_X10_add ⟨(Nat.le_of_ble_eq_true rfl), (Nat.le_of_ble_eq_true rfl)⟩) hP hE hS hM.m rfl rfl hl.1 rfl (Nat.le_of_ble_eq_true rfl) dX10_findConflicts_76 ⟨(Nat.le_of_ble_eq_true rfl), (Nat.le_of_ble_eq_true rfl)⟩ (fun v u H locs hp hP hz hS => ?_)
          obtain ⟨rfl, hM2⟩ := hp
          refine W.eq (g2 := F0 m 79 ls []) rfl ?_
          have hM3 := MG.tr hM.kept hM2
          have ex : (if alikeO B N = true then [] else gathO B N T o 7) = [(o, 6)] := by rw [eB, eN, if_neg ea, eT, gath_7 (fun k hk => clash_tn hk)]; rfl
          exact fh_vret hx hb hr hlocks (⟨_, rfl, by rw [ex, List.length_append, ← hnc]; exact hM3, by rw [ex, hnc]; exact mC_add hL (o, 6)⟩) hP hS (Nat.le_of_ble_eq_true rfl) (Nat.le_of_ble_eq_true rfl) dX10_findConflicts_79
      · have ex : (if alikeO B N = true then [] else gathO B N T o 7) = [] := by rw [eB, eN, if_pos (show alikeO (some b9) (some m9) = true from (rwEq_comm b9 m9).trans (bI_nz d5))]
        exact fh_vret hx hb hr hlocks (⟨fC, rfl, by rw [ex, List.append_nil, ← hnc]; exact hM, by rw [ex, List.append_nil]; exact hL⟩) hP hS (Nat.le_of_ble_eq_true rfl) (Nat.le_of_ble_eq_true rfl) dX10_findConflicts_34

set_option maxRecDepth 100000 in
set_option maxHeartbeats 4000000 in
theorem m_unsettled (l : Launch) (G : fG) (A : Nat → Prop) (h : FH) (sz : Nat) {ma : Nat} {b : Nat → Nat} {th : Int32} {no nv ns J nc nl nr : Nat} {fK : Nat → Int32} {fH : Nat → Int32} {fF : Nat → Int64} {fB : Nat → Int32} {fO : Nat → Int32} {fW : Nat → Int32} {fV : Nat → Int64} {fN : Nat → Int32} {cO : Nat → Int32} {cF : Nat → Int32} {cH : Nat → Int32} {cV : Nat → Int64} {fS : Nat → Int32} {fC : Nat → Int32} {lO : Nat → Int32} {lA : Nat → Int64} {rA : Nat → Int32} {rB : Nat → Int32} {rD : Nat → Int64} {fM : Nat → Int32} (hM : MG A h h ma b th no nv ns J nc nl nr fK fH fF fB fO fW fV fN cO cF cH cV fS fC lO lA rA rB rD fM) (i : Nat) (hi : i < 20) (L : CL) (hnc : nc = L.length) (hL : mC fC L) (hb1 : L.length ≤ 360) (hb2 : ∀ q ∈ L, q.1 < 60 ∧ q.2 < 7) (sf : Nat → Int32) (hsf : ∀ p, p < 420 → fS (420 * i + p) = sf p) : Met l yX10_unsettled wsX10_unsettled { frames := 1, cells := 0, slots := 0, locals := 30 } (va_Pc [.ref ma, .int (nI i)] (fh_Pre G A h sz)) (fh_Q G (fun v u => v = some (.int (nI (unsN sf L))) ∧ u = h) A) 0 0 A := by
  refine fh_Met [.ref ma, .int (nI i)] (by decide) rfl (Nat.le_of_ble_eq_true rfl) ?_
  intro p e s m below meth c hx hb hr hlocks hml hown hnm hts hsz hP hE hS ls hl
  have ht : ∀ w ∈ wB, w.before _ s = true := fun w h9 => hts w (List.mem_cons_of_mem _ h9)
  have hl : lv_has ls 4 [(0, .ref ma), (1, .int (nI i))] := hl
  refine lv_iconst (v := (nI 0)) hx hb dX10_unsettled_0 (by decide) ?_
  refine lv_istore_n (lv' := [(2, .int (nI 0)), (0, .ref ma), (1, .int (nI i))]) hx hb dX10_unsettled_1 rfl hl (by decide) rfl (fun ls hl => ?_)
  refine lv_iconst (v := (nI 0)) hx hb dX10_unsettled_2 (by decide) ?_
  refine lv_istore_n (lv' := [(3, .int (nI 0)), (2, .int (nI 0)), (0, .ref ma), (1, .int (nI i))]) hx hb dX10_unsettled_3 rfl hl (by decide) rfl (fun ls hl => ?_)
  have loop : ∀ (n k : Nat), k + n = nc → ∀ (n1 : Nat) (_ : n1 = unsN sf (L.take k)), ∀ (H : Heap) (locs : List Loc) (ls : Array Slot), fh_P G vwCl h H → va_S A s.heap H locs → lv_has ls 4 [(3, .int (nI k)), (2, .int (nI n1)), (0, .ref ma), (1, .int (nI i))] → W p l e (headSpec wsX10_unsettled { frames := 1, cells := 0, slots := 0, locals := 30 }).room s m [.ref ma, .int (nI i)].toArray below meth c H locs 0 0 (MQ below (fh_Q G (fun v u => v = some (.int (nI (unsN sf L))) ∧ u = h) A) [.ref ma, .int (nI i)].toArray s 0 0 A) (F0 m 4 ls []) := by
    intro n
    induction n with
    | zero =>
      intro k hin n1 e1 H locs ls hP hS hl
      refine lv_iload_n hx hb dX10_unsettled_4 rfl (lv_at hl 0 rfl) ?_
      refine lv_aload_n hx hb dX10_unsettled_5 rfl (lv_at hl 2 rfl) ?_
      refine fh_get (C := RX10) (T := TX10) (N := 28) hx hb ht inX10 hown hE.1 hP hM.m rfl 18 (by decide) (ht _ kw_708) (fun _ h9 => h9) (v := .int (nI nc)) rfl dX10_unsettled_6 ?_
      refine lv_icmp_ge (tgt := 53) hx hb dX10_unsettled_9 (by decide) (fun _ => ?_) (fun c9 => absurd (nI_le (by omega) (by omega)) c9)
      refine lv_iload_n hx hb dX10_unsettled_53 rfl (lv_at hl 1 rfl) ?_
      exact fh_iret hx hb hr hlocks (⟨by rw [e1, List.take_of_length_le (by omega)], rfl⟩) hP hS (Nat.le_of_ble_eq_true rfl) (Nat.le_of_ble_eq_true rfl) dX10_unsettled_54
    | succ n ih =>
      intro k hin n1 e1 H locs ls hP hS hl
      obtain ⟨o9, f9, hq⟩ : ∃ o9 f9, L[k]? = some (o9, f9) := ⟨_, _, List.getElem?_eq_getElem (show k < L.length by omega)⟩
      have hq2 := hb2 _ (List.mem_of_getElem? hq)
      have efc := hL k _ hq
      refine lv_iload_n hx hb dX10_unsettled_4 rfl (lv_at hl 0 rfl) ?_
      refine lv_aload_n hx hb dX10_unsettled_5 rfl (lv_at hl 2 rfl) ?_
      refine fh_get (C := RX10) (T := TX10) (N := 28) hx hb ht inX10 hown hE.1 hP hM.m rfl 18 (by decide) (ht _ kw_708) (fun _ h9 => h9) (v := .int (nI nc)) rfl dX10_unsettled_6 ?_
      refine lv_icmp_ge (tgt := 53) hx hb dX10_unsettled_9 (by decide) (fun c9 => absurd c9 (nI_ge (by omega) (by omega))) (fun _ => ?_)
      refine lv_iload_n hx hb dX10_unsettled_12 rfl (lv_at hl 1 rfl) ?_
      refine lv_aload_n hx hb dX10_unsettled_13 rfl (lv_at hl 2 rfl) ?_
      refine lv_iload_n hx hb dX10_unsettled_14 rfl (lv_at hl 3 rfl) ?_
      refine lv_aload_n hx hb dX10_unsettled_15 rfl (lv_at hl 2 rfl) ?_
      refine fh_get (C := RX10) (T := TX10) (N := 28) hx hb ht inX10 hown hE.1 hP hM.m rfl 19 (by decide) (ht _ kw_709) (fun _ h9 => h9) (v := .ref (b 25)) rfl dX10_unsettled_16 ?_
      refine lv_iload_n hx hb dX10_unsettled_19 rfl (lv_at hl 0 rfl) ?_
      refine fh_iald (k := k) hx hb hE.1 hP hM.a25 rfl (by omega) (by decide) dX10_unsettled_20 ?_
      rw [efc]
      refine lv_bipush (v := (nI 7)) hx hb dX10_unsettled_21 (by decide) ?_
      refine lv_idiv hx hb dX10_unsettled_23 (by decide) ?_
      refine lv_topi (fun z9 ez9 => ?_)
      rw [show z9 = nI o9 from ez9.trans (cod7_d hq2.1 hq2.2)]
      refine lv_aload_n hx hb dX10_unsettled_24 rfl (lv_at hl 2 rfl) ?_
      refine fh_get (C := RX10) (T := TX10) (N := 28) hx hb ht inX10 hown hE.1 hP hM.m rfl 19 (by decide) (ht _ kw_709) (fun _ h9 => h9) (v := .ref (b 25)) rfl dX10_unsettled_25 ?_
      refine lv_iload_n hx hb dX10_unsettled_28 rfl (lv_at hl 0 rfl) ?_
      refine fh_iald (k := k) hx hb hE.1 hP hM.a25 rfl (by omega) (by decide) dX10_unsettled_29 ?_
      rw [efc]
      refine lv_bipush (v := (nI 7)) hx hb dX10_unsettled_30 (by decide) ?_
      refine lv_irem hx hb dX10_unsettled_32 (by decide) ?_
      refine lv_topi (fun z9 ez9 => ?_)
      rw [show z9 = nI f9 from ez9.trans (cod7_r hq2.1 hq2.2)]
      refine fh_cV (q := (RX10, TX10, 28)) (As := [.int (nI i), .int (nI o9), .int (nI f9)]) (rest := [.int (nI n1)]) (b := ma) ⟨hx, hb, hml, hown, ht⟩ (m_sideOf l G A h _ hM i o9 f9 hi hq2.1 hq2.2) (cwV 3 ht (gV kw_894 kw_896 kp_34 kw_5 kw_897) rfl rfl rfl yd_X10_sideOf ⟨(Nat.le_of_ble_eq_true rfl), (Nat.le_of_ble_eq_true rfl)⟩) hP hE hS hM.m rfl rfl hl.1 rfl (Nat.le_of_ble_eq_true rfl) dX10_unsettled_33 ⟨(Nat.le_of_ble_eq_true rfl), (Nat.le_of_ble_eq_true rfl)⟩ (fun v u H locs hp hP hz hS => ?_)
      rw [show fS (420 * i + 7 * o9 + f9) = sf (o9 * 7 + f9) by rw [show 420 * i + 7 * o9 + f9 = 420 * i + (o9 * 7 + f9) by omega]; exact hsf _ (by omega)] at hp
      obtain ⟨rfl, eu⟩ := hp
      rw [eu] at hP
      refine W.eq (g2 := F0 m 36 ls [.int (sf (o9 * 7 + f9) - nI 1), .int (nI n1)]) rfl ?_
      refine lv_iconst (v := (-1)) hx hb dX10_unsettled_36 (by decide) ?_
      refine lv_icmp_ne (tgt := 44) hx hb dX10_unsettled_37 (by decide) (fun c1 => ?_) (fun c1 => ?_)
      · refine lv_iconst (v := (nI 0)) hx hb dX10_unsettled_44 (by decide) ?_
        refine lv_iadd hx hb dX10_unsettled_45 ?_
        refine lv_topi (fun z9 ez9 => ?_)
        rw [show z9 = nI (n1 + 0) from ez9.trans (nI_add _ _)]
        refine lv_istore_n (lv' := [(2, .int (nI (n1 + 0))), (3, .int (nI k)), (0, .ref ma), (1, .int (nI i))]) hx hb dX10_unsettled_46 rfl hl (by decide) rfl (fun ls hl => ?_)
        refine lv_iinc (v := nI (k + 1)) (lv' := [(3, .int (nI (k + 1))), (2, .int (nI (n1 + 0))), (0, .ref ma), (1, .int (nI i))]) hx hb dX10_unsettled_47 hl (k := 1) rfl (nI_1 _) (by decide) rfl (fun ls hl => ?_)
        refine lv_goto (tgt := 4) hx hb dX10_unsettled_50 (by decide) ?_
        exact ih (k + 1) (by omega) (n1 + 0) (by rw [e1, unsN_s hq, if_neg (fun q => c1 ((sub1_0 _).mpr q))]) H locs ls hP hS (lv_sub hl [0, 1, 2, 3] rfl)
      · refine lv_iconst (v := (nI 1)) hx hb dX10_unsettled_40 (by decide) ?_
        refine lv_goto (tgt := 45) hx hb dX10_unsettled_41 (by decide) ?_
        refine lv_iadd hx hb dX10_unsettled_45 ?_
        refine lv_topi (fun z9 ez9 => ?_)
        rw [show z9 = nI (n1 + 1) from ez9.trans (nI_add _ _)]
        refine lv_istore_n (lv' := [(2, .int (nI (n1 + 1))), (3, .int (nI k)), (0, .ref ma), (1, .int (nI i))]) hx hb dX10_unsettled_46 rfl hl (by decide) rfl (fun ls hl => ?_)
        refine lv_iinc (v := nI (k + 1)) (lv' := [(3, .int (nI (k + 1))), (2, .int (nI (n1 + 1))), (0, .ref ma), (1, .int (nI i))]) hx hb dX10_unsettled_47 hl (k := 1) rfl (nI_1 _) (by decide) rfl (fun ls hl => ?_)
        refine lv_goto (tgt := 4) hx hb dX10_unsettled_50 (by decide) ?_
        exact ih (k + 1) (by omega) (n1 + 1) (by rw [e1, unsN_s hq, if_pos ((sub1_0 _).mp c1)]) H locs ls hP hS (lv_sub hl [0, 1, 2, 3] rfl)
  exact loop nc 0 (by omega) 0 (by simp [unsN]) _ _ _ hP hS hl

set_option maxRecDepth 100000 in
set_option maxHeartbeats 4000000 in
theorem m_isCon (l : Launch) (G : fG) (A : Nat → Prop) (h : FH) (sz : Nat) {ma : Nat} {b : Nat → Nat} {th : Int32} {no nv ns J nc nl nr : Nat} {fK : Nat → Int32} {fH : Nat → Int32} {fF : Nat → Int64} {fB : Nat → Int32} {fO : Nat → Int32} {fW : Nat → Int32} {fV : Nat → Int64} {fN : Nat → Int32} {cO : Nat → Int32} {cF : Nat → Int32} {cH : Nat → Int32} {cV : Nat → Int64} {fS : Nat → Int32} {fC : Nat → Int32} {lO : Nat → Int32} {lA : Nat → Int64} {rA : Nat → Int32} {rB : Nat → Int32} {rD : Nat → Int64} {fM : Nat → Int32} (hM : MG A h h ma b th no nv ns J nc nl nr fK fH fF fB fO fW fV fN cO cF cH cV fS fC lO lA rA rB rD fM) (o k : Nat) (ho : o < 60) (hk : k < 7) (L : CL) (hnc : nc = L.length) (hL : mC fC L) (hb1 : L.length ≤ 360) (hb2 : ∀ q ∈ L, q.1 < 60 ∧ q.2 < 7) : Met l yX10_isConflict wsX10_isConflict { frames := 0, cells := 0, slots := 0, locals := 0 } (va_Pc [.ref ma, .int (nI o), .int (nI k)] (fh_Pre G A h sz)) (fh_Q G (fun v u => v = some (.int (bI (decide ((o, k) ∈ L)))) ∧ u = h) A) 0 0 A := by
  refine fh_Met [.ref ma, .int (nI o), .int (nI k)] (by decide) rfl (Nat.le_of_ble_eq_true rfl) ?_
  intro p e s m below meth c hx hb hr hlocks hml hown hnm hts hsz hP hE hS ls hl
  have ht : ∀ w ∈ wB, w.before _ s = true := fun w h9 => hts w (List.mem_cons_of_mem _ h9)
  have hl : lv_has ls 5 [(0, .ref ma), (1, .int (nI o)), (2, .int (nI k))] := hl
  refine lv_iconst (v := (nI 0)) hx hb dX10_isConflict_0 (by decide) ?_
  refine lv_istore_n (lv' := [(3, .int (nI 0)), (0, .ref ma), (1, .int (nI o)), (2, .int (nI k))]) hx hb dX10_isConflict_1 rfl hl (by decide) rfl (fun ls hl => ?_)
  refine lv_iconst (v := (nI 0)) hx hb dX10_isConflict_2 (by decide) ?_
  refine lv_istore (lv' := [(4, .int (nI 0)), (3, .int (nI 0)), (0, .ref ma), (1, .int (nI o)), (2, .int (nI k))]) hx hb dX10_isConflict_3 hl (by decide) rfl (fun ls hl => ?_)
  have loop : ∀ (n j : Nat), j + n = nc → ∀ (c9 : Bool) (_ : c9 = decide ((o, k) ∈ L.take j)), ∀ (H : Heap) (locs : List Loc) (ls : Array Slot), fh_P G vwCl h H → va_S A s.heap H locs → lv_has ls 5 [(4, .int (nI j)), (3, .int (bI c9)), (0, .ref ma), (1, .int (nI o)), (2, .int (nI k))] → W p l e (headSpec wsX10_isConflict { frames := 0, cells := 0, slots := 0, locals := 0 }).room s m [.ref ma, .int (nI o), .int (nI k)].toArray below meth c H locs 0 0 (MQ below (fh_Q G (fun v u => v = some (.int (bI (decide ((o, k) ∈ L)))) ∧ u = h) A) [.ref ma, .int (nI o), .int (nI k)].toArray s 0 0 A) (F0 m 5 ls []) := by
    intro n
    induction n with
    | zero =>
      intro j hin c9 hc9 H locs ls hP hS hl
      refine lv_iload hx hb dX10_isConflict_5 (lv_at hl 0 rfl) ?_
      refine lv_aload_n hx hb dX10_isConflict_7 rfl (lv_at hl 2 rfl) ?_
      refine fh_get (C := RX10) (T := TX10) (N := 28) hx hb ht inX10 hown hE.1 hP hM.m rfl 18 (by decide) (ht _ kw_708) (fun _ h9 => h9) (v := .int (nI nc)) rfl dX10_isConflict_8 ?_
      refine lv_icmp_ge (tgt := 46) hx hb dX10_isConflict_11 (by decide) (fun _ => ?_) (fun c9 => absurd (nI_le (by omega) (by omega)) c9)
      refine lv_iload_n hx hb dX10_isConflict_46 rfl (lv_at hl 1 rfl) ?_
      exact fh_zret hx hb hr hlocks (bI_n _) (⟨by rw [hc9, List.take_of_length_le (by omega)], rfl⟩) hP hS (Nat.le_of_ble_eq_true rfl) (Nat.le_of_ble_eq_true rfl) dX10_isConflict_47
    | succ n ih =>
      intro j hin c9 hc9 H locs ls hP hS hl
      obtain ⟨o9, f9, hq⟩ : ∃ o9 f9, L[j]? = some (o9, f9) := ⟨_, _, List.getElem?_eq_getElem (show j < L.length by omega)⟩
      have hq2 := hb2 _ (List.mem_of_getElem? hq)
      have efc := hL j _ hq
      have est : (o, k) ∈ L.take (j + 1) ↔ (o, k) ∈ L.take j ∨ (o, k) = (o9, f9) := by rw [List.take_add_one, hq, List.mem_append]; simp
      refine lv_iload hx hb dX10_isConflict_5 (lv_at hl 0 rfl) ?_
      refine lv_aload_n hx hb dX10_isConflict_7 rfl (lv_at hl 2 rfl) ?_
      refine fh_get (C := RX10) (T := TX10) (N := 28) hx hb ht inX10 hown hE.1 hP hM.m rfl 18 (by decide) (ht _ kw_708) (fun _ h9 => h9) (v := .int (nI nc)) rfl dX10_isConflict_8 ?_
      refine lv_icmp_ge (tgt := 46) hx hb dX10_isConflict_11 (by decide) (fun c9 => absurd c9 (nI_ge (by omega) (by omega))) (fun _ => ?_)
      refine lv_iload_n hx hb dX10_isConflict_14 rfl (lv_at hl 1 rfl) ?_
      refine lv_if_ne (tgt := 34) hx hb dX10_isConflict_15 (by decide) (fun d1 => ?_) (fun d1 => ?_)
      · have e1 := bI_nz d1
        refine lv_iconst (v := (nI 1)) hx hb dX10_isConflict_34 (by decide) ?_
        refine lv_goto (tgt := 39) hx hb dX10_isConflict_35 (by decide) ?_
        refine lv_istore_n (lv' := [(3, .int (nI 1)), (4, .int (nI j)), (0, .ref ma), (1, .int (nI o)), (2, .int (nI k))]) hx hb dX10_isConflict_39 rfl hl (by decide) rfl (fun ls hl => ?_)
        refine lv_iinc (v := nI (j + 1)) (lv' := [(4, .int (nI (j + 1))), (3, .int (nI 1)), (0, .ref ma), (1, .int (nI o)), (2, .int (nI k))]) hx hb dX10_isConflict_40 hl (k := 1) rfl (nI_1 _) (by decide) rfl (fun ls hl => ?_)
        refine lv_goto (tgt := 5) hx hb dX10_isConflict_43 (by decide) ?_
        exact ih (j + 1) (by omega) true (by rw [hc9, decide_eq_true_eq] at e1; symm; rw [decide_eq_true_eq, est]; exact Or.inl e1) H locs ls hP hS (lv_sub hl [0, 1, 2, 3, 4] rfl)
      · have e1 := bI_eq.mp d1
        rw [hc9, decide_eq_false_iff_not] at e1
        refine lv_aload_n hx hb dX10_isConflict_18 rfl (lv_at hl 2 rfl) ?_
        refine fh_get (C := RX10) (T := TX10) (N := 28) hx hb ht inX10 hown hE.1 hP hM.m rfl 19 (by decide) (ht _ kw_709) (fun _ h9 => h9) (v := .ref (b 25)) rfl dX10_isConflict_19 ?_
        refine lv_iload hx hb dX10_isConflict_22 (lv_at hl 0 rfl) ?_
        refine fh_iald (k := j) hx hb hE.1 hP hM.a25 rfl (by omega) (by decide) dX10_isConflict_24 ?_
        rw [efc]
        refine lv_bipush (v := (nI 7)) hx hb dX10_isConflict_25 (by decide) ?_
        refine lv_iload_n hx hb dX10_isConflict_27 rfl (lv_at hl 3 rfl) ?_
        refine lv_imul hx hb dX10_isConflict_28 ?_
        refine lv_topi (fun z9 ez9 => ?_)
        rw [show z9 = nI (7 * o) from ez9.trans (pk_mul _ _)]
        refine lv_iload_n hx hb dX10_isConflict_29 rfl (lv_at hl 4 rfl) ?_
        refine lv_iadd hx hb dX10_isConflict_30 ?_
        refine lv_topi (fun z9 ez9 => ?_)
        rw [show z9 = nI ((7 * o) + k) from ez9.trans (nI_add _ _)]
        refine lv_icmp_ne (tgt := 38) hx hb dX10_isConflict_31 (by decide) (fun d2 => ?_) (fun d2 => ?_)
        · refine lv_iconst (v := (nI 0)) hx hb dX10_isConflict_38 (by decide) ?_
          refine lv_istore_n (lv' := [(3, .int (nI 0)), (4, .int (nI j)), (0, .ref ma), (1, .int (nI o)), (2, .int (nI k))]) hx hb dX10_isConflict_39 rfl hl (by decide) rfl (fun ls hl => ?_)
          refine lv_iinc (v := nI (j + 1)) (lv' := [(4, .int (nI (j + 1))), (3, .int (nI 0)), (0, .ref ma), (1, .int (nI o)), (2, .int (nI k))]) hx hb dX10_isConflict_40 hl (k := 1) rfl (nI_1 _) (by decide) rfl (fun ls hl => ?_)
          refine lv_goto (tgt := 5) hx hb dX10_isConflict_43 (by decide) ?_
          exact ih (j + 1) (by omega) false (by symm; rw [decide_eq_false_iff_not, est]; rintro (q | q); exact e1 q; exact d2 ((cod7_eq hq2.1 hq2.2 ho hk).mpr q.symm)) H locs ls hP hS (lv_sub hl [0, 1, 2, 3, 4] rfl)
        · refine lv_iconst (v := (nI 1)) hx hb dX10_isConflict_34 (by decide) ?_
          refine lv_goto (tgt := 39) hx hb dX10_isConflict_35 (by decide) ?_
          refine lv_istore_n (lv' := [(3, .int (nI 1)), (4, .int (nI j)), (0, .ref ma), (1, .int (nI o)), (2, .int (nI k))]) hx hb dX10_isConflict_39 rfl hl (by decide) rfl (fun ls hl => ?_)
          refine lv_iinc (v := nI (j + 1)) (lv' := [(4, .int (nI (j + 1))), (3, .int (nI 1)), (0, .ref ma), (1, .int (nI o)), (2, .int (nI k))]) hx hb dX10_isConflict_40 hl (k := 1) rfl (nI_1 _) (by decide) rfl (fun ls hl => ?_)
          refine lv_goto (tgt := 5) hx hb dX10_isConflict_43 (by decide) ?_
          exact ih (j + 1) (by omega) true (by symm; rw [decide_eq_true_eq, est]; exact Or.inr ((cod7_eq hq2.1 hq2.2 ho hk).mp d2).symm) H locs ls hP hS (lv_sub hl [0, 1, 2, 3, 4] rfl)
  exact loop nc 0 (by omega) false (by simp) _ _ _ hP hS hl

set_option maxRecDepth 100000 in
set_option maxHeartbeats 4000000 in
theorem m_takeF (l : Launch) (G : fG) (A : Nat → Prop) (h : FH) (sz : Nat) {ma : Nat} {b : Nat → Nat} {th : Int32} {no nv ns J nc nl nr : Nat} {fK : Nat → Int32} {fH : Nat → Int32} {fF : Nat → Int64} {fB : Nat → Int32} {fO : Nat → Int32} {fW : Nat → Int32} {fV : Nat → Int64} {fN : Nat → Int32} {cO : Nat → Int32} {cF : Nat → Int32} {cH : Nat → Int32} {cV : Nat → Int64} {fS : Nat → Int32} {fC : Nat → Int32} {lO : Nat → Int32} {lA : Nat → Int64} {rA : Nat → Int32} {rB : Nat → Int32} {rD : Nat → Int64} {fM : Nat → Int32} (hM : MG A h h ma b th no nv ns J nc nl nr fK fH fF fB fO fW fV fN cO cF cH cV fS fC lO lA rA rB rD fM) (i o k : Nat) (hi : i < 20) (ho : o < 60) (hk : k < 6) (hnv : 0 < nv) (hnv2 : nv ≤ 40) : Met l yX10_takeField wsX10_takeField { frames := 1, cells := 0, slots := 0, locals := 30 } (va_Pc [.ref ma, .int (nI i), .int (nI o), .int (nI k)] (fh_Pre G A h sz)) (fh_Q G (fun v u => v = none ∧ MG A h u ma b th no nv ns J nc nl nr fK fH (vp_updL fF (360 * (nv - 1) + 6 * o + k) (fV (360 * i + 6 * o + k))) fB fO fW fV fN cO cF cH cV fS fC lO lA rA rB rD fM) A) 0 0 A := by
  refine fh_Met [.ref ma, .int (nI i), .int (nI o), .int (nI k)] (by decide) rfl (Nat.le_of_ble_eq_true rfl) ?_
  intro p e s m below meth c hx hb hr hlocks hml hown hnm hts hsz hP hE hS ls hl
  have ht : ∀ w ∈ wB, w.before _ s = true := fun w h9 => hts w (List.mem_cons_of_mem _ h9)
  have hl : lv_has ls 4 [(0, .ref ma), (1, .int (nI i)), (2, .int (nI o)), (3, .int (nI k))] := hl
  refine lv_aload_n hx hb dX10_takeField_0 rfl (lv_at hl 0 rfl) ?_
  refine fh_get (C := RX10) (T := TX10) (N := 28) hx hb ht inX10 hown hE.1 hP hM.m rfl 5 (by decide) (ht _ kw_695) (fun _ h9 => h9) (v := .ref (b 14)) rfl dX10_takeField_1 ?_
  refine lv_sipush (v := (nI 360)) hx hb dX10_takeField_4 (by decide) ?_
  refine lv_aload_n hx hb dX10_takeField_7 rfl (lv_at hl 0 rfl) ?_
  refine fh_cV (q := (RX10, TX10, 28)) (As := []) (rest := [.int (nI 360), .ref (b 14)]) (b := ma) ⟨hx, hb, hml, hown, ht⟩ (m_head l G A h _ hM hnv) (cwV 0 ht (gV kw_791 kw_793 kp_16 kw_5 kw_794) rfl rfl rfl yd_X10_head ⟨(Nat.le_of_ble_eq_true rfl), (Nat.le_of_ble_eq_true rfl)⟩) hP hE hS hM.m rfl rfl hl.1 rfl (Nat.le_of_ble_eq_true rfl) dX10_takeField_8 ⟨(Nat.le_of_ble_eq_true rfl), (Nat.le_of_ble_eq_true rfl)⟩ (fun v u H locs hp hP hz hS => ?_)
  obtain ⟨rfl, eu⟩ := hp
  rw [eu] at hP
  refine W.eq (g2 := F0 m 11 ls [.int (nI (nv - 1)), .int (nI 360), .ref (b 14)]) rfl ?_
  refine lv_imul hx hb dX10_takeField_11 ?_
  refine lv_topi (fun z9 ez9 => ?_)
  rw [show z9 = nI (360 * (nv - 1)) from ez9.trans (pk_mul _ _)]
  refine lv_bipush (v := (nI 6)) hx hb dX10_takeField_12 (by decide) ?_
  refine lv_iload_n hx hb dX10_takeField_14 rfl (lv_at hl 2 rfl) ?_
  refine lv_imul hx hb dX10_takeField_15 ?_
  refine lv_topi (fun z9 ez9 => ?_)
  rw [show z9 = nI (6 * o) from ez9.trans (pk_mul _ _)]
  refine lv_iadd hx hb dX10_takeField_16 ?_
  refine lv_topi (fun z9 ez9 => ?_)
  rw [show z9 = nI ((360 * (nv - 1)) + (6 * o)) from ez9.trans (nI_add _ _)]
  refine lv_iload_n hx hb dX10_takeField_17 rfl (lv_at hl 3 rfl) ?_
  refine lv_iadd hx hb dX10_takeField_18 ?_
  refine lv_topi (fun z9 ez9 => ?_)
  rw [show z9 = nI (((360 * (nv - 1)) + (6 * o)) + k) from ez9.trans (nI_add _ _)]
  refine lv_aload_n hx hb dX10_takeField_19 rfl (lv_at hl 0 rfl) ?_
  refine lv_iload_n hx hb dX10_takeField_20 rfl (lv_at hl 1 rfl) ?_
  refine lv_iload_n hx hb dX10_takeField_21 rfl (lv_at hl 2 rfl) ?_
  refine lv_iload_n hx hb dX10_takeField_22 rfl (lv_at hl 3 rfl) ?_
  refine fh_cV (q := (RX10, TX10, 28)) (As := [.int (nI i), .int (nI o), .int (nI k)]) (rest := [.int (nI (((360 * (nv - 1)) + (6 * o)) + k)), .ref (b 14)]) (b := ma) ⟨hx, hb, hml, hown, ht⟩ (m_ownVal l G A h _ hM i o k hi ho hk) (cwV 3 ht (gV kw_866 kw_868 kp_27 kw_5 kw_869) rfl rfl rfl yd_X10_ownValue ⟨(Nat.le_of_ble_eq_true rfl), (Nat.le_of_ble_eq_true rfl)⟩) hP hE hS hM.m rfl rfl hl.1 rfl (Nat.le_of_ble_eq_true rfl) dX10_takeField_23 ⟨(Nat.le_of_ble_eq_true rfl), (Nat.le_of_ble_eq_true rfl)⟩ (fun v u H locs hp hP hz hS => ?_)
  obtain ⟨rfl, eu⟩ := hp
  rw [eu] at hP
  refine W.eq (g2 := F0 m 26 ls [.long (fV (360 * i + 6 * o + k)), .int (nI (((360 * (nv - 1)) + (6 * o)) + k)), .ref (b 14)]) rfl ?_
  refine fh_last (k := (((360 * (nv - 1)) + (6 * o)) + k)) hx hb hE.1 hP hS hM.a14 (hM.A14) rfl (by omega) (by decide) dX10_takeField_26 (fun H locs hP hz hS => ?_)
  obtain ⟨h_1, eh_1⟩ : ∃ z, z = fh_up h (b 14) (.inl (14, 14400, .inr (.inl (vp_updL fF (((360 * (nv - 1)) + (6 * o)) + k) (fV (360 * i + 6 * o + k)))))) := ⟨_, rfl⟩
  have hP : fh_P G vwCl h_1 H := by rw [eh_1]; exact hP
  have hM_1 := MG.w14 hM (f2 := vp_updL fF (((360 * (nv - 1)) + (6 * o)) + k) (fV (360 * i + 6 * o + k))) eh_1
  exact fh_vret hx hb hr hlocks (⟨rfl, hM_1⟩) hP hS (Nat.le_of_ble_eq_true rfl) (Nat.le_of_ble_eq_true rfl) dX10_takeField_27

set_option maxRecDepth 100000 in
set_option maxHeartbeats 4000000 in
theorem m_takeA (l : Launch) (G : fG) (A : Nat → Prop) (h : FH) (sz : Nat) {ma : Nat} {b : Nat → Nat} {th : Int32} {no nv ns J nc nl nr : Nat} {fK : Nat → Int32} {fH : Nat → Int32} {fF : Nat → Int64} {fB : Nat → Int32} {fO : Nat → Int32} {fW : Nat → Int32} {fV : Nat → Int64} {fN : Nat → Int32} {cO : Nat → Int32} {cF : Nat → Int32} {cH : Nat → Int32} {cV : Nat → Int64} {fS : Nat → Int32} {fC : Nat → Int32} {lO : Nat → Int32} {lA : Nat → Int64} {rA : Nat → Int32} {rB : Nat → Int32} {rD : Nat → Int64} {fM : Nat → Int32} (hM : MG A h h ma b th no nv ns J nc nl nr fK fH fF fB fO fW fV fN cO cF cH cV fS fC lO lA rA rB rD fM) (i o : Nat) (hi : i < 20) (ho : o < 60) (hnv : 0 < nv) (hnv2 : nv ≤ 40) (zW : bz fW) : Met l yX10_takeAll wsX10_takeAll { frames := 2, cells := 0, slots := 0, locals := 55 } (va_Pc [.ref ma, .int (nI i), .int (nI o)] (fh_Pre G A h sz)) (fh_Q G (fun v u => ∃ fF2, v = none ∧ MG A h u ma b th no nv ns J nc nl nr fK (upd fH (60 * (nv - 1) + o) (fW (60 * i + o))) fF2 fB fO fW fV fN cO cF cH cV fS fC lO lA rA rB rD fM ∧ (∀ k, k < 6 → fF2 (360 * (nv - 1) + 6 * o + k) = fV (360 * i + 6 * o + k)) ∧ (∀ x, (x < 360 * (nv - 1) + 6 * o ∨ 360 * (nv - 1) + 6 * o + 6 ≤ x) → fF2 x = fF x)) A) 0 0 A := by
  refine fh_Met [.ref ma, .int (nI i), .int (nI o)] (by decide) rfl (Nat.le_of_ble_eq_true rfl) ?_
  intro p e s m below meth c hx hb hr hlocks hml hown hnm hts hsz hP hE hS ls hl
  have ht : ∀ w ∈ wB, w.before _ s = true := fun w h9 => hts w (List.mem_cons_of_mem _ h9)
  have hl : lv_has ls 4 [(0, .ref ma), (1, .int (nI i)), (2, .int (nI o))] := hl
  refine lv_aload_n hx hb dX10_takeAll_0 rfl (lv_at hl 0 rfl) ?_
  refine fh_get (C := RX10) (T := TX10) (N := 28) hx hb ht inX10 hown hE.1 hP hM.m rfl 4 (by decide) (ht _ kw_694) (fun _ h9 => h9) (v := .ref (b 13)) rfl dX10_takeAll_1 ?_
  refine lv_bipush (v := (nI 60)) hx hb dX10_takeAll_4 (by decide) ?_
  refine lv_aload_n hx hb dX10_takeAll_6 rfl (lv_at hl 0 rfl) ?_
  refine fh_cV (q := (RX10, TX10, 28)) (As := []) (rest := [.int (nI 60), .ref (b 13)]) (b := ma) ⟨hx, hb, hml, hown, ht⟩ (m_head l G A h _ hM hnv) (cwV 0 ht (gV kw_791 kw_793 kp_16 kw_5 kw_794) rfl rfl rfl yd_X10_head ⟨(Nat.le_of_ble_eq_true rfl), (Nat.le_of_ble_eq_true rfl)⟩) hP hE hS hM.m rfl rfl hl.1 rfl (Nat.le_of_ble_eq_true rfl) dX10_takeAll_7 ⟨(Nat.le_of_ble_eq_true rfl), (Nat.le_of_ble_eq_true rfl)⟩ (fun v u H locs hp hP hz hS => ?_)
  obtain ⟨rfl, eu⟩ := hp
  rw [eu] at hP
  refine W.eq (g2 := F0 m 10 ls [.int (nI (nv - 1)), .int (nI 60), .ref (b 13)]) rfl ?_
  refine lv_imul hx hb dX10_takeAll_10 ?_
  refine lv_topi (fun z9 ez9 => ?_)
  rw [show z9 = nI (60 * (nv - 1)) from ez9.trans (pk_mul _ _)]
  refine lv_iload_n hx hb dX10_takeAll_11 rfl (lv_at hl 2 rfl) ?_
  refine lv_iadd hx hb dX10_takeAll_12 ?_
  refine lv_topi (fun z9 ez9 => ?_)
  rw [show z9 = nI ((60 * (nv - 1)) + o) from ez9.trans (nI_add _ _)]
  refine lv_aload_n hx hb dX10_takeAll_13 rfl (lv_at hl 0 rfl) ?_
  refine fh_get (C := RX10) (T := TX10) (N := 28) hx hb ht inX10 hown hE.1 hP hM.m rfl 9 (by decide) (ht _ kw_699) (fun _ h9 => h9) (v := .ref (b 17)) rfl dX10_takeAll_14 ?_
  refine lv_bipush (v := (nI 60)) hx hb dX10_takeAll_17 (by decide) ?_
  refine lv_iload_n hx hb dX10_takeAll_19 rfl (lv_at hl 1 rfl) ?_
  refine lv_imul hx hb dX10_takeAll_20 ?_
  refine lv_topi (fun z9 ez9 => ?_)
  rw [show z9 = nI (60 * i) from ez9.trans (pk_mul _ _)]
  refine lv_iload_n hx hb dX10_takeAll_21 rfl (lv_at hl 2 rfl) ?_
  refine lv_iadd hx hb dX10_takeAll_22 ?_
  refine lv_topi (fun z9 ez9 => ?_)
  rw [show z9 = nI ((60 * i) + o) from ez9.trans (nI_add _ _)]
  refine fh_zald (k := ((60 * i) + o)) hx hb hE.1 hP hM.a17 rfl (by omega) (by decide) dX10_takeAll_23 ?_
  refine fh_zast (k := ((60 * (nv - 1)) + o)) hx hb hE.1 hP hS hM.a13 (hM.A13) rfl (by omega) (by decide) dX10_takeAll_24 (fun H locs hP hz hS => ?_)
  obtain ⟨h_1, eh_1⟩ : ∃ z, z = fh_up h (b 13) (.inl (13, 2400, .inl (upd fH ((60 * (nv - 1)) + o) (vp_nar .boolean (fW ((60 * i) + o)))))) := ⟨_, rfl⟩
  have hP : fh_P G vwCl h_1 H := by rw [eh_1]; exact hP
  have hM_1 := MG.w13 hM (f2 := upd fH ((60 * (nv - 1)) + o) (vp_nar .boolean (fW ((60 * i) + o)))) eh_1
  rw [zW] at hM_1
  refine lv_iconst (v := (nI 0)) hx hb dX10_takeAll_25 (by decide) ?_
  refine lv_istore_n (lv' := [(3, .int (nI 0)), (0, .ref ma), (1, .int (nI i)), (2, .int (nI o))]) hx hb dX10_takeAll_26 rfl hl (by decide) rfl (fun ls hl => ?_)
  have loop : ∀ (n j : Nat), j + n = 6 → ∀ (hh : FH) (g2 : Nat → Int64) (_ : MG A h hh ma b th no nv ns J nc nl nr fK (upd fH (60 * (nv - 1) + o) (fW (60 * i + o))) g2 fB fO fW fV fN cO cF cH cV fS fC lO lA rA rB rD fM) (_ : ∀ k, k < j → g2 (360 * (nv - 1) + 6 * o + k) = fV (360 * i + 6 * o + k)) (_ : ∀ x, (x < 360 * (nv - 1) + 6 * o ∨ 360 * (nv - 1) + 6 * o + 6 ≤ x) → g2 x = fF x), ∀ (H : Heap) (locs : List Loc) (ls : Array Slot), fh_P G vwCl hh H → va_S A s.heap H locs → lv_has ls 4 [(3, .int (nI j)), (0, .ref ma), (1, .int (nI i)), (2, .int (nI o))] → W p l e (headSpec wsX10_takeAll { frames := 2, cells := 0, slots := 0, locals := 55 }).room s m [.ref ma, .int (nI i), .int (nI o)].toArray below meth c H locs 0 0 (MQ below (fh_Q G (fun v u => ∃ fF2, v = none ∧ MG A h u ma b th no nv ns J nc nl nr fK (upd fH (60 * (nv - 1) + o) (fW (60 * i + o))) fF2 fB fO fW fV fN cO cF cH cV fS fC lO lA rA rB rD fM ∧ (∀ k, k < 6 → fF2 (360 * (nv - 1) + 6 * o + k) = fV (360 * i + 6 * o + k)) ∧ (∀ x, (x < 360 * (nv - 1) + 6 * o ∨ 360 * (nv - 1) + 6 * o + 6 ≤ x) → fF2 x = fF x)) A) [.ref ma, .int (nI i), .int (nI o)].toArray s 0 0 A) (F0 m 27 ls []) := by
    intro n
    induction n with
    | zero =>
      intro j hin hh g2 hM9 i1 i2 H locs ls hP hS hl
      refine lv_iload_n hx hb dX10_takeAll_27 rfl (lv_at hl 0 rfl) ?_
      refine lv_bipush (v := (nI 6)) hx hb dX10_takeAll_28 (by decide) ?_
      refine lv_icmp_ge (tgt := 46) hx hb dX10_takeAll_30 (by decide) (fun _ => ?_) (fun c9 => absurd (nI_le (by omega) (by omega)) c9)
      exact fh_vret hx hb hr hlocks (⟨g2, rfl, hM9, fun k hk => i1 k (by omega), i2⟩) hP hS (Nat.le_of_ble_eq_true rfl) (Nat.le_of_ble_eq_true rfl) dX10_takeAll_46
    | succ n ih =>
      intro j hin hh g2 hM9 i1 i2 H locs ls hP hS hl
      have hj : j < 6 := by omega
      refine lv_iload_n hx hb dX10_takeAll_27 rfl (lv_at hl 0 rfl) ?_
      refine lv_bipush (v := (nI 6)) hx hb dX10_takeAll_28 (by decide) ?_
      refine lv_icmp_ge (tgt := 46) hx hb dX10_takeAll_30 (by decide) (fun c9 => absurd c9 (nI_ge (by omega) (by decide))) (fun _ => ?_)
      refine lv_aload_n hx hb dX10_takeAll_33 rfl (lv_at hl 1 rfl) ?_
      refine lv_iload_n hx hb dX10_takeAll_34 rfl (lv_at hl 2 rfl) ?_
      refine lv_iload_n hx hb dX10_takeAll_35 rfl (lv_at hl 3 rfl) ?_
      refine lv_iload_n hx hb dX10_takeAll_36 rfl (lv_at hl 0 rfl) ?_
      refine fh_cV (q := (RX10, TX10, 28)) (As := [.int (nI i), .int (nI o), .int (nI j)]) (rest := []) (b := ma) ⟨hx, hb, hml, hown, ht⟩ (m_takeF l G A hh _ hM9.re i o j hi ho hj hnv hnv2) (cwV 3 ht (gV kw_906 kw_908 kp_37 kw_5 kw_909) rfl rfl rfl yd_X10_takeField ⟨(Nat.le_of_ble_eq_true rfl), (Nat.le_of_ble_eq_true rfl)⟩) hP hE hS hM9.m rfl rfl hl.1 rfl (Nat.le_of_ble_eq_true rfl) dX10_takeAll_37 ⟨(Nat.le_of_ble_eq_true rfl), (Nat.le_of_ble_eq_true rfl)⟩ (fun v u H locs hp hP hz hS => ?_)
      obtain ⟨rfl, hM2⟩ := hp
      refine W.eq (g2 := F0 m 40 ls []) rfl ?_
      have hM3 := MG.tr hM9.kept hM2
      refine lv_iinc (v := nI (j + 1)) (lv' := [(3, .int (nI (j + 1))), (0, .ref ma), (1, .int (nI i)), (2, .int (nI o))]) hx hb dX10_takeAll_40 hl (k := 0) rfl (nI_1 _) (by decide) rfl (fun ls hl => ?_)
      refine lv_goto (tgt := 27) hx hb dX10_takeAll_43 (by decide) ?_
      exact ih (j + 1) (by omega) u _ hM3 (lt_s (fun k hk => (pk_uLn (by omega)).trans (i1 k hk)) pk_uLs) (fun x hx => (pk_uLn (by omega)).trans (i2 x hx)) H locs ls hP hS (lv_sub hl [0, 1, 2, 3] rfl)
  exact loop 6 0 (by omega) h_1 fF hM_1 (fun k hk => absurd hk (Nat.not_lt_zero k)) (fun _ _ => rfl) _ _ _ hP hS hl
