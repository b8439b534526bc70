set_option maxRecDepth 100000 in
set_option maxHeartbeats 4000000 in
theorem m_merge (l : Launch) (G : fG) (A : Nat → Prop) (h : FH) (sz : Nat) {ma : Nat} {b : Nat → Nat} {th : Int32} {no nv ns J nc nl nr : Nat} {fK : Nat → Int32} {fH : Nat → Int32} {fF : Nat → Int64} {fB : Nat → Int32} {fO : Nat → Int32} {fW : Nat → Int32} {fV : Nat → Int64} {fN : Nat → Int32} {cO : Nat → Int32} {cF : Nat → Int32} {cH : Nat → Int32} {cV : Nat → Int64} {fS : Nat → Int32} {fC : Nat → Int32} {lO : Nat → Int32} {lA : Nat → Int64} {rA : Nat → Int32} {rB : Nat → Int32} {rD : Nat → Int64} {fM : Nat → Int32} (hM : MG A h h ma b th no nv ns J nc nl nr fK fH fF fB fO fW fV fN cO cF cH cV fS fC lO lA rA rB rD fM) (i o vb : Nat) (hi : i < 20) (ho : o < 60) (hb9 : fB i = nI vb) (hvb : vb < 40) (hnv : 0 < nv) (hnv2 : nv ≤ 40) (zH : bz fH) (zW : bz fW) (B N T : Ro) (hB : fH (60 * vb + o) = bI B.isSome ∧ ∀ r, B = some r → ∀ k, k < 6 → fF (360 * vb + 6 * o + k) = r k) (hN : fW (60 * i + o) = bI N.isSome ∧ ∀ r, N = some r → ∀ k, k < 6 → fV (360 * i + 6 * o + k) = r k) (hT : fH (60 * (nv - 1) + o) = bI T.isSome ∧ ∀ r, T = some r → ∀ k, k < 6 → fF (360 * (nv - 1) + 6 * o + k) = r k) (hvb2 : vb < nv - 1) (L : CL) (hnc : nc = L.length) (hL : mC fC L) (hb1 : L.length ≤ 360) (hb2 : ∀ q ∈ L, q.1 < 60 ∧ q.2 < 7) (sf : Nat → Int32) (hsf : ∀ p, p < 420 → fS (420 * i + p) = sf p) (hmem : ∀ k, k < 7 → ((o, k) ∈ L ↔ ¬ alikeO B N = true ∧ seClash B N T k = true)) (hmade : B = none → N ≠ none → T = none) : Met l yX10_merge wsX10_merge { frames := 3, cells := 0, slots := 0, locals := 80 } (va_Pc [.ref ma, .int (nI i), .int (nI o)] (fh_Pre G A h sz)) (fh_Q G (fun v u => ∃ fH2 fF2, v = none ∧ MG A h u ma b th no nv ns J nc nl nr fK fH2 fF2 fB fO fW fV fN cO cF cH cV fS fC lO lA rA rB rD fM ∧ bz fH2 ∧ (fH2 (60 * (nv - 1) + o) = bI (seMerged B N T (fun k => sf (o * 7 + k) - nI 1)).isSome ∧ ∀ r, (seMerged B N T (fun k => sf (o * 7 + k) - nI 1)) = some r → ∀ k, k < 6 → fF2 (360 * (nv - 1) + 6 * o + k) = r k) ∧ (∀ x, x ≠ 60 * (nv - 1) + o → fH2 x = fH x) ∧ (∀ x, (x < 360 * (nv - 1) + 6 * o ∨ 360 * (nv - 1) + 6 * o + 6 ≤ x) → fF2 x = fF x)) A) 0 0 A := by
  refine fh_Met [.ref ma, .int (nI i), .int (nI o)] (by decide) rfl (Nat.le_of_ble_eq_true rfl) ?_
  intro p e s m below meth c hx hb hr hlocks hml hown hnm hts hsz hP hE hS ls hl
  have ht : ∀ w ∈ wB, w.before _ s = true := fun w h9 => hts w (List.mem_cons_of_mem _ h9)
  have hl : lv_has ls 6 [(0, .ref ma), (1, .int (nI i)), (2, .int (nI o))] := hl
  refine lv_aload_n hx hb dX10_merge_0 rfl (lv_at hl 0 rfl) ?_
  refine fh_get (C := RX10) (T := TX10) (N := 28) hx hb ht inX10 hown hE.1 hP hM.m rfl 9 (by decide) (ht _ kw_699) (fun _ h9 => h9) (v := .ref (b 17)) rfl dX10_merge_1 ?_
  refine lv_bipush (v := (nI 60)) hx hb dX10_merge_4 (by decide) ?_
  refine lv_iload_n hx hb dX10_merge_6 rfl (lv_at hl 1 rfl) ?_
  refine lv_imul hx hb dX10_merge_7 ?_
  refine lv_topi (fun z9 ez9 => ?_)
  rw [show z9 = nI (60 * i) from ez9.trans (pk_mul _ _)]
  refine lv_iload_n hx hb dX10_merge_8 rfl (lv_at hl 2 rfl) ?_
  refine lv_iadd hx hb dX10_merge_9 ?_
  refine lv_topi (fun z9 ez9 => ?_)
  rw [show z9 = nI ((60 * i) + o) from ez9.trans (nI_add _ _)]
  refine fh_zald (k := ((60 * i) + o)) hx hb hE.1 hP hM.a17 rfl (by omega) (by decide) dX10_merge_10 ?_
  rw [hN.1]
  refine lv_istore_n (lv' := [(3, .int (bI N.isSome)), (0, .ref ma), (1, .int (nI i)), (2, .int (nI o))]) hx hb dX10_merge_11 rfl hl (by decide) rfl (fun ls hl => ?_)
  refine lv_aload_n hx hb dX10_merge_12 rfl (lv_at hl 1 rfl) ?_
  refine lv_iload_n hx hb dX10_merge_13 rfl (lv_at hl 2 rfl) ?_
  refine lv_iload_n hx hb dX10_merge_14 rfl (lv_at hl 3 rfl) ?_
  refine fh_cV (q := (RX10, TX10, 28)) (As := [.int (nI i), .int (nI o)]) (rest := []) (b := ma) ⟨hx, hb, hml, hown, ht⟩ (m_baseHas l G A h _ hM.re i o vb hi ho hb9 hvb zH) (cwV 2 ht (gV kw_858 kw_860 kp_25 kw_5 kw_861) rfl rfl rfl yd_X10_baseHas ⟨(Nat.le_of_ble_eq_true rfl), (Nat.le_of_ble_eq_true rfl)⟩) hP hE hS hM.m rfl rfl hl.1 rfl (Nat.le_of_ble_eq_true rfl) dX10_merge_15 ⟨(Nat.le_of_ble_eq_true rfl), (Nat.le_of_ble_eq_true rfl)⟩ (fun v u H locs hp hP hz hS => ?_)
  rw [hB.1] at hp
  obtain ⟨rfl, eu⟩ := hp
  rw [eu] at hP
  refine W.eq (g2 := F0 m 18 ls [.int (bI B.isSome)]) rfl ?_
  refine lv_if_ne (tgt := 32) hx hb dX10_merge_18 (by decide) (fun d1 => ?_) (fun d1 => ?_)
  · obtain ⟨b9, eB⟩ : ∃ r, B = some r := Option.isSome_iff_exists.mp (bI_nz d1)
    refine lv_iload_n hx hb dX10_merge_32 rfl (lv_at hl 0 rfl) ?_
    refine lv_if_eq (tgt := 46) hx hb dX10_merge_33 (by decide) (fun d2 => ?_) (fun d2 => ?_)
    · have eN : N = none := by have z := bI_eq.mp d2; revert z; cases N <;> simp
      refine lv_aload_n hx hb dX10_merge_46 rfl (lv_at hl 1 rfl) ?_
      refine lv_iload_n hx hb dX10_merge_47 rfl (lv_at hl 3 rfl) ?_
      refine lv_bipush (v := (nI 6)) hx hb dX10_merge_48 (by decide) ?_
      refine fh_cV (q := (RX10, TX10, 28)) (As := [.int (nI o), .int (nI 6)]) (rest := []) (b := ma) ⟨hx, hb, hml, hown, ht⟩ (m_isCon l G A h _ hM.re o 6 ho (by decide) L hnc hL hb1 hb2) (cwV 2 ht (gV kw_910 kw_912 kp_38 kw_5 kw_913) rfl rfl rfl yd_X10_isConflict ⟨(Nat.le_of_ble_eq_true rfl), (Nat.le_of_ble_eq_true rfl)⟩) hP hE hS hM.m rfl rfl hl.1 rfl (Nat.le_of_ble_eq_true rfl) dX10_merge_50 ⟨(Nat.le_of_ble_eq_true rfl), (Nat.le_of_ble_eq_true rfl)⟩ (fun v u H locs hp hP hz hS => ?_)
      obtain ⟨rfl, eu⟩ := hp
      rw [eu] at hP
      refine W.eq (g2 := F0 m 53 ls [.int (bI (decide ((o, 6) ∈ L)))]) rfl ?_
      refine lv_if_eq (tgt := 75) hx hb dX10_merge_53 (by decide) (fun d6 => ?_) (fun d6 => ?_)
      · have e6 : ¬ seClash B N T 6 = true := fun q => by have z := bI_eq.mp d6; rw [decide_eq_false_iff_not] at z; exact z ((hmem 6 (by decide)).mpr ⟨(by rw [eB, eN]; exact fun z => by cases z), q⟩)
        refine lv_iload_n hx hb dX10_merge_75 rfl (lv_at hl 0 rfl) ?_
        refine lv_if_ne (tgt := 95) hx hb dX10_merge_76 (by decide) (fun c9 => absurd (d2) c9) (fun _ => ?_)
        refine lv_aload_n hx hb dX10_merge_79 rfl (lv_at hl 1 rfl) ?_
        refine fh_get (C := RX10) (T := TX10) (N := 28) hx hb ht inX10 hown hE.1 hP hM.m rfl 4 (by decide) (ht _ kw_694) (fun _ h9 => h9) (v := .ref (b 13)) rfl dX10_merge_80 ?_
        refine lv_bipush (v := (nI 60)) hx hb dX10_merge_83 (by decide) ?_
        refine lv_aload_n hx hb dX10_merge_85 rfl (lv_at hl 1 rfl) ?_
        refine fh_cV (q := (RX10, TX10, 28)) (As := []) (rest := [.int (nI 60), .ref (b 13)]) (b := ma) ⟨hx, hb, hml, hown, ht⟩ (m_head l G A h _ hM hnv) (cwV 0 ht (gV kw_791 kw_793 kp_16 kw_5 kw_794) rfl rfl rfl yd_X10_head ⟨(Nat.le_of_ble_eq_true rfl), (Nat.le_of_ble_eq_true rfl)⟩) hP hE hS hM.m rfl rfl hl.1 rfl (Nat.le_of_ble_eq_true rfl) dX10_merge_86 ⟨(Nat.le_of_ble_eq_true rfl), (Nat.le_of_ble_eq_true rfl)⟩ (fun v u H locs hp hP hz hS => ?_)
        obtain ⟨rfl, eu⟩ := hp
        rw [eu] at hP
        refine W.eq (g2 := F0 m 89 ls [.int (nI (nv - 1)), .int (nI 60), .ref (b 13)]) rfl ?_
        refine lv_imul hx hb dX10_merge_89 ?_
        refine lv_topi (fun z9 ez9 => ?_)
        rw [show z9 = nI (60 * (nv - 1)) from ez9.trans (pk_mul _ _)]
        refine lv_iload_n hx hb dX10_merge_90 rfl (lv_at hl 3 rfl) ?_
        refine lv_iadd hx hb dX10_merge_91 ?_
        refine lv_topi (fun z9 ez9 => ?_)
        rw [show z9 = nI ((60 * (nv - 1)) + o) from ez9.trans (nI_add _ _)]
        refine lv_iconst (v := (nI 0)) hx hb dX10_merge_92 (by decide) ?_
        refine fh_zast (k := ((60 * (nv - 1)) + o)) hx hb hE.1 hP hS hM.a13 (hM.A13) rfl (by omega) (by decide) dX10_merge_93 (fun H locs hP hz hS => ?_)
        obtain ⟨h_1, eh_1⟩ : ∃ z, z = fh_up h (b 13) (.inl (13, 2400, .inl (upd fH ((60 * (nv - 1)) + o) (vp_nar .boolean (nI 0))))) := ⟨_, rfl⟩
        have hP : fh_P G vwCl h_1 H := by rw [eh_1]; exact hP
        have hM_1 := MG.w13 hM (f2 := upd fH ((60 * (nv - 1)) + o) (vp_nar .boolean (nI 0))) eh_1
        have ex : (seMerged B N T (fun k => sf (o * 7 + k) - nI 1)) = none := by rw [eN] at e6 ⊢; exact seM4 (by rw [eB]; exact fun z => by cases z) e6 (Or.inl rfl)
        exact fh_vret hx hb hr hlocks (⟨_, fF, rfl, hM_1, bz_u zH _ _, by rw [ex]; exact ⟨by simp only [upd, if_true]; rfl, fun r hr => by cases hr⟩, fun x hx => by simp [upd, hx], fun _ _ => rfl⟩) hP hS (Nat.le_of_ble_eq_true rfl) (Nat.le_of_ble_eq_true rfl) dX10_merge_94
      · have e6 := (hmem 6 (by decide)).mp (of_decide_eq_true (bI_nz d6))
        refine lv_aload_n hx hb dX10_merge_56 rfl (lv_at hl 1 rfl) ?_
        refine lv_iload_n hx hb dX10_merge_57 rfl (lv_at hl 2 rfl) ?_
        refine lv_iload_n hx hb dX10_merge_58 rfl (lv_at hl 3 rfl) ?_
        refine lv_bipush (v := (nI 6)) hx hb dX10_merge_59 (by decide) ?_
        refine fh_cV (q := (RX10, TX10, 28)) (As := [.int (nI i), .int (nI o), .int (nI 6)]) (rest := []) (b := ma) ⟨hx, hb, hml, hown, ht⟩ (m_sideOf l G A h _ hM.re i o 6 hi ho (by decide)) (cwV 3 ht (gV kw_894 kw_896 kp_34 kw_5 kw_897) rfl rfl rfl yd_X10_sideOf ⟨(Nat.le_of_ble_eq_true rfl), (Nat.le_of_ble_eq_true rfl)⟩) hP hE hS hM.m rfl rfl hl.1 rfl (Nat.le_of_ble_eq_true rfl) dX10_merge_61 ⟨(Nat.le_of_ble_eq_true rfl), (Nat.le_of_ble_eq_true rfl)⟩ (fun v u H locs hp hP hz hS => ?_)
        rw [show fS (420 * i + 7 * o + 6) = sf (o * 7 + 6) by rw [show 420 * i + 7 * o + 6 = 420 * i + (o * 7 + 6) by omega]; exact hsf _ (by omega)] at hp
        obtain ⟨rfl, eu⟩ := hp
        rw [eu] at hP
        refine W.eq (g2 := F0 m 64 ls [.int (sf (o * 7 + 6) - nI 1)]) rfl ?_
        refine lv_iconst (v := (nI 1)) hx hb dX10_merge_64 (by decide) ?_
        refine lv_icmp_ne (tgt := 74) hx hb dX10_merge_65 (by decide) (fun d7 => ?_) (fun d7 => ?_)
        · have ex : (seMerged B N T (fun k => sf (o * 7 + k) - nI 1)) = T := by exact seM3 e6.1 e6.2 d7
          exact fh_vret hx hb hr hlocks (⟨fH, fF, rfl, hM, zH, by rw [ex]; exact hT, fun _ _ => rfl, fun _ _ => rfl⟩) hP hS (Nat.le_of_ble_eq_true rfl) (Nat.le_of_ble_eq_true rfl) dX10_merge_74
        · refine lv_aload_n hx hb dX10_merge_68 rfl (lv_at hl 1 rfl) ?_
          refine lv_iload_n hx hb dX10_merge_69 rfl (lv_at hl 2 rfl) ?_
          refine lv_iload_n hx hb dX10_merge_70 rfl (lv_at hl 3 rfl) ?_
          refine fh_cV (q := (RX10, TX10, 28)) (As := [.int (nI i), .int (nI o)]) (rest := []) (b := ma) ⟨hx, hb, hml, hown, ht⟩ (m_takeA l G A h _ hM i o hi ho hnv hnv2 zW) (cwV 2 ht (gV kw_902 kw_904 kp_36 kw_5 kw_905) rfl rfl rfl yd_X10_takeAll ⟨(Nat.le_of_ble_eq_true rfl), (Nat.le_of_ble_eq_true rfl)⟩) hP hE hS hM.m rfl rfl hl.1 rfl (Nat.le_of_ble_eq_true rfl) dX10_merge_71 ⟨(Nat.le_of_ble_eq_true rfl), (Nat.le_of_ble_eq_true rfl)⟩ (fun v u H locs hp hP hz hS => ?_)
          obtain ⟨fF2, rfl, hM2, i1, i2⟩ := hp
          refine W.eq (g2 := F0 m 74 ls []) rfl ?_
          have ex : (seMerged B N T (fun k => sf (o * 7 + k) - nI 1)) = N := by exact seM2 e6.1 e6.2 d7
          exact fh_vret hx hb hr hlocks (⟨_, fF2, rfl, hM2, by rw [← zW]; exact bz_u zH _ _, by rw [ex]; exact ⟨by rw [← hN.1]; simp [upd], fun r hr k hk => (i1 k hk).trans (hN.2 r hr k hk)⟩, fun x hx => by simp [upd, hx], i2⟩) hP hS (Nat.le_of_ble_eq_true rfl) (Nat.le_of_ble_eq_true rfl) dX10_merge_74
    · obtain ⟨m9, eN⟩ : ∃ r, N = some r := Option.isSome_iff_exists.mp (bI_nz d2)
      refine lv_aload_n hx hb dX10_merge_36 rfl (lv_at hl 1 rfl) ?_
      refine lv_iload_n hx hb dX10_merge_37 rfl (lv_at hl 2 rfl) ?_
      refine lv_iload_n hx hb dX10_merge_38 rfl (lv_at hl 3 rfl) ?_
      refine fh_cV (q := (RX10, TX10, 28)) (As := [.int (nI i), .int (nI o)]) (rest := []) (b := ma) ⟨hx, hb, hml, hown, ht⟩ (m_ownBase l G A h _ hM.re i o vb hi ho hb9 hvb) (cwV 2 ht (gV kw_862 kw_864 kp_26 kw_5 kw_865) rfl rfl rfl yd_X10_isOwnAsBase ⟨(Nat.le_of_ble_eq_true rfl), (Nat.le_of_ble_eq_true rfl)⟩) hP hE hS hM.m rfl rfl hl.1 rfl (Nat.le_of_ble_eq_true rfl) dX10_merge_39 ⟨(Nat.le_of_ble_eq_true rfl), (Nat.le_of_ble_eq_true rfl)⟩ (fun v u H locs hp hP hz hS => ?_)
      rw [rwEq_congr (hN.2 m9 eN) (hB.2 b9 eB)] at hp
      obtain ⟨rfl, eu⟩ := hp
      rw [eu] at hP
      refine W.eq (g2 := F0 m 42 ls [.int (bI (rwEq m9 b9))]) rfl ?_
      refine lv_if_eq (tgt := 46) hx hb dX10_merge_42 (by decide) (fun d5 => ?_) (fun d5 => ?_)
      · have ea : ¬ alikeO (some b9) (some m9) = true := fun z => by have z2 : rwEq b9 m9 = true := z; rw [rwEq_comm, bI_eq.mp d5] at z2; cases z2
        refine lv_aload_n hx hb dX10_merge_46 rfl (lv_at hl 1 rfl) ?_
        refine lv_iload_n hx hb dX10_merge_47 rfl (lv_at hl 3 rfl) ?_
        refine lv_bipush (v := (nI 6)) hx hb dX10_merge_48 (by decide) ?_
        refine fh_cV (q := (RX10, TX10, 28)) (As := [.int (nI o), .int (nI 6)]) (rest := []) (b := ma) ⟨hx, hb, hml, hown, ht⟩ (m_isCon l G A h _ hM.re o 6 ho (by decide) L hnc hL hb1 hb2) (cwV 2 ht (gV kw_910 kw_912 kp_38 kw_5 kw_913) rfl rfl rfl yd_X10_isConflict ⟨(Nat.le_of_ble_eq_true rfl), (Nat.le_of_ble_eq_true rfl)⟩) hP hE hS hM.m rfl rfl hl.1 rfl (Nat.le_of_ble_eq_true rfl) dX10_merge_50 ⟨(Nat.le_of_ble_eq_true rfl), (Nat.le_of_ble_eq_true rfl)⟩ (fun v u H locs hp hP hz hS => ?_)
        obtain ⟨rfl, eu⟩ := hp
        rw [eu] at hP
        refine W.eq (g2 := F0 m 53 ls [.int (bI (decide ((o, 6) ∈ L)))]) rfl ?_
        refine lv_if_eq (tgt := 75) hx hb dX10_merge_53 (by decide) (fun d6 => ?_) (fun d6 => ?_)
        · have e6 : ¬ seClash B N T 6 = true := fun q => by have z := bI_eq.mp d6; rw [decide_eq_false_iff_not] at z; exact z ((hmem 6 (by decide)).mpr ⟨(by rw [eB, eN]; exact ea), q⟩)
          obtain ⟨t9, eT⟩ : ∃ r, T = some r := by
            cases e9 : T with
            | none => exact absurd (by rw [eB, eN, e9]; rfl) e6
            | some t9 => exact ⟨t9, rfl⟩
          refine lv_iload_n hx hb dX10_merge_75 rfl (lv_at hl 0 rfl) ?_
          refine lv_if_ne (tgt := 95) hx hb dX10_merge_76 (by decide) (fun _ => ?_) (fun c9 => absurd c9 (d2))
          refine lv_iconst (v := (nI 0)) hx hb dX10_merge_95 (by decide) ?_
          refine lv_istore (lv' := [(4, .int (nI 0)), (3, .int (bI N.isSome)), (0, .ref ma), (1, .int (nI i)), (2, .int (nI o))]) hx hb dX10_merge_96 hl (by decide) rfl (fun ls hl => ?_)
          have loop : ∀ (n j : Nat), j + n = 6 → ∀ (hh : FH) (g2 : Nat → Int64) (_ : MG A h hh ma b th no nv ns J nc nl nr fK fH g2 fB fO fW fV fN cO cF cH cV fS fC lO lA rA rB rD fM) (_ : ∀ k, k < j → g2 (360 * (nv - 1) + 6 * o + k) = mVal b9 m9 t9 (fun k => sf (o * 7 + k) - nI 1) k) (_ : ∀ k, j ≤ k → k < 6 → g2 (360 * (nv - 1) + 6 * o + k) = t9 k) (_ : ∀ x, (x < 360 * (nv - 1) + 6 * o ∨ 360 * (nv - 1) + 6 * o + 6 ≤ x) → g2 x = fF x), ∀ (H : Heap) (locs : List Loc) (ls : Array Slot), fh_P G vwCl hh H → va_S A s.heap H locs → lv_has ls 6 [(4, .int (nI j)), (3, .int (bI N.isSome)), (0, .ref ma), (1, .int (nI i)), (2, .int (nI o))] → W p l e (headSpec wsX10_merge { frames := 3, cells := 0, slots := 0, locals := 80 }).room s m [.ref ma, .int (nI i), .int (nI o)].toArray below meth c H locs 0 0 (MQ below (fh_Q G (fun v u => ∃ fH2 fF2, v = none ∧ MG A h u ma b th no nv ns J nc nl nr fK fH2 fF2 fB fO fW fV fN cO cF cH cV fS fC lO lA rA rB rD fM ∧ bz fH2 ∧ (fH2 (60 * (nv - 1) + o) = bI (seMerged B N T (fun k => sf (o * 7 + k) - nI 1)).isSome ∧ ∀ r, (seMerged B N T (fun k => sf (o * 7 + k) - nI 1)) = some r → ∀ k, k < 6 → fF2 (360 * (nv - 1) + 6 * o + k) = r k) ∧ (∀ x, x ≠ 60 * (nv - 1) + o → fH2 x = fH x) ∧ (∀ x, (x < 360 * (nv - 1) + 6 * o ∨ 360 * (nv - 1) + 6 * o + 6 ≤ x) → fF2 x = fF x)) A) [.ref ma, .int (nI i), .int (nI o)].toArray s 0 0 A) (F0 m 98 ls []) := by
            intro n
            induction n with
            | zero =>
              intro j hin hh g2 hM9 i1 i2 i3 H locs ls hP hS hl
              refine lv_iload hx hb dX10_merge_98 (lv_at hl 0 rfl) ?_
              refine lv_bipush (v := (nI 6)) hx hb dX10_merge_100 (by decide) ?_
              refine lv_icmp_ge (tgt := 181) hx hb dX10_merge_102 (by decide) (fun _ => ?_) (fun c9 => absurd (nI_le (by omega) (by omega)) c9)
              obtain ⟨r9, er, hr9⟩ := seMerged_3 (t := t9) (sd := (fun k => sf (o * 7 + k) - nI 1)) ea
              have ex : (seMerged B N T (fun k => sf (o * 7 + k) - nI 1)) = some r9 := by rw [eB, eN, eT]; exact er
              exact fh_vret hx hb hr hlocks (⟨fH, g2, rfl, hM9, zH, by rw [ex]; exact ⟨by rw [hT.1, eT]; rfl, fun r hr k hk => by cases hr; rw [hr9 k hk]; exact i1 k (by omega)⟩, fun _ _ => rfl, i3⟩) hP hS (Nat.le_of_ble_eq_true rfl) (Nat.le_of_ble_eq_true rfl) dX10_merge_181
            | succ n ih =>
              intro j hin hh g2 hM9 i1 i2 i3 H locs ls hP hS hl
              have hj : j < 6 := by omega
              refine lv_iload hx hb dX10_merge_98 (lv_at hl 0 rfl) ?_
              refine lv_bipush (v := (nI 6)) hx hb dX10_merge_100 (by decide) ?_
              refine lv_icmp_ge (tgt := 181) hx hb dX10_merge_102 (by decide) (fun c9 => absurd c9 (nI_ge (by omega) (by decide))) (fun _ => ?_)
              have tl : ∀ (c9 : Bool) (_ : c9 = mTk b9 m9 t9 (fun k => sf (o * 7 + k) - nI 1) j) (H : Heap) (locs : List Loc) (ls : Array Slot), fh_P G vwCl hh H → va_S A s.heap H locs → lv_has ls 6 [(4, .int (nI j)), (3, .int (bI N.isSome)), (0, .ref ma), (1, .int (nI i)), (2, .int (nI o))] → W p l e (headSpec wsX10_merge { frames := 3, cells := 0, slots := 0, locals := 80 }).room s m [.ref ma, .int (nI i), .int (nI o)].toArray below meth c H locs 0 0 (MQ below (fh_Q G (fun v u => ∃ fH2 fF2, v = none ∧ MG A h u ma b th no nv ns J nc nl nr fK fH2 fF2 fB fO fW fV fN cO cF cH cV fS fC lO lA rA rB rD fM ∧ bz fH2 ∧ (fH2 (60 * (nv - 1) + o) = bI (seMerged B N T (fun k => sf (o * 7 + k) - nI 1)).isSome ∧ ∀ r, (seMerged B N T (fun k => sf (o * 7 + k) - nI 1)) = some r → ∀ k, k < 6 → fF2 (360 * (nv - 1) + 6 * o + k) = r k) ∧ (∀ x, x ≠ 60 * (nv - 1) + o → fH2 x = fH x) ∧ (∀ x, (x < 360 * (nv - 1) + 6 * o ∨ 360 * (nv - 1) + 6 * o + 6 ≤ x) → fF2 x = fF x)) A) [.ref ma, .int (nI i), .int (nI o)].toArray s 0 0 A) (F0 m 160 ls [.int (bI c9)]) := by
                intro c9 hc9 H locs ls hP hS hl
                refine lv_istore (lv' := [(5, .int (bI c9)), (4, .int (nI j)), (3, .int (bI N.isSome)), (0, .ref ma), (1, .int (nI i)), (2, .int (nI o))]) hx hb dX10_merge_160 hl (by decide) rfl (fun ls hl => ?_)
                refine lv_iload hx hb dX10_merge_162 (lv_at hl 0 rfl) ?_
                refine lv_if_eq (tgt := 175) hx hb dX10_merge_164 (by decide) (fun f1 => ?_) (fun f1 => ?_)
                · have e1 := bI_eq.mp f1
                  have emv : mVal b9 m9 t9 (fun k => sf (o * 7 + k) - nI 1) j = t9 j := by unfold mVal; rw [← hc9, e1]; rfl
                  refine lv_iinc (v := nI (j + 1)) (lv' := [(4, .int (nI (j + 1))), (5, .int (bI c9)), (3, .int (bI N.isSome)), (0, .ref ma), (1, .int (nI i)), (2, .int (nI o))]) hx hb dX10_merge_175 hl (k := 1) rfl (nI_1 _) (by decide) rfl (fun ls hl => ?_)
                  refine lv_goto (tgt := 98) hx hb dX10_merge_178 (by decide) ?_
                  exact ih (j + 1) (by omega) hh g2 hM9 (lt_s i1 (by rw [emv]; exact i2 j (Nat.le_refl j) hj)) (fun k hk h6 => i2 k (by omega) h6) i3 H locs ls hP hS (lv_sub hl [0, 2, 3, 4, 5] rfl)
                · have e1 := bI_nz f1
                  have emv : mVal b9 m9 t9 (fun k => sf (o * 7 + k) - nI 1) j = m9 j := by unfold mVal; rw [← hc9, if_pos e1]
                  refine lv_aload_n hx hb dX10_merge_167 rfl (lv_at hl 3 rfl) ?_
                  refine lv_iload_n hx hb dX10_merge_168 rfl (lv_at hl 4 rfl) ?_
                  refine lv_iload_n hx hb dX10_merge_169 rfl (lv_at hl 5 rfl) ?_
                  refine lv_iload hx hb dX10_merge_170 (lv_at hl 1 rfl) ?_
                  refine fh_cV (q := (RX10, TX10, 28)) (As := [.int (nI i), .int (nI o), .int (nI j)]) (rest := []) (b := ma) ⟨hx, hb, hml, hown, ht⟩ (m_takeF l G A hh _ hM9.re i o j hi ho hj hnv hnv2) (cwV 3 ht (gV kw_906 kw_908 kp_37 kw_5 kw_909) rfl rfl rfl yd_X10_takeField ⟨(Nat.le_of_ble_eq_true rfl), (Nat.le_of_ble_eq_true rfl)⟩) hP hE hS hM9.m rfl rfl hl.1 rfl (Nat.le_of_ble_eq_true rfl) dX10_merge_172 ⟨(Nat.le_of_ble_eq_true rfl), (Nat.le_of_ble_eq_true rfl)⟩ (fun v u H locs hp hP hz hS => ?_)
                  obtain ⟨rfl, hM2⟩ := hp
                  refine W.eq (g2 := F0 m 175 ls []) rfl ?_
                  have hM3 := MG.tr hM9.kept hM2
                  refine lv_iinc (v := nI (j + 1)) (lv' := [(4, .int (nI (j + 1))), (5, .int (bI c9)), (3, .int (bI N.isSome)), (0, .ref ma), (1, .int (nI i)), (2, .int (nI o))]) hx hb dX10_merge_175 hl (k := 1) rfl (nI_1 _) (by decide) rfl (fun ls hl => ?_)
                  refine lv_goto (tgt := 98) hx hb dX10_merge_178 (by decide) ?_
                  exact ih (j + 1) (by omega) u _ hM3 (lt_s (fun k hk => (pk_uLn (by omega)).trans (i1 k hk)) (pk_uLs.trans (by rw [emv]; exact hN.2 m9 eN j hj))) (fun k hk h6 => (pk_uLn (by omega)).trans (i2 k (by omega) h6)) (fun x hx => (pk_uLn (by omega)).trans (i3 x hx)) H locs ls hP hS (lv_sub hl [0, 2, 3, 4, 5] rfl)
              refine lv_aload_n hx hb dX10_merge_105 rfl (lv_at hl 2 rfl) ?_
              refine lv_iload_n hx hb dX10_merge_106 rfl (lv_at hl 4 rfl) ?_
              refine lv_iload hx hb dX10_merge_107 (lv_at hl 0 rfl) ?_
              refine fh_cV (q := (RX10, TX10, 28)) (As := [.int (nI o), .int (nI j)]) (rest := []) (b := ma) ⟨hx, hb, hml, hown, ht⟩ (m_isCon l G A hh _ hM9.re o j ho (by omega) L hnc hL hb1 hb2) (cwV 2 ht (gV kw_910 kw_912 kp_38 kw_5 kw_913) rfl rfl rfl yd_X10_isConflict ⟨(Nat.le_of_ble_eq_true rfl), (Nat.le_of_ble_eq_true rfl)⟩) hP hE hS hM9.m rfl rfl hl.1 rfl (Nat.le_of_ble_eq_true rfl) dX10_merge_109 ⟨(Nat.le_of_ble_eq_true rfl), (Nat.le_of_ble_eq_true rfl)⟩ (fun v u H locs hp hP hz hS => ?_)
              obtain ⟨rfl, eu⟩ := hp
              rw [eu] at hP
              refine W.eq (g2 := F0 m 112 ls [.int (bI (decide ((o, j) ∈ L)))]) rfl ?_
              refine lv_if_eq (tgt := 135) hx hb dX10_merge_112 (by decide) (fun g1 => ?_) (fun g1 => ?_)
              · have e2 : ¬ seClash (some b9) (some m9) (some t9) j = true := fun q => by have z := bI_eq.mp g1; rw [decide_eq_false_iff_not] at z; exact z ((hmem j (by omega)).mpr ⟨by rw [eB, eN]; exact ea, by rw [eB, eN, eT]; exact q⟩)
                refine lv_aload_n hx hb dX10_merge_135 rfl (lv_at hl 2 rfl) ?_
                refine lv_iload_n hx hb dX10_merge_136 rfl (lv_at hl 3 rfl) ?_
                refine lv_iload_n hx hb dX10_merge_137 rfl (lv_at hl 4 rfl) ?_
                refine lv_iload hx hb dX10_merge_138 (lv_at hl 0 rfl) ?_
                refine fh_cV (q := (RX10, TX10, 28)) (As := [.int (nI i), .int (nI o), .int (nI j)]) (rest := []) (b := ma) ⟨hx, hb, hml, hown, ht⟩ (m_ownVal l G A hh _ hM9.re i o j hi ho hj) (cwV 3 ht (gV kw_866 kw_868 kp_27 kw_5 kw_869) rfl rfl rfl yd_X10_ownValue ⟨(Nat.le_of_ble_eq_true rfl), (Nat.le_of_ble_eq_true rfl)⟩) hP hE hS hM9.m rfl rfl hl.1 rfl (Nat.le_of_ble_eq_true rfl) dX10_merge_140 ⟨(Nat.le_of_ble_eq_true rfl), (Nat.le_of_ble_eq_true rfl)⟩ (fun v u H locs hp hP hz hS => ?_)
                rw [hN.2 m9 eN j hj] at hp
                obtain ⟨rfl, eu⟩ := hp
                rw [eu] at hP
                refine W.eq (g2 := F0 m 143 ls [.long (m9 j)]) rfl ?_
                refine lv_aload_n hx hb dX10_merge_143 rfl (lv_at hl 2 rfl) ?_
                refine lv_iload_n hx hb dX10_merge_144 rfl (lv_at hl 3 rfl) ?_
                refine lv_iload_n hx hb dX10_merge_145 rfl (lv_at hl 4 rfl) ?_
                refine lv_iload hx hb dX10_merge_146 (lv_at hl 0 rfl) ?_
                refine fh_cV (q := (RX10, TX10, 28)) (As := [.int (nI i), .int (nI o), .int (nI j)]) (rest := [.long (m9 j)]) (b := ma) ⟨hx, hb, hml, hown, ht⟩ (m_baseVal l G A hh _ hM9.re i o j vb hi ho hj hb9 hvb) (cwV 3 ht (gV kw_870 kw_872 kp_28 kw_5 kw_873) rfl rfl rfl yd_X10_baseValue ⟨(Nat.le_of_ble_eq_true rfl), (Nat.le_of_ble_eq_true rfl)⟩) hP hE hS hM9.m rfl rfl hl.1 rfl (Nat.le_of_ble_eq_true rfl) dX10_merge_148 ⟨(Nat.le_of_ble_eq_true rfl), (Nat.le_of_ble_eq_true rfl)⟩ (fun v u H locs hp hP hz hS => ?_)
                rw [i3 (360 * vb + 6 * o + j) (Or.inl (by omega)), hB.2 b9 eB j hj] at hp
                obtain ⟨rfl, eu⟩ := hp
                rw [eu] at hP
                refine W.eq (g2 := F0 m 151 ls [.long (b9 j), .long (m9 j)]) rfl ?_
                refine W.lcmp hx hb dX10_merge_151 ?_
                refine lv_if_eq (tgt := 159) hx hb dX10_merge_152 (by decide) (fun g2 => ?_) (fun g2 => ?_)
                · have g3 := (lg_cmp_eq _ _).mp g2
                  refine lv_iconst (v := (nI 0)) hx hb dX10_merge_159 (by decide) ?_
                  refine W.eq (g2 := F0 m 160 ls [.int (nI 0)]) rfl ?_
                  exact tl false (by unfold mTk; rw [if_neg e2]; symm; simp [g3]) _ _ _ hP hS (lv_sub hl [0, 1, 2, 3, 4] rfl)
                · have g3 := mt (lg_cmp_eq _ _).mpr g2
                  refine lv_iconst (v := (nI 1)) hx hb dX10_merge_155 (by decide) ?_
                  refine lv_goto (tgt := 160) hx hb dX10_merge_156 (by decide) ?_
                  refine W.eq (g2 := F0 m 160 ls [.int (nI 1)]) rfl ?_
                  exact tl true (by unfold mTk; rw [if_neg e2]; symm; simp [g3]) _ _ _ hP hS (lv_sub hl [0, 1, 2, 3, 4] rfl)
              · have e1 := (hmem j (by omega)).mp (of_decide_eq_true (bI_nz g1))
                have e2 : seClash (some b9) (some m9) (some t9) j = true := by rw [← eB, ← eN, ← eT]; exact e1.2
                refine lv_aload_n hx hb dX10_merge_115 rfl (lv_at hl 2 rfl) ?_
                refine lv_iload_n hx hb dX10_merge_116 rfl (lv_at hl 3 rfl) ?_
                refine lv_iload_n hx hb dX10_merge_117 rfl (lv_at hl 4 rfl) ?_
                refine lv_iload hx hb dX10_merge_118 (lv_at hl 0 rfl) ?_
                refine fh_cV (q := (RX10, TX10, 28)) (As := [.int (nI i), .int (nI o), .int (nI j)]) (rest := []) (b := ma) ⟨hx, hb, hml, hown, ht⟩ (m_sideOf l G A hh _ hM9.re i o j hi ho (by omega)) (cwV 3 ht (gV kw_894 kw_896 kp_34 kw_5 kw_897) rfl rfl rfl yd_X10_sideOf ⟨(Nat.le_of_ble_eq_true rfl), (Nat.le_of_ble_eq_true rfl)⟩) hP hE hS hM9.m rfl rfl hl.1 rfl (Nat.le_of_ble_eq_true rfl) dX10_merge_120 ⟨(Nat.le_of_ble_eq_true rfl), (Nat.le_of_ble_eq_true rfl)⟩ (fun v u H locs hp hP hz hS => ?_)
                rw [show fS (420 * i + 7 * o + j) = sf (o * 7 + j) by rw [show 420 * i + 7 * o + j = 420 * i + (o * 7 + j) by omega]; exact hsf _ (by omega)] at hp
                obtain ⟨rfl, eu⟩ := hp
                rw [eu] at hP
                refine W.eq (g2 := F0 m 123 ls [.int (sf (o * 7 + j) - nI 1)]) rfl ?_
                refine lv_iconst (v := (nI 1)) hx hb dX10_merge_123 (by decide) ?_
                refine lv_icmp_ne (tgt := 131) hx hb dX10_merge_124 (by decide) (fun g2 => ?_) (fun g2 => ?_)
                · refine lv_iconst (v := (nI 0)) hx hb dX10_merge_131 (by decide) ?_
                  refine lv_goto (tgt := 160) hx hb dX10_merge_132 (by decide) ?_
                  refine W.eq (g2 := F0 m 160 ls [.int (nI 0)]) rfl ?_
                  exact tl false (by unfold mTk; rw [if_pos e2]; symm; simp [g2]) _ _ _ hP hS (lv_sub hl [0, 1, 2, 3, 4] rfl)
                · refine lv_iconst (v := (nI 1)) hx hb dX10_merge_127 (by decide) ?_
                  refine lv_goto (tgt := 160) hx hb dX10_merge_128 (by decide) ?_
                  refine W.eq (g2 := F0 m 160 ls [.int (nI 1)]) rfl ?_
                  exact tl true (by unfold mTk; rw [if_pos e2]; symm; simp [g2]) _ _ _ hP hS (lv_sub hl [0, 1, 2, 3, 4] rfl)
          exact loop 6 0 (by omega) h fF hM (fun k hk => absurd hk (Nat.not_lt_zero k)) (fun k _ h6 => hT.2 t9 eT k h6) (fun _ _ => rfl) _ _ _ hP hS hl
        · have e6 := (hmem 6 (by decide)).mp (of_decide_eq_true (bI_nz d6))
          refine lv_aload_n hx hb dX10_merge_56 rfl (lv_at hl 1 rfl) ?_
          refine lv_iload_n hx hb dX10_merge_57 rfl (lv_at hl 2 rfl) ?_
          refine lv_iload_n hx hb dX10_merge_58 rfl (lv_at hl 3 rfl) ?_
          refine lv_bipush (v := (nI 6)) hx hb dX10_merge_59 (by decide) ?_
          refine fh_cV (q := (RX10, TX10, 28)) (As := [.int (nI i), .int (nI o), .int (nI 6)]) (rest := []) (b := ma) ⟨hx, hb, hml, hown, ht⟩ (m_sideOf l G A h _ hM.re i o 6 hi ho (by decide)) (cwV 3 ht (gV kw_894 kw_896 kp_34 kw_5 kw_897) rfl rfl rfl yd_X10_sideOf ⟨(Nat.le_of_ble_eq_true rfl), (Nat.le_of_ble_eq_true rfl)⟩) hP hE hS hM.m rfl rfl hl.1 rfl (Nat.le_of_ble_eq_true rfl) dX10_merge_61 ⟨(Nat.le_of_ble_eq_true rfl), (Nat.le_of_ble_eq_true rfl)⟩ (fun v u H locs hp hP hz hS => ?_)
          rw [show fS (420 * i + 7 * o + 6) = sf (o * 7 + 6) by rw [show 420 * i + 7 * o + 6 = 420 * i + (o * 7 + 6) by omega]; exact hsf _ (by omega)] at hp
          obtain ⟨rfl, eu⟩ := hp
          rw [eu] at hP
          refine W.eq (g2 := F0 m 64 ls [.int (sf (o * 7 + 6) - nI 1)]) rfl ?_
          refine lv_iconst (v := (nI 1)) hx hb dX10_merge_64 (by decide) ?_
          refine lv_icmp_ne (tgt := 74) hx hb dX10_merge_65 (by decide) (fun d7 => ?_) (fun d7 => ?_)
          · have ex : (seMerged B N T (fun k => sf (o * 7 + k) - nI 1)) = T := by exact seM3 e6.1 e6.2 d7
            exact fh_vret hx hb hr hlocks (⟨fH, fF, rfl, hM, zH, by rw [ex]; exact hT, fun _ _ => rfl, fun _ _ => rfl⟩) hP hS (Nat.le_of_ble_eq_true rfl) (Nat.le_of_ble_eq_true rfl) dX10_merge_74
          · refine lv_aload_n hx hb dX10_merge_68 rfl (lv_at hl 1 rfl) ?_
            refine lv_iload_n hx hb dX10_merge_69 rfl (lv_at hl 2 rfl) ?_
            refine lv_iload_n hx hb dX10_merge_70 rfl (lv_at hl 3 rfl) ?_
            refine fh_cV (q := (RX10, TX10, 28)) (As := [.int (nI i), .int (nI o)]) (rest := []) (b := ma) ⟨hx, hb, hml, hown, ht⟩ (m_takeA l G A h _ hM i o hi ho hnv hnv2 zW) (cwV 2 ht (gV kw_902 kw_904 kp_36 kw_5 kw_905) rfl rfl rfl yd_X10_takeAll ⟨(Nat.le_of_ble_eq_true rfl), (Nat.le_of_ble_eq_true rfl)⟩) hP hE hS hM.m rfl rfl hl.1 rfl (Nat.le_of_ble_eq_true rfl) dX10_merge_71 ⟨(Nat.le_of_ble_eq_true rfl), (Nat.le_of_ble_eq_true rfl)⟩ (fun v u H locs hp hP hz hS => ?_)
            obtain ⟨fF2, rfl, hM2, i1, i2⟩ := hp
            refine W.eq (g2 := F0 m 74 ls []) rfl ?_
            have ex : (seMerged B N T (fun k => sf (o * 7 + k) - nI 1)) = N := by exact seM2 e6.1 e6.2 d7
            exact fh_vret hx hb hr hlocks (⟨_, fF2, rfl, hM2, by rw [← zW]; exact bz_u zH _ _, by rw [ex]; exact ⟨by rw [← hN.1]; simp [upd], fun r hr k hk => (i1 k hk).trans (hN.2 r hr k hk)⟩, fun x hx => by simp [upd, hx], i2⟩) hP hS (Nat.le_of_ble_eq_true rfl) (Nat.le_of_ble_eq_true rfl) dX10_merge_74
      · have ex : (seMerged B N T (fun k => sf (o * 7 + k) - nI 1)) = T := by rw [eB, eN]; exact seM1 ((rwEq_comm b9 m9).trans (bI_nz d5))
        exact fh_vret hx hb hr hlocks (⟨fH, fF, rfl, hM, zH, by rw [ex]; exact hT, fun _ _ => rfl, fun _ _ => rfl⟩) hP hS (Nat.le_of_ble_eq_true rfl) (Nat.le_of_ble_eq_true rfl) dX10_merge_45
  · have eB : B = none := by have z := bI_eq.mp d1; revert z; cases B <;> simp
    refine lv_iload_n hx hb dX10_merge_21 rfl (lv_at hl 0 rfl) ?_
    refine lv_if_eq (tgt := 31) hx hb dX10_merge_22 (by decide) (fun d2 => ?_) (fun d2 => ?_)
    · have eN : N = none := by have z := bI_eq.mp d2; revert z; cases N <;> simp
      have ex : (seMerged B N T (fun k => sf (o * 7 + k) - nI 1)) = T := by rw [eB, eN]; rfl
      exact fh_vret hx hb hr hlocks (⟨fH, fF, rfl, hM, zH, by rw [ex]; exact hT, fun _ _ => rfl, fun _ _ => rfl⟩) hP hS (Nat.le_of_ble_eq_true rfl) (Nat.le_of_ble_eq_true rfl) dX10_merge_31
    · obtain ⟨m9, eN⟩ : ∃ r, N = some r := Option.isSome_iff_exists.mp (bI_nz d2)
      have eT : T = none := hmade eB (by rw [eN]; exact fun z => by cases z)
      refine lv_aload_n hx hb dX10_merge_25 rfl (lv_at hl 1 rfl) ?_
      refine lv_iload_n hx hb dX10_merge_26 rfl (lv_at hl 2 rfl) ?_
      refine lv_iload_n hx hb dX10_merge_27 rfl (lv_at hl 3 rfl) ?_
      refine fh_cV (q := (RX10, TX10, 28)) (As := [.int (nI i), .int (nI o)]) (rest := []) (b := ma) ⟨hx, hb, hml, hown, ht⟩ (m_takeA l G A h _ hM i o hi ho hnv hnv2 zW) (cwV 2 ht (gV kw_902 kw_904 kp_36 kw_5 kw_905) rfl rfl rfl yd_X10_takeAll ⟨(Nat.le_of_ble_eq_true rfl), (Nat.le_of_ble_eq_true rfl)⟩) hP hE hS hM.m rfl rfl hl.1 rfl (Nat.le_of_ble_eq_true rfl) dX10_merge_28 ⟨(Nat.le_of_ble_eq_true rfl), (Nat.le_of_ble_eq_true rfl)⟩ (fun v u H locs hp hP hz hS => ?_)
      obtain ⟨fF2, rfl, hM2, i1, i2⟩ := hp
      refine W.eq (g2 := F0 m 31 ls []) rfl ?_
      have ex : (seMerged B N T (fun k => sf (o * 7 + k) - nI 1)) = N := by rw [eB, eN, eT]; rfl
      exact fh_vret hx hb hr hlocks (⟨_, fF2, rfl, hM2, by rw [← zW]; exact bz_u zH _ _, by rw [ex]; exact ⟨by rw [← hN.1]; simp [upd], fun r hr k hk => (i1 k hk).trans (hN.2 r hr k hk)⟩, fun x hx => by simp [upd, hx], i2⟩) hP hS (Nat.le_of_ble_eq_true rfl) (Nat.le_of_ble_eq_true rfl) dX10_merge_31

set_option maxRecDepth 100000 in
set_option maxHeartbeats 4000000 in
theorem m_dropM (l : Launch) (G : fG) (A : Nat → Prop) (h : FH) (sz : Nat) {ma : Nat} {b : Nat → Nat} {th : Int32} {no nv ns J nc nl nr : Nat} {fK : Nat → Int32} {fH : Nat → Int32} {fF : Nat → Int64} {fB : Nat → Int32} {fO : Nat → Int32} {fW : Nat → Int32} {fV : Nat → Int64} {fN : Nat → Int32} {cO : Nat → Int32} {cF : Nat → Int32} {cH : Nat → Int32} {cV : Nat → Int64} {fS : Nat → Int32} {fC : Nat → Int32} {lO : Nat → Int32} {lA : Nat → Int64} {rA : Nat → Int32} {rB : Nat → Int32} {rD : Nat → Int64} {fM : Nat → Int32} (hM : MG A h h ma b th no nv ns J nc nl nr fK fH fF fB fO fW fV fN cO cF cH cV fS fC lO lA rA rB rD fM) (hno : no ≤ 60) (hnv : 2 ≤ nv) (hnv2 : nv ≤ 40) (zH : bz fH) (T' T : St) (hT' : relR (rw1 fH (nv - 1)) (rx1 fF (nv - 1)) T') (hT : relR (rw1 fH (nv - 2)) (rx1 fF (nv - 2)) T) : Met l yX10_dropMarks wsX10_dropMarks { frames := 2, cells := 0, slots := 0, locals := 55 } (va_Pc [.ref ma] (fh_Pre G A h sz)) (fh_Q G (fun v u => ∃ fM2, v = none ∧ MG A h u ma b th no nv ns J nc nl nr fK fH fF fB fO fW fV fN cO cF cH cV fS fC lO lA rA rB rD fM2 ∧ (∀ o, o < no → fM2 o = if sameB T' T o = true then fM o else 0) ∧ ∀ o, no ≤ o → fM2 o = fM o) A) 0 0 A := by
  refine fh_Met [.ref ma] (by decide) rfl (Nat.le_of_ble_eq_true rfl) ?_
  intro p e s m below meth c hx hb hr hlocks hml hown hnm hts hsz hP hE hS ls hl
  have ht : ∀ w ∈ wB, w.before _ s = true := fun w h9 => hts w (List.mem_cons_of_mem _ h9)
  have hl : lv_has ls 5 [(0, .ref ma)] := hl
  refine lv_aload_n hx hb dX10_dropMarks_0 rfl (lv_at hl 0 rfl) ?_
  refine fh_cV (q := (RX10, TX10, 28)) (As := []) (rest := []) (b := ma) ⟨hx, hb, hml, hown, ht⟩ (m_head l G A h _ hM (by omega)) (cwV 0 ht (gV kw_791 kw_793 kp_16 kw_5 kw_794) rfl rfl rfl yd_X10_head ⟨(Nat.le_of_ble_eq_true rfl), (Nat.le_of_ble_eq_true rfl)⟩) hP hE hS hM.m rfl rfl hl.1 rfl (Nat.le_of_ble_eq_true rfl) dX10_dropMarks_1 ⟨(Nat.le_of_ble_eq_true rfl), (Nat.le_of_ble_eq_true rfl)⟩ (fun v u H locs hp hP hz hS => ?_)
  obtain ⟨rfl, eu⟩ := hp
  rw [eu] at hP
  refine W.eq (g2 := F0 m 4 ls [.int (nI (nv - 1))]) rfl ?_
  refine lv_iconst (v := (nI 1)) hx hb dX10_dropMarks_4 (by decide) ?_
  refine lv_isub hx hb dX10_dropMarks_5 ?_
  refine lv_topi (fun z9 ez9 => ?_)
  rw [show z9 = nI (nv - 2) from ez9.trans ((pk_sub (by omega)).trans (congrArg nI (by omega)))]
  refine lv_istore_n (lv' := [(1, .int (nI (nv - 2))), (0, .ref ma)]) hx hb dX10_dropMarks_6 rfl hl (by decide) rfl (fun ls hl => ?_)
  refine lv_iconst (v := (nI 0)) hx hb dX10_dropMarks_7 (by decide) ?_
  refine lv_istore_n (lv' := [(2, .int (nI 0)), (1, .int (nI (nv - 2))), (0, .ref ma)]) hx hb dX10_dropMarks_8 rfl hl (by decide) rfl (fun ls hl => ?_)
  have loop : ∀ (n o : Nat), o + n = no → ∀ (hh : FH) (f2 : Nat → Int32) (_ : MG A h hh ma b th no nv ns J nc nl nr fK fH fF fB fO fW fV fN cO cF cH cV fS fC lO lA rA rB rD f2) (_ : ∀ q, q < o → f2 q = if sameB T' T q = true then fM q else 0) (_ : ∀ q, o ≤ q → f2 q = fM q), ∀ (H : Heap) (locs : List Loc) (ls : Array Slot), fh_P G vwCl hh H → va_S A s.heap H locs → lv_has ls 5 [(2, .int (nI o)), (1, .int (nI (nv - 2))), (0, .ref ma)] → W p l e (headSpec wsX10_dropMarks { frames := 2, cells := 0, slots := 0, locals := 55 }).room s m [.ref ma].toArray below meth c H locs 0 0 (MQ below (fh_Q G (fun v u => ∃ fM2, v = none ∧ MG A h u ma b th no nv ns J nc nl nr fK fH fF fB fO fW fV fN cO cF cH cV fS fC lO lA rA rB rD fM2 ∧ (∀ o, o < no → fM2 o = if sameB T' T o = true then fM o else 0) ∧ ∀ o, no ≤ o → fM2 o = fM o) A) [.ref ma].toArray s 0 0 A) (F0 m 9 ls []) := by
    intro n
    induction n with
    | zero =>
      intro o hin hh f2 hM9 i1 i2 H locs ls hP hS hl
      refine lv_iload_n hx hb dX10_dropMarks_9 rfl (lv_at hl 0 rfl) ?_
      refine lv_aload_n hx hb dX10_dropMarks_10 rfl (lv_at hl 2 rfl) ?_
      refine fh_get (C := RX10) (T := TX10) (N := 28) hx hb ht inX10 hown hE.1 hP hM9.m rfl 1 (by decide) (ht _ kw_691) (fun _ h9 => h9) (v := .int (nI no)) rfl dX10_dropMarks_11 ?_
      refine lv_icmp_ge (tgt := 117) hx hb dX10_dropMarks_14 (by decide) (fun _ => ?_) (fun c9 => absurd (nI_le (by omega) (by omega)) c9)
      exact fh_vret hx hb hr hlocks (⟨f2, rfl, hM9, fun q hq => i1 q (by omega), fun q hq => i2 q (by omega)⟩) hP hS (Nat.le_of_ble_eq_true rfl) (Nat.le_of_ble_eq_true rfl) dX10_dropMarks_117
    | succ n ih =>
      intro o hin hh f2 hM9 i1 i2 H locs ls hP hS hl
      have ho : o < no := by omega
      have ho60 : o < 60 := by omega
      have ihO := ih
      have hinO := hin
      have r1 := hT' o ho60
      have r2 := hT o ho60
      refine lv_iload_n hx hb dX10_dropMarks_9 rfl (lv_at hl 0 rfl) ?_
      refine lv_aload_n hx hb dX10_dropMarks_10 rfl (lv_at hl 2 rfl) ?_
      refine fh_get (C := RX10) (T := TX10) (N := 28) hx hb ht inX10 hown hE.1 hP hM9.m rfl 1 (by decide) (ht _ kw_691) (fun _ h9 => h9) (v := .int (nI no)) rfl dX10_dropMarks_11 ?_
      refine lv_icmp_ge (tgt := 117) hx hb dX10_dropMarks_14 (by decide) (fun c9 => absurd c9 (nI_ge ho (by omega))) (fun _ => ?_)
      refine lv_aload_n hx hb dX10_dropMarks_17 rfl (lv_at hl 2 rfl) ?_
      refine lv_iload_n hx hb dX10_dropMarks_18 rfl (lv_at hl 0 rfl) ?_
      refine fh_cV (q := (RX10, TX10, 28)) (As := [.int (nI o)]) (rest := []) (b := ma) ⟨hx, hb, hml, hown, ht⟩ (m_headHas l G A hh _ hM9.re (by omega) hnv2 o ho60 zH) (cwV 1 ht (gV kw_874 kw_876 kp_29 kw_5 kw_877) rfl rfl rfl yd_X10_headHas ⟨(Nat.le_of_ble_eq_true rfl), (Nat.le_of_ble_eq_true rfl)⟩) hP hE hS hM9.m rfl rfl hl.1 rfl (Nat.le_of_ble_eq_true rfl) dX10_dropMarks_19 ⟨(Nat.le_of_ble_eq_true rfl), (Nat.le_of_ble_eq_true rfl)⟩ (fun v u H locs hp hP hz hS => ?_)
      rw [show fH (60 * (nv - 1) + o) = bI (T' o).isSome from r1.1] at hp
      obtain ⟨rfl, eu⟩ := hp
      rw [eu] at hP
      refine W.eq (g2 := F0 m 22 ls [.int (bI (T' o).isSome)]) rfl ?_
      have lop2 : ∀ (n j : Nat), j + n = 6 → ∀ (c9 : Bool) (_ : c9 = true ↔ (T' o).isSome = true ∧ (T o).isSome = true ∧ ∀ k, k < j → fF (360 * (nv - 1) + 6 * o + k) = fF (360 * (nv - 2) + 6 * o + k)), ∀ (H : Heap) (locs : List Loc) (ls : Array Slot), fh_P G vwCl hh H → va_S A s.heap H locs → lv_has ls 5 [(4, .int (nI j)), (3, .int (bI c9)), (2, .int (nI o)), (1, .int (nI (nv - 2))), (0, .ref ma)] → W p l e (headSpec wsX10_dropMarks { frames := 2, cells := 0, slots := 0, locals := 55 }).room s m [.ref ma].toArray below meth c H locs 0 0 (MQ below (fh_Q G (fun v u => ∃ fM2, v = none ∧ MG A h u ma b th no nv ns J nc nl nr fK fH fF fB fO fW fV fN cO cF cH cV fS fC lO lA rA rB rD fM2 ∧ (∀ o, o < no → fM2 o = if sameB T' T o = true then fM o else 0) ∧ ∀ o, no ≤ o → fM2 o = fM o) A) [.ref ma].toArray s 0 0 A) (F0 m 48 ls []) := by
        intro n
        induction n with
        | zero =>
          intro j hin c9 hc9 H locs ls hP hS hl
          have j6 : j = 6 := by omega
          have hsb : c9 = sameB T' T o := by
            rw [Bool.eq_iff_iff, hc9, sameB_iff]
            constructor
            · rintro ⟨q1, q2, q3⟩
              obtain ⟨f, e1⟩ := Option.isSome_iff_exists.mp q1
              obtain ⟨g, e2⟩ := Option.isSome_iff_exists.mp q2
              refine ⟨f, g, e1, e2, rwEq_iff.mpr (fun k hk => ?_)⟩
              have z1 := r1.2 f e1 k hk
              have z2 := r2.2 g e2 k hk
              unfold rx1 at z1 z2
              rw [← Nat.add_assoc] at z1 z2
              rw [← z1, ← z2]
              exact q3 k (by omega)
            · rintro ⟨f, g, e1, e2, e3⟩
              refine ⟨by rw [e1]; rfl, by rw [e2]; rfl, fun k hk => ?_⟩
              have z1 := r1.2 f e1 k (by omega)
              have z2 := r2.2 g e2 k (by omega)
              unfold rx1 at z1 z2
              rw [← Nat.add_assoc] at z1 z2
              rw [z1, z2]
              exact rwEq_iff.mp e3 k (by omega)
          refine lv_iload hx hb dX10_dropMarks_48 (lv_at hl 0 rfl) ?_
          refine lv_bipush (v := (nI 6)) hx hb dX10_dropMarks_50 (by decide) ?_
          refine lv_icmp_ge (tgt := 100) hx hb dX10_dropMarks_52 (by decide) (fun _ => ?_) (fun c9 => absurd (nI_le (by omega) (by omega)) c9)
          refine lv_iload_n hx hb dX10_dropMarks_100 rfl (lv_at hl 1 rfl) ?_
          refine lv_if_ne (tgt := 111) hx hb dX10_dropMarks_101 (by decide) (fun f1 => ?_) (fun f1 => ?_)
          · have e1 := bI_nz f1
            refine lv_iinc (v := nI (o + 1)) (lv' := [(2, .int (nI (o + 1))), (4, .int (nI j)), (3, .int (bI c9)), (1, .int (nI (nv - 2))), (0, .ref ma)]) hx hb dX10_dropMarks_111 hl (k := 2) rfl (nI_1 _) (by decide) rfl (fun ls hl => ?_)
            refine lv_goto (tgt := 9) hx hb dX10_dropMarks_114 (by decide) ?_
            exact ihO (o + 1) (by omega) hh f2 hM9 (lt_s i1 (by rw [← hsb, if_pos e1]; exact i2 o (Nat.le_refl o))) (fun q hq => i2 q (by omega)) H locs ls hP hS (lv_sub hl [0, 3, 4] rfl)
          · have e1 := bI_eq.mp f1
            refine lv_aload_n hx hb dX10_dropMarks_104 rfl (lv_at hl 4 rfl) ?_
            refine fh_get (C := RX10) (T := TX10) (N := 28) hx hb ht inX10 hown hE.1 hP hM9.m rfl 27 (by decide) (ht _ kw_717) (fun _ h9 => h9) (v := .ref (b 31)) rfl dX10_dropMarks_105 ?_
            refine lv_iload_n hx hb dX10_dropMarks_108 rfl (lv_at hl 2 rfl) ?_
            refine lv_iconst (v := (nI 0)) hx hb dX10_dropMarks_109 (by decide) ?_
            refine fh_iast (k := o) hx hb hE.1 hP hS hM9.a31 (hM9.A31) rfl (by omega) (by decide) dX10_dropMarks_110 (fun H locs hP hz hS => ?_)
            obtain ⟨h_1, eh_1⟩ : ∃ z, z = fh_up hh (b 31) (.inl (31, 60, .inl (upd f2 o (nI 0)))) := ⟨_, rfl⟩
            have hP : fh_P G vwCl h_1 H := by rw [eh_1]; exact hP
            have hM_1 := MG.w31 hM9 (f2 := upd f2 o (nI 0)) eh_1
            refine lv_iinc (v := nI (o + 1)) (lv' := [(2, .int (nI (o + 1))), (4, .int (nI j)), (3, .int (bI c9)), (1, .int (nI (nv - 2))), (0, .ref ma)]) hx hb dX10_dropMarks_111 hl (k := 2) rfl (nI_1 _) (by decide) rfl (fun ls hl => ?_)
            refine lv_goto (tgt := 9) hx hb dX10_dropMarks_114 (by decide) ?_
            exact ihO (o + 1) (by omega) h_1 _ hM_1 (lt_s (fun q hq => by rw [show upd f2 o (nI 0) q = f2 q by simp [upd, Nat.ne_of_lt hq]]; exact i1 q hq) (by rw [← hsb, if_neg (by rw [e1]; decide)]; simp [upd, nI_0])) (fun q hq => by rw [show upd f2 o (nI 0) q = f2 q by simp [upd, show q ≠ o by omega]]; exact i2 q (by omega)) H locs ls hP hS (lv_sub hl [0, 3, 4] rfl)
        | succ n ih =>
          intro j hin c9 hc9 H locs ls hP hS hl
          have hj : j < 6 := by omega
          refine lv_iload hx hb dX10_dropMarks_48 (lv_at hl 0 rfl) ?_
          refine lv_bipush (v := (nI 6)) hx hb dX10_dropMarks_50 (by decide) ?_
          refine lv_icmp_ge (tgt := 100) hx hb dX10_dropMarks_52 (by decide) (fun c9 => absurd c9 (nI_ge (by omega) (by decide))) (fun _ => ?_)
          refine lv_iload_n hx hb dX10_dropMarks_55 rfl (lv_at hl 1 rfl) ?_
          refine lv_if_eq (tgt := 92) hx hb dX10_dropMarks_56 (by decide) (fun f1 => ?_) (fun f1 => ?_)
          · have e1 := bI_eq.mp f1
            refine lv_iconst (v := (nI 0)) hx hb dX10_dropMarks_92 (by decide) ?_
            refine lv_istore_n (lv' := [(3, .int (nI 0)), (4, .int (nI j)), (2, .int (nI o)), (1, .int (nI (nv - 2))), (0, .ref ma)]) hx hb dX10_dropMarks_93 rfl hl (by decide) rfl (fun ls hl => ?_)
            refine lv_iinc (v := nI (j + 1)) (lv' := [(4, .int (nI (j + 1))), (3, .int (nI 0)), (2, .int (nI o)), (1, .int (nI (nv - 2))), (0, .ref ma)]) hx hb dX10_dropMarks_94 hl (k := 1) rfl (nI_1 _) (by decide) rfl (fun ls hl => ?_)
            refine lv_goto (tgt := 48) hx hb dX10_dropMarks_97 (by decide) ?_
            exact ih (j + 1) (by omega) false (⟨fun q => (by cases q), fun q => by rw [e1] at hc9; exact hc9.mpr ⟨q.1, q.2.1, fun k hk => q.2.2 k (by omega)⟩⟩) H locs ls hP hS (lv_sub hl [0, 1, 2, 3, 4] rfl)
          · have e1 := hc9.mp (bI_nz f1)
            refine lv_aload_n hx hb dX10_dropMarks_59 rfl (lv_at hl 4 rfl) ?_
            refine lv_iload_n hx hb dX10_dropMarks_60 rfl (lv_at hl 2 rfl) ?_
            refine lv_iload hx hb dX10_dropMarks_61 (lv_at hl 0 rfl) ?_
            refine fh_cV (q := (RX10, TX10, 28)) (As := [.int (nI o), .int (nI j)]) (rest := []) (b := ma) ⟨hx, hb, hml, hown, ht⟩ (m_headVal l G A hh _ hM9.re (by omega) hnv2 o j ho60 hj) (cwV 2 ht (gV kw_882 kw_884 kp_31 kw_5 kw_885) rfl rfl rfl yd_X10_headValue ⟨(Nat.le_of_ble_eq_true rfl), (Nat.le_of_ble_eq_true rfl)⟩) hP hE hS hM9.m rfl rfl hl.1 rfl (Nat.le_of_ble_eq_true rfl) dX10_dropMarks_63 ⟨(Nat.le_of_ble_eq_true rfl), (Nat.le_of_ble_eq_true rfl)⟩ (fun v u H locs hp hP hz hS => ?_)
            obtain ⟨rfl, eu⟩ := hp
            rw [eu] at hP
            refine W.eq (g2 := F0 m 66 ls [.long (fF (360 * (nv - 1) + 6 * o + j))]) rfl ?_
            refine lv_aload_n hx hb dX10_dropMarks_66 rfl (lv_at hl 4 rfl) ?_
            refine fh_get (C := RX10) (T := TX10) (N := 28) hx hb ht inX10 hown hE.1 hP hM9.m rfl 5 (by decide) (ht _ kw_695) (fun _ h9 => h9) (v := .ref (b 14)) rfl dX10_dropMarks_67 ?_
            refine lv_sipush (v := (nI 360)) hx hb dX10_dropMarks_70 (by decide) ?_
            refine lv_iload_n hx hb dX10_dropMarks_73 rfl (lv_at hl 3 rfl) ?_
            refine lv_imul hx hb dX10_dropMarks_74 ?_
            refine lv_topi (fun z9 ez9 => ?_)
            rw [show z9 = nI (360 * (nv - 2)) from ez9.trans (pk_mul _ _)]
            refine lv_bipush (v := (nI 6)) hx hb dX10_dropMarks_75 (by decide) ?_
            refine lv_iload_n hx hb dX10_dropMarks_77 rfl (lv_at hl 2 rfl) ?_
            refine lv_imul hx hb dX10_dropMarks_78 ?_
            refine lv_topi (fun z9 ez9 => ?_)
            rw [show z9 = nI (6 * o) from ez9.trans (pk_mul _ _)]
            refine lv_iadd hx hb dX10_dropMarks_79 ?_
            refine lv_topi (fun z9 ez9 => ?_)
            rw [show z9 = nI ((360 * (nv - 2)) + (6 * o)) from ez9.trans (nI_add _ _)]
            refine lv_iload hx hb dX10_dropMarks_80 (lv_at hl 0 rfl) ?_
            refine lv_iadd hx hb dX10_dropMarks_82 ?_
            refine lv_topi (fun z9 ez9 => ?_)
            rw [show z9 = nI (((360 * (nv - 2)) + (6 * o)) + j) from ez9.trans (nI_add _ _)]
            refine fh_lald (k := (((360 * (nv - 2)) + (6 * o)) + j)) hx hb hE.1 hP hM9.a14 rfl (by omega) (by decide) dX10_dropMarks_83 ?_
            refine W.lcmp hx hb dX10_dropMarks_84 ?_
            refine lv_if_ne (tgt := 92) hx hb dX10_dropMarks_85 (by decide) (fun f2 => ?_) (fun f2 => ?_)
            · refine lv_iconst (v := (nI 0)) hx hb dX10_dropMarks_92 (by decide) ?_
              refine lv_istore_n (lv' := [(3, .int (nI 0)), (4, .int (nI j)), (2, .int (nI o)), (1, .int (nI (nv - 2))), (0, .ref ma)]) hx hb dX10_dropMarks_93 rfl hl (by decide) rfl (fun ls hl => ?_)
              refine lv_iinc (v := nI (j + 1)) (lv' := [(4, .int (nI (j + 1))), (3, .int (nI 0)), (2, .int (nI o)), (1, .int (nI (nv - 2))), (0, .ref ma)]) hx hb dX10_dropMarks_94 hl (k := 1) rfl (nI_1 _) (by decide) rfl (fun ls hl => ?_)
              refine lv_goto (tgt := 48) hx hb dX10_dropMarks_97 (by decide) ?_
              exact ih (j + 1) (by omega) false (⟨fun q => (by cases q), fun q => absurd ((lg_cmp_eq _ _).mpr (q.2.2 j (by omega))) f2⟩) H locs ls hP hS (lv_sub hl [0, 1, 2, 3, 4] rfl)
            · refine lv_iconst (v := (nI 1)) hx hb dX10_dropMarks_88 (by decide) ?_
              refine lv_goto (tgt := 93) hx hb dX10_dropMarks_89 (by decide) ?_
              refine lv_istore_n (lv' := [(3, .int (nI 1)), (4, .int (nI j)), (2, .int (nI o)), (1, .int (nI (nv - 2))), (0, .ref ma)]) hx hb dX10_dropMarks_93 rfl hl (by decide) rfl (fun ls hl => ?_)
              refine lv_iinc (v := nI (j + 1)) (lv' := [(4, .int (nI (j + 1))), (3, .int (nI 1)), (2, .int (nI o)), (1, .int (nI (nv - 2))), (0, .ref ma)]) hx hb dX10_dropMarks_94 hl (k := 1) rfl (nI_1 _) (by decide) rfl (fun ls hl => ?_)
              refine lv_goto (tgt := 48) hx hb dX10_dropMarks_97 (by decide) ?_
              exact ih (j + 1) (by omega) true (⟨fun _ => ⟨e1.1, e1.2.1, lt_s e1.2.2 ((lg_cmp_eq _ _).mp f2)⟩, fun _ => rfl⟩) H locs ls hP hS (lv_sub hl [0, 1, 2, 3, 4] rfl)
      refine lv_if_eq (tgt := 43) hx hb dX10_dropMarks_22 (by decide) (fun d1 => ?_) (fun d1 => ?_)
      · have e1 := bI_eq.mp d1
        refine lv_iconst (v := (nI 0)) hx hb dX10_dropMarks_43 (by decide) ?_
        refine lv_istore_n (lv' := [(3, .int (nI 0)), (2, .int (nI o)), (1, .int (nI (nv - 2))), (0, .ref ma)]) hx hb dX10_dropMarks_44 rfl hl (by decide) rfl (fun ls hl => ?_)
        refine lv_iconst (v := (nI 0)) hx hb dX10_dropMarks_45 (by decide) ?_
        refine lv_istore (lv' := [(4, .int (nI 0)), (3, .int (nI 0)), (2, .int (nI o)), (1, .int (nI (nv - 2))), (0, .ref ma)]) hx hb dX10_dropMarks_46 hl (by decide) rfl (fun ls hl => ?_)
        exact lop2 6 0 (by omega) false (⟨fun q => (by cases q), fun q => by rw [e1] at q; exact absurd q.1 (by decide)⟩) _ _ _ hP hS (lv_sub hl [0, 1, 2, 3, 4] rfl)
      · have e1 := bI_nz d1
        refine lv_aload_n hx hb dX10_dropMarks_25 rfl (lv_at hl 2 rfl) ?_
        refine fh_get (C := RX10) (T := TX10) (N := 28) hx hb ht inX10 hown hE.1 hP hM9.m rfl 4 (by decide) (ht _ kw_694) (fun _ h9 => h9) (v := .ref (b 13)) rfl dX10_dropMarks_26 ?_
        refine lv_bipush (v := (nI 60)) hx hb dX10_dropMarks_29 (by decide) ?_
        refine lv_iload_n hx hb dX10_dropMarks_31 rfl (lv_at hl 1 rfl) ?_
        refine lv_imul hx hb dX10_dropMarks_32 ?_
        refine lv_topi (fun z9 ez9 => ?_)
        rw [show z9 = nI (60 * (nv - 2)) from ez9.trans (pk_mul _ _)]
        refine lv_iload_n hx hb dX10_dropMarks_33 rfl (lv_at hl 0 rfl) ?_
        refine lv_iadd hx hb dX10_dropMarks_34 ?_
        refine lv_topi (fun z9 ez9 => ?_)
        rw [show z9 = nI ((60 * (nv - 2)) + o) from ez9.trans (nI_add _ _)]
        refine fh_zald (k := ((60 * (nv - 2)) + o)) hx hb hE.1 hP hM9.a13 rfl (by omega) (by decide) dX10_dropMarks_35 ?_
        rw [show fH (60 * (nv - 2) + o) = bI (T o).isSome from r2.1]
        refine lv_if_eq (tgt := 43) hx hb dX10_dropMarks_36 (by decide) (fun d2 => ?_) (fun d2 => ?_)
        · have e2 := bI_eq.mp d2
          refine lv_iconst (v := (nI 0)) hx hb dX10_dropMarks_43 (by decide) ?_
          refine lv_istore_n (lv' := [(3, .int (nI 0)), (2, .int (nI o)), (1, .int (nI (nv - 2))), (0, .ref ma)]) hx hb dX10_dropMarks_44 rfl hl (by decide) rfl (fun ls hl => ?_)
          refine lv_iconst (v := (nI 0)) hx hb dX10_dropMarks_45 (by decide) ?_
          refine lv_istore (lv' := [(4, .int (nI 0)), (3, .int (nI 0)), (2, .int (nI o)), (1, .int (nI (nv - 2))), (0, .ref ma)]) hx hb dX10_dropMarks_46 hl (by decide) rfl (fun ls hl => ?_)
          exact lop2 6 0 (by omega) false (⟨fun q => (by cases q), fun q => by rw [e2] at q; exact absurd q.2.1 (by decide)⟩) _ _ _ hP hS (lv_sub hl [0, 1, 2, 3, 4] rfl)
        · have e2 := bI_nz d2
          refine lv_iconst (v := (nI 1)) hx hb dX10_dropMarks_39 (by decide) ?_
          refine lv_goto (tgt := 44) hx hb dX10_dropMarks_40 (by decide) ?_
          refine lv_istore_n (lv' := [(3, .int (nI 1)), (2, .int (nI o)), (1, .int (nI (nv - 2))), (0, .ref ma)]) hx hb dX10_dropMarks_44 rfl hl (by decide) rfl (fun ls hl => ?_)
          refine lv_iconst (v := (nI 0)) hx hb dX10_dropMarks_45 (by decide) ?_
          refine lv_istore (lv' := [(4, .int (nI 0)), (3, .int (nI 1)), (2, .int (nI o)), (1, .int (nI (nv - 2))), (0, .ref ma)]) hx hb dX10_dropMarks_46 hl (by decide) rfl (fun ls hl => ?_)
          exact lop2 6 0 (by omega) true (⟨fun _ => ⟨e1, e2, fun k hk => absurd hk (Nat.not_lt_zero k)⟩, fun _ => rfl⟩) _ _ _ hP hS (lv_sub hl [0, 1, 2, 3, 4] rfl)
  exact loop no 0 (by omega) h fM hM (fun q hq => absurd hq (Nat.not_lt_zero q)) (fun _ _ => rfl) _ _ _ hP hS hl

set_option maxRecDepth 100000 in
set_option maxHeartbeats 4000000 in
theorem m_dropL (l : Launch) (G : fG) (A : Nat → Prop) (h : FH) (sz : Nat) {ma : Nat} {b : Nat → Nat} {th : Int32} {no nv ns J nc nl nr : Nat} {fK : Nat → Int32} {fH : Nat → Int32} {fF : Nat → Int64} {fB : Nat → Int32} {fO : Nat → Int32} {fW : Nat → Int32} {fV : Nat → Int64} {fN : Nat → Int32} {cO : Nat → Int32} {cF : Nat → Int32} {cH : Nat → Int32} {cV : Nat → Int64} {fS : Nat → Int32} {fC : Nat → Int32} {lO : Nat → Int32} {lA : Nat → Int64} {rA : Nat → Int32} {rB : Nat → Int32} {rD : Nat → Int64} {fM : Nat → Int32} (hM : MG A h h ma b th no nv ns J nc nl nr fK fH fF fB fO fW fV fN cO cF cH cV fS fC lO lA rA rB rD fM) (i : Nat) (LK : List Ar) (hnl : nl = LK.length) (hnl2 : nl ≤ 10) (hL : mL lO lA LK) : Met l yX10_dropLocks wsX10_dropLocks { frames := 0, cells := 0, slots := 0, locals := 0 } (va_Pc [.ref ma, .int (nI i)] (fh_Pre G A h sz)) (fh_Q G (fun v u => ∃ lO2 lA2, v = none ∧ MG A h u ma b th no nv ns J nc ((LK.filter (fun a : Ar => decide (a.1 ≠ nI i))).length) nr fK fH fF fB fO fW fV fN cO cF cH cV fS fC lO2 lA2 rA rB rD fM ∧ mL lO2 lA2 (LK.filter (fun a : Ar => decide (a.1 ≠ nI i)))) A) 0 0 A := by
  refine fh_Met [.ref ma, .int (nI i)] (by decide) rfl (Nat.le_of_ble_eq_true rfl) ?_
  intro p e s m below meth c hx hb hr hlocks hml hown hnm hts hsz hP hE hS ls hl
  have ht : ∀ w ∈ wB, w.before _ s = true := fun w h9 => hts w (List.mem_cons_of_mem _ h9)
  have hl : lv_has ls 5 [(0, .ref ma), (1, .int (nI i))] := hl
  refine lv_iconst (v := (nI 0)) hx hb dX10_dropLocks_0 (by decide) ?_
  refine lv_istore_n (lv' := [(2, .int (nI 0)), (0, .ref ma), (1, .int (nI i))]) hx hb dX10_dropLocks_1 rfl hl (by decide) rfl (fun ls hl => ?_)
  refine lv_iconst (v := (nI 0)) hx hb dX10_dropLocks_2 (by decide) ?_
  refine lv_istore_n (lv' := [(3, .int (nI 0)), (2, .int (nI 0)), (0, .ref ma), (1, .int (nI i))]) hx hb dX10_dropLocks_3 rfl hl (by decide) rfl (fun ls hl => ?_)
  have loop : ∀ (n k : Nat), k + n = nl → ∀ (hh : FH) (n1 : Nat) (p2 : Nat → Int32) (q2 : Nat → Int64) (_ : MG A h hh ma b th no nv ns J nc nl nr fK fH fF fB fO fW fV fN cO cF cH cV fS fC p2 q2 rA rB rD fM) (_ : n1 = ((LK.take k).filter (fun a : Ar => decide (a.1 ≠ nI i))).length) (_ : n1 ≤ k) (_ : mL p2 q2 ((LK.take k).filter (fun a : Ar => decide (a.1 ≠ nI i)))) (_ : mLf p2 q2 LK k), ∀ (H : Heap) (locs : List Loc) (ls : Array Slot), fh_P G vwCl hh H → va_S A s.heap H locs → lv_has ls 5 [(3, .int (nI k)), (2, .int (nI n1)), (0, .ref ma), (1, .int (nI i))] → W p l e (headSpec wsX10_dropLocks { frames := 0, cells := 0, slots := 0, locals := 0 }).room s m [.ref ma, .int (nI i)].toArray below meth c H locs 0 0 (MQ below (fh_Q G (fun v u => ∃ lO2 lA2, v = none ∧ MG A h u ma b th no nv ns J nc ((LK.filter (fun a : Ar => decide (a.1 ≠ nI i))).length) nr fK fH fF fB fO fW fV fN cO cF cH cV fS fC lO2 lA2 rA rB rD fM ∧ mL lO2 lA2 (LK.filter (fun a : Ar => decide (a.1 ≠ nI i)))) A) [.ref ma, .int (nI i)].toArray s 0 0 A) (F0 m 4 ls []) := by
    intro n
    induction n with
    | zero =>
      intro k hin hh n1 p2 q2 hM9 en hle i1 i2 H locs ls hP hS hl
      have ek : LK.take k = LK := List.take_of_length_le (by omega)
      refine lv_iload_n hx hb dX10_dropLocks_4 rfl (lv_at hl 0 rfl) ?_
      refine lv_aload_n hx hb dX10_dropLocks_5 rfl (lv_at hl 2 rfl) ?_
      refine fh_get (C := RX10) (T := TX10) (N := 28) hx hb ht inX10 hown hE.1 hP hM9.m rfl 20 (by decide) (ht _ kw_710) (fun _ h9 => h9) (v := .int (nI nl)) rfl dX10_dropLocks_6 ?_
      refine lv_icmp_ge (tgt := 83) hx hb dX10_dropLocks_9 (by decide) (fun _ => ?_) (fun c9 => absurd (nI_le (by omega) (by omega)) c9)
      refine lv_aload_n hx hb dX10_dropLocks_83 rfl (lv_at hl 2 rfl) ?_
      refine lv_iload_n hx hb dX10_dropLocks_84 rfl (lv_at hl 1 rfl) ?_
      refine fh_put (C := RX10) (T := TX10) (N := 28) (t := .int) hx hb ht inX10 tyX10 tyX10_ok nmX10 hown hE.1 hP hS hM9.m (hM9.A0) rfl 20 (by decide) (ht _ kw_710) (fun _ h9 => h9) rfl (by decide +kernel) rfl rfl (Nat.le_of_ble_eq_true rfl) dX10_dropLocks_85 (fun H locs hP hz hS => ?_)
      obtain ⟨h_1, eh_1⟩ : ∃ z, z = fh_up hh ma (.inr (10, [.int th, .int (nI no), .ref (b 12), .int (nI nv), .ref (b 13), .ref (b 14), .int (nI ns), .ref (b 15), .ref (b 16), .ref (b 17), .ref (b 18), .ref (b 19), .ref (b 20), .ref (b 21), .ref (b 22), .ref (b 23), .ref (b 24), .int (nI J), .int (nI nc), .ref (b 25), .int (nI n1), .ref (b 26), .ref (b 27), .int (nI nr), .ref (b 28), .ref (b 29), .ref (b 30), .ref (b 31)])) := ⟨_, rfl⟩
      have hP : fh_P G vwCl h_1 H := by rw [eh_1]; exact hP
      have hM_1 := MG.sc hM9 (th2 := th) (no2 := no) (nv2 := nv) (ns2 := ns) (J2 := J) (nc2 := nc) (nl2 := n1) (nr2 := nr) eh_1
      exact fh_vret hx hb hr hlocks (⟨p2, q2, rfl, by rw [← ek, ← en]; exact hM_1, by rw [ek] at i1; exact i1⟩) hP hS (Nat.le_of_ble_eq_true rfl) (Nat.le_of_ble_eq_true rfl) dX10_dropLocks_88
    | succ n ih =>
      intro k hin hh n1 p2 q2 hM9 en hle i1 i2 H locs ls hP hS hl
      have hk : k < nl := by omega
      obtain ⟨a, ha⟩ : ∃ a, LK[k]? = some a := ⟨_, List.getElem?_eq_getElem (by omega)⟩
      have g9 := i2 k (Nat.le_refl k) a ha
      have ihO := ih
      refine lv_iload_n hx hb dX10_dropLocks_4 rfl (lv_at hl 0 rfl) ?_
      refine lv_aload_n hx hb dX10_dropLocks_5 rfl (lv_at hl 2 rfl) ?_
      refine fh_get (C := RX10) (T := TX10) (N := 28) hx hb ht inX10 hown hE.1 hP hM9.m rfl 20 (by decide) (ht _ kw_710) (fun _ h9 => h9) (v := .int (nI nl)) rfl dX10_dropLocks_6 ?_
      refine lv_icmp_ge (tgt := 83) hx hb dX10_dropLocks_9 (by decide) (fun c9 => absurd c9 (nI_ge hk (by omega))) (fun _ => ?_)
      refine lv_aload_n hx hb dX10_dropLocks_12 rfl (lv_at hl 2 rfl) ?_
      refine fh_get (C := RX10) (T := TX10) (N := 28) hx hb ht inX10 hown hE.1 hP hM9.m rfl 21 (by decide) (ht _ kw_711) (fun _ h9 => h9) (v := .ref (b 26)) rfl dX10_dropLocks_13 ?_
      refine lv_iload_n hx hb dX10_dropLocks_16 rfl (lv_at hl 0 rfl) ?_
      refine fh_iald (k := k) hx hb hE.1 hP hM9.a26 rfl (by omega) (by decide) dX10_dropLocks_17 ?_
      rw [g9.1]
      refine lv_iload_n hx hb dX10_dropLocks_18 rfl (lv_at hl 3 rfl) ?_
      refine lv_icmp_ne (tgt := 25) hx hb dX10_dropLocks_19 (by decide) (fun d1 => ?_) (fun d1 => ?_)
      · have es : ((LK.take (k + 1)).filter (fun a : Ar => decide (a.1 ≠ nI i))) = ((LK.take k).filter (fun a : Ar => decide (a.1 ≠ nI i))) ++ [a] := by rw [filt_s ha, if_pos (by simp [d1])]
        refine lv_aload_n hx hb dX10_dropLocks_25 rfl (lv_at hl 2 rfl) ?_
        refine fh_get (C := RX10) (T := TX10) (N := 28) hx hb ht inX10 hown hE.1 hP hM9.m rfl 21 (by decide) (ht _ kw_711) (fun _ h9 => h9) (v := .ref (b 26)) rfl dX10_dropLocks_26 ?_
        refine lv_iload_n hx hb dX10_dropLocks_29 rfl (lv_at hl 1 rfl) ?_
        refine lv_aload_n hx hb dX10_dropLocks_30 rfl (lv_at hl 2 rfl) ?_
        refine fh_get (C := RX10) (T := TX10) (N := 28) hx hb ht inX10 hown hE.1 hP hM9.m rfl 21 (by decide) (ht _ kw_711) (fun _ h9 => h9) (v := .ref (b 26)) rfl dX10_dropLocks_31 ?_
        refine lv_iload_n hx hb dX10_dropLocks_34 rfl (lv_at hl 0 rfl) ?_
        refine fh_iald (k := k) hx hb hE.1 hP hM9.a26 rfl (by omega) (by decide) dX10_dropLocks_35 ?_
        refine fh_iast (k := n1) hx hb hE.1 hP hS hM9.a26 (hM9.A26) rfl (by omega) (by decide) dX10_dropLocks_36 (fun H locs hP hz hS => ?_)
        obtain ⟨h_1, eh_1⟩ : ∃ z, z = fh_up hh (b 26) (.inl (26, 10, .inl (upd p2 n1 (p2 k)))) := ⟨_, rfl⟩
        have hP : fh_P G vwCl h_1 H := by rw [eh_1]; exact hP
        have hM_1 := MG.w26 hM9 (f2 := upd p2 n1 (p2 k)) eh_1
        refine lv_iconst (v := (nI 0)) hx hb dX10_dropLocks_37 (by decide) ?_
        refine lv_istore (lv' := [(4, .int (nI 0)), (3, .int (nI k)), (2, .int (nI n1)), (0, .ref ma), (1, .int (nI i))]) hx hb dX10_dropLocks_38 hl (by decide) rfl (fun ls hl => ?_)
        have lop2 : ∀ (n t : Nat), t + n = 4 → ∀ (hh : FH) (_ : MG A h hh ma b th no nv ns J nc nl nr fK fH fF fB fO fW fV fN cO cF cH cV fS fC (upd p2 n1 (p2 k)) (cpA n1 k t q2) rA rB rD fM), ∀ (H : Heap) (locs : List Loc) (ls : Array Slot), fh_P G vwCl hh H → va_S A s.heap H locs → lv_has ls 5 [(4, .int (nI t)), (3, .int (nI k)), (2, .int (nI n1)), (0, .ref ma), (1, .int (nI i))] → W p l e (headSpec wsX10_dropLocks { frames := 0, cells := 0, slots := 0, locals := 0 }).room s m [.ref ma, .int (nI i)].toArray below meth c H locs 0 0 (MQ below (fh_Q G (fun v u => ∃ lO2 lA2, v = none ∧ MG A h u ma b th no nv ns J nc ((LK.filter (fun a : Ar => decide (a.1 ≠ nI i))).length) nr fK fH fF fB fO fW fV fN cO cF cH cV fS fC lO2 lA2 rA rB rD fM ∧ mL lO2 lA2 (LK.filter (fun a : Ar => decide (a.1 ≠ nI i)))) A) [.ref ma, .int (nI i)].toArray s 0 0 A) (F0 m 40 ls []) := by
          intro n
          induction n with
          | zero =>
            intro t hin hh hM9 H locs ls hP hS hl
            have t4 : t = 4 := by omega
            refine lv_iload hx hb dX10_dropLocks_40 (lv_at hl 0 rfl) ?_
            refine lv_iconst (v := (nI 4)) hx hb dX10_dropLocks_42 (by decide) ?_
            refine lv_icmp_ge (tgt := 74) hx hb dX10_dropLocks_43 (by decide) (fun _ => ?_) (fun c9 => absurd (nI_le (by omega) (by omega)) c9)
            refine lv_iinc (v := nI (n1 + 1)) (lv' := [(2, .int (nI (n1 + 1))), (4, .int (nI t)), (3, .int (nI k)), (0, .ref ma), (1, .int (nI i))]) hx hb dX10_dropLocks_74 hl (k := 2) rfl (nI_1 _) (by decide) rfl (fun ls hl => ?_)
            refine lv_iinc (v := nI (k + 1)) (lv' := [(3, .int (nI (k + 1))), (2, .int (nI (n1 + 1))), (4, .int (nI t)), (0, .ref ma), (1, .int (nI i))]) hx hb dX10_dropLocks_77 hl (k := 2) rfl (nI_1 _) (by decide) rfl (fun ls hl => ?_)
            refine lv_goto (tgt := 4) hx hb dX10_dropLocks_80 (by decide) ?_
            exact ihO (k + 1) (by omega) hh (n1 + 1) _ _ (by rw [t4] at hM9; exact hM9) (by rw [es, List.length_append, ← en]; rfl) (by omega) (by rw [es]; exact mL_cp i1 en hle g9) (mLf_cp i2 hle _) H locs ls hP hS (lv_sub hl [0, 1, 3, 4] rfl)
          | succ n ih =>
            intro t hin hh hM9 H locs ls hP hS hl
            have ht4 : t < 4 := by omega
            refine lv_iload hx hb dX10_dropLocks_40 (lv_at hl 0 rfl) ?_
            refine lv_iconst (v := (nI 4)) hx hb dX10_dropLocks_42 (by decide) ?_
            refine lv_icmp_ge (tgt := 74) hx hb dX10_dropLocks_43 (by decide) (fun c9 => absurd c9 (nI_ge ht4 (by decide))) (fun _ => ?_)
            refine lv_aload_n hx hb dX10_dropLocks_46 rfl (lv_at hl 3 rfl) ?_
            refine fh_get (C := RX10) (T := TX10) (N := 28) hx hb ht inX10 hown hE.1 hP hM9.m rfl 22 (by decide) (ht _ kw_712) (fun _ h9 => h9) (v := .ref (b 27)) rfl dX10_dropLocks_47 ?_
            refine lv_iconst (v := (nI 4)) hx hb dX10_dropLocks_50 (by decide) ?_
            refine lv_iload_n hx hb dX10_dropLocks_51 rfl (lv_at hl 2 rfl) ?_
            refine lv_imul hx hb dX10_dropLocks_52 ?_
            refine lv_topi (fun z9 ez9 => ?_)
            rw [show z9 = nI (4 * n1) from ez9.trans (pk_mul _ _)]
            refine lv_iload hx hb dX10_dropLocks_53 (lv_at hl 0 rfl) ?_
            refine lv_iadd hx hb dX10_dropLocks_55 ?_
            refine lv_topi (fun z9 ez9 => ?_)
            rw [show z9 = nI ((4 * n1) + t) from ez9.trans (nI_add _ _)]
            refine lv_aload_n hx hb dX10_dropLocks_56 rfl (lv_at hl 3 rfl) ?_
            refine fh_get (C := RX10) (T := TX10) (N := 28) hx hb ht inX10 hown hE.1 hP hM9.m rfl 22 (by decide) (ht _ kw_712) (fun _ h9 => h9) (v := .ref (b 27)) rfl dX10_dropLocks_57 ?_
            refine lv_iconst (v := (nI 4)) hx hb dX10_dropLocks_60 (by decide) ?_
            refine lv_iload_n hx hb dX10_dropLocks_61 rfl (lv_at hl 1 rfl) ?_
            refine lv_imul hx hb dX10_dropLocks_62 ?_
            refine lv_topi (fun z9 ez9 => ?_)
            rw [show z9 = nI (4 * k) from ez9.trans (pk_mul _ _)]
            refine lv_iload hx hb dX10_dropLocks_63 (lv_at hl 0 rfl) ?_
            refine lv_iadd hx hb dX10_dropLocks_65 ?_
            refine lv_topi (fun z9 ez9 => ?_)
            rw [show z9 = nI ((4 * k) + t) from ez9.trans (nI_add _ _)]
            refine fh_lald (k := ((4 * k) + t)) hx hb hE.1 hP hM9.a27 rfl (by omega) (by decide) dX10_dropLocks_66 ?_
            refine fh_last (k := ((4 * n1) + t)) hx hb hE.1 hP hS hM9.a27 (hM9.A27) rfl (by omega) (by decide) dX10_dropLocks_67 (fun H locs hP hz hS => ?_)
            obtain ⟨h_2, eh_2⟩ : ∃ z, z = fh_up hh (b 27) (.inl (27, 40, .inr (.inl (vp_updL (cpA n1 k t q2) ((4 * n1) + t) ((cpA n1 k t q2) ((4 * k) + t)))))) := ⟨_, rfl⟩
            have hP : fh_P G vwCl h_2 H := by rw [eh_2]; exact hP
            have hM_2 := MG.w27 hM9 (f2 := vp_updL (cpA n1 k t q2) ((4 * n1) + t) ((cpA n1 k t q2) ((4 * k) + t))) eh_2
            have hM10 : MG A h h_2 ma b th no nv ns J nc nl nr fK fH fF fB fO fW fV fN cO cF cH cV fS fC (upd p2 n1 (p2 k)) (cpA n1 k (t + 1) q2) rA rB rD fM := by have z9 := hM_2; rw [cpA_s q2 hle ht4] at z9; exact z9
            refine lv_iinc (v := nI (t + 1)) (lv' := [(4, .int (nI (t + 1))), (3, .int (nI k)), (2, .int (nI n1)), (0, .ref ma), (1, .int (nI i))]) hx hb dX10_dropLocks_68 hl (k := 0) rfl (nI_1 _) (by decide) rfl (fun ls hl => ?_)
            refine lv_goto (tgt := 40) hx hb dX10_dropLocks_71 (by decide) ?_
            exact ih (t + 1) (by omega) h_2 hM10 H locs ls hP hS (lv_sub hl [0, 1, 2, 3, 4] rfl)
        exact lop2 4 0 (by omega) h_1 (by rw [cpA_0]; exact hM_1) _ _ _ hP hS hl
      · have es : ((LK.take (k + 1)).filter (fun a : Ar => decide (a.1 ≠ nI i))) = ((LK.take k).filter (fun a : Ar => decide (a.1 ≠ nI i))) := by rw [filt_s ha, if_neg (by simp [d1]), List.append_nil]
        refine lv_goto (tgt := 77) hx hb dX10_dropLocks_22 (by decide) ?_
        refine lv_iinc (v := nI (k + 1)) (lv' := [(3, .int (nI (k + 1))), (2, .int (nI n1)), (0, .ref ma), (1, .int (nI i))]) hx hb dX10_dropLocks_77 hl (k := 0) rfl (nI_1 _) (by decide) rfl (fun ls hl => ?_)
        refine lv_goto (tgt := 4) hx hb dX10_dropLocks_80 (by decide) ?_
        exact ih (k + 1) (by omega) hh n1 p2 q2 hM9 (by rw [es]; exact en) (by omega) (by rw [es]; exact i1) (fun j hj => i2 j (by omega)) H locs ls hP hS (lv_sub hl [0, 1, 2, 3] rfl)
  exact loop nl 0 (by omega) h 0 lO lA hM (by simp) (Nat.le_refl 0) (fun k a9 h9 => by simp at h9) (fun k _ a9 h9 => hL k a9 h9) _ _ _ hP hS hl
