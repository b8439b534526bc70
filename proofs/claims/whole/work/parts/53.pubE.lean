set_option maxRecDepth 100000 in
set_option maxHeartbeats 4000000 in
theorem p_violation (l : Launch) (G : fG) (A : Nat → Prop) (h : FH) (sz : Nat) (hst : l.stackTraces = false) (hA : ∀ q, sz ≤ q → A q) (hAh : fh_A A h) {Kq : Nat} (xa : Nat) (ad : Ad) (no nv ns : Nat) (V : Nat → St) (S : Nat → Ses) (LK : List Ar) (RL : List (Nat × Nat × Int64)) (J : Nat) (C : CL) (M : Nat → Int32) (hR : RepC Kq h xa ad no nv ns V S LK RL J C M) (hB9 : Bd no nv ns S RL J C) (hK8 : Kq < 900000) (k ww : Int32) : vx_Met l yX9_violation wsX9_violation { frames := 7, cells := 4, slots := 24, locals := 120 } (va_Pc [.ref xa, .int k, .int ww] (fh_Pre G A h sz)) (fh_Q G (fun v u => (oViol RL (V (nv - 1)) k ww).1 = 0 ∧ v = some (.int (oViol RL (V (nv - 1)) k ww).2) ∧ fh_A A u ∧ kp kC h u ∧ ∃ ad2 : Ad, RepC Kq u xa ad no nv ns V S LK RL J C M) A) (fh_X G (fun E u => u = h ∧ ((E = xE1 ∧ (oViol RL (V (nv - 1)) k ww).1 = 1))) A) 4 24 A := by
  refine fh_MetX [.ref xa, .int k, .int ww] (by decide) rfl (Nat.le_of_ble_eq_true rfl) ?_
  intro p e s m below meth c hx hb hr hlocks hml hown hnm hts hsz hP hE hS htb ls hl
  have ht : ∀ w ∈ wB, w.before _ s = true := fun w h9 => hts w (List.mem_cons_of_mem _ h9)
  have hl : lv_has ls 6 [(0, .ref xa), (1, .int k), (2, .int ww)] := hl
  have hA0 : ∀ q, s.heap.size ≤ q → A q := fun q hq => hA q (by rw [← hsz]; exact hq)
  obtain ⟨hX, hV, hSs, hL, hRl, hC, hM, hI⟩ := id hR
  obtain ⟨hno, hnv, hnv0, hns, hbs, hCl, hCb, hJ, hRn, hRb⟩ := id hB9
  obtain ⟨⟨fs, s1, s2⟩, s3⟩ := id hSs
  obtain ⟨⟨fv, v1, v2⟩, v3⟩ := id hV
  obtain ⟨fr, r1, r2⟩ := id hRl
  have hTs := v3 (nv - 1) (by omega)
  obtain ⟨t1, ft, t2, t3⟩ := id hTs
  rcases pk_ix ww (n := 2) (by decide) with z | z | ⟨n9, hn9, rfl⟩
  · refine lv_iload_n hx hb dX9_violation_0 rfl (lv_at hl 2 rfl) ?_
    refine lv_if_eq (tgt := 19) hx hb dX9_violation_1 (by decide) (fun c9 => absurd c9 (fun q => by rw [q] at z; exact absurd z (by decide))) (fun _ => ?_)
    refine lv_iload_n hx hb dX9_violation_4 rfl (lv_at hl 2 rfl) ?_
    refine lv_iconst (v := (nI 1)) hx hb dX9_violation_5 (by decide) ?_
    refine lv_icmp_eq (tgt := 19) hx hb dX9_violation_6 (by decide) (fun c9 => absurd c9 (fun q => by rw [q] at z; exact absurd z (by decide))) (fun _ => ?_)
    exact fh_throwS hx hb hst ht hown (by decide +kernel) kw_290 kw_13 xg1 xb1 xo1 (text := "which is 0 or 1") (by decide) hE hS hP (hl.1.trans hml.symm) dX9_violation_9 dX9_violation_12 dX9_violation_13 dX9_violation_15 dX9_violation_18 htb (Nat.le_of_ble_eq_true rfl) (Nat.le_of_ble_eq_true rfl) (Nat.le_of_ble_eq_true rfl) (Nat.le_of_ble_eq_true rfl) hlocks (⟨rfl, ⟨rfl, by simp only [oViol, ix_none (Or.inl z)]⟩⟩) (Nat.le_of_ble_eq_true rfl) (Nat.le_of_ble_eq_true rfl)
  · refine lv_iload_n hx hb dX9_violation_0 rfl (lv_at hl 2 rfl) ?_
    refine lv_if_eq (tgt := 19) hx hb dX9_violation_1 (by decide) (fun c9 => absurd c9 (fun q => by rw [q] at z; exact absurd z (by decide))) (fun _ => ?_)
    refine lv_iload_n hx hb dX9_violation_4 rfl (lv_at hl 2 rfl) ?_
    refine lv_iconst (v := (nI 1)) hx hb dX9_violation_5 (by decide) ?_
    refine lv_icmp_eq (tgt := 19) hx hb dX9_violation_6 (by decide) (fun c9 => absurd c9 (fun q => by rw [q] at z; exact absurd z (by decide))) (fun _ => ?_)
    exact fh_throwS hx hb hst ht hown (by decide +kernel) kw_290 kw_13 xg1 xb1 xo1 (text := "which is 0 or 1") (by decide) hE hS hP (hl.1.trans hml.symm) dX9_violation_9 dX9_violation_12 dX9_violation_13 dX9_violation_15 dX9_violation_18 htb (Nat.le_of_ble_eq_true rfl) (Nat.le_of_ble_eq_true rfl) (Nat.le_of_ble_eq_true rfl) (Nat.le_of_ble_eq_true rfl) hlocks (⟨rfl, ⟨rfl, by simp only [oViol, ix_none (Or.inr z)]⟩⟩) (Nat.le_of_ble_eq_true rfl) (Nat.le_of_ble_eq_true rfl)
  · have loop : ∀ (n i : Nat), i + n = 20 → ∀ (n1 : Nat) (_ : n1 = (brokenL (RL.take i) (V (nv - 1))).length) (_ : ∀ j, j < n1 → k ≠ nI j), ∀ (H : Heap) (locs : List Loc) (ls : Array Slot), fh_P G vwCl h H → va_S A s.heap H locs → lv_has ls 6 [(4, .int (nI i)), (3, .int (nI n1)), (0, .ref xa), (1, .int k), (2, .int (nI n9))] → W p l e (headSpec wsX9_violation { frames := 7, cells := 4, slots := 24, locals := 120 }).room s m [.ref xa, .int k, .int (nI n9)].toArray below meth c H locs 0 0 (vx_MQ below (fh_Q G (fun v u => (oViol RL (V (nv - 1)) k (nI n9)).1 = 0 ∧ v = some (.int (oViol RL (V (nv - 1)) k (nI n9)).2) ∧ fh_A A u ∧ kp kC h u ∧ ∃ ad2 : Ad, RepC Kq u xa ad no nv ns V S LK RL J C M) A) (fh_X G (fun E u => u = h ∧ ((E = xE1 ∧ (oViol RL (V (nv - 1)) k (nI n9)).1 = 1))) A) [.ref xa, .int k, .int (nI n9)].toArray s 4 24 A) (F0 m 24 ls []) := by
      intro n
      induction n with
      | zero =>
        intro i hin n1 en hk H locs ls hP hS hl
        refine lv_iload hx hb dX9_violation_24 (lv_at hl 0 rfl) ?_
        refine lv_bipush (v := (nI 20)) hx hb dX9_violation_26 (by decide) ?_
        refine lv_icmp_ge (tgt := 92) hx hb dX9_violation_28 (by decide) (fun _ => ?_) (fun c9 => absurd (nI_le (by omega) (by omega)) c9)
        refine lv_iconst (v := (-1)) hx hb dX9_violation_92 (by decide) ?_
        have ep : oViol RL (V (nv - 1)) k (nI n9) = (0, -1) := by simp only [oViol, ix_some hn9 (by decide)]; rw [ix_no (n := (brokenL RL (V (nv - 1))).length) (Nat.lt_of_le_of_lt (List.length_filter_le _ _) (by omega)) (fun j hj => hk j (by rw [en, List.take_of_length_le (by omega)]; exact hj))]
        exact vx_ret (fh_iret hx hb hr hlocks (⟨by rw [ep], by rw [ep], hAh, kp.rf, ad, hR⟩) hP hS (by first | exact (Nat.le_of_ble_eq_true rfl) | omega) (by first | exact (Nat.le_of_ble_eq_true rfl) | omega) dX9_violation_93)
      | succ n ih =>
        intro i hin n1 en hk H locs ls hP hS hl
        have hi20 : i < 20 := by omega
        have hn1 : n1 ≤ RL.length := by rw [en]; exact Nat.le_trans (List.length_filter_le _ _) (by rw [List.length_take]; omega)
        refine lv_iload hx hb dX9_violation_24 (lv_at hl 0 rfl) ?_
        refine lv_bipush (v := (nI 20)) hx hb dX9_violation_26 (by decide) ?_
        refine lv_icmp_ge (tgt := 92) hx hb dX9_violation_28 (by decide) (fun c9 => absurd c9 (nI_ge (by omega) (by decide))) (fun _ => ?_)
        refine lv_aload_n hx hb dX9_violation_31 rfl (lv_at hl 2 rfl) ?_
        refine fh_get (C := RX9) (T := TX9) (N := 11) hx hb ht inX9 hown hE.1 hP hX rfl 7 (by decide) (ht _ kw_82) (fun _ h9 => h9) (v := .ref (ad 0 4)) rfl dX9_violation_32 ?_
        refine lv_iload hx hb dX9_violation_35 (lv_at hl 0 rfl) ?_
        refine fh_aald (k := i) hx hb hE.1 hP r1 rfl (hi20) (by decide) dX9_violation_37 ?_
        refine fh_astore (lv' := [(5, va_rf (fr i)), (4, .int (nI i)), (3, .int (nI n1)), (0, .ref xa), (1, .int k), (2, .int (nI n9))]) hx hb dX9_violation_38 hl (by decide) rfl (fun ls hl => ?_)
        refine fh_aload hx hb dX9_violation_40 (lv_at hl 0 rfl) ?_
        refine fh_ifnull (tgt := 86) hx hb dX9_violation_42 (by decide) (fun eo => ?_) (fun rr eo => ?_)
        · have e0 : RL[i]? = none := by have z := r2 i hi20; rw [eo] at z; cases e9 : RL[i]? with
            | none => rfl
            | some q => rw [e9] at z; exact z.elim
          have e1 : RL.length ≤ i := List.getElem?_eq_none_iff.mp e0
          refine lv_iinc (v := nI (i + 1)) (lv' := [(4, .int (nI (i + 1))), (5, va_rf (fr i)), (3, .int (nI n1)), (0, .ref xa), (1, .int k), (2, .int (nI n9))]) hx hb dX9_violation_86 hl (k := 1) rfl (nI_1 _) (by decide) rfl (fun ls hl => ?_)
          refine lv_goto (tgt := 24) hx hb dX9_violation_89 (by decide) ?_
          exact ih (i + 1) (by omega) n1 (by rw [en, List.take_of_length_le e1, List.take_of_length_le (by omega)]) hk H locs ls hP hS (lv_sub hl [0, 2, 3, 4, 5] rfl)
        · obtain ⟨q9, e0, hq9⟩ : ∃ q9, RL[i]? = some q9 ∧ h rr = some (oRule (nI q9.1) (nI q9.2.1) q9.2.2) := by
            have z := r2 i hi20
            rw [eo] at z
            cases e9 : RL[i]? with
            | none => rw [e9] at z; exact z.elim
            | some q => rw [e9] at z; exact ⟨q, rfl, z⟩
          have hb9 := hRb _ (List.mem_of_getElem? e0)
          have hl : lv_has ls 6 [(5, .ref rr), (4, .int (nI i)), (3, .int (nI n1)), (0, .ref xa), (1, .int k), (2, .int (nI n9))] := by rw [eo] at hl; exact hl
          refine lv_aload hx hb dX9_violation_45 (lv_at hl 0 rfl) ?_
          refine lv_aload_n hx hb dX9_violation_47 rfl (lv_at hl 3 rfl) ?_
          refine fh_get (C := RX9) (T := TX9) (N := 11) hx hb ht inX9 hown hE.1 hP hX rfl 2 (by decide) (ht _ kw_77) (fun _ h9 => h9) (v := .ref (ad 1 (nv - 1))) rfl dX9_violation_48 ?_
          refine fh_cV (q := (RX6, TX6, 3)) (As := [.ref (ad 1 (nv - 1))]) (rest := []) (b := rr) ⟨hx, hb, hml, hown, ht⟩ (c_Rule_broken l G A h _ rr (ad 1 (nv - 1)) (ad 2 (nv - 1)) q9.1 q9.2.1 q9.2.2 (V (nv - 1)) hq9 hTs hb9.1 hb9.2) (cwV 1 ht (gV kw_582 kw_583 kw_584 kw_17 kw_585) rfl rfl rfl yd_X6_brokenIn ⟨(Nat.le_of_ble_eq_true rfl), (Nat.le_of_ble_eq_true rfl)⟩) hP hE hS hq9 rfl rfl hl.1 rfl (Nat.le_of_ble_eq_true rfl) dX9_violation_51 ⟨(Nat.le_of_ble_eq_true rfl), (Nat.le_of_ble_eq_true rfl)⟩ (fun v u H locs hp hP hz hS => ?_)
          obtain ⟨rfl, eu⟩ := hp
          rw [eu] at hP
          refine W.eq (g2 := F0 m 54 ls [.int (bI (rlBroken ((V (nv - 1)) q9.1) ((V (nv - 1)) q9.2.1) q9.2.2))]) rfl ?_
          refine lv_if_ne (tgt := 60) hx hb dX9_violation_54 (by decide) (fun c1 => ?_) (fun c1 => ?_)
          · have hbr := bI_nz c1
            have e1 : brokenL (RL.take (i + 1)) (V (nv - 1)) = (brokenL (RL.take i) (V (nv - 1))) ++ [q9] := by unfold brokenL; rw [filt_s e0, if_pos hbr]
            have e2 : (brokenL RL (V (nv - 1)))[n1]? = some q9 := by rw [en]; exact filt_at (P := fun q => rlBroken ((V (nv - 1)) q.1) ((V (nv - 1)) q.2.1) q.2.2) e0 hbr
            refine lv_iload_n hx hb dX9_violation_60 rfl (lv_at hl 2 rfl) ?_
            refine lv_iload_n hx hb dX9_violation_61 rfl (lv_at hl 4 rfl) ?_
            refine lv_icmp_ne (tgt := 83) hx hb dX9_violation_62 (by decide) (fun c2 => ?_) (fun c2 => ?_)
            · refine lv_iinc (v := nI (n1 + 1)) (lv' := [(3, .int (nI (n1 + 1))), (5, .ref rr), (4, .int (nI i)), (0, .ref xa), (1, .int k), (2, .int (nI n9))]) hx hb dX9_violation_83 hl (k := 2) rfl (nI_1 _) (by decide) rfl (fun ls hl => ?_)
              refine lv_iinc (v := nI (i + 1)) (lv' := [(4, .int (nI (i + 1))), (3, .int (nI (n1 + 1))), (5, .ref rr), (0, .ref xa), (1, .int k), (2, .int (nI n9))]) hx hb dX9_violation_86 hl (k := 2) rfl (nI_1 _) (by decide) rfl (fun ls hl => ?_)
              refine lv_goto (tgt := 24) hx hb dX9_violation_89 (by decide) ?_
              exact ih (i + 1) (by omega) (n1 + 1) (by rw [en, e1, List.length_append]; rfl) (fun j hj => by
                by_cases z : j = n1
                · rw [z]; exact fun q => c2 q.symm
                · exact hk j (by omega)) H locs ls hP hS (lv_sub hl [0, 1, 3, 4, 5] rfl)
            · have e3 : ix k (brokenL RL (V (nv - 1))).length = some n1 := by rw [← c2]; exact ix_some (List.getElem?_eq_some_iff.mp e2).1 (Nat.lt_of_le_of_lt (List.length_filter_le _ _) (by omega))
              refine lv_iload_n hx hb dX9_violation_65 rfl (lv_at hl 5 rfl) ?_
              refine lv_if_ne (tgt := 77) hx hb dX9_violation_66 (by decide) (fun c3 => ?_) (fun c3 => ?_)
              · have e4 : ¬ n9 = 0 := fun z => c3 (by rw [z]; rfl)
                refine lv_aload hx hb dX9_violation_77 (lv_at hl 0 rfl) ?_
                refine fh_get (C := RX6) (T := TX6) (N := 3) hx hb ht inX6 hown hE.1 hP hq9 rfl 1 (by decide) (ht _ kw_565) (fun _ h9 => h9) (v := .int (nI q9.2.1)) rfl dX9_violation_79 ?_
                have ep : oViol RL (V (nv - 1)) k (nI n9) = (0, nI q9.2.1) := by simp only [oViol, ix_some hn9 (by decide), e3, getD_of e2]; rw [if_neg e4]
                exact vx_ret (fh_iret hx hb hr hlocks (⟨by rw [ep], by rw [ep], hAh, kp.rf, ad, hR⟩) hP hS (by first | exact (Nat.le_of_ble_eq_true rfl) | omega) (by first | exact (Nat.le_of_ble_eq_true rfl) | omega) dX9_violation_82)
              · have e4 : n9 = 0 := (nI_eq (by omega) (by decide)).mp (c3.trans nI_0.symm)
                refine lv_aload hx hb dX9_violation_69 (lv_at hl 0 rfl) ?_
                refine fh_get (C := RX6) (T := TX6) (N := 3) hx hb ht inX6 hown hE.1 hP hq9 rfl 0 (by decide) (ht _ kw_563) (fun _ h9 => h9) (v := .int (nI q9.1)) rfl dX9_violation_71 ?_
                refine lv_goto (tgt := 82) hx hb dX9_violation_74 (by decide) ?_
                have ep : oViol RL (V (nv - 1)) k (nI n9) = (0, nI q9.1) := by simp only [oViol, ix_some hn9 (by decide), e3, getD_of e2]; rw [if_pos e4]
                exact vx_ret (fh_iret hx hb hr hlocks (⟨by rw [ep], by rw [ep], hAh, kp.rf, ad, hR⟩) hP hS (by first | exact (Nat.le_of_ble_eq_true rfl) | omega) (by first | exact (Nat.le_of_ble_eq_true rfl) | omega) dX9_violation_82)
          · have e1 : brokenL (RL.take (i + 1)) (V (nv - 1)) = (brokenL (RL.take i) (V (nv - 1))) ++ [] := by have z := bI_eq.mp c1; unfold brokenL; rw [filt_s e0, if_neg (by rw [z]; decide)]
            refine lv_goto (tgt := 86) hx hb dX9_violation_57 (by decide) ?_
            refine lv_iinc (v := nI (i + 1)) (lv' := [(4, .int (nI (i + 1))), (5, .ref rr), (3, .int (nI n1)), (0, .ref xa), (1, .int k), (2, .int (nI n9))]) hx hb dX9_violation_86 hl (k := 1) rfl (nI_1 _) (by decide) rfl (fun ls hl => ?_)
            refine lv_goto (tgt := 24) hx hb dX9_violation_89 (by decide) ?_
            exact ih (i + 1) (by omega) n1 (by rw [en, e1, List.append_nil]) hk H locs ls hP hS (lv_sub hl [0, 2, 3, 4, 5] rfl)
    rcases (show n9 = 0 ∨ n9 = 1 by omega) with rfl | rfl
    · refine lv_iload_n hx hb dX9_violation_0 rfl (lv_at hl 2 rfl) ?_
      refine lv_if_eq (tgt := 19) hx hb dX9_violation_1 (by decide) (fun _ => ?_) (fun c9 => absurd (nI_0) c9)
      refine lv_iconst (v := (nI 0)) hx hb dX9_violation_19 (by decide) ?_
      refine lv_istore_n (lv' := [(3, .int (nI 0)), (0, .ref xa), (1, .int k), (2, .int (nI 0))]) hx hb dX9_violation_20 rfl hl (by decide) rfl (fun ls hl => ?_)
      refine lv_iconst (v := (nI 0)) hx hb dX9_violation_21 (by decide) ?_
      refine lv_istore (lv' := [(4, .int (nI 0)), (3, .int (nI 0)), (0, .ref xa), (1, .int k), (2, .int (nI 0))]) hx hb dX9_violation_22 hl (by decide) rfl (fun ls hl => ?_)
      exact loop 20 0 (by omega) 0 (by simp [brokenL]) (fun j hj => absurd hj (Nat.not_lt_zero j)) _ _ _ hP hS hl
    · refine lv_iload_n hx hb dX9_violation_0 rfl (lv_at hl 2 rfl) ?_
      refine lv_if_eq (tgt := 19) hx hb dX9_violation_1 (by decide) (fun c9 => absurd c9 (by decide)) (fun _ => ?_)
      refine lv_iload_n hx hb dX9_violation_4 rfl (lv_at hl 2 rfl) ?_
      refine lv_iconst (v := (nI 1)) hx hb dX9_violation_5 (by decide) ?_
      refine lv_icmp_eq (tgt := 19) hx hb dX9_violation_6 (by decide) (fun _ => ?_) (fun c9 => absurd (rfl) c9)
      refine lv_iconst (v := (nI 0)) hx hb dX9_violation_19 (by decide) ?_
      refine lv_istore_n (lv' := [(3, .int (nI 0)), (0, .ref xa), (1, .int k), (2, .int (nI 1))]) hx hb dX9_violation_20 rfl hl (by decide) rfl (fun ls hl => ?_)
      refine lv_iconst (v := (nI 0)) hx hb dX9_violation_21 (by decide) ?_
      refine lv_istore (lv' := [(4, .int (nI 0)), (3, .int (nI 0)), (0, .ref xa), (1, .int k), (2, .int (nI 1))]) hx hb dX9_violation_22 hl (by decide) rfl (fun ls hl => ?_)
      exact loop 20 0 (by omega) 0 (by simp [brokenL]) (fun j hj => absurd hj (Nat.not_lt_zero j)) _ _ _ hP hS hl

set_option maxRecDepth 100000 in
set_option maxHeartbeats 4000000 in
theorem p_difference (l : Launch) (G : fG) (A : Nat → Prop) (h : FH) (sz : Nat) (hst : l.stackTraces = false) (hA : ∀ q, sz ≤ q → A q) (hAh : fh_A A h) {Kq : Nat} (xa : Nat) (ad : Ad) (no nv ns : Nat) (V : Nat → St) (S : Nat → Ses) (LK : List Ar) (RL : List (Nat × Nat × Int64)) (J : Nat) (C : CL) (M : Nat → Int32) (hR : RepC Kq h xa ad no nv ns V S LK RL J C M) (hB9 : Bd no nv ns S RL J C) (hK8 : Kq < 900000) (aa bb k : Int32) : vx_Met l yX9_difference wsX9_difference { frames := 7, cells := 4, slots := 24, locals := 120 } (va_Pc [.ref xa, .int aa, .int bb, .int k] (fh_Pre G A h sz)) (fh_Q G (fun v u => (oDiff nv V aa bb k).1 = 0 ∧ v = some (.int (oDiff nv V aa bb k).2) ∧ fh_A A u ∧ kp kC h u ∧ ∃ ad2 : Ad, RepC Kq u xa ad no nv ns V S LK RL J C M) A) (fh_X G (fun E u => u = h ∧ ((E = xE1 ∧ (oDiff nv V aa bb k).1 = 1))) A) 4 24 A := by
  refine fh_MetX [.ref xa, .int aa, .int bb, .int k] (by decide) rfl (Nat.le_of_ble_eq_true rfl) ?_
  intro p e s m below meth c hx hb hr hlocks hml hown hnm hts hsz hP hE hS htb ls hl
  have ht : ∀ w ∈ wB, w.before _ s = true := fun w h9 => hts w (List.mem_cons_of_mem _ h9)
  have hl : lv_has ls 9 [(0, .ref xa), (1, .int aa), (2, .int bb), (3, .int k)] := hl
  have hA0 : ∀ q, s.heap.size ≤ q → A q := fun q hq => hA q (by rw [← hsz]; exact hq)
  obtain ⟨hX, hV, hSs, hL, hRl, hC, hM, hI⟩ := id hR
  obtain ⟨hno, hnv, hnv0, hns, hbs, hCl, hCb, hJ, hRn, hRb⟩ := id hB9
  obtain ⟨⟨fs, s1, s2⟩, s3⟩ := id hSs
  obtain ⟨⟨fv, v1, v2⟩, v3⟩ := id hV
  refine lv_aload_n hx hb dX9_difference_0 rfl (lv_at hl 0 rfl) ?_
  refine lv_iload_n hx hb dX9_difference_1 rfl (lv_at hl 1 rfl) ?_
  refine fh_cVX (q := (RX9, TX9, 11)) (As := [.int aa]) (rest := []) (b := xa) ⟨hx, hb, hml, hown, ht⟩ (c_X_verOf l G A h _ hst xa ad no nv ns RL.length hX fv v1 (fun i => ad 1 i) v2 hnv aa) (cwV 1 ht (gV kw_605 kw_607 kp_13 kw_1 kw_608) rfl rfl rfl yd_X9_versionOf ⟨(Nat.le_of_ble_eq_true rfl), (Nat.le_of_ble_eq_true rfl)⟩) hP hE hS hX rfl rfl hl.1 rfl (Nat.le_of_ble_eq_true rfl) dX9_difference_2 ⟨(Nat.le_of_ble_eq_true rfl), (Nat.le_of_ble_eq_true rfl)⟩ (fun E9 u9 ⟨z1, z2, z3⟩ => ⟨z2, ⟨z1, by simp only [oDiff, z3]⟩⟩) htb hlocks (Nat.le_of_ble_eq_true rfl) (Nat.le_of_ble_eq_true rfl) (fun v u H locs hp hP hz hS => ?_)
  obtain ⟨i1, hi1x, rfl, eu⟩ := hp
  rw [eu] at hP
  refine W.eq (g2 := F0 m 5 ls [.ref (ad 1 i1)]) rfl ?_
  have hi1 := (ix_of (by omega) hi1x).1
  obtain ⟨ai1, fi1, bi1, ci1⟩ := v3 _ hi1
  refine lv_astore (lv' := [(4, .ref (ad 1 i1)), (0, .ref xa), (1, .int aa), (2, .int bb), (3, .int k)]) hx hb dX9_difference_5 hl (by decide) rfl (fun ls hl => ?_)
  refine lv_aload_n hx hb dX9_difference_7 rfl (lv_at hl 1 rfl) ?_
  refine lv_iload_n hx hb dX9_difference_8 rfl (lv_at hl 3 rfl) ?_
  refine fh_cVX (q := (RX9, TX9, 11)) (As := [.int bb]) (rest := []) (b := xa) ⟨hx, hb, hml, hown, ht⟩ (c_X_verOf l G A h _ hst xa ad no nv ns RL.length hX fv v1 (fun i => ad 1 i) v2 hnv bb) (cwV 1 ht (gV kw_605 kw_607 kp_13 kw_1 kw_608) rfl rfl rfl yd_X9_versionOf ⟨(Nat.le_of_ble_eq_true rfl), (Nat.le_of_ble_eq_true rfl)⟩) hP hE hS hX rfl rfl hl.1 rfl (Nat.le_of_ble_eq_true rfl) dX9_difference_9 ⟨(Nat.le_of_ble_eq_true rfl), (Nat.le_of_ble_eq_true rfl)⟩ (fun E9 u9 ⟨z1, z2, z3⟩ => ⟨z2, ⟨z1, by simp only [oDiff, hi1x, z3]⟩⟩) htb hlocks (Nat.le_of_ble_eq_true rfl) (Nat.le_of_ble_eq_true rfl) (fun v u H locs hp hP hz hS => ?_)
  obtain ⟨i2, hi2x, rfl, eu⟩ := hp
  rw [eu] at hP
  refine W.eq (g2 := F0 m 12 ls [.ref (ad 1 i2)]) rfl ?_
  have hi2 := (ix_of (by omega) hi2x).1
  obtain ⟨ai2, fi2, bi2, ci2⟩ := v3 _ hi2
  refine lv_astore (lv' := [(5, .ref (ad 1 i2)), (4, .ref (ad 1 i1)), (0, .ref xa), (1, .int aa), (2, .int bb), (3, .int k)]) hx hb dX9_difference_12 hl (by decide) rfl (fun ls hl => ?_)
  refine lv_iconst (v := (nI 0)) hx hb dX9_difference_14 (by decide) ?_
  refine lv_istore (lv' := [(6, .int (nI 0)), (5, .ref (ad 1 i2)), (4, .ref (ad 1 i1)), (0, .ref xa), (1, .int aa), (2, .int bb), (3, .int k)]) hx hb dX9_difference_15 hl (by decide) rfl (fun ls hl => ?_)
  refine lv_iconst (v := (nI 0)) hx hb dX9_difference_17 (by decide) ?_
  refine lv_istore (lv' := [(7, .int (nI 0)), (6, .int (nI 0)), (5, .ref (ad 1 i2)), (4, .ref (ad 1 i1)), (0, .ref xa), (1, .int aa), (2, .int bb), (3, .int k)]) hx hb dX9_difference_18 hl (by decide) rfl (fun ls hl => ?_)
  have loop : ∀ (n o : Nat), o + n = 60 → ∀ (n1 : Nat) (_ : n1 = (diffL (V i1) (V i2) o).length) (_ : ∀ j, j < n1 → k ≠ nI j), ∀ (H : Heap) (locs : List Loc) (ls : Array Slot), fh_P G vwCl h H → va_S A s.heap H locs → lv_has ls 9 [(7, .int (nI o)), (6, .int (nI n1)), (5, .ref (ad 1 i2)), (4, .ref (ad 1 i1)), (0, .ref xa), (1, .int aa), (2, .int bb), (3, .int k)] → W p l e (headSpec wsX9_difference { frames := 7, cells := 4, slots := 24, locals := 120 }).room s m [.ref xa, .int aa, .int bb, .int k].toArray below meth c H locs 3 18 (vx_MQ below (fh_Q G (fun v u => (oDiff nv V aa bb k).1 = 0 ∧ v = some (.int (oDiff nv V aa bb k).2) ∧ fh_A A u ∧ kp kC h u ∧ ∃ ad2 : Ad, RepC Kq u xa ad no nv ns V S LK RL J C M) A) (fh_X G (fun E u => u = h ∧ ((E = xE1 ∧ (oDiff nv V aa bb k).1 = 1))) A) [.ref xa, .int aa, .int bb, .int k].toArray s 4 24 A) (F0 m 20 ls []) := by
    intro n
    induction n with
    | zero =>
      intro o hin n1 en hk H locs ls hP hS hl
      have hdl := diffL_len (V i1) (V i2) 60
      refine lv_iload hx hb dX9_difference_20 (lv_at hl 0 rfl) ?_
      refine lv_bipush (v := (nI 60)) hx hb dX9_difference_22 (by decide) ?_
      refine lv_icmp_ge (tgt := 92) hx hb dX9_difference_24 (by decide) (fun _ => ?_) (fun c9 => absurd (nI_le (by omega) (by omega)) c9)
      refine lv_iconst (v := (-1)) hx hb dX9_difference_92 (by decide) ?_
      have o60 : o = 60 := by omega
      subst o60
      have ep : oDiff nv V aa bb k = (0, -1) := by simp only [oDiff, hi1x, hi2x]; rw [ix_no (n := (diffL (V i1) (V i2) 60).length) (by omega) (fun j hj => hk j (by rw [en]; exact hj))]
      exact vx_ret (fh_iret hx hb hr hlocks (⟨by rw [ep], by rw [ep], hAh, kp.rf, ad, hR⟩) hP hS (by first | exact (Nat.le_of_ble_eq_true rfl) | omega) (by first | exact (Nat.le_of_ble_eq_true rfl) | omega) dX9_difference_93)
    | succ n ih =>
      intro o hin n1 en hk H locs ls hP hS hl
      have ho : o < 60 := by omega
      have ihO := ih
      have hinO := hin
      refine lv_iload hx hb dX9_difference_20 (lv_at hl 0 rfl) ?_
      refine lv_bipush (v := (nI 60)) hx hb dX9_difference_22 (by decide) ?_
      refine lv_icmp_ge (tgt := 92) hx hb dX9_difference_24 (by decide) (fun c9 => absurd c9 (nI_ge (by omega) (by decide))) (fun _ => ?_)
      refine lv_iconst (v := (nI 0)) hx hb dX9_difference_27 (by decide) ?_
      refine lv_istore (lv' := [(8, .int (nI 0)), (7, .int (nI o)), (6, .int (nI n1)), (5, .ref (ad 1 i2)), (4, .ref (ad 1 i1)), (0, .ref xa), (1, .int aa), (2, .int bb), (3, .int k)]) hx hb dX9_difference_28 hl (by decide) rfl (fun ls hl => ?_)
      have lop2 : ∀ (n j : Nat), j + n = 7 → ∀ (n2 : Nat) (_ : n2 = (diffL (V i1) (V i2) o ++ diffO (V i1 o) (V i2 o) o j).length) (_ : ∀ j, j < n2 → k ≠ nI j), ∀ (H : Heap) (locs : List Loc) (ls : Array Slot), fh_P G vwCl h H → va_S A s.heap H locs → lv_has ls 9 [(8, .int (nI j)), (6, .int (nI n2)), (7, .int (nI o)), (5, .ref (ad 1 i2)), (4, .ref (ad 1 i1)), (0, .ref xa), (1, .int aa), (2, .int bb), (3, .int k)] → W p l e (headSpec wsX9_difference { frames := 7, cells := 4, slots := 24, locals := 120 }).room s m [.ref xa, .int aa, .int bb, .int k].toArray below meth c H locs 3 18 (vx_MQ below (fh_Q G (fun v u => (oDiff nv V aa bb k).1 = 0 ∧ v = some (.int (oDiff nv V aa bb k).2) ∧ fh_A A u ∧ kp kC h u ∧ ∃ ad2 : Ad, RepC Kq u xa ad no nv ns V S LK RL J C M) A) (fh_X G (fun E u => u = h ∧ ((E = xE1 ∧ (oDiff nv V aa bb k).1 = 1))) A) [.ref xa, .int aa, .int bb, .int k].toArray s 4 24 A) (F0 m 30 ls []) := by
        intro n
        induction n with
        | zero =>
          intro j hin n2 en2 hk2 H locs ls hP hS hl
          have j7 : j = 7 := by omega
          refine lv_iload hx hb dX9_difference_30 (lv_at hl 0 rfl) ?_
          refine lv_bipush (v := (nI 7)) hx hb dX9_difference_32 (by decide) ?_
          refine lv_icmp_ge (tgt := 86) hx hb dX9_difference_34 (by decide) (fun _ => ?_) (fun c9 => absurd (nI_le (by omega) (by omega)) c9)
          refine lv_iinc (v := nI (o + 1)) (lv' := [(7, .int (nI (o + 1))), (8, .int (nI j)), (6, .int (nI n2)), (5, .ref (ad 1 i2)), (4, .ref (ad 1 i1)), (0, .ref xa), (1, .int aa), (2, .int bb), (3, .int k)]) hx hb dX9_difference_86 hl (k := 2) rfl (nI_1 _) (by decide) rfl (fun ls hl => ?_)
          refine lv_goto (tgt := 20) hx hb dX9_difference_89 (by decide) ?_
          exact ihO (o + 1) (by omega) n2 (by rw [en2, j7]; rfl) hk2 H locs ls hP hS (lv_sub hl [0, 2, 3, 4, 5, 6, 7, 8] rfl)
        | succ n ih =>
          intro j hin n2 en2 hk2 H locs ls hP hS hl
          have hj : j < 7 := by omega
          have hdl := diffL_len (V i1) (V i2) o
          have hdo := diffO_len (V i1 o) (V i2 o) o j
          have hn2 : n2 ≤ 427 := by rw [en2, List.length_append]; omega
          refine lv_iload hx hb dX9_difference_30 (lv_at hl 0 rfl) ?_
          refine lv_bipush (v := (nI 7)) hx hb dX9_difference_32 (by decide) ?_
          refine lv_icmp_ge (tgt := 86) hx hb dX9_difference_34 (by decide) (fun c9 => absurd c9 (nI_ge (by omega) (by decide))) (fun _ => ?_)
          refine lv_aload hx hb dX9_difference_37 (lv_at hl 4 rfl) ?_
          refine lv_iload hx hb dX9_difference_39 (lv_at hl 2 rfl) ?_
          refine fh_cV (q := (RX8, TX8, 1)) (As := [.int (nI o)]) (rest := []) (b := (ad 1 i1)) ⟨hx, hb, hml, hown, ht⟩ (c_St_row l G A h _ (ad 1 i1) (ad 2 i1) o fi1 ai1 bi1 ho) (cwV 1 ht (gV kw_337 kw_338 kw_339 kw_2 kw_340) rfl rfl rfl yd_X8_row ⟨(Nat.le_of_ble_eq_true rfl), (Nat.le_of_ble_eq_true rfl)⟩) hP hE hS ai1 rfl rfl hl.1 rfl (Nat.le_of_ble_eq_true rfl) dX9_difference_41 ⟨(Nat.le_of_ble_eq_true rfl), (Nat.le_of_ble_eq_true rfl)⟩ (fun v u H locs hp hP hz hS => ?_)
          obtain ⟨rfl, eu⟩ := hp
          rw [eu] at hP
          refine W.eq (g2 := F0 m 44 ls [va_rf (fi1 o)]) rfl ?_
          refine lv_aload hx hb dX9_difference_44 (lv_at hl 3 rfl) ?_
          refine lv_iload hx hb dX9_difference_46 (lv_at hl 2 rfl) ?_
          refine fh_cV (q := (RX8, TX8, 1)) (As := [.int (nI o)]) (rest := [va_rf (fi1 o)]) (b := (ad 1 i2)) ⟨hx, hb, hml, hown, ht⟩ (c_St_row l G A h _ (ad 1 i2) (ad 2 i2) o fi2 ai2 bi2 ho) (cwV 1 ht (gV kw_337 kw_338 kw_339 kw_2 kw_340) rfl rfl rfl yd_X8_row ⟨(Nat.le_of_ble_eq_true rfl), (Nat.le_of_ble_eq_true rfl)⟩) hP hE hS ai2 rfl rfl hl.1 rfl (Nat.le_trans (catsum _) (Nat.le_of_ble_eq_true rfl)) dX9_difference_48 ⟨(Nat.le_of_ble_eq_true rfl), (Nat.le_of_ble_eq_true rfl)⟩ (fun v u H locs hp hP hz hS => ?_)
          obtain ⟨rfl, eu⟩ := hp
          rw [eu] at hP
          refine W.eq (g2 := F0 m 51 ls [va_rf (fi2 o), va_rf (fi1 o)]) rfl ?_
          refine lv_iload hx hb dX9_difference_51 (lv_at hl 0 rfl) ?_
          refine fh_cS (As := [va_rf (fi1 o), va_rf (fi2 o), .int (nI j)]) (rest := []) ⟨hx, hb, hml, hown, ht⟩ (c_Row_differ l G A h _ (fi1 o) (fi2 o) (V i1 o) (V i2 o) j (by omega) (ci1 o ho) (ci2 o ho)) (va_cwS 3 ht (gS kw_610 kw_430 kw_10 kw_431) rfl rfl rfl yd_X5_differ.2 ⟨(Nat.le_of_ble_eq_true rfl), (Nat.le_of_ble_eq_true rfl)⟩) hP hE hS rfl hl.1 rfl (Nat.le_of_ble_eq_true rfl) dX9_difference_53 ⟨(Nat.le_of_ble_eq_true rfl), (Nat.le_of_ble_eq_true rfl)⟩ (fun v u H locs hp hP hz hS => ?_)
          obtain ⟨rfl, eu⟩ := hp
          rw [eu] at hP
          refine W.eq (g2 := F0 m 56 ls [.int (bI (differO (V i1 o) (V i2 o) j))]) rfl ?_
          refine lv_if_ne (tgt := 62) hx hb dX9_difference_56 (by decide) (fun c1 => ?_) (fun c1 => ?_)
          · have hd := bI_nz c1
            have e2 : (diffL (V i1) (V i2) 60)[n2]? = some (o, j) := by rw [en2]; exact diffL_at ho hj hd
            refine lv_iload hx hb dX9_difference_62 (lv_at hl 1 rfl) ?_
            refine lv_iload_n hx hb dX9_difference_64 rfl (lv_at hl 8 rfl) ?_
            refine lv_icmp_ne (tgt := 77) hx hb dX9_difference_65 (by decide) (fun c3 => ?_) (fun c3 => ?_)
            · refine lv_iinc (v := nI (n2 + 1)) (lv' := [(6, .int (nI (n2 + 1))), (8, .int (nI j)), (7, .int (nI o)), (5, .ref (ad 1 i2)), (4, .ref (ad 1 i1)), (0, .ref xa), (1, .int aa), (2, .int bb), (3, .int k)]) hx hb dX9_difference_77 hl (k := 1) rfl (nI_1 _) (by decide) rfl (fun ls hl => ?_)
              refine lv_iinc (v := nI (j + 1)) (lv' := [(8, .int (nI (j + 1))), (6, .int (nI (n2 + 1))), (7, .int (nI o)), (5, .ref (ad 1 i2)), (4, .ref (ad 1 i1)), (0, .ref xa), (1, .int aa), (2, .int bb), (3, .int k)]) hx hb dX9_difference_80 hl (k := 1) rfl (nI_1 _) (by decide) rfl (fun ls hl => ?_)
              refine lv_goto (tgt := 30) hx hb dX9_difference_83 (by decide) ?_
              exact ih (j + 1) (by omega) (n2 + 1) (by rw [diffO_s, if_pos hd, ← List.append_assoc, List.length_append, ← en2]; rfl) (fun i hi => by
                by_cases z : i = n2
                · rw [z]; exact fun q => c3 q.symm
                · exact hk2 i (by omega)) H locs ls hP hS (lv_sub hl [0, 1, 2, 3, 4, 5, 6, 7, 8] rfl)
            · have hdl6 := diffL_len (V i1) (V i2) 60
              have e3 : ix k (diffL (V i1) (V i2) 60).length = some n2 := by rw [← c3]; exact ix_some (List.getElem?_eq_some_iff.mp e2).1 (by omega)
              refine lv_bipush (v := (nI 8)) hx hb dX9_difference_68 (by decide) ?_
              refine lv_iload hx hb dX9_difference_70 (lv_at hl 2 rfl) ?_
              refine lv_imul hx hb dX9_difference_72 ?_
              refine lv_topi (fun z9 ez9 => ?_)
              rw [show z9 = nI (8 * o) from ez9.trans (pk_mul _ _)]
              refine lv_iload hx hb dX9_difference_73 (lv_at hl 0 rfl) ?_
              refine lv_iadd hx hb dX9_difference_75 ?_
              refine lv_topi (fun z9 ez9 => ?_)
              rw [show z9 = nI ((8 * o) + j) from ez9.trans (nI_add _ _)]
              have ep : oDiff nv V aa bb k = (0, nI (8 * o + j)) := by simp [oDiff, hi1x, hi2x, e3, e2]
              exact vx_ret (fh_iret hx hb hr hlocks (⟨by rw [ep], by rw [ep], hAh, kp.rf, ad, hR⟩) hP hS (by first | exact (Nat.le_of_ble_eq_true rfl) | omega) (by first | exact (Nat.le_of_ble_eq_true rfl) | omega) dX9_difference_76)
          · have e1 : (diffL (V i1) (V i2) o ++ diffO (V i1 o) (V i2 o) o (j + 1)) = (diffL (V i1) (V i2) o ++ diffO (V i1 o) (V i2 o) o j) := by rw [diffO_s, bI_eq.mp c1]; simp
            refine lv_goto (tgt := 80) hx hb dX9_difference_59 (by decide) ?_
            refine lv_iinc (v := nI (j + 1)) (lv' := [(8, .int (nI (j + 1))), (6, .int (nI n2)), (7, .int (nI o)), (5, .ref (ad 1 i2)), (4, .ref (ad 1 i1)), (0, .ref xa), (1, .int aa), (2, .int bb), (3, .int k)]) hx hb dX9_difference_80 hl (k := 0) rfl (nI_1 _) (by decide) rfl (fun ls hl => ?_)
            refine lv_goto (tgt := 30) hx hb dX9_difference_83 (by decide) ?_
            exact ih (j + 1) (by omega) n2 (by rw [e1]; exact en2) hk2 H locs ls hP hS (lv_sub hl [0, 1, 2, 3, 4, 5, 6, 7, 8] rfl)
      exact lop2 7 0 (by omega) n1 (by rw [en, show diffO (V i1 o) (V i2 o) o 0 = [] from rfl, List.append_nil]) hk _ _ _ hP hS (lv_sub hl [0, 2, 1, 3, 4, 5, 6, 7, 8] rfl)
  refine W.widen (k := 3) (n := 18) (by decide) (by decide) ?_
  exact loop 60 0 (by omega) 0 (by rfl) (fun j hj => absurd hj (Nat.not_lt_zero j)) _ _ _ hP hS hl
