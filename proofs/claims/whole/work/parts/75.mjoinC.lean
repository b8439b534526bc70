set_option maxRecDepth 100000 in
set_option maxHeartbeats 4000000 in
theorem m_joins (l : Launch) (G : fG) (A : Nat → Prop) (h : FH) (sz : Nat) (ma : Nat) (b : Nat → Nat) (th : Int32) (no nv ns : Nat) (V : Vs) (S : Ss) (LK : List Ar) (RL : Rl) (J : Nat) (C : CL) (M : Nat → Int32) (hp0 : RepM A h h ma b th no nv ns V S LK RL J C M) (hB9 : Bd no nv ns S RL J C) (hLk : LK.length ≤ 10) (hVn : ∀ v, v < nv → ∀ o, no ≤ o → V v o = none) (hMz : ∀ o, V (nv - 1) o = none → M o = 0) (i : Nat) (hi : i < ns) (hSn : ∀ o, no ≤ o → (S i).2.1 o = none) (hmd : ∀ o, V (S i).1 o = none → (S i).2.1 o ≠ none → V (nv - 1) o = none) (hnv40 : nv < 40) : Met l yX10_joins wsX10_joins { frames := 4, cells := 0, slots := 0, locals := 115 } (va_Pc [.ref ma, .int (nI i)] (fh_Pre G A h sz)) (fh_Q G (fun v u => v = some (.int (nI (oTry nv V S LK M i).1)) ∧ RepM A h u ma b th no ((oTry nv V S LK M i).2.1) ns ((oTry nv V S LK M i).2.2.1) ((oTry nv V S LK M i).2.2.2.1) ((oTry nv V S LK M i).2.2.2.2.1) RL i ((oTry nv V S LK M i).2.2.2.2.2.1) ((oTry nv V S LK M i).2.2.2.2.2.2)) A) 0 0 A := by
  refine fh_Met [.ref ma, .int (nI i)] (by decide) rfl (Nat.le_of_ble_eq_true rfl) ?_
  intro p e s m below meth c hx hb hr hlocks hml hown hnm hts hsz hP hE hS ls hl
  have ht : ∀ w ∈ wB, w.before _ s = true := fun w h9 => hts w (List.mem_cons_of_mem _ h9)
  have hl : lv_has ls 4 [(0, .ref ma), (1, .int (nI i))] := hl
  obtain ⟨fK, fH, fF, fB, fO, fW, fV, fN, cO, cF, cH, cV, fS, fC, lO, lA, rA, rB, rD, fM, hM, hX⟩ := hp0
  obtain ⟨hno, hnv, hnv0, hns, hbs, hCl, hCb, hJ, hRn, hRb⟩ := id hB9
  obtain ⟨⟨zH, zO, zW, zcH⟩, xV, xS, xN, xL, xR, xC, xM⟩ := id hX
  have hi2 : i < 20 := by omega
  obtain ⟨s1, s2, s3, s4, s5, s6, s7, s8⟩ := xS i hi
  have hbi := hbs i hi
  have uB := (xV _ hbi).1
  have uT := (xV (nv - 1) (by omega)).1
  refine lv_aload_n hx hb dX10_joins_0 rfl (lv_at hl 0 rfl) ?_
  refine lv_iload_n hx hb dX10_joins_1 rfl (lv_at hl 1 rfl) ?_
  refine fh_put (C := RX10) (T := TX10) (N := 28) (t := .int) hx hb ht inX10 tyX10 tyX10_ok nmX10 hown hE.1 hP hS hM.m (hM.A0) rfl 17 (by decide) (ht _ kw_707) (fun _ h9 => h9) rfl (by decide +kernel) rfl rfl (Nat.le_of_ble_eq_true rfl) dX10_joins_2 (fun H locs hP hz hS => ?_)
  obtain ⟨h_1, eh_1⟩ : ∃ z, z = fh_up h ma (.inr (10, [.int th, .int (nI no), .ref (b 12), .int (nI nv), .ref (b 13), .ref (b 14), .int (nI ns), .ref (b 15), .ref (b 16), .ref (b 17), .ref (b 18), .ref (b 19), .ref (b 20), .ref (b 21), .ref (b 22), .ref (b 23), .ref (b 24), .int (nI i), .int (nI C.length), .ref (b 25), .int (nI LK.length), .ref (b 26), .ref (b 27), .int (nI RL.length), .ref (b 28), .ref (b 29), .ref (b 30), .ref (b 31)])) := ⟨_, rfl⟩
  have hP : fh_P G vwCl h_1 H := by rw [eh_1]; exact hP
  have hM_1 := MG.sc hM (th2 := th) (no2 := no) (nv2 := nv) (ns2 := ns) (J2 := i) (nc2 := C.length) (nl2 := LK.length) (nr2 := RL.length) eh_1
  refine lv_aload_n hx hb dX10_joins_5 rfl (lv_at hl 0 rfl) ?_
  refine lv_iconst (v := (nI 0)) hx hb dX10_joins_6 (by decide) ?_
  refine fh_put (C := RX10) (T := TX10) (N := 28) (t := .int) hx hb ht inX10 tyX10 tyX10_ok nmX10 hown hE.1 hP hS hM_1.m (hM_1.A0) rfl 18 (by decide) (ht _ kw_708) (fun _ h9 => h9) rfl (by decide +kernel) rfl rfl (Nat.le_of_ble_eq_true rfl) dX10_joins_7 (fun H locs hP hz hS => ?_)
  obtain ⟨h_2, eh_2⟩ : ∃ z, z = fh_up h_1 ma (.inr (10, [.int th, .int (nI no), .ref (b 12), .int (nI nv), .ref (b 13), .ref (b 14), .int (nI ns), .ref (b 15), .ref (b 16), .ref (b 17), .ref (b 18), .ref (b 19), .ref (b 20), .ref (b 21), .ref (b 22), .ref (b 23), .ref (b 24), .int (nI i), .int (nI 0), .ref (b 25), .int (nI LK.length), .ref (b 26), .ref (b 27), .int (nI RL.length), .ref (b 28), .ref (b 29), .ref (b 30), .ref (b 31)])) := ⟨_, rfl⟩
  have hP : fh_P G vwCl h_2 H := by rw [eh_2]; exact hP
  have hM_2 := MG.sc hM_1 (th2 := th) (no2 := no) (nv2 := nv) (ns2 := ns) (J2 := i) (nc2 := 0) (nl2 := LK.length) (nr2 := RL.length) eh_2
  refine lv_iconst (v := (nI 0)) hx hb dX10_joins_10 (by decide) ?_
  refine lv_istore_n (lv' := [(2, .int (nI 0)), (0, .ref ma), (1, .int (nI i))]) hx hb dX10_joins_11 rfl hl (by decide) rfl (fun ls hl => ?_)
  have loop : ∀ (n o : Nat), o + n = no → ∀ (hh : FH) (f2 : Nat → Int32) (_ : MG A h hh ma b th no nv ns i ((gathL (V (S i).1) (S i).2.1 (V (nv - 1)) o).length) LK.length RL.length fK fH fF fB fO fW fV fN cO cF cH cV fS f2 lO lA rA rB rD fM) (_ : mC f2 (gathL (V (S i).1) (S i).2.1 (V (nv - 1)) o)), ∀ (H : Heap) (locs : List Loc) (ls : Array Slot), fh_P G vwCl hh H → va_S A s.heap H locs → lv_has ls 4 [(2, .int (nI o)), (0, .ref ma), (1, .int (nI i))] → W p l e (headSpec wsX10_joins { frames := 4, cells := 0, slots := 0, locals := 115 }).room s m [.ref ma, .int (nI i)].toArray below meth c H locs 0 0 (MQ below (fh_Q G (fun v u => v = some (.int (nI (oTry nv V S LK M i).1)) ∧ RepM A h u ma b th no ((oTry nv V S LK M i).2.1) ns ((oTry nv V S LK M i).2.2.1) ((oTry nv V S LK M i).2.2.2.1) ((oTry nv V S LK M i).2.2.2.2.1) RL i ((oTry nv V S LK M i).2.2.2.2.2.1) ((oTry nv V S LK M i).2.2.2.2.2.2)) A) [.ref ma, .int (nI i)].toArray s 0 0 A) (F0 m 12 ls []) := by
    intro n
    induction n with
    | zero =>
      intro o hin hh f2 hM9 hC9 H locs ls hP hS hl
      have eo : o = no := by omega
      have eL : (gathL (V (S i).1) (S i).2.1 (V (nv - 1)) o) = (gathL (V (S i).1) (S i).2.1 (V (nv - 1)) 60) := by rw [eo]; exact (gathL_no (hVn _ hbi) hSn hno).symm
      have hlen := gathL_len (V (S i).1) (S i).2.1 (V (nv - 1)) 60
      rw [eL] at hM9 hC9
      refine lv_iload_n hx hb dX10_joins_12 rfl (lv_at hl 0 rfl) ?_
      refine lv_aload_n hx hb dX10_joins_13 rfl (lv_at hl 1 rfl) ?_
      refine fh_get (C := RX10) (T := TX10) (N := 28) hx hb ht inX10 hown hE.1 hP hM9.m rfl 1 (by decide) (ht _ kw_691) (fun _ h9 => h9) (v := .int (nI no)) rfl dX10_joins_14 ?_
      refine lv_icmp_ge (tgt := 32) hx hb dX10_joins_17 (by decide) (fun _ => ?_) (fun c9 => absurd (nI_le (by omega) (by omega)) c9)
      refine lv_aload_n hx hb dX10_joins_32 rfl (lv_at hl 1 rfl) ?_
      refine lv_iload_n hx hb dX10_joins_33 rfl (lv_at hl 2 rfl) ?_
      refine fh_cV (q := (RX10, TX10, 28)) (As := [.int (nI i)]) (rest := []) (b := ma) ⟨hx, hb, hml, hown, ht⟩ (m_unsettled l G A hh _ hM9.re i hi2 (gathL (V (S i).1) (S i).2.1 (V (nv - 1)) 60) rfl hC9 (by omega) (fun q hq => gathL_mem hq) (S i).2.2.2.2 s8) (cwV 1 ht (gV kw_890 kw_892 kp_33 kw_5 kw_893) rfl rfl rfl yd_X10_unsettled ⟨(Nat.le_of_ble_eq_true rfl), (Nat.le_of_ble_eq_true rfl)⟩) hP hE hS hM9.m rfl rfl hl.1 rfl (Nat.le_of_ble_eq_true rfl) dX10_joins_34 ⟨(Nat.le_of_ble_eq_true rfl), (Nat.le_of_ble_eq_true rfl)⟩ (fun v u H locs hp hP hz hS => ?_)
      obtain ⟨rfl, eu⟩ := hp
      rw [eu] at hP
      refine W.eq (g2 := F0 m 37 ls [.int (nI (unsN (S i).2.2.2.2 (gathL (V (S i).1) (S i).2.1 (V (nv - 1)) 60)))]) rfl ?_
      refine lv_istore_n (lv' := [(2, .int (nI (unsN (S i).2.2.2.2 (gathL (V (S i).1) (S i).2.1 (V (nv - 1)) 60)))), (0, .ref ma), (1, .int (nI i))]) hx hb dX10_joins_37 rfl hl (by decide) rfl (fun ls hl => ?_)
      refine lv_iload_n hx hb dX10_joins_38 rfl (lv_at hl 0 rfl) ?_
      have hun : unsN (S i).2.2.2.2 (gathL (V (S i).1) (S i).2.1 (V (nv - 1)) 60) ≤ (gathL (V (S i).1) (S i).2.1 (V (nv - 1)) 60).length := List.length_filter_le _ _
      refine lv_if_le (tgt := 44) hx hb dX10_joins_39 (by decide) (fun d1 => ?_) (fun d1 => ?_)
      · have d2 : unsN (S i).2.2.2.2 (gathL (V (S i).1) (S i).2.1 (V (nv - 1)) 60) = 0 := by
          rcases Nat.eq_zero_or_pos (unsN (S i).2.2.2.2 (gathL (V (S i).1) (S i).2.1 (V (nv - 1)) 60)) with z | z
          · exact z
          · exact absurd d1 (nI_nle z (by omega))
        have eo2 : (oTry nv V S LK M i) = (0, nv + 1, upN V nv (mrg (V (S i).1) (S i) (V (nv - 1))), upN S i (sClose (S i)), LK.filter (fun a => decide (a.1 ≠ nI i)), (gathL (V (S i).1) (S i).2.1 (V (nv - 1)) 60), mkM (mrg (V (S i).1) (S i) (V (nv - 1))) (V (nv - 1)) M) := by unfold oTry; rw [if_pos d2]
        refine lv_aload_n hx hb dX10_joins_44 rfl (lv_at hl 1 rfl) ?_
        refine fh_cV (q := (RX10, TX10, 28)) (As := []) (rest := []) (b := ma) ⟨hx, hb, hml, hown, ht⟩ (m_copyHead l G A hh _ hM9.re hnv0 hnv40 zH) (cwV 0 ht (gV kw_787 kw_789 kp_15 kw_5 kw_790) rfl rfl rfl yd_X10_copyHead ⟨(Nat.le_of_ble_eq_true rfl), (Nat.le_of_ble_eq_true rfl)⟩) hP hE hS hM9.m rfl rfl hl.1 rfl (Nat.le_of_ble_eq_true rfl) dX10_joins_45 ⟨(Nat.le_of_ble_eq_true rfl), (Nat.le_of_ble_eq_true rfl)⟩ (fun v u H locs hp hP hz hS => ?_)
        obtain ⟨fH2, fF2, rfl, hM2, zH2, c1, c2, c3, c4⟩ := hp
        refine W.eq (g2 := F0 m 48 ls []) rfl ?_
        have hM3 := MG.tr hM9.kept hM2
        refine lv_iconst (v := (nI 0)) hx hb dX10_joins_48 (by decide) ?_
        refine lv_istore_n (lv' := [(3, .int (nI 0)), (2, .int (nI (unsN (S i).2.2.2.2 (gathL (V (S i).1) (S i).2.1 (V (nv - 1)) 60)))), (0, .ref ma), (1, .int (nI i))]) hx hb dX10_joins_49 rfl hl (by decide) rfl (fun ls hl => ?_)
        have lop2 : ∀ (n o2 : Nat), o2 + n = no → ∀ (hh : FH) (f3 : Nat → Int32) (g3 : Nat → Int64) (_ : MG A h hh ma b th no (nv + 1) ns i ((gathL (V (S i).1) (S i).2.1 (V (nv - 1)) 60).length) LK.length RL.length fK f3 g3 fB fO fW fV fN cO cF cH cV fS f2 lO lA rA rB rD fM) (_ : bz f3) (_ : ∀ x, x < 60 * nv → f3 x = fH x) (_ : ∀ x, x < 360 * nv → g3 x = fF x) (_ : ∀ q, q < o2 → f3 (60 * nv + q) = bI ((mrg (V (S i).1) (S i) (V (nv - 1))) q).isSome ∧ ∀ r, (mrg (V (S i).1) (S i) (V (nv - 1))) q = some r → ∀ k, k < 6 → g3 (360 * nv + 6 * q + k) = r k) (_ : ∀ q, o2 ≤ q → q < 60 → f3 (60 * nv + q) = fH (60 * (nv - 1) + q) ∧ ∀ k, k < 6 → g3 (360 * nv + 6 * q + k) = fF (360 * (nv - 1) + 6 * q + k)), ∀ (H : Heap) (locs : List Loc) (ls : Array Slot), fh_P G vwCl hh H → va_S A s.heap H locs → lv_has ls 4 [(3, .int (nI o2)), (2, .int (nI (unsN (S i).2.2.2.2 (gathL (V (S i).1) (S i).2.1 (V (nv - 1)) 60)))), (0, .ref ma), (1, .int (nI i))] → W p l e (headSpec wsX10_joins { frames := 4, cells := 0, slots := 0, locals := 115 }).room s m [.ref ma, .int (nI i)].toArray below meth c H locs 0 0 (MQ below (fh_Q G (fun v u => v = some (.int (nI (oTry nv V S LK M i).1)) ∧ RepM A h u ma b th no ((oTry nv V S LK M i).2.1) ns ((oTry nv V S LK M i).2.2.1) ((oTry nv V S LK M i).2.2.2.1) ((oTry nv V S LK M i).2.2.2.2.1) RL i ((oTry nv V S LK M i).2.2.2.2.2.1) ((oTry nv V S LK M i).2.2.2.2.2.2)) A) [.ref ma, .int (nI i)].toArray s 0 0 A) (F0 m 50 ls []) := by
          intro n
          induction n with
          | zero =>
            intro o2 hin hh f3 g3 hM9 zf j1 j2 j3 j4 H locs ls hP hS hl
            have eo3 : o2 = no := by omega
            have hrel : relR (rw1 f3 nv) (rx1 g3 nv) (mrg (V (S i).1) (S i) (V (nv - 1))) := relR.of (fun q hq => by
              rcases Nat.lt_or_ge q no with zz | zz
              · exact j3 q (by omega)
              · have r4 := j4 q (by omega) hq
                have e9 := mrg_none (s := S i) (hVn _ hbi q zz) (hSn q zz) (hVn (nv - 1) (by omega) q zz)
                rw [e9]
                refine ⟨r4.1.trans ?_, fun r hr => by cases hr⟩
                rw [(uT.row hq).1, hVn (nv - 1) (by omega) q zz])
            have hzr : zeroM (rx1 g3 nv) no := fun q h1 h2 k hk => by
              unfold rx1
              rw [← Nat.add_assoc, (j4 q (by omega) h2).2 k hk, Nat.add_assoc]
              exact (xV (nv - 1) (by omega)).2 q h1 h2 k hk
            have hX1 := RMX.ver (⟨hX.1, hX.2.1, hX.2.2.1, hX.2.2.2.1, xL, xR, hC9, xM⟩ : RMX no nv ns V S LK RL (gathL (V (S i).1) (S i).2.1 (V (nv - 1)) 60) M fH fF fB fO fW fV fN cO cF cH cV fS f2 lO lA rA rB rD fM) (Nat.le_refl no) zf j1 j2 hrel hzr
            have uT3 : relR (rw1 f3 (nv - 1)) (rx1 g3 (nv - 1)) (V (nv - 1)) := uT.congr (fun o ho => j1 _ (by omega)) (fun p hp => j2 _ (by omega))
            refine lv_iload_n hx hb dX10_joins_50 rfl (lv_at hl 0 rfl) ?_
            refine lv_aload_n hx hb dX10_joins_51 rfl (lv_at hl 2 rfl) ?_
            refine fh_get (C := RX10) (T := TX10) (N := 28) hx hb ht inX10 hown hE.1 hP hM9.m rfl 1 (by decide) (ht _ kw_691) (fun _ h9 => h9) (v := .int (nI no)) rfl dX10_joins_52 ?_
            refine lv_icmp_ge (tgt := 70) hx hb dX10_joins_55 (by decide) (fun _ => ?_) (fun c9 => absurd (nI_le (by omega) (by omega)) c9)
            refine lv_aload_n hx hb dX10_joins_70 rfl (lv_at hl 2 rfl) ?_
            refine fh_cV (q := (RX10, TX10, 28)) (As := []) (rest := []) (b := ma) ⟨hx, hb, hml, hown, ht⟩ (m_dropM l G A hh _ hM9.re hno (by omega) (by omega) zf (mrg (V (S i).1) (S i) (V (nv - 1))) (V (nv - 1)) hrel (by rw [show nv + 1 - 2 = nv - 1 by omega]; exact uT3)) (cwV 0 ht (gV kw_914 kw_916 kp_39 kw_5 kw_917) rfl rfl rfl yd_X10_dropMarks ⟨(Nat.le_of_ble_eq_true rfl), (Nat.le_of_ble_eq_true rfl)⟩) hP hE hS hM9.m rfl rfl hl.1 rfl (Nat.le_of_ble_eq_true rfl) dX10_joins_71 ⟨(Nat.le_of_ble_eq_true rfl), (Nat.le_of_ble_eq_true rfl)⟩ (fun v u H locs hp hP hz hS => ?_)
            obtain ⟨fM2, rfl, hM4, m1, m2⟩ := hp
            refine W.eq (g2 := F0 m 74 ls []) rfl ?_
            have hM5 := MG.tr hM9.kept hM4
            have hM6 : ∀ o, o < 60 → fM2 o = mkM (mrg (V (S i).1) (S i) (V (nv - 1))) (V (nv - 1)) M o := fun o ho => by
              rcases Nat.lt_or_ge o no with zz | zz
              · rw [m1 o zz, xM o ho]
                exact mkM_eq (hMz o) (sameB_iff _ _ o)
              · rw [m2 o zz, xM o ho]
                unfold mkM
                rw [mrg_none (s := S i) (hVn _ hbi o zz) (hSn o zz) (hVn (nv - 1) (by omega) o zz), hVn (nv - 1) (by omega) o zz]
                rfl
            have hX2 : RMX no (nv + 1) ns (upN V nv (mrg (V (S i).1) (S i) (V (nv - 1)))) S LK RL (gathL (V (S i).1) (S i).2.1 (V (nv - 1)) 60) (mkM (mrg (V (S i).1) (S i) (V (nv - 1))) (V (nv - 1)) M) f3 g3 fB fO fW fV fN cO cF cH cV fS f2 lO lA rA rB rD fM2 := ⟨hX1.1, hX1.2.1, hX1.2.2.1, hX1.2.2.2.1, xL, xR, hC9, hM6⟩
            have hX3 := hX2.close hi
            refine lv_aload_n hx hb dX10_joins_74 rfl (lv_at hl 2 rfl) ?_
            refine fh_get (C := RX10) (T := TX10) (N := 28) hx hb ht inX10 hown hE.1 hP hM5.m rfl 8 (by decide) (ht _ kw_698) (fun _ h9 => h9) (v := .ref (b 16)) rfl dX10_joins_75 ?_
            refine lv_iload_n hx hb dX10_joins_78 rfl (lv_at hl 3 rfl) ?_
            refine lv_iconst (v := (nI 0)) hx hb dX10_joins_79 (by decide) ?_
            refine fh_zast (k := i) hx hb hE.1 hP hS hM5.a16 (hM5.A16) rfl (hi2) (by decide) dX10_joins_80 (fun H locs hP hz hS => ?_)
            obtain ⟨h_3, eh_3⟩ : ∃ z, z = fh_up u (b 16) (.inl (16, 20, .inl (upd fO i (vp_nar .boolean (nI 0))))) := ⟨_, rfl⟩
            have hP : fh_P G vwCl h_3 H := by rw [eh_3]; exact hP
            have hM_3 := MG.w16 hM5 (f2 := upd fO i (vp_nar .boolean (nI 0))) eh_3
            refine lv_aload_n hx hb dX10_joins_81 rfl (lv_at hl 2 rfl) ?_
            refine lv_iload_n hx hb dX10_joins_82 rfl (lv_at hl 3 rfl) ?_
            refine fh_cV (q := (RX10, TX10, 28)) (As := [.int (nI i)]) (rest := []) (b := ma) ⟨hx, hb, hml, hown, ht⟩ (m_dropL l G A h_3 _ hM_3.re i LK rfl hLk xL) (cwV 1 ht (gV kw_918 kw_920 kp_40 kw_5 kw_921) rfl rfl rfl yd_X10_dropLocks ⟨(Nat.le_of_ble_eq_true rfl), (Nat.le_of_ble_eq_true rfl)⟩) hP hE hS hM_3.m rfl rfl hl.1 rfl (Nat.le_of_ble_eq_true rfl) dX10_joins_83 ⟨(Nat.le_of_ble_eq_true rfl), (Nat.le_of_ble_eq_true rfl)⟩ (fun v u2 H locs hp hP hz hS => ?_)
            obtain ⟨lO2, lA2, rfl, hM7, hL7⟩ := hp
            refine W.eq (g2 := F0 m 86 ls []) rfl ?_
            have hM8 := MG.tr hM_3.kept hM7
            refine lv_iconst (v := (nI 0)) hx hb dX10_joins_86 (by decide) ?_
            exact fh_iret hx hb hr hlocks (⟨by rw [eo2], by rw [eo2]; exact ⟨_, _, _, _, _, _, _, _, _, _, _, _, _, _, _, _, _, _, _, _, hM8, ⟨hX3.1, hX3.2.1, hX3.2.2.1, hX3.2.2.2.1, hL7, xR, hC9, hM6⟩⟩⟩) hP hS (Nat.le_of_ble_eq_true rfl) (Nat.le_of_ble_eq_true rfl) dX10_joins_87
          | succ n ih =>
            intro o2 hin hh f3 g3 hM9 zf j1 j2 j3 j4 H locs ls hP hS hl
            have ho : o2 < no := by omega
            have uT2 := uT.row (show o2 < 60 by omega)
            have uB2 := uB.row (show o2 < 60 by omega)
            have r4 := j4 o2 (Nat.le_refl o2) (by omega)
            refine lv_iload_n hx hb dX10_joins_50 rfl (lv_at hl 0 rfl) ?_
            refine lv_aload_n hx hb dX10_joins_51 rfl (lv_at hl 2 rfl) ?_
            refine fh_get (C := RX10) (T := TX10) (N := 28) hx hb ht inX10 hown hE.1 hP hM9.m rfl 1 (by decide) (ht _ kw_691) (fun _ h9 => h9) (v := .int (nI no)) rfl dX10_joins_52 ?_
            refine lv_icmp_ge (tgt := 70) hx hb dX10_joins_55 (by decide) (fun c9 => absurd c9 (nI_ge ho (by omega))) (fun _ => ?_)
            refine lv_aload_n hx hb dX10_joins_58 rfl (lv_at hl 2 rfl) ?_
            refine lv_iload_n hx hb dX10_joins_59 rfl (lv_at hl 3 rfl) ?_
            refine lv_iload_n hx hb dX10_joins_60 rfl (lv_at hl 0 rfl) ?_
            refine fh_cV (q := (RX10, TX10, 28)) (As := [.int (nI i), .int (nI o2)]) (rest := []) (b := ma) ⟨hx, hb, hml, hown, ht⟩ (m_merge l G A hh _ hM9.re i o2 (S i).1 hi2 (by omega) s1 (by omega) (Nat.succ_pos nv) (by omega) zf zW ((V (S i).1) o2) ((S i).2.1 o2) ((V (nv - 1)) o2) ⟨(j1 _ (by omega)).trans uB2.1, fun r hr k hk => (j2 _ (by omega)).trans (uB2.2 r hr k hk)⟩ (s3.row (by omega)) ⟨r4.1.trans uT2.1, fun r hr k hk => (r4.2 k hk).trans (uT2.2 r hr k hk)⟩ (by show _ < nv; exact hbi) (gathL (V (S i).1) (S i).2.1 (V (nv - 1)) 60) rfl hC9 (by omega) (fun q hq => gathL_mem hq) (S i).2.2.2.2 s8 (fun k hk => by rw [gathL_iff]; exact ⟨fun q => ⟨q.2.2.1, q.2.2.2⟩, fun q => ⟨by omega, hk, q⟩⟩) (fun q1 q2 => hmd o2 q1 q2)) (cwV 2 ht (gV kw_898 kw_900 kp_35 kw_5 kw_901) rfl rfl rfl yd_X10_merge ⟨(Nat.le_of_ble_eq_true rfl), (Nat.le_of_ble_eq_true rfl)⟩) hP hE hS hM9.m rfl rfl hl.1 rfl (Nat.le_of_ble_eq_true rfl) dX10_joins_61 ⟨(Nat.le_of_ble_eq_true rfl), (Nat.le_of_ble_eq_true rfl)⟩ (fun v u H locs hp hP hz hS => ?_)
            obtain ⟨f4, g4, rfl, hM4, zf4, k1, k2, k3⟩ := hp
            refine W.eq (g2 := F0 m 64 ls []) rfl ?_
            have hM5 := MG.tr hM9.kept hM4
            have k2 : ∀ x, x ≠ 60 * nv + o2 → f4 x = f3 x := k2
            have k3 : ∀ x, (x < 360 * nv + 6 * o2 ∨ 360 * nv + 6 * o2 + 6 ≤ x) → g4 x = g3 x := k3
            refine lv_iinc (v := nI (o2 + 1)) (lv' := [(3, .int (nI (o2 + 1))), (2, .int (nI (unsN (S i).2.2.2.2 (gathL (V (S i).1) (S i).2.1 (V (nv - 1)) 60)))), (0, .ref ma), (1, .int (nI i))]) hx hb dX10_joins_64 hl (k := 0) rfl (nI_1 _) (by decide) rfl (fun ls hl => ?_)
            refine lv_goto (tgt := 50) hx hb dX10_joins_67 (by decide) ?_
            exact ih (o2 + 1) (by omega) u f4 g4 hM5 zf4 (fun x hx => (k2 x (by omega)).trans (j1 x hx)) (fun x hx => (k3 x (Or.inl (by omega))).trans (j2 x hx)) (lt_s (fun q hq => ⟨(k2 _ (by omega)).trans (j3 q hq).1, fun r hr k hk => (k3 _ (Or.inl (by omega))).trans ((j3 q hq).2 r hr k hk)⟩) k1) (fun q hq h6 => ⟨(k2 _ (by omega)).trans (j4 q (by omega) h6).1, fun k hk => (k3 _ (Or.inr (by omega))).trans ((j4 q (by omega) h6).2 k hk)⟩) H locs ls hP hS (lv_sub hl [0, 1, 2, 3] rfl)
        exact lop2 no 0 (by omega) u fH2 fF2 hM3 zH2 c2 c4 (fun q hq => absurd hq (Nat.not_lt_zero q)) (fun q _ h6 => ⟨c1 q h6, fun k hk => by rw [Nat.add_assoc, c3 _ (by omega), Nat.add_assoc]⟩) _ _ _ hP hS hl
      · have d2 : ¬ unsN (S i).2.2.2.2 (gathL (V (S i).1) (S i).2.1 (V (nv - 1)) 60) = 0 := fun z => d1 (by rw [z]; decide)
        have eo2 : (oTry nv V S LK M i) = (unsN (S i).2.2.2.2 (gathL (V (S i).1) (S i).2.1 (V (nv - 1)) 60), nv, V, S, LK, (gathL (V (S i).1) (S i).2.1 (V (nv - 1)) 60), M) := by unfold oTry; rw [if_neg d2]
        refine lv_iload_n hx hb dX10_joins_42 rfl (lv_at hl 0 rfl) ?_
        exact fh_iret hx hb hr hlocks (⟨by rw [eo2], by rw [eo2]; exact ⟨_, _, _, _, _, _, _, _, _, _, _, _, _, _, _, _, _, _, _, _, hM9, ⟨hX.1, hX.2.1, hX.2.2.1, hX.2.2.2.1, xL, xR, hC9, xM⟩⟩⟩) hP hS (Nat.le_of_ble_eq_true rfl) (Nat.le_of_ble_eq_true rfl) dX10_joins_43
    | succ n ih =>
      intro o hin hh f2 hM9 hC9 H locs ls hP hS hl
      have ho : o < no := by omega
      refine lv_iload_n hx hb dX10_joins_12 rfl (lv_at hl 0 rfl) ?_
      refine lv_aload_n hx hb dX10_joins_13 rfl (lv_at hl 1 rfl) ?_
      refine fh_get (C := RX10) (T := TX10) (N := 28) hx hb ht inX10 hown hE.1 hP hM9.m rfl 1 (by decide) (ht _ kw_691) (fun _ h9 => h9) (v := .int (nI no)) rfl dX10_joins_14 ?_
      refine lv_icmp_ge (tgt := 32) hx hb dX10_joins_17 (by decide) (fun c9 => absurd c9 (nI_ge ho (by omega))) (fun _ => ?_)
      refine lv_aload_n hx hb dX10_joins_20 rfl (lv_at hl 1 rfl) ?_
      refine lv_iload_n hx hb dX10_joins_21 rfl (lv_at hl 2 rfl) ?_
      refine lv_iload_n hx hb dX10_joins_22 rfl (lv_at hl 0 rfl) ?_
      refine fh_cV (q := (RX10, TX10, 28)) (As := [.int (nI i), .int (nI o)]) (rest := []) (b := ma) ⟨hx, hb, hml, hown, ht⟩ (m_find l G A hh _ hM9.re i o (S i).1 hi2 (by omega) s1 (by omega) hnv0 hnv zH zW ((V (S i).1) o) ((S i).2.1 o) ((V (nv - 1)) o) (uB.row (by omega)) (s3.row (by omega)) (uT.row (by omega)) (gathL (V (S i).1) (S i).2.1 (V (nv - 1)) o) rfl hC9 (gathL_len _ _ _ o)) (cwV 2 ht (gV kw_854 kw_856 kp_24 kw_5 kw_857) rfl rfl rfl yd_X10_findConflicts ⟨(Nat.le_of_ble_eq_true rfl), (Nat.le_of_ble_eq_true rfl)⟩) hP hE hS hM9.m rfl rfl hl.1 rfl (Nat.le_of_ble_eq_true rfl) dX10_joins_23 ⟨(Nat.le_of_ble_eq_true rfl), (Nat.le_of_ble_eq_true rfl)⟩ (fun v u H locs hp hP hz hS => ?_)
      obtain ⟨f3, rfl, hM2, hC2⟩ := hp
      refine W.eq (g2 := F0 m 26 ls []) rfl ?_
      have hM3 := MG.tr hM9.kept hM2
      refine lv_iinc (v := nI (o + 1)) (lv' := [(2, .int (nI (o + 1))), (0, .ref ma), (1, .int (nI i))]) hx hb dX10_joins_26 hl (k := 0) rfl (nI_1 _) (by decide) rfl (fun ls hl => ?_)
      refine lv_goto (tgt := 12) hx hb dX10_joins_29 (by decide) ?_
      exact ih (o + 1) (by omega) u f3 hM3 hC2 H locs ls hP hS (lv_sub hl [0, 1, 2] rfl)
  exact loop no 0 (by omega) h_2 fC hM_2 (fun k p9 h9 => by simp [gathL] at h9) _ _ _ hP hS hl

set_option maxRecDepth 100000 in
set_option maxHeartbeats 4000000 in
theorem q_join (l : Launch) (G : fG) (A : Nat → Prop) (h : FH) (sz : Nat) (ma : Nat) (b : Nat → Nat) (th : Int32) (no nv ns : Nat) (V : Vs) (S : Ss) (LK : List Ar) (RL : Rl) (J : Nat) (C : CL) (M : Nat → Int32) (hp0 : RepM A h h ma b th no nv ns V S LK RL J C M) (hB9 : Bd no nv ns S RL J C) (hLk : LK.length ≤ 10) (hVn : ∀ v, v < nv → ∀ o, no ≤ o → V v o = none) (hMz : ∀ o, V (nv - 1) o = none → M o = 0) (hSn : ∀ i, i < ns → ∀ o, no ≤ o → (S i).2.1 o = none) (hmd : ∀ i, i < ns → (S i).2.2.1 = true → ∀ o, V (S i).1 o = none → (S i).2.1 o ≠ none → V (nv - 1) o = none) (x : Int32) : Met l yX10_join wsX10_join { frames := 5, cells := 0, slots := 0, locals := 140 } (va_Pc [.ref ma, .int x] (fh_Pre G A h sz)) (fh_Q G (fun v u => ∃ ans : Int32, v = some (.int ans) ∧ ((oJoin nv ns V S LK J C M x).1 = 0 → ans = (oJoin nv ns V S LK J C M x).2.1) ∧ RepM A h u ma b (nI (oJoin nv ns V S LK J C M x).1) no ((oJoin nv ns V S LK J C M x).2.2.1) ns ((oJoin nv ns V S LK J C M x).2.2.2.1) ((oJoin nv ns V S LK J C M x).2.2.2.2.1) ((oJoin nv ns V S LK J C M x).2.2.2.2.2.1) RL ((oJoin nv ns V S LK J C M x).2.2.2.2.2.2.1) ((oJoin nv ns V S LK J C M x).2.2.2.2.2.2.2.1) ((oJoin nv ns V S LK J C M x).2.2.2.2.2.2.2.2)) A) 0 0 A := by
  refine fh_Met [.ref ma, .int x] (by decide) rfl (Nat.le_of_ble_eq_true rfl) ?_
  intro p e s m below meth c hx hb hr hlocks hml hown hnm hts hsz hP hE hS ls hl
  have ht : ∀ w ∈ wB, w.before _ s = true := fun w h9 => hts w (List.mem_cons_of_mem _ h9)
  have hl : lv_has ls 2 [(0, .ref ma), (1, .int x)] := hl
  obtain ⟨fK, fH, fF, fB, fO, fW, fV, fN, cO, cF, cH, cV, fS, fC, lO, lA, rA, rB, rD, fM, hM, hX⟩ := hp0
  obtain ⟨hno, hnv, hnv0, hns, hbs, hCl, hCb, hJ, hRn, hRb⟩ := id hB9
  obtain ⟨⟨zH, zO, zW, zcH⟩, xV, xS, xN, xL, xR, xC, xM⟩ := id hX
  cases hxx : ix x ns with
  | none =>
    refine lv_aload_n hx hb dX10_join_0 rfl (lv_at hl 0 rfl) ?_
    refine lv_aload_n hx hb dX10_join_1 rfl (lv_at hl 0 rfl) ?_
    refine lv_iload_n hx hb dX10_join_2 rfl (lv_at hl 1 rfl) ?_
    refine fh_cV (q := (RX10, TX10, 28)) (As := [.int x]) (rest := [.ref ma]) (b := ma) ⟨hx, hb, hml, hown, ht⟩ (m_isSes l G A h _ hM.re hns x) (cwV 1 ht (gV kw_811 kw_813 kp_18 kw_5 kw_814) rfl rfl rfl yd_X10_isSession ⟨(Nat.le_of_ble_eq_true rfl), (Nat.le_of_ble_eq_true rfl)⟩) hP hE hS hM.m rfl rfl hl.1 rfl (Nat.le_of_ble_eq_true rfl) dX10_join_3 ⟨(Nat.le_of_ble_eq_true rfl), (Nat.le_of_ble_eq_true rfl)⟩ (fun v u H locs hp hP hz hS => ?_)
    obtain ⟨rfl, eu⟩ := hp
    rw [eu] at hP
    refine W.eq (g2 := F0 m 6 ls [.int (bI (ix x ns).isSome), .ref ma]) rfl ?_
    refine lv_if_ne (tgt := 13) hx hb dX10_join_6 (by decide) (fun c9 => absurd (by rw [hxx]; rfl) c9) (fun _ => ?_)
    refine lv_iconst (v := (nI 1)) hx hb dX10_join_9 (by decide) ?_
    refine lv_goto (tgt := 27) hx hb dX10_join_10 (by decide) ?_
    refine fh_put (C := RX10) (T := TX10) (N := 28) (t := .int) hx hb ht inX10 tyX10 tyX10_ok nmX10 hown hE.1 hP hS hM.m (hM.A0) rfl 0 (by decide) (ht _ kw_690) (fun _ h9 => h9) rfl (by decide +kernel) rfl rfl (Nat.le_of_ble_eq_true rfl) dX10_join_27 (fun H locs hP hz hS => ?_)
    obtain ⟨h_1, eh_1⟩ : ∃ z, z = fh_up h ma (.inr (10, [.int (nI 1), .int (nI no), .ref (b 12), .int (nI nv), .ref (b 13), .ref (b 14), .int (nI ns), .ref (b 15), .ref (b 16), .ref (b 17), .ref (b 18), .ref (b 19), .ref (b 20), .ref (b 21), .ref (b 22), .ref (b 23), .ref (b 24), .int (nI J), .int (nI C.length), .ref (b 25), .int (nI LK.length), .ref (b 26), .ref (b 27), .int (nI RL.length), .ref (b 28), .ref (b 29), .ref (b 30), .ref (b 31)])) := ⟨_, rfl⟩
    have hP : fh_P G vwCl h_1 H := by rw [eh_1]; exact hP
    have hM_1 := MG.sc hM (th2 := (nI 1)) (no2 := no) (nv2 := nv) (ns2 := ns) (J2 := J) (nc2 := C.length) (nl2 := LK.length) (nr2 := RL.length) eh_1
    refine lv_aload_n hx hb dX10_join_30 rfl (lv_at hl 0 rfl) ?_
    refine fh_get (C := RX10) (T := TX10) (N := 28) hx hb ht inX10 hown hE.1 hP hM_1.m rfl 0 (by decide) (ht _ kw_690) (fun _ h9 => h9) (v := .int (nI 1)) rfl dX10_join_31 ?_
    refine lv_if_eq (tgt := 39) hx hb dX10_join_34 (by decide) (fun c9 => absurd c9 (by decide)) (fun _ => ?_)
    refine lv_iconst (v := (nI 0)) hx hb dX10_join_37 (by decide) ?_
    have ep : oJoin nv ns V S LK J C M x = (1, 0, nv, V, S, LK, J, C, M) := by simp [oJoin, hxx]
    exact fh_iret hx hb hr hlocks (⟨_, rfl, (fun z => by rw [ep] at z; cases z), by rw [ep]; exact ⟨_, _, _, _, _, _, _, _, _, _, _, _, _, _, _, _, _, _, _, _, hM_1, hX⟩⟩) hP hS (Nat.le_of_ble_eq_true rfl) (Nat.le_of_ble_eq_true rfl) dX10_join_38
  | some i =>
    obtain ⟨hi, rfl⟩ := ix_of (by omega) hxx
    have hi2 : i < 20 := by omega
    obtain ⟨s1, s2, s3, s4, s5, s6, s7, s8⟩ := xS i hi
    refine lv_aload_n hx hb dX10_join_0 rfl (lv_at hl 0 rfl) ?_
    refine lv_aload_n hx hb dX10_join_1 rfl (lv_at hl 0 rfl) ?_
    refine lv_iload_n hx hb dX10_join_2 rfl (lv_at hl 1 rfl) ?_
    refine fh_cV (q := (RX10, TX10, 28)) (As := [.int (nI i)]) (rest := [.ref ma]) (b := ma) ⟨hx, hb, hml, hown, ht⟩ (m_isSes l G A h _ hM.re hns (nI i)) (cwV 1 ht (gV kw_811 kw_813 kp_18 kw_5 kw_814) rfl rfl rfl yd_X10_isSession ⟨(Nat.le_of_ble_eq_true rfl), (Nat.le_of_ble_eq_true rfl)⟩) hP hE hS hM.m rfl rfl hl.1 rfl (Nat.le_of_ble_eq_true rfl) dX10_join_3 ⟨(Nat.le_of_ble_eq_true rfl), (Nat.le_of_ble_eq_true rfl)⟩ (fun v u H locs hp hP hz hS => ?_)
    obtain ⟨rfl, eu⟩ := hp
    rw [eu] at hP
    refine W.eq (g2 := F0 m 6 ls [.int (bI (ix (nI i) ns).isSome), .ref ma]) rfl ?_
    refine lv_if_ne (tgt := 13) hx hb dX10_join_6 (by decide) (fun _ => ?_) (fun c9 => absurd c9 (by rw [hxx]; show ¬ bI true = 0; decide))
    refine lv_aload_n hx hb dX10_join_13 rfl (lv_at hl 0 rfl) ?_
    refine fh_get (C := RX10) (T := TX10) (N := 28) hx hb ht inX10 hown hE.1 hP hM.m rfl 8 (by decide) (ht _ kw_698) (fun _ h9 => h9) (v := .ref (b 16)) rfl dX10_join_14 ?_
    refine lv_iload_n hx hb dX10_join_17 rfl (lv_at hl 1 rfl) ?_
    refine fh_zald (k := i) hx hb hE.1 hP hM.a16 rfl (by omega) (by decide) dX10_join_18 ?_
    rw [s2]
    refine lv_if_eq (tgt := 26) hx hb dX10_join_19 (by decide) (fun d1 => ?_) (fun d1 => ?_)
    · have e1 := bI_eq.mp d1
      refine lv_iconst (v := (nI 2)) hx hb dX10_join_26 (by decide) ?_
      refine fh_put (C := RX10) (T := TX10) (N := 28) (t := .int) hx hb ht inX10 tyX10 tyX10_ok nmX10 hown hE.1 hP hS hM.m (hM.A0) rfl 0 (by decide) (ht _ kw_690) (fun _ h9 => h9) rfl (by decide +kernel) rfl rfl (Nat.le_of_ble_eq_true rfl) dX10_join_27 (fun H locs hP hz hS => ?_)
      obtain ⟨h_1, eh_1⟩ : ∃ z, z = fh_up h ma (.inr (10, [.int (nI 2), .int (nI no), .ref (b 12), .int (nI nv), .ref (b 13), .ref (b 14), .int (nI ns), .ref (b 15), .ref (b 16), .ref (b 17), .ref (b 18), .ref (b 19), .ref (b 20), .ref (b 21), .ref (b 22), .ref (b 23), .ref (b 24), .int (nI J), .int (nI C.length), .ref (b 25), .int (nI LK.length), .ref (b 26), .ref (b 27), .int (nI RL.length), .ref (b 28), .ref (b 29), .ref (b 30), .ref (b 31)])) := ⟨_, rfl⟩
      have hP : fh_P G vwCl h_1 H := by rw [eh_1]; exact hP
      have hM_1 := MG.sc hM (th2 := (nI 2)) (no2 := no) (nv2 := nv) (ns2 := ns) (J2 := J) (nc2 := C.length) (nl2 := LK.length) (nr2 := RL.length) eh_1
      refine lv_aload_n hx hb dX10_join_30 rfl (lv_at hl 0 rfl) ?_
      refine fh_get (C := RX10) (T := TX10) (N := 28) hx hb ht inX10 hown hE.1 hP hM_1.m rfl 0 (by decide) (ht _ kw_690) (fun _ h9 => h9) (v := .int (nI 2)) rfl dX10_join_31 ?_
      refine lv_if_eq (tgt := 39) hx hb dX10_join_34 (by decide) (fun c9 => absurd c9 (by decide)) (fun _ => ?_)
      refine lv_iconst (v := (nI 0)) hx hb dX10_join_37 (by decide) ?_
      have ep : oJoin nv ns V S LK J C M (nI i) = (2, 0, nv, V, S, LK, J, C, M) := by simp [oJoin, hxx, e1]
      exact fh_iret hx hb hr hlocks (⟨_, rfl, (fun z => by rw [ep] at z; cases z), by rw [ep]; exact ⟨_, _, _, _, _, _, _, _, _, _, _, _, _, _, _, _, _, _, _, _, hM_1, hX⟩⟩) hP hS (Nat.le_of_ble_eq_true rfl) (Nat.le_of_ble_eq_true rfl) dX10_join_38
    · have e1 := bI_nz d1
      refine lv_iconst (v := (nI 0)) hx hb dX10_join_22 (by decide) ?_
      refine lv_goto (tgt := 27) hx hb dX10_join_23 (by decide) ?_
      refine fh_put (C := RX10) (T := TX10) (N := 28) (t := .int) hx hb ht inX10 tyX10 tyX10_ok nmX10 hown hE.1 hP hS hM.m (hM.A0) rfl 0 (by decide) (ht _ kw_690) (fun _ h9 => h9) rfl (by decide +kernel) rfl rfl (Nat.le_of_ble_eq_true rfl) dX10_join_27 (fun H locs hP hz hS => ?_)
      obtain ⟨h_1, eh_1⟩ : ∃ z, z = fh_up h ma (.inr (10, [.int (nI 0), .int (nI no), .ref (b 12), .int (nI nv), .ref (b 13), .ref (b 14), .int (nI ns), .ref (b 15), .ref (b 16), .ref (b 17), .ref (b 18), .ref (b 19), .ref (b 20), .ref (b 21), .ref (b 22), .ref (b 23), .ref (b 24), .int (nI J), .int (nI C.length), .ref (b 25), .int (nI LK.length), .ref (b 26), .ref (b 27), .int (nI RL.length), .ref (b 28), .ref (b 29), .ref (b 30), .ref (b 31)])) := ⟨_, rfl⟩
      have hP : fh_P G vwCl h_1 H := by rw [eh_1]; exact hP
      have hM_1 := MG.sc hM (th2 := (nI 0)) (no2 := no) (nv2 := nv) (ns2 := ns) (J2 := J) (nc2 := C.length) (nl2 := LK.length) (nr2 := RL.length) eh_1
      refine lv_aload_n hx hb dX10_join_30 rfl (lv_at hl 0 rfl) ?_
      refine fh_get (C := RX10) (T := TX10) (N := 28) hx hb ht inX10 hown hE.1 hP hM_1.m rfl 0 (by decide) (ht _ kw_690) (fun _ h9 => h9) (v := .int (nI 0)) rfl dX10_join_31 ?_
      refine lv_if_eq (tgt := 39) hx hb dX10_join_34 (by decide) (fun _ => ?_) (fun c9 => absurd (rfl) c9)
      refine lv_aload_n hx hb dX10_join_39 rfl (lv_at hl 0 rfl) ?_
      refine fh_get (C := RX10) (T := TX10) (N := 28) hx hb ht inX10 hown hE.1 hP hM_1.m rfl 3 (by decide) (ht _ kw_693) (fun _ h9 => h9) (v := .int (nI nv)) rfl dX10_join_40 ?_
      refine lv_bipush (v := (nI 40)) hx hb dX10_join_43 (by decide) ?_
      refine lv_icmp_ne (tgt := 52) hx hb dX10_join_45 (by decide) (fun d2 => ?_) (fun d2 => ?_)
      · have e2 : nv < 40 := by
          rcases Nat.lt_or_ge nv 40 with z | z
          · exact z
          · exact absurd (congrArg nI (show nv = 40 by omega)) d2
        refine lv_aload_n hx hb dX10_join_52 rfl (lv_at hl 0 rfl) ?_
        refine lv_iload_n hx hb dX10_join_53 rfl (lv_at hl 1 rfl) ?_
        refine fh_cV (q := (RX10, TX10, 28)) (As := [.int (nI i)]) (rest := []) (b := ma) ⟨hx, hb, hml, hown, ht⟩ (m_joins l G A h_1 _ ma b (nI 0) no nv ns V S LK RL J C M ⟨_, _, _, _, _, _, _, _, _, _, _, _, _, _, _, _, _, _, _, _, hM_1.re, hX⟩ hB9 hLk hVn hMz i hi (hSn i hi) (hmd i hi e1) e2) (cwV 1 ht (gV kw_850 kw_852 kp_23 kw_5 kw_853) rfl rfl rfl yd_X10_joins ⟨(Nat.le_of_ble_eq_true rfl), (Nat.le_of_ble_eq_true rfl)⟩) hP hE hS hM_1.m rfl rfl hl.1 rfl (Nat.le_of_ble_eq_true rfl) dX10_join_54 ⟨(Nat.le_of_ble_eq_true rfl), (Nat.le_of_ble_eq_true rfl)⟩ (fun v u H locs hp hP hz hS => ?_)
        obtain ⟨rfl, fK9, fH9, fF9, fB9, fO9, fW9, fV9, fN9, cO9, cF9, cH9, cV9, fS9, fC9, lO9, lA9, rA9, rB9, rD9, fM9, hM8, hX8⟩ := hp
        refine W.eq (g2 := F0 m 57 ls [.int (nI (oTry nv V S LK M i).1)]) rfl ?_
        have hM9 := MG.tr hM_1.kept hM8
        have ep : oJoin nv ns V S LK J C M (nI i) = (0, nI (oTry nv V S LK M i).1, (oTry nv V S LK M i).2.1, (oTry nv V S LK M i).2.2.1, (oTry nv V S LK M i).2.2.2.1, (oTry nv V S LK M i).2.2.2.2.1, i, (oTry nv V S LK M i).2.2.2.2.2.1, (oTry nv V S LK M i).2.2.2.2.2.2) := by simp [oJoin, hxx, e1, Nat.ne_of_lt e2]
        generalize hjr : oTry nv V S LK M i = jr at hM9 hX8 ep ⊢
        exact fh_iret hx hb hr hlocks (⟨_, rfl, fun _ => (by rw [ep]), by rw [ep]; exact ⟨_, _, _, _, _, _, _, _, _, _, _, _, _, _, _, _, _, _, _, _, hM9, hX8⟩⟩) hP hS (Nat.le_of_ble_eq_true rfl) (Nat.le_of_ble_eq_true rfl) dX10_join_57
      · have e2 : nv = 40 := (nI_eq (by omega) (by decide)).mp d2
        refine lv_iconst (v := (-1)) hx hb dX10_join_48 (by decide) ?_
        refine lv_goto (tgt := 57) hx hb dX10_join_49 (by decide) ?_
        have ep : oJoin nv ns V S LK J C M (nI i) = (0, -1, nv, V, S, LK, J, C, M) := by simp [oJoin, hxx, e1, e2]
        exact fh_iret hx hb hr hlocks (⟨_, rfl, fun _ => (by rw [ep] <;> rfl), by rw [ep]; exact ⟨_, _, _, _, _, _, _, _, _, _, _, _, _, _, _, _, _, _, _, _, hM_1, hX⟩⟩) hP hS (by first | exact (Nat.le_of_ble_eq_true rfl) | omega) (by first | exact (Nat.le_of_ble_eq_true rfl) | omega) dX10_join_57
