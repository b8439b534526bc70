set_option maxRecDepth 100000 in
set_option maxHeartbeats 4000000 in
theorem q_lock (l : Launch) (G : fG) (A : Nat → Prop) (h : FH) (sz : Nat) (ma : Nat) (b : Nat → Nat) (th : Int32) (no nv ns : Nat) (V : Vs) (S : Ss) (LK : List Ar) (RL : Rl) (J : Nat) (C : CL) (M : Nat → Int32) (hp0 : RepM A h h ma b th no nv ns V S LK RL J C M) (hB9 : Bd no nv ns S RL J C) (hLk : LK.length ≤ 10) (x : Int32) (x0 y0 x1 y1 : Int64) : Met l yX10_lock wsX10_lock { frames := 2, cells := 0, slots := 0, locals := 65 } (va_Pc [.ref ma, .int x, .long x0, .long y0, .long x1, .long y1] (fh_Pre G A h sz)) (fh_Q G (fun v u => ∃ ans : Int32, v = some (.int ans) ∧ ((oLock ns S LK x x0 y0 x1 y1).1 = 0 → ans = bI (oLock ns S LK x x0 y0 x1 y1).2.1) ∧ RepM A h u ma b (nI (oLock ns S LK x x0 y0 x1 y1).1) no nv ns V S ((oLock ns S LK x x0 y0 x1 y1).2.2) RL J C M) A) 0 0 A := by
  refine fh_Met [.ref ma, .int x, .long x0, .long y0, .long x1, .long y1] (by decide) rfl (Nat.le_of_ble_eq_true rfl) ?_
  intro p e s m below meth c hx hb hr hlocks hml hown hnm hts hsz hP hE hS ls hl
  have ht : ∀ w ∈ wB, w.before _ s = true := fun w h9 => hts w (List.mem_cons_of_mem _ h9)
  have hl : lv_has ls 12 [(0, .ref ma), (1, .int x), (2, .long x0), (4, .long y0), (6, .long x1), (8, .long y1)] := hl
  obtain ⟨fK, fH, fF, fB, fO, fW, fV, fN, cO, cF, cH, cV, fS, fC, lO, lA, rA, rB, rD, fM, hM, hX⟩ := hp0
  obtain ⟨hno, hnv, hnv0, hns, hbs, hCl, hCb, hJ, hRn, hRb⟩ := id hB9
  obtain ⟨⟨zH, zO, zW, zcH⟩, xV, xS, xN, xL, xR, xC, xM⟩ := id hX
  cases hxx : ix x ns with
  | none =>
    refine lv_aload_n hx hb dX10_lock_0 rfl (lv_at hl 0 rfl) ?_
    refine lv_aload_n hx hb dX10_lock_1 rfl (lv_at hl 0 rfl) ?_
    refine lv_iload_n hx hb dX10_lock_2 rfl (lv_at hl 1 rfl) ?_
    refine fh_cV (q := (RX10, TX10, 28)) (As := [.int x]) (rest := [.ref ma]) (b := ma) ⟨hx, hb, hml, hown, ht⟩ (m_isSes l G A h _ hM.re hns x) (cwV 1 ht (gV kw_811 kw_813 kp_18 kw_5 kw_814) rfl rfl rfl yd_X10_isSession ⟨(Nat.le_of_ble_eq_true rfl), (Nat.le_of_ble_eq_true rfl)⟩) hP hE hS hM.m rfl rfl hl.1 rfl (Nat.le_of_ble_eq_true rfl) dX10_lock_3 ⟨(Nat.le_of_ble_eq_true rfl), (Nat.le_of_ble_eq_true rfl)⟩ (fun v u H locs hp hP hz hS => ?_)
    obtain ⟨rfl, eu⟩ := hp
    rw [eu] at hP
    refine W.eq (g2 := F0 m 6 ls [.int (bI (ix x ns).isSome), .ref ma]) rfl ?_
    refine lv_if_ne (tgt := 13) hx hb dX10_lock_6 (by decide) (fun c9 => absurd (by rw [hxx]; rfl) c9) (fun _ => ?_)
    refine lv_iconst (v := (nI 1)) hx hb dX10_lock_9 (by decide) ?_
    refine lv_goto (tgt := 27) hx hb dX10_lock_10 (by decide) ?_
    refine fh_put (C := RX10) (T := TX10) (N := 28) (t := .int) hx hb ht inX10 tyX10 tyX10_ok nmX10 hown hE.1 hP hS hM.m (hM.A0) rfl 0 (by decide) (ht _ kw_690) (fun _ h9 => h9) rfl (by decide +kernel) rfl rfl (Nat.le_of_ble_eq_true rfl) dX10_lock_27 (fun H locs hP hz hS => ?_)
    obtain ⟨h_1, eh_1⟩ : ∃ z, z = fh_up h ma (.inr (10, [.int (nI 1), .int (nI no), .ref (b 12), .int (nI nv), .ref (b 13), .ref (b 14), .int (nI ns), .ref (b 15), .ref (b 16), .ref (b 17), .ref (b 18), .ref (b 19), .ref (b 20), .ref (b 21), .ref (b 22), .ref (b 23), .ref (b 24), .int (nI J), .int (nI C.length), .ref (b 25), .int (nI LK.length), .ref (b 26), .ref (b 27), .int (nI RL.length), .ref (b 28), .ref (b 29), .ref (b 30), .ref (b 31)])) := ⟨_, rfl⟩
    have hP : fh_P G vwCl h_1 H := by rw [eh_1]; exact hP
    have hM_1 := MG.sc hM (th2 := (nI 1)) (no2 := no) (nv2 := nv) (ns2 := ns) (J2 := J) (nc2 := C.length) (nl2 := LK.length) (nr2 := RL.length) eh_1
    refine lv_aload_n hx hb dX10_lock_30 rfl (lv_at hl 0 rfl) ?_
    refine fh_get (C := RX10) (T := TX10) (N := 28) hx hb ht inX10 hown hE.1 hP hM_1.m rfl 0 (by decide) (ht _ kw_690) (fun _ h9 => h9) (v := .int (nI 1)) rfl dX10_lock_31 ?_
    refine lv_if_ne (tgt := 61) hx hb dX10_lock_34 (by decide) (fun _ => ?_) (fun c9 => absurd c9 (by decide))
    refine lv_iconst (v := (nI 0)) hx hb dX10_lock_61 (by decide) ?_
    have ep : oLock ns S LK x x0 y0 x1 y1 = (1, false, LK) := by simp [oLock, hxx]
    exact fh_zret hx hb hr hlocks rfl (⟨_, rfl, (fun z => by rw [ep] at z; cases z), by rw [ep]; exact ⟨_, _, _, _, _, _, _, _, _, _, _, _, _, _, _, _, _, _, _, _, hM_1, hX⟩⟩) hP hS (Nat.le_of_ble_eq_true rfl) (Nat.le_of_ble_eq_true rfl) dX10_lock_62
  | some i =>
    obtain ⟨hi, rfl⟩ := ix_of (by omega) hxx
    have hi2 : i < 20 := by omega
    obtain ⟨s1, s2, s3, s4, s5, s6, s7, s8⟩ := xS i hi
    refine lv_aload_n hx hb dX10_lock_0 rfl (lv_at hl 0 rfl) ?_
    refine lv_aload_n hx hb dX10_lock_1 rfl (lv_at hl 0 rfl) ?_
    refine lv_iload_n hx hb dX10_lock_2 rfl (lv_at hl 1 rfl) ?_
    refine fh_cV (q := (RX10, TX10, 28)) (As := [.int (nI i)]) (rest := [.ref ma]) (b := ma) ⟨hx, hb, hml, hown, ht⟩ (m_isSes l G A h _ hM.re hns (nI i)) (cwV 1 ht (gV kw_811 kw_813 kp_18 kw_5 kw_814) rfl rfl rfl yd_X10_isSession ⟨(Nat.le_of_ble_eq_true rfl), (Nat.le_of_ble_eq_true rfl)⟩) hP hE hS hM.m rfl rfl hl.1 rfl (Nat.le_of_ble_eq_true rfl) dX10_lock_3 ⟨(Nat.le_of_ble_eq_true rfl), (Nat.le_of_ble_eq_true rfl)⟩ (fun v u H locs hp hP hz hS => ?_)
    obtain ⟨rfl, eu⟩ := hp
    rw [eu] at hP
    refine W.eq (g2 := F0 m 6 ls [.int (bI (ix (nI i) ns).isSome), .ref ma]) rfl ?_
    refine lv_if_ne (tgt := 13) hx hb dX10_lock_6 (by decide) (fun _ => ?_) (fun c9 => absurd c9 (by rw [hxx]; show ¬ bI true = 0; decide))
    refine lv_aload_n hx hb dX10_lock_13 rfl (lv_at hl 0 rfl) ?_
    refine fh_get (C := RX10) (T := TX10) (N := 28) hx hb ht inX10 hown hE.1 hP hM.m rfl 8 (by decide) (ht _ kw_698) (fun _ h9 => h9) (v := .ref (b 16)) rfl dX10_lock_14 ?_
    refine lv_iload_n hx hb dX10_lock_17 rfl (lv_at hl 1 rfl) ?_
    refine fh_zald (k := i) hx hb hE.1 hP hM.a16 rfl (by omega) (by decide) dX10_lock_18 ?_
    rw [s2]
    refine lv_if_eq (tgt := 26) hx hb dX10_lock_19 (by decide) (fun d1 => ?_) (fun d1 => ?_)
    · have e1 := bI_eq.mp d1
      refine lv_iconst (v := (nI 2)) hx hb dX10_lock_26 (by decide) ?_
      refine fh_put (C := RX10) (T := TX10) (N := 28) (t := .int) hx hb ht inX10 tyX10 tyX10_ok nmX10 hown hE.1 hP hS hM.m (hM.A0) rfl 0 (by decide) (ht _ kw_690) (fun _ h9 => h9) rfl (by decide +kernel) rfl rfl (Nat.le_of_ble_eq_true rfl) dX10_lock_27 (fun H locs hP hz hS => ?_)
      obtain ⟨h_1, eh_1⟩ : ∃ z, z = fh_up h ma (.inr (10, [.int (nI 2), .int (nI no), .ref (b 12), .int (nI nv), .ref (b 13), .ref (b 14), .int (nI ns), .ref (b 15), .ref (b 16), .ref (b 17), .ref (b 18), .ref (b 19), .ref (b 20), .ref (b 21), .ref (b 22), .ref (b 23), .ref (b 24), .int (nI J), .int (nI C.length), .ref (b 25), .int (nI LK.length), .ref (b 26), .ref (b 27), .int (nI RL.length), .ref (b 28), .ref (b 29), .ref (b 30), .ref (b 31)])) := ⟨_, rfl⟩
      have hP : fh_P G vwCl h_1 H := by rw [eh_1]; exact hP
      have hM_1 := MG.sc hM (th2 := (nI 2)) (no2 := no) (nv2 := nv) (ns2 := ns) (J2 := J) (nc2 := C.length) (nl2 := LK.length) (nr2 := RL.length) eh_1
      refine lv_aload_n hx hb dX10_lock_30 rfl (lv_at hl 0 rfl) ?_
      refine fh_get (C := RX10) (T := TX10) (N := 28) hx hb ht inX10 hown hE.1 hP hM_1.m rfl 0 (by decide) (ht _ kw_690) (fun _ h9 => h9) (v := .int (nI 2)) rfl dX10_lock_31 ?_
      refine lv_if_ne (tgt := 61) hx hb dX10_lock_34 (by decide) (fun _ => ?_) (fun c9 => absurd c9 (by decide))
      refine lv_iconst (v := (nI 0)) hx hb dX10_lock_61 (by decide) ?_
      have ep : oLock ns S LK (nI i) x0 y0 x1 y1 = (2, false, LK) := by simp [oLock, hxx, e1]
      exact fh_zret hx hb hr hlocks rfl (⟨_, rfl, (fun z => by rw [ep] at z; cases z), by rw [ep]; exact ⟨_, _, _, _, _, _, _, _, _, _, _, _, _, _, _, _, _, _, _, _, hM_1, hX⟩⟩) hP hS (Nat.le_of_ble_eq_true rfl) (Nat.le_of_ble_eq_true rfl) dX10_lock_62
    · have e1 := bI_nz d1
      refine lv_iconst (v := (nI 0)) hx hb dX10_lock_22 (by decide) ?_
      refine lv_goto (tgt := 27) hx hb dX10_lock_23 (by decide) ?_
      refine fh_put (C := RX10) (T := TX10) (N := 28) (t := .int) hx hb ht inX10 tyX10 tyX10_ok nmX10 hown hE.1 hP hS hM.m (hM.A0) rfl 0 (by decide) (ht _ kw_690) (fun _ h9 => h9) rfl (by decide +kernel) rfl rfl (Nat.le_of_ble_eq_true rfl) dX10_lock_27 (fun H locs hP hz hS => ?_)
      obtain ⟨h_1, eh_1⟩ : ∃ z, z = fh_up h ma (.inr (10, [.int (nI 0), .int (nI no), .ref (b 12), .int (nI nv), .ref (b 13), .ref (b 14), .int (nI ns), .ref (b 15), .ref (b 16), .ref (b 17), .ref (b 18), .ref (b 19), .ref (b 20), .ref (b 21), .ref (b 22), .ref (b 23), .ref (b 24), .int (nI J), .int (nI C.length), .ref (b 25), .int (nI LK.length), .ref (b 26), .ref (b 27), .int (nI RL.length), .ref (b 28), .ref (b 29), .ref (b 30), .ref (b 31)])) := ⟨_, rfl⟩
      have hP : fh_P G vwCl h_1 H := by rw [eh_1]; exact hP
      have hM_1 := MG.sc hM (th2 := (nI 0)) (no2 := no) (nv2 := nv) (ns2 := ns) (J2 := J) (nc2 := C.length) (nl2 := LK.length) (nr2 := RL.length) eh_1
      refine lv_aload_n hx hb dX10_lock_30 rfl (lv_at hl 0 rfl) ?_
      refine fh_get (C := RX10) (T := TX10) (N := 28) hx hb ht inX10 hown hE.1 hP hM_1.m rfl 0 (by decide) (ht _ kw_690) (fun _ h9 => h9) (v := .int (nI 0)) rfl dX10_lock_31 ?_
      refine lv_if_ne (tgt := 61) hx hb dX10_lock_34 (by decide) (fun c9 => absurd (rfl) c9) (fun _ => ?_)
      refine lv_lload_n hx hb dX10_lock_37 rfl (lv_at hl 2 rfl) ?_
      refine lv_lload hx hb dX10_lock_38 (lv_at hl 4 rfl) ?_
      refine W.lcmp hx hb dX10_lock_40 ?_
      refine lv_if_gt (tgt := 61) hx hb dX10_lock_41 (by decide) (fun d2 => ?_) (fun d2 => ?_)
      · have e2 := (lg_cmp_gt _ _).mp d2
        refine lv_iconst (v := (nI 0)) hx hb dX10_lock_61 (by decide) ?_
        have ep : oLock ns S LK (nI i) x0 y0 x1 y1 = (0, false, LK) := by simp [oLock, hxx, e1, e2]
        exact fh_zret hx hb hr hlocks rfl (⟨_, rfl, fun _ => (by rw [ep] <;> rfl), by rw [ep]; exact ⟨_, _, _, _, _, _, _, _, _, _, _, _, _, _, _, _, _, _, _, _, hM_1, hX⟩⟩) hP hS (by first | exact (Nat.le_of_ble_eq_true rfl) | omega) (by first | exact (Nat.le_of_ble_eq_true rfl) | omega) dX10_lock_62
      · have e2 := mt (lg_cmp_gt _ _).mpr d2
        refine lv_lload hx hb dX10_lock_44 (lv_at hl 3 rfl) ?_
        refine lv_lload hx hb dX10_lock_46 (lv_at hl 5 rfl) ?_
        refine W.lcmp hx hb dX10_lock_48 ?_
        refine lv_if_gt (tgt := 61) hx hb dX10_lock_49 (by decide) (fun d3 => ?_) (fun d3 => ?_)
        · have e3 := (lg_cmp_gt _ _).mp d3
          refine lv_iconst (v := (nI 0)) hx hb dX10_lock_61 (by decide) ?_
          have ep : oLock ns S LK (nI i) x0 y0 x1 y1 = (0, false, LK) := by simp [oLock, hxx, e1, e3]
          exact fh_zret hx hb hr hlocks rfl (⟨_, rfl, fun _ => (by rw [ep] <;> rfl), by rw [ep]; exact ⟨_, _, _, _, _, _, _, _, _, _, _, _, _, _, _, _, _, _, _, _, hM_1, hX⟩⟩) hP hS (by first | exact (Nat.le_of_ble_eq_true rfl) | omega) (by first | exact (Nat.le_of_ble_eq_true rfl) | omega) dX10_lock_62
        · have e3 := mt (lg_cmp_gt _ _).mpr d3
          refine lv_aload_n hx hb dX10_lock_52 rfl (lv_at hl 0 rfl) ?_
          refine fh_get (C := RX10) (T := TX10) (N := 28) hx hb ht inX10 hown hE.1 hP hM_1.m rfl 20 (by decide) (ht _ kw_710) (fun _ h9 => h9) (v := .int (nI LK.length)) rfl dX10_lock_53 ?_
          refine lv_bipush (v := (nI 10)) hx hb dX10_lock_56 (by decide) ?_
          refine lv_icmp_ne (tgt := 63) hx hb dX10_lock_58 (by decide) (fun d4 => ?_) (fun d4 => ?_)
          · have e4 : LK.length < 10 := by
              rcases Nat.lt_or_ge LK.length 10 with z | z
              · exact z
              · exact absurd (congrArg nI (show LK.length = 10 by omega)) d4
            refine lv_iconst (v := (nI 0)) hx hb dX10_lock_63 (by decide) ?_
            refine lv_istore (lv' := [(10, .int (nI 0)), (0, .ref ma), (1, .int (nI i)), (2, .long x0), (4, .long y0), (6, .long x1), (8, .long y1)]) hx hb dX10_lock_64 hl (by decide) rfl (fun ls hl => ?_)
            have loop : ∀ (n k : Nat), k + n = LK.length → ∀ (_ : (LK.take k).any (fun a : Ar => decide (a.1 ≠ nI i) && arMeets a.2.1 a.2.2.1 a.2.2.2.1 a.2.2.2.2 x0 y0 x1 y1) = false), ∀ (H : Heap) (locs : List Loc) (ls : Array Slot), fh_P G vwCl h_1 H → va_S A s.heap H locs → lv_has ls 12 [(10, .int (nI k)), (0, .ref ma), (1, .int (nI i)), (2, .long x0), (4, .long y0), (6, .long x1), (8, .long y1)] → W p l e (headSpec wsX10_lock { frames := 2, cells := 0, slots := 0, locals := 65 }).room s m [.ref ma, .int (nI i), .long x0, .long y0, .long x1, .long y1].toArray below meth c H locs 0 0 (MQ below (fh_Q G (fun v u => ∃ ans : Int32, v = some (.int ans) ∧ ((oLock ns S LK (nI i) x0 y0 x1 y1).1 = 0 → ans = bI (oLock ns S LK (nI i) x0 y0 x1 y1).2.1) ∧ RepM A h u ma b (nI (oLock ns S LK (nI i) x0 y0 x1 y1).1) no nv ns V S ((oLock ns S LK (nI i) x0 y0 x1 y1).2.2) RL J C M) A) [.ref ma, .int (nI i), .long x0, .long y0, .long x1, .long y1].toArray s 0 0 A) (F0 m 66 ls []) := by
              intro n
              induction n with
              | zero =>
                intro k hin hno9 H locs ls hP hS hl
                have e5 : lkMeets LK (nI i, x0, y0, x1, y1) = false := by unfold lkMeets; rw [← List.take_of_length_le (show LK.length ≤ k by omega)]; exact hno9
                refine lv_iload hx hb dX10_lock_66 (lv_at hl 0 rfl) ?_
                refine lv_aload_n hx hb dX10_lock_68 rfl (lv_at hl 1 rfl) ?_
                refine fh_get (C := RX10) (T := TX10) (N := 28) hx hb ht inX10 hown hE.1 hP hM_1.m rfl 20 (by decide) (ht _ kw_710) (fun _ h9 => h9) (v := .int (nI LK.length)) rfl dX10_lock_69 ?_
                refine lv_icmp_ge (tgt := 171) hx hb dX10_lock_72 (by decide) (fun _ => ?_) (fun c9 => absurd (nI_le (by omega) (by omega)) c9)
                refine lv_aload_n hx hb dX10_lock_171 rfl (lv_at hl 1 rfl) ?_
                refine fh_get (C := RX10) (T := TX10) (N := 28) hx hb ht inX10 hown hE.1 hP hM_1.m rfl 21 (by decide) (ht _ kw_711) (fun _ h9 => h9) (v := .ref (b 26)) rfl dX10_lock_172 ?_
                refine lv_aload_n hx hb dX10_lock_175 rfl (lv_at hl 1 rfl) ?_
                refine fh_get (C := RX10) (T := TX10) (N := 28) hx hb ht inX10 hown hE.1 hP hM_1.m rfl 20 (by decide) (ht _ kw_710) (fun _ h9 => h9) (v := .int (nI LK.length)) rfl dX10_lock_176 ?_
                refine lv_iload_n hx hb dX10_lock_179 rfl (lv_at hl 2 rfl) ?_
                refine fh_iast (k := LK.length) hx hb hE.1 hP hS hM_1.a26 (hM_1.A26) rfl (by omega) (by decide) dX10_lock_180 (fun H locs hP hz hS => ?_)
                obtain ⟨h_2, eh_2⟩ : ∃ z, z = fh_up h_1 (b 26) (.inl (26, 10, .inl (upd lO LK.length (nI i)))) := ⟨_, rfl⟩
                have hP : fh_P G vwCl h_2 H := by rw [eh_2]; exact hP
                have hM_2 := MG.w26 hM_1 (f2 := upd lO LK.length (nI i)) eh_2
                refine lv_aload_n hx hb dX10_lock_181 rfl (lv_at hl 1 rfl) ?_
                refine fh_get (C := RX10) (T := TX10) (N := 28) hx hb ht inX10 hown hE.1 hP hM_2.m rfl 22 (by decide) (ht _ kw_712) (fun _ h9 => h9) (v := .ref (b 27)) rfl dX10_lock_182 ?_
                refine lv_iconst (v := (nI 4)) hx hb dX10_lock_185 (by decide) ?_
                refine lv_aload_n hx hb dX10_lock_186 rfl (lv_at hl 1 rfl) ?_
                refine fh_get (C := RX10) (T := TX10) (N := 28) hx hb ht inX10 hown hE.1 hP hM_2.m rfl 20 (by decide) (ht _ kw_710) (fun _ h9 => h9) (v := .int (nI LK.length)) rfl dX10_lock_187 ?_
                refine lv_imul hx hb dX10_lock_190 ?_
                refine lv_topi (fun z9 ez9 => ?_)
                rw [show z9 = nI (4 * LK.length) from ez9.trans (pk_mul _ _)]
                refine lv_lload_n hx hb dX10_lock_191 rfl (lv_at hl 3 rfl) ?_
                refine fh_last (k := (4 * LK.length)) hx hb hE.1 hP hS hM_2.a27 (hM_2.A27) rfl (by omega) (by decide) dX10_lock_192 (fun H locs hP hz hS => ?_)
                obtain ⟨h_3, eh_3⟩ : ∃ z, z = fh_up h_2 (b 27) (.inl (27, 40, .inr (.inl (vp_updL lA (4 * LK.length) x0)))) := ⟨_, rfl⟩
                have hP : fh_P G vwCl h_3 H := by rw [eh_3]; exact hP
                have hM_3 := MG.w27 hM_2 (f2 := vp_updL lA (4 * LK.length) x0) eh_3
                refine lv_aload_n hx hb dX10_lock_193 rfl (lv_at hl 1 rfl) ?_
                refine fh_get (C := RX10) (T := TX10) (N := 28) hx hb ht inX10 hown hE.1 hP hM_3.m rfl 22 (by decide) (ht _ kw_712) (fun _ h9 => h9) (v := .ref (b 27)) rfl dX10_lock_194 ?_
                refine lv_iconst (v := (nI 4)) hx hb dX10_lock_197 (by decide) ?_
                refine lv_aload_n hx hb dX10_lock_198 rfl (lv_at hl 1 rfl) ?_
                refine fh_get (C := RX10) (T := TX10) (N := 28) hx hb ht inX10 hown hE.1 hP hM_3.m rfl 20 (by decide) (ht _ kw_710) (fun _ h9 => h9) (v := .int (nI LK.length)) rfl dX10_lock_199 ?_
                refine lv_imul hx hb dX10_lock_202 ?_
                refine lv_topi (fun z9 ez9 => ?_)
                rw [show z9 = nI (4 * LK.length) from ez9.trans (pk_mul _ _)]
                refine lv_iconst (v := (nI 1)) hx hb dX10_lock_203 (by decide) ?_
                refine lv_iadd hx hb dX10_lock_204 ?_
                refine lv_topi (fun z9 ez9 => ?_)
                rw [show z9 = nI ((4 * LK.length) + 1) from ez9.trans (nI_add _ _)]
                refine lv_lload hx hb dX10_lock_205 (lv_at hl 4 rfl) ?_
                refine fh_last (k := ((4 * LK.length) + 1)) hx hb hE.1 hP hS hM_3.a27 (hM_3.A27) rfl (by omega) (by decide) dX10_lock_207 (fun H locs hP hz hS => ?_)
                obtain ⟨h_4, eh_4⟩ : ∃ z, z = fh_up h_3 (b 27) (.inl (27, 40, .inr (.inl (vp_updL (vp_updL lA (4 * LK.length) x0) ((4 * LK.length) + 1) y0)))) := ⟨_, rfl⟩
                have hP : fh_P G vwCl h_4 H := by rw [eh_4]; exact hP
                have hM_4 := MG.w27 hM_3 (f2 := vp_updL (vp_updL lA (4 * LK.length) x0) ((4 * LK.length) + 1) y0) eh_4
                refine lv_aload_n hx hb dX10_lock_208 rfl (lv_at hl 1 rfl) ?_
                refine fh_get (C := RX10) (T := TX10) (N := 28) hx hb ht inX10 hown hE.1 hP hM_4.m rfl 22 (by decide) (ht _ kw_712) (fun _ h9 => h9) (v := .ref (b 27)) rfl dX10_lock_209 ?_
                refine lv_iconst (v := (nI 4)) hx hb dX10_lock_212 (by decide) ?_
                refine lv_aload_n hx hb dX10_lock_213 rfl (lv_at hl 1 rfl) ?_
                refine fh_get (C := RX10) (T := TX10) (N := 28) hx hb ht inX10 hown hE.1 hP hM_4.m rfl 20 (by decide) (ht _ kw_710) (fun _ h9 => h9) (v := .int (nI LK.length)) rfl dX10_lock_214 ?_
                refine lv_imul hx hb dX10_lock_217 ?_
                refine lv_topi (fun z9 ez9 => ?_)
                rw [show z9 = nI (4 * LK.length) from ez9.trans (pk_mul _ _)]
                refine lv_iconst (v := (nI 2)) hx hb dX10_lock_218 (by decide) ?_
                refine lv_iadd hx hb dX10_lock_219 ?_
                refine lv_topi (fun z9 ez9 => ?_)
                rw [show z9 = nI ((4 * LK.length) + 2) from ez9.trans (nI_add _ _)]
                refine lv_lload hx hb dX10_lock_220 (lv_at hl 5 rfl) ?_
                refine fh_last (k := ((4 * LK.length) + 2)) hx hb hE.1 hP hS hM_4.a27 (hM_4.A27) rfl (by omega) (by decide) dX10_lock_222 (fun H locs hP hz hS => ?_)
                obtain ⟨h_5, eh_5⟩ : ∃ z, z = fh_up h_4 (b 27) (.inl (27, 40, .inr (.inl (vp_updL (vp_updL (vp_updL lA (4 * LK.length) x0) ((4 * LK.length) + 1) y0) ((4 * LK.length) + 2) x1)))) := ⟨_, rfl⟩
                have hP : fh_P G vwCl h_5 H := by rw [eh_5]; exact hP
                have hM_5 := MG.w27 hM_4 (f2 := vp_updL (vp_updL (vp_updL lA (4 * LK.length) x0) ((4 * LK.length) + 1) y0) ((4 * LK.length) + 2) x1) eh_5
                refine lv_aload_n hx hb dX10_lock_223 rfl (lv_at hl 1 rfl) ?_
                refine fh_get (C := RX10) (T := TX10) (N := 28) hx hb ht inX10 hown hE.1 hP hM_5.m rfl 22 (by decide) (ht _ kw_712) (fun _ h9 => h9) (v := .ref (b 27)) rfl dX10_lock_224 ?_
                refine lv_iconst (v := (nI 4)) hx hb dX10_lock_227 (by decide) ?_
                refine lv_aload_n hx hb dX10_lock_228 rfl (lv_at hl 1 rfl) ?_
                refine fh_get (C := RX10) (T := TX10) (N := 28) hx hb ht inX10 hown hE.1 hP hM_5.m rfl 20 (by decide) (ht _ kw_710) (fun _ h9 => h9) (v := .int (nI LK.length)) rfl dX10_lock_229 ?_
                refine lv_imul hx hb dX10_lock_232 ?_
                refine lv_topi (fun z9 ez9 => ?_)
                rw [show z9 = nI (4 * LK.length) from ez9.trans (pk_mul _ _)]
                refine lv_iconst (v := (nI 3)) hx hb dX10_lock_233 (by decide) ?_
                refine lv_iadd hx hb dX10_lock_234 ?_
                refine lv_topi (fun z9 ez9 => ?_)
                rw [show z9 = nI ((4 * LK.length) + 3) from ez9.trans (nI_add _ _)]
                refine lv_lload hx hb dX10_lock_235 (lv_at hl 6 rfl) ?_
                refine fh_last (k := ((4 * LK.length) + 3)) hx hb hE.1 hP hS hM_5.a27 (hM_5.A27) rfl (by omega) (by decide) dX10_lock_237 (fun H locs hP hz hS => ?_)
                obtain ⟨h_6, eh_6⟩ : ∃ z, z = fh_up h_5 (b 27) (.inl (27, 40, .inr (.inl (vp_updL (vp_updL (vp_updL (vp_updL lA (4 * LK.length) x0) ((4 * LK.length) + 1) y0) ((4 * LK.length) + 2) x1) ((4 * LK.length) + 3) y1)))) := ⟨_, rfl⟩
                have hP : fh_P G vwCl h_6 H := by rw [eh_6]; exact hP
                have hM_6 := MG.w27 hM_5 (f2 := vp_updL (vp_updL (vp_updL (vp_updL lA (4 * LK.length) x0) ((4 * LK.length) + 1) y0) ((4 * LK.length) + 2) x1) ((4 * LK.length) + 3) y1) eh_6
                refine lv_aload_n hx hb dX10_lock_238 rfl (lv_at hl 1 rfl) ?_
                refine lv_dup hx hb dX10_lock_239 rfl ?_
                refine fh_get (C := RX10) (T := TX10) (N := 28) hx hb ht inX10 hown hE.1 hP hM_6.m rfl 20 (by decide) (ht _ kw_710) (fun _ h9 => h9) (v := .int (nI LK.length)) rfl dX10_lock_240 ?_
                refine lv_iconst (v := (nI 1)) hx hb dX10_lock_243 (by decide) ?_
                refine lv_iadd hx hb dX10_lock_244 ?_
                refine lv_topi (fun z9 ez9 => ?_)
                rw [show z9 = nI (LK.length + 1) from ez9.trans (nI_add _ _)]
                refine fh_put (C := RX10) (T := TX10) (N := 28) (t := .int) hx hb ht inX10 tyX10 tyX10_ok nmX10 hown hE.1 hP hS hM_6.m (hM_6.A0) rfl 20 (by decide) (ht _ kw_710) (fun _ h9 => h9) rfl (by decide +kernel) rfl rfl (Nat.le_of_ble_eq_true rfl) dX10_lock_245 (fun H locs hP hz hS => ?_)
                obtain ⟨h_7, eh_7⟩ : ∃ z, z = fh_up h_6 ma (.inr (10, [.int (nI 0), .int (nI no), .ref (b 12), .int (nI nv), .ref (b 13), .ref (b 14), .int (nI ns), .ref (b 15), .ref (b 16), .ref (b 17), .ref (b 18), .ref (b 19), .ref (b 20), .ref (b 21), .ref (b 22), .ref (b 23), .ref (b 24), .int (nI J), .int (nI C.length), .ref (b 25), .int (nI (LK.length + 1)), .ref (b 26), .ref (b 27), .int (nI RL.length), .ref (b 28), .ref (b 29), .ref (b 30), .ref (b 31)])) := ⟨_, rfl⟩
                have hP : fh_P G vwCl h_7 H := by rw [eh_7]; exact hP
                have hM_7 := MG.sc hM_6 (th2 := (nI 0)) (no2 := no) (nv2 := nv) (ns2 := ns) (J2 := J) (nc2 := C.length) (nl2 := (LK.length + 1)) (nr2 := RL.length) eh_7
                refine lv_iconst (v := (nI 1)) hx hb dX10_lock_248 (by decide) ?_
                have hM9 : MG A h h_7 ma b (nI 0) no nv ns J C.length ((LK ++ [(nI i, x0, y0, x1, y1)]).length) RL.length fK fH fF fB fO fW fV fN cO cF cH cV fS fC (upd lO LK.length (nI i)) (vp_updL (vp_updL (vp_updL (vp_updL lA (4 * LK.length) x0) ((4 * LK.length) + 1) y0) ((4 * LK.length) + 2) x1) ((4 * LK.length) + 3) y1) rA rB rD fM := by rw [List.length_append]; exact hM_7
                have ep : oLock ns S LK (nI i) x0 y0 x1 y1 = (0, true, LK ++ [(nI i, x0, y0, x1, y1)]) := by simp [oLock, hxx, e1, e2, e3, Nat.ne_of_lt e4, e5]
                exact fh_zret hx hb hr hlocks rfl (⟨_, rfl, fun _ => (by rw [ep] <;> rfl), by rw [ep]; exact ⟨_, _, _, _, _, _, _, _, _, _, _, _, _, _, _, _, _, _, _, _, hM9, ⟨hX.1, hX.2.1, hX.2.2.1, hX.2.2.2.1, mL_add xL _ _ _ _ _, xR, xC, xM⟩⟩⟩) hP hS (by first | exact (Nat.le_of_ble_eq_true rfl) | omega) (by first | exact (Nat.le_of_ble_eq_true rfl) | omega) dX10_lock_249
              | succ n ih =>
                intro k hin hno9 H locs ls hP hS hl
                have hk : k < LK.length := by omega
                obtain ⟨a, ha⟩ : ∃ a, LK[k]? = some a := ⟨_, List.getElem?_eq_getElem hk⟩
                obtain ⟨g1, g2, g3, g4, g5⟩ := xL k a ha
                have hst9 : (LK.take (k + 1)).any (fun a : Ar => decide (a.1 ≠ nI i) && arMeets a.2.1 a.2.2.1 a.2.2.2.1 a.2.2.2.2 x0 y0 x1 y1) = ((fun a : Ar => decide (a.1 ≠ nI i) && arMeets a.2.1 a.2.2.1 a.2.2.2.1 a.2.2.2.2 x0 y0 x1 y1) a) := by rw [List.take_add_one, ha, List.any_append, hno9]; simp
                refine lv_iload hx hb dX10_lock_66 (lv_at hl 0 rfl) ?_
                refine lv_aload_n hx hb dX10_lock_68 rfl (lv_at hl 1 rfl) ?_
                refine fh_get (C := RX10) (T := TX10) (N := 28) hx hb ht inX10 hown hE.1 hP hM_1.m rfl 20 (by decide) (ht _ kw_710) (fun _ h9 => h9) (v := .int (nI LK.length)) rfl dX10_lock_69 ?_
                refine lv_icmp_ge (tgt := 171) hx hb dX10_lock_72 (by decide) (fun c9 => absurd c9 (nI_ge hk (by omega))) (fun _ => ?_)
                have tl : ∀ (c9 : Bool) (_ : c9 = arMeets a.2.1 a.2.2.1 a.2.2.2.1 a.2.2.2.2 x0 y0 x1 y1) (H : Heap) (locs : List Loc) (ls : Array Slot), fh_P G vwCl h_1 H → va_S A s.heap H locs → lv_has ls 12 [(10, .int (nI k)), (0, .ref ma), (1, .int (nI i)), (2, .long x0), (4, .long y0), (6, .long x1), (8, .long y1)] → W p l e (headSpec wsX10_lock { frames := 2, cells := 0, slots := 0, locals := 65 }).room s m [.ref ma, .int (nI i), .long x0, .long y0, .long x1, .long y1].toArray below meth c H locs 0 0 (MQ below (fh_Q G (fun v u => ∃ ans : Int32, v = some (.int ans) ∧ ((oLock ns S LK (nI i) x0 y0 x1 y1).1 = 0 → ans = bI (oLock ns S LK (nI i) x0 y0 x1 y1).2.1) ∧ RepM A h u ma b (nI (oLock ns S LK (nI i) x0 y0 x1 y1).1) no nv ns V S ((oLock ns S LK (nI i) x0 y0 x1 y1).2.2) RL J C M) A) [.ref ma, .int (nI i), .long x0, .long y0, .long x1, .long y1].toArray s 0 0 A) (F0 m 145 ls [.int (bI c9)]) := by
                  intro c9 hc9 H locs ls hP hS hl
                  refine lv_istore (lv' := [(11, .int (bI c9)), (10, .int (nI k)), (0, .ref ma), (1, .int (nI i)), (2, .long x0), (4, .long y0), (6, .long x1), (8, .long y1)]) hx hb dX10_lock_145 hl (by decide) rfl (fun ls hl => ?_)
                  refine lv_aload_n hx hb dX10_lock_147 rfl (lv_at hl 2 rfl) ?_
                  refine fh_get (C := RX10) (T := TX10) (N := 28) hx hb ht inX10 hown hE.1 hP hM_1.m rfl 21 (by decide) (ht _ kw_711) (fun _ h9 => h9) (v := .ref (b 26)) rfl dX10_lock_148 ?_
                  refine lv_iload hx hb dX10_lock_151 (lv_at hl 1 rfl) ?_
                  refine fh_iald (k := k) hx hb hE.1 hP hM_1.a26 rfl (by omega) (by decide) dX10_lock_153 ?_
                  rw [g1]
                  refine lv_iload_n hx hb dX10_lock_154 rfl (lv_at hl 3 rfl) ?_
                  refine lv_icmp_eq (tgt := 165) hx hb dX10_lock_155 (by decide) (fun f1 => ?_) (fun f1 => ?_)
                  · refine lv_iinc (v := nI (k + 1)) (lv' := [(10, .int (nI (k + 1))), (11, .int (bI c9)), (0, .ref ma), (1, .int (nI i)), (2, .long x0), (4, .long y0), (6, .long x1), (8, .long y1)]) hx hb dX10_lock_165 hl (k := 1) rfl (nI_1 _) (by decide) rfl (fun ls hl => ?_)
                    refine lv_goto (tgt := 66) hx hb dX10_lock_168 (by decide) ?_
                    exact ih (k + 1) (by omega) (by rw [hst9]; simp [f1]) H locs ls hP hS (lv_sub hl [0, 2, 3, 4, 5, 6, 7] rfl)
                  · refine lv_iload hx hb dX10_lock_158 (lv_at hl 0 rfl) ?_
                    refine lv_if_eq (tgt := 165) hx hb dX10_lock_160 (by decide) (fun f2 => ?_) (fun f2 => ?_)
                    · refine lv_iinc (v := nI (k + 1)) (lv' := [(10, .int (nI (k + 1))), (11, .int (bI c9)), (0, .ref ma), (1, .int (nI i)), (2, .long x0), (4, .long y0), (6, .long x1), (8, .long y1)]) hx hb dX10_lock_165 hl (k := 1) rfl (nI_1 _) (by decide) rfl (fun ls hl => ?_)
                      refine lv_goto (tgt := 66) hx hb dX10_lock_168 (by decide) ?_
                      exact ih (k + 1) (by omega) (by rw [hst9]; simp [← hc9, bI_eq.mp f2]) H locs ls hP hS (lv_sub hl [0, 2, 3, 4, 5, 6, 7] rfl)
                    · have e5 : lkMeets LK (nI i, x0, y0, x1, y1) = true := by unfold lkMeets; rw [List.any_eq_true]; exact ⟨a, List.mem_of_getElem? ha, by simp [← hc9, bI_nz f2, f1]⟩
                      refine lv_iconst (v := (nI 0)) hx hb dX10_lock_163 (by decide) ?_
                      have ep : oLock ns S LK (nI i) x0 y0 x1 y1 = (0, false, LK) := by simp [oLock, hxx, e1, e5]
                      exact fh_zret hx hb hr hlocks rfl (⟨_, rfl, fun _ => (by rw [ep] <;> rfl), by rw [ep]; exact ⟨_, _, _, _, _, _, _, _, _, _, _, _, _, _, _, _, _, _, _, _, hM_1, hX⟩⟩) hP hS (by first | exact (Nat.le_of_ble_eq_true rfl) | omega) (by first | exact (Nat.le_of_ble_eq_true rfl) | omega) dX10_lock_164
                refine lv_aload_n hx hb dX10_lock_75 rfl (lv_at hl 1 rfl) ?_
                refine fh_get (C := RX10) (T := TX10) (N := 28) hx hb ht inX10 hown hE.1 hP hM_1.m rfl 22 (by decide) (ht _ kw_712) (fun _ h9 => h9) (v := .ref (b 27)) rfl dX10_lock_76 ?_
                refine lv_iconst (v := (nI 4)) hx hb dX10_lock_79 (by decide) ?_
                refine lv_iload hx hb dX10_lock_80 (lv_at hl 0 rfl) ?_
                refine lv_imul hx hb dX10_lock_82 ?_
                refine lv_topi (fun z9 ez9 => ?_)
                rw [show z9 = nI (4 * k) from ez9.trans (pk_mul _ _)]
                refine fh_lald (k := (4 * k)) hx hb hE.1 hP hM_1.a27 rfl (by omega) (by decide) dX10_lock_83 ?_
                rw [g2]
                refine lv_lload hx hb dX10_lock_84 (lv_at hl 5 rfl) ?_
                refine W.lcmp hx hb dX10_lock_86 ?_
                refine lv_if_gt (tgt := 144) hx hb dX10_lock_87 (by decide) (fun h0 => ?_) (fun h0 => ?_)
                · refine lv_iconst (v := (nI 0)) hx hb dX10_lock_144 (by decide) ?_
                  refine W.eq (g2 := F0 m 145 ls [.int (nI 0)]) rfl ?_
                  exact tl false (by have z := (lg_cmp_gt _ _).mp h0; symm; simp only [arMeets, Bool.and_eq_false_iff, decide_eq_false_iff_not]; rw [Int64.lt_iff_toInt_lt] at z; simp only [Int64.le_iff_toInt_le]; omega) _ _ _ hP hS (lv_sub hl [0, 1, 2, 3, 4, 5, 6] rfl)
                · refine lv_lload_n hx hb dX10_lock_90 rfl (lv_at hl 3 rfl) ?_
                  refine lv_aload_n hx hb dX10_lock_91 rfl (lv_at hl 1 rfl) ?_
                  refine fh_get (C := RX10) (T := TX10) (N := 28) hx hb ht inX10 hown hE.1 hP hM_1.m rfl 22 (by decide) (ht _ kw_712) (fun _ h9 => h9) (v := .ref (b 27)) rfl dX10_lock_92 ?_
                  refine lv_iconst (v := (nI 4)) hx hb dX10_lock_95 (by decide) ?_
                  refine lv_iload hx hb dX10_lock_96 (lv_at hl 0 rfl) ?_
                  refine lv_imul hx hb dX10_lock_98 ?_
                  refine lv_topi (fun z9 ez9 => ?_)
                  rw [show z9 = nI (4 * k) from ez9.trans (pk_mul _ _)]
                  refine lv_iconst (v := (nI 2)) hx hb dX10_lock_99 (by decide) ?_
                  refine lv_iadd hx hb dX10_lock_100 ?_
                  refine lv_topi (fun z9 ez9 => ?_)
                  rw [show z9 = nI ((4 * k) + 2) from ez9.trans (nI_add _ _)]
                  refine fh_lald (k := ((4 * k) + 2)) hx hb hE.1 hP hM_1.a27 rfl (by omega) (by decide) dX10_lock_101 ?_
                  rw [g4]
                  refine W.lcmp hx hb dX10_lock_102 ?_
                  refine lv_if_gt (tgt := 144) hx hb dX10_lock_103 (by decide) (fun h1 => ?_) (fun h1 => ?_)
                  · refine lv_iconst (v := (nI 0)) hx hb dX10_lock_144 (by decide) ?_
                    refine W.eq (g2 := F0 m 145 ls [.int (nI 0)]) rfl ?_
                    exact tl false (by have z := (lg_cmp_gt _ _).mp h1; symm; simp only [arMeets, Bool.and_eq_false_iff, decide_eq_false_iff_not]; rw [Int64.lt_iff_toInt_lt] at z; simp only [Int64.le_iff_toInt_le]; omega) _ _ _ hP hS (lv_sub hl [0, 1, 2, 3, 4, 5, 6] rfl)
                  · refine lv_aload_n hx hb dX10_lock_106 rfl (lv_at hl 1 rfl) ?_
                    refine fh_get (C := RX10) (T := TX10) (N := 28) hx hb ht inX10 hown hE.1 hP hM_1.m rfl 22 (by decide) (ht _ kw_712) (fun _ h9 => h9) (v := .ref (b 27)) rfl dX10_lock_107 ?_
                    refine lv_iconst (v := (nI 4)) hx hb dX10_lock_110 (by decide) ?_
                    refine lv_iload hx hb dX10_lock_111 (lv_at hl 0 rfl) ?_
                    refine lv_imul hx hb dX10_lock_113 ?_
                    refine lv_topi (fun z9 ez9 => ?_)
                    rw [show z9 = nI (4 * k) from ez9.trans (pk_mul _ _)]
                    refine lv_iconst (v := (nI 1)) hx hb dX10_lock_114 (by decide) ?_
                    refine lv_iadd hx hb dX10_lock_115 ?_
                    refine lv_topi (fun z9 ez9 => ?_)
                    rw [show z9 = nI ((4 * k) + 1) from ez9.trans (nI_add _ _)]
                    refine fh_lald (k := ((4 * k) + 1)) hx hb hE.1 hP hM_1.a27 rfl (by omega) (by decide) dX10_lock_116 ?_
                    rw [g3]
                    refine lv_lload hx hb dX10_lock_117 (lv_at hl 6 rfl) ?_
                    refine W.lcmp hx hb dX10_lock_119 ?_
                    refine lv_if_gt (tgt := 144) hx hb dX10_lock_120 (by decide) (fun h2 => ?_) (fun h2 => ?_)
                    · refine lv_iconst (v := (nI 0)) hx hb dX10_lock_144 (by decide) ?_
                      refine W.eq (g2 := F0 m 145 ls [.int (nI 0)]) rfl ?_
                      exact tl false (by have z := (lg_cmp_gt _ _).mp h2; symm; simp only [arMeets, Bool.and_eq_false_iff, decide_eq_false_iff_not]; rw [Int64.lt_iff_toInt_lt] at z; simp only [Int64.le_iff_toInt_le]; omega) _ _ _ hP hS (lv_sub hl [0, 1, 2, 3, 4, 5, 6] rfl)
                    · refine lv_lload hx hb dX10_lock_123 (lv_at hl 4 rfl) ?_
                      refine lv_aload_n hx hb dX10_lock_125 rfl (lv_at hl 1 rfl) ?_
                      refine fh_get (C := RX10) (T := TX10) (N := 28) hx hb ht inX10 hown hE.1 hP hM_1.m rfl 22 (by decide) (ht _ kw_712) (fun _ h9 => h9) (v := .ref (b 27)) rfl dX10_lock_126 ?_
                      refine lv_iconst (v := (nI 4)) hx hb dX10_lock_129 (by decide) ?_
                      refine lv_iload hx hb dX10_lock_130 (lv_at hl 0 rfl) ?_
                      refine lv_imul hx hb dX10_lock_132 ?_
                      refine lv_topi (fun z9 ez9 => ?_)
                      rw [show z9 = nI (4 * k) from ez9.trans (pk_mul _ _)]
                      refine lv_iconst (v := (nI 3)) hx hb dX10_lock_133 (by decide) ?_
                      refine lv_iadd hx hb dX10_lock_134 ?_
                      refine lv_topi (fun z9 ez9 => ?_)
                      rw [show z9 = nI ((4 * k) + 3) from ez9.trans (nI_add _ _)]
                      refine fh_lald (k := ((4 * k) + 3)) hx hb hE.1 hP hM_1.a27 rfl (by omega) (by decide) dX10_lock_135 ?_
                      rw [g5]
                      refine W.lcmp hx hb dX10_lock_136 ?_
                      refine lv_if_gt (tgt := 144) hx hb dX10_lock_137 (by decide) (fun h3 => ?_) (fun h3 => ?_)
                      · refine lv_iconst (v := (nI 0)) hx hb dX10_lock_144 (by decide) ?_
                        refine W.eq (g2 := F0 m 145 ls [.int (nI 0)]) rfl ?_
                        exact tl false (by have z := (lg_cmp_gt _ _).mp h3; symm; simp only [arMeets, Bool.and_eq_false_iff, decide_eq_false_iff_not]; rw [Int64.lt_iff_toInt_lt] at z; simp only [Int64.le_iff_toInt_le]; omega) _ _ _ hP hS (lv_sub hl [0, 1, 2, 3, 4, 5, 6] rfl)
                      · refine lv_iconst (v := (nI 1)) hx hb dX10_lock_140 (by decide) ?_
                        refine lv_goto (tgt := 145) hx hb dX10_lock_141 (by decide) ?_
                        refine W.eq (g2 := F0 m 145 ls [.int (nI 1)]) rfl ?_
                        exact tl true (by symm; have z0 := mt (lg_cmp_gt _ _).mpr h0; have z1 := mt (lg_cmp_gt _ _).mpr h1; have z2 := mt (lg_cmp_gt _ _).mpr h2; have z3 := mt (lg_cmp_gt _ _).mpr h3; simp only [arMeets, Bool.and_eq_true, decide_eq_true_eq]; simp only [Int64.lt_iff_toInt_lt, Int64.le_iff_toInt_le] at *; omega) _ _ _ hP hS (lv_sub hl [0, 1, 2, 3, 4, 5, 6] rfl)
            exact loop LK.length 0 (by omega) (by simp) _ _ _ hP hS hl
          · have e4 : LK.length = 10 := (nI_eq (by omega) (by decide)).mp d4
            refine lv_iconst (v := (nI 0)) hx hb dX10_lock_61 (by decide) ?_
            have ep : oLock ns S LK (nI i) x0 y0 x1 y1 = (0, false, LK) := by simp [oLock, hxx, e1, e4]
            exact fh_zret hx hb hr hlocks rfl (⟨_, rfl, fun _ => (by rw [ep] <;> rfl), by rw [ep]; exact ⟨_, _, _, _, _, _, _, _, _, _, _, _, _, _, _, _, _, _, _, _, hM_1, hX⟩⟩) hP hS (by first | exact (Nat.le_of_ble_eq_true rfl) | omega) (by first | exact (Nat.le_of_ble_eq_true rfl) | omega) dX10_lock_62

set_option maxRecDepth 100000 in
set_option maxHeartbeats 4000000 in
theorem q_apart (l : Launch) (G : fG) (A : Nat → Prop) (h : FH) (sz : Nat) (ma : Nat) (b : Nat → Nat) (th : Int32) (no nv ns : Nat) (V : Vs) (S : Ss) (LK : List Ar) (RL : Rl) (J : Nat) (C : CL) (M : Nat → Int32) (hp0 : RepM A h h ma b th no nv ns V S LK RL J C M) (hB9 : Bd no nv ns S RL J C) (hLk : LK.length ≤ 10) (x y : Int32) (d : Int64) : Met l yX10_apart wsX10_apart { frames := 2, cells := 0, slots := 0, locals := 65 } (va_Pc [.ref ma, .int x, .int y, .long d] (fh_Pre G A h sz)) (fh_Q G (fun v u => ∃ ans : Int32, v = some (.int ans) ∧ ((oApart no RL x y d).1 = 0 → ans = bI (oApart no RL x y d).2.1) ∧ RepM A h u ma b (nI (oApart no RL x y d).1) no nv ns V S LK ((oApart no RL x y d).2.2) J C M) A) 0 0 A := by
  refine fh_Met [.ref ma, .int x, .int y, .long d] (by decide) rfl (Nat.le_of_ble_eq_true rfl) ?_
  intro p e s m below meth c hx hb hr hlocks hml hown hnm hts hsz hP hE hS ls hl
  have ht : ∀ w ∈ wB, w.before _ s = true := fun w h9 => hts w (List.mem_cons_of_mem _ h9)
  have hl : lv_has ls 5 [(0, .ref ma), (1, .int x), (2, .int y), (3, .long d)] := hl
  obtain ⟨fK, fH, fF, fB, fO, fW, fV, fN, cO, cF, cH, cV, fS, fC, lO, lA, rA, rB, rD, fM, hM, hX⟩ := hp0
  obtain ⟨hno, hnv, hnv0, hns, hbs, hCl, hCb, hJ, hRn, hRb⟩ := id hB9
  obtain ⟨⟨zH, zO, zW, zcH⟩, xV, xS, xN, xL, xR, xC, xM⟩ := id hX
  cases hxx : ix x no with
  | none =>
    refine lv_aload_n hx hb dX10_apart_0 rfl (lv_at hl 0 rfl) ?_
    refine lv_aload_n hx hb dX10_apart_1 rfl (lv_at hl 0 rfl) ?_
    refine lv_iload_n hx hb dX10_apart_2 rfl (lv_at hl 1 rfl) ?_
    refine fh_cV (q := (RX10, TX10, 28)) (As := [.int x]) (rest := [.ref ma]) (b := ma) ⟨hx, hb, hml, hown, ht⟩ (m_isObj l G A h _ hM.re hno x) (cwV 1 ht (gV kw_815 kw_817 kp_19 kw_5 kw_818) rfl rfl rfl yd_X10_isObject ⟨(Nat.le_of_ble_eq_true rfl), (Nat.le_of_ble_eq_true rfl)⟩) hP hE hS hM.m rfl rfl hl.1 rfl (Nat.le_of_ble_eq_true rfl) dX10_apart_3 ⟨(Nat.le_of_ble_eq_true rfl), (Nat.le_of_ble_eq_true rfl)⟩ (fun v u H locs hp hP hz hS => ?_)
    obtain ⟨rfl, eu⟩ := hp
    rw [eu] at hP
    refine W.eq (g2 := F0 m 6 ls [.int (bI (ix x no).isSome), .ref ma]) rfl ?_
    refine lv_if_eq (tgt := 17) hx hb dX10_apart_6 (by decide) (fun _ => ?_) (fun c9 => absurd (by rw [hxx]; rfl) c9)
    refine lv_iconst (v := (nI 1)) hx hb dX10_apart_17 (by decide) ?_
    refine lv_goto (tgt := 40) hx hb dX10_apart_18 (by decide) ?_
    refine fh_put (C := RX10) (T := TX10) (N := 28) (t := .int) hx hb ht inX10 tyX10 tyX10_ok nmX10 hown hE.1 hP hS hM.m (hM.A0) rfl 0 (by decide) (ht _ kw_690) (fun _ h9 => h9) rfl (by decide +kernel) rfl rfl (Nat.le_of_ble_eq_true rfl) dX10_apart_40 (fun H locs hP hz hS => ?_)
    obtain ⟨h_1, eh_1⟩ : ∃ z, z = fh_up h ma (.inr (10, [.int (nI 1), .int (nI no), .ref (b 12), .int (nI nv), .ref (b 13), .ref (b 14), .int (nI ns), .ref (b 15), .ref (b 16), .ref (b 17), .ref (b 18), .ref (b 19), .ref (b 20), .ref (b 21), .ref (b 22), .ref (b 23), .ref (b 24), .int (nI J), .int (nI C.length), .ref (b 25), .int (nI LK.length), .ref (b 26), .ref (b 27), .int (nI RL.length), .ref (b 28), .ref (b 29), .ref (b 30), .ref (b 31)])) := ⟨_, rfl⟩
    have hP : fh_P G vwCl h_1 H := by rw [eh_1]; exact hP
    have hM_1 := MG.sc hM (th2 := (nI 1)) (no2 := no) (nv2 := nv) (ns2 := ns) (J2 := J) (nc2 := C.length) (nl2 := LK.length) (nr2 := RL.length) eh_1
    refine lv_aload_n hx hb dX10_apart_43 rfl (lv_at hl 0 rfl) ?_
    refine fh_get (C := RX10) (T := TX10) (N := 28) hx hb ht inX10 hown hE.1 hP hM_1.m rfl 0 (by decide) (ht _ kw_690) (fun _ h9 => h9) (v := .int (nI 1)) rfl dX10_apart_44 ?_
    refine lv_if_ne (tgt := 64) hx hb dX10_apart_47 (by decide) (fun _ => ?_) (fun c9 => absurd c9 (by decide))
    refine lv_iconst (v := (nI 0)) hx hb dX10_apart_64 (by decide) ?_
    have ep : oApart no RL x y d = (1, false, RL) := by simp [oApart, hxx]
    exact fh_zret hx hb hr hlocks rfl (⟨_, rfl, (fun z => by rw [ep] at z; cases z), by rw [ep]; exact ⟨_, _, _, _, _, _, _, _, _, _, _, _, _, _, _, _, _, _, _, _, hM_1, hX⟩⟩) hP hS (Nat.le_of_ble_eq_true rfl) (Nat.le_of_ble_eq_true rfl) dX10_apart_65
  | some a9 =>
    cases hyy : ix y no with
    | none =>
      refine lv_aload_n hx hb dX10_apart_0 rfl (lv_at hl 0 rfl) ?_
      refine lv_aload_n hx hb dX10_apart_1 rfl (lv_at hl 0 rfl) ?_
      refine lv_iload_n hx hb dX10_apart_2 rfl (lv_at hl 1 rfl) ?_
      refine fh_cV (q := (RX10, TX10, 28)) (As := [.int x]) (rest := [.ref ma]) (b := ma) ⟨hx, hb, hml, hown, ht⟩ (m_isObj l G A h _ hM.re hno x) (cwV 1 ht (gV kw_815 kw_817 kp_19 kw_5 kw_818) rfl rfl rfl yd_X10_isObject ⟨(Nat.le_of_ble_eq_true rfl), (Nat.le_of_ble_eq_true rfl)⟩) hP hE hS hM.m rfl rfl hl.1 rfl (Nat.le_of_ble_eq_true rfl) dX10_apart_3 ⟨(Nat.le_of_ble_eq_true rfl), (Nat.le_of_ble_eq_true rfl)⟩ (fun v u H locs hp hP hz hS => ?_)
      obtain ⟨rfl, eu⟩ := hp
      rw [eu] at hP
      refine W.eq (g2 := F0 m 6 ls [.int (bI (ix x no).isSome), .ref ma]) rfl ?_
      refine lv_if_eq (tgt := 17) hx hb dX10_apart_6 (by decide) (fun c9 => absurd c9 (by rw [hxx]; show ¬ bI true = 0; decide)) (fun _ => ?_)
      refine lv_aload_n hx hb dX10_apart_9 rfl (lv_at hl 0 rfl) ?_
      refine lv_iload_n hx hb dX10_apart_10 rfl (lv_at hl 2 rfl) ?_
      refine fh_cV (q := (RX10, TX10, 28)) (As := [.int y]) (rest := [.ref ma]) (b := ma) ⟨hx, hb, hml, hown, ht⟩ (m_isObj l G A h _ hM.re hno y) (cwV 1 ht (gV kw_815 kw_817 kp_19 kw_5 kw_818) rfl rfl rfl yd_X10_isObject ⟨(Nat.le_of_ble_eq_true rfl), (Nat.le_of_ble_eq_true rfl)⟩) hP hE hS hM.m rfl rfl hl.1 rfl (Nat.le_of_ble_eq_true rfl) dX10_apart_11 ⟨(Nat.le_of_ble_eq_true rfl), (Nat.le_of_ble_eq_true rfl)⟩ (fun v u H locs hp hP hz hS => ?_)
      obtain ⟨rfl, eu⟩ := hp
      rw [eu] at hP
      refine W.eq (g2 := F0 m 14 ls [.int (bI (ix y no).isSome), .ref ma]) rfl ?_
      refine lv_if_ne (tgt := 21) hx hb dX10_apart_14 (by decide) (fun c9 => absurd (by rw [hyy]; rfl) c9) (fun _ => ?_)
      refine lv_iconst (v := (nI 1)) hx hb dX10_apart_17 (by decide) ?_
      refine lv_goto (tgt := 40) hx hb dX10_apart_18 (by decide) ?_
      refine fh_put (C := RX10) (T := TX10) (N := 28) (t := .int) hx hb ht inX10 tyX10 tyX10_ok nmX10 hown hE.1 hP hS hM.m (hM.A0) rfl 0 (by decide) (ht _ kw_690) (fun _ h9 => h9) rfl (by decide +kernel) rfl rfl (Nat.le_of_ble_eq_true rfl) dX10_apart_40 (fun H locs hP hz hS => ?_)
      obtain ⟨h_1, eh_1⟩ : ∃ z, z = fh_up h ma (.inr (10, [.int (nI 1), .int (nI no), .ref (b 12), .int (nI nv), .ref (b 13), .ref (b 14), .int (nI ns), .ref (b 15), .ref (b 16), .ref (b 17), .ref (b 18), .ref (b 19), .ref (b 20), .ref (b 21), .ref (b 22), .ref (b 23), .ref (b 24), .int (nI J), .int (nI C.length), .ref (b 25), .int (nI LK.length), .ref (b 26), .ref (b 27), .int (nI RL.length), .ref (b 28), .ref (b 29), .ref (b 30), .ref (b 31)])) := ⟨_, rfl⟩
      have hP : fh_P G vwCl h_1 H := by rw [eh_1]; exact hP
      have hM_1 := MG.sc hM (th2 := (nI 1)) (no2 := no) (nv2 := nv) (ns2 := ns) (J2 := J) (nc2 := C.length) (nl2 := LK.length) (nr2 := RL.length) eh_1
      refine lv_aload_n hx hb dX10_apart_43 rfl (lv_at hl 0 rfl) ?_
      refine fh_get (C := RX10) (T := TX10) (N := 28) hx hb ht inX10 hown hE.1 hP hM_1.m rfl 0 (by decide) (ht _ kw_690) (fun _ h9 => h9) (v := .int (nI 1)) rfl dX10_apart_44 ?_
      refine lv_if_ne (tgt := 64) hx hb dX10_apart_47 (by decide) (fun _ => ?_) (fun c9 => absurd c9 (by decide))
      refine lv_iconst (v := (nI 0)) hx hb dX10_apart_64 (by decide) ?_
      have ep : oApart no RL x y d = (1, false, RL) := by simp [oApart, hxx, hyy]
      exact fh_zret hx hb hr hlocks rfl (⟨_, rfl, (fun z => by rw [ep] at z; cases z), by rw [ep]; exact ⟨_, _, _, _, _, _, _, _, _, _, _, _, _, _, _, _, _, _, _, _, hM_1, hX⟩⟩) hP hS (Nat.le_of_ble_eq_true rfl) (Nat.le_of_ble_eq_true rfl) dX10_apart_65
    | some b9 =>
      obtain ⟨ha9, rfl⟩ := ix_of (by omega) hxx
      obtain ⟨hb9, rfl⟩ := ix_of (by omega) hyy
      refine lv_aload_n hx hb dX10_apart_0 rfl (lv_at hl 0 rfl) ?_
      refine lv_aload_n hx hb dX10_apart_1 rfl (lv_at hl 0 rfl) ?_
      refine lv_iload_n hx hb dX10_apart_2 rfl (lv_at hl 1 rfl) ?_
      refine fh_cV (q := (RX10, TX10, 28)) (As := [.int (nI a9)]) (rest := [.ref ma]) (b := ma) ⟨hx, hb, hml, hown, ht⟩ (m_isObj l G A h _ hM.re hno (nI a9)) (cwV 1 ht (gV kw_815 kw_817 kp_19 kw_5 kw_818) rfl rfl rfl yd_X10_isObject ⟨(Nat.le_of_ble_eq_true rfl), (Nat.le_of_ble_eq_true rfl)⟩) hP hE hS hM.m rfl rfl hl.1 rfl (Nat.le_of_ble_eq_true rfl) dX10_apart_3 ⟨(Nat.le_of_ble_eq_true rfl), (Nat.le_of_ble_eq_true rfl)⟩ (fun v u H locs hp hP hz hS => ?_)
      obtain ⟨rfl, eu⟩ := hp
      rw [eu] at hP
      refine W.eq (g2 := F0 m 6 ls [.int (bI (ix (nI a9) no).isSome), .ref ma]) rfl ?_
      refine lv_if_eq (tgt := 17) hx hb dX10_apart_6 (by decide) (fun c9 => absurd c9 (by rw [hxx]; show ¬ bI true = 0; decide)) (fun _ => ?_)
      refine lv_aload_n hx hb dX10_apart_9 rfl (lv_at hl 0 rfl) ?_
      refine lv_iload_n hx hb dX10_apart_10 rfl (lv_at hl 2 rfl) ?_
      refine fh_cV (q := (RX10, TX10, 28)) (As := [.int (nI b9)]) (rest := [.ref ma]) (b := ma) ⟨hx, hb, hml, hown, ht⟩ (m_isObj l G A h _ hM.re hno (nI b9)) (cwV 1 ht (gV kw_815 kw_817 kp_19 kw_5 kw_818) rfl rfl rfl yd_X10_isObject ⟨(Nat.le_of_ble_eq_true rfl), (Nat.le_of_ble_eq_true rfl)⟩) hP hE hS hM.m rfl rfl hl.1 rfl (Nat.le_of_ble_eq_true rfl) dX10_apart_11 ⟨(Nat.le_of_ble_eq_true rfl), (Nat.le_of_ble_eq_true rfl)⟩ (fun v u H locs hp hP hz hS => ?_)
      obtain ⟨rfl, eu⟩ := hp
      rw [eu] at hP
      refine W.eq (g2 := F0 m 14 ls [.int (bI (ix (nI b9) no).isSome), .ref ma]) rfl ?_
      refine lv_if_ne (tgt := 21) hx hb dX10_apart_14 (by decide) (fun _ => ?_) (fun c9 => absurd c9 (by rw [hyy]; show ¬ bI true = 0; decide))
      refine lv_lload_n hx hb dX10_apart_21 rfl (lv_at hl 3 rfl) ?_
      refine lv_lconst (v := 0) hx hb dX10_apart_22 (by decide) ?_
      refine W.lcmp hx hb dX10_apart_23 ?_
      refine lv_if_lt (tgt := 35) hx hb dX10_apart_24 (by decide) (fun d1 => ?_) (fun d1 => ?_)
      · have e1 := (lg_cmp_lt _ _).mp d1
        refine lv_iconst (v := (nI 2)) hx hb dX10_apart_35 (by decide) ?_
        refine lv_goto (tgt := 40) hx hb dX10_apart_36 (by decide) ?_
        refine fh_put (C := RX10) (T := TX10) (N := 28) (t := .int) hx hb ht inX10 tyX10 tyX10_ok nmX10 hown hE.1 hP hS hM.m (hM.A0) rfl 0 (by decide) (ht _ kw_690) (fun _ h9 => h9) rfl (by decide +kernel) rfl rfl (Nat.le_of_ble_eq_true rfl) dX10_apart_40 (fun H locs hP hz hS => ?_)
        obtain ⟨h_1, eh_1⟩ : ∃ z, z = fh_up h ma (.inr (10, [.int (nI 2), .int (nI no), .ref (b 12), .int (nI nv), .ref (b 13), .ref (b 14), .int (nI ns), .ref (b 15), .ref (b 16), .ref (b 17), .ref (b 18), .ref (b 19), .ref (b 20), .ref (b 21), .ref (b 22), .ref (b 23), .ref (b 24), .int (nI J), .int (nI C.length), .ref (b 25), .int (nI LK.length), .ref (b 26), .ref (b 27), .int (nI RL.length), .ref (b 28), .ref (b 29), .ref (b 30), .ref (b 31)])) := ⟨_, rfl⟩
        have hP : fh_P G vwCl h_1 H := by rw [eh_1]; exact hP
        have hM_1 := MG.sc hM (th2 := (nI 2)) (no2 := no) (nv2 := nv) (ns2 := ns) (J2 := J) (nc2 := C.length) (nl2 := LK.length) (nr2 := RL.length) eh_1
        refine lv_aload_n hx hb dX10_apart_43 rfl (lv_at hl 0 rfl) ?_
        refine fh_get (C := RX10) (T := TX10) (N := 28) hx hb ht inX10 hown hE.1 hP hM_1.m rfl 0 (by decide) (ht _ kw_690) (fun _ h9 => h9) (v := .int (nI 2)) rfl dX10_apart_44 ?_
        refine lv_if_ne (tgt := 64) hx hb dX10_apart_47 (by decide) (fun _ => ?_) (fun c9 => absurd c9 (by decide))
        refine lv_iconst (v := (nI 0)) hx hb dX10_apart_64 (by decide) ?_
        have ep : oApart no RL (nI a9) (nI b9) d = (2, false, RL) := by simp only [oApart, hxx, hyy]; rw [if_pos (Or.inl e1)]
        exact fh_zret hx hb hr hlocks rfl (⟨_, rfl, (fun z => by rw [ep] at z; cases z), by rw [ep]; exact ⟨_, _, _, _, _, _, _, _, _, _, _, _, _, _, _, _, _, _, _, _, hM_1, hX⟩⟩) hP hS (Nat.le_of_ble_eq_true rfl) (Nat.le_of_ble_eq_true rfl) dX10_apart_65
      · have e1 := mt (lg_cmp_lt _ _).mpr d1
        refine lv_lload_n hx hb dX10_apart_27 rfl (lv_at hl 3 rfl) ?_
        refine lv_ldc2 (v := 1000000000) hx hb hown (ht _ kw_965) dX10_apart_28 ?_
        refine W.lcmp hx hb dX10_apart_31 ?_
        refine lv_if_le (tgt := 39) hx hb dX10_apart_32 (by decide) (fun d2 => ?_) (fun d2 => ?_)
        · have e2 : ¬ (1000000000 : Int64) < d := by have z := (lg_cmp_le _ _).mp d2; rw [Int64.le_iff_toInt_le] at z; rw [Int64.lt_iff_toInt_lt]; omega
          have e12 : ¬ (d < 0 ∨ 1000000000 < d) := fun q => q.elim e1 e2
          refine lv_iconst (v := (nI 0)) hx hb dX10_apart_39 (by decide) ?_
          refine fh_put (C := RX10) (T := TX10) (N := 28) (t := .int) hx hb ht inX10 tyX10 tyX10_ok nmX10 hown hE.1 hP hS hM.m (hM.A0) rfl 0 (by decide) (ht _ kw_690) (fun _ h9 => h9) rfl (by decide +kernel) rfl rfl (Nat.le_of_ble_eq_true rfl) dX10_apart_40 (fun H locs hP hz hS => ?_)
          obtain ⟨h_1, eh_1⟩ : ∃ z, z = fh_up h ma (.inr (10, [.int (nI 0), .int (nI no), .ref (b 12), .int (nI nv), .ref (b 13), .ref (b 14), .int (nI ns), .ref (b 15), .ref (b 16), .ref (b 17), .ref (b 18), .ref (b 19), .ref (b 20), .ref (b 21), .ref (b 22), .ref (b 23), .ref (b 24), .int (nI J), .int (nI C.length), .ref (b 25), .int (nI LK.length), .ref (b 26), .ref (b 27), .int (nI RL.length), .ref (b 28), .ref (b 29), .ref (b 30), .ref (b 31)])) := ⟨_, rfl⟩
          have hP : fh_P G vwCl h_1 H := by rw [eh_1]; exact hP
          have hM_1 := MG.sc hM (th2 := (nI 0)) (no2 := no) (nv2 := nv) (ns2 := ns) (J2 := J) (nc2 := C.length) (nl2 := LK.length) (nr2 := RL.length) eh_1
          refine lv_aload_n hx hb dX10_apart_43 rfl (lv_at hl 0 rfl) ?_
          refine fh_get (C := RX10) (T := TX10) (N := 28) hx hb ht inX10 hown hE.1 hP hM_1.m rfl 0 (by decide) (ht _ kw_690) (fun _ h9 => h9) (v := .int (nI 0)) rfl dX10_apart_44 ?_
          refine lv_if_ne (tgt := 64) hx hb dX10_apart_47 (by decide) (fun c9 => absurd (rfl) c9) (fun _ => ?_)
          refine lv_iload_n hx hb dX10_apart_50 rfl (lv_at hl 1 rfl) ?_
          refine lv_iload_n hx hb dX10_apart_51 rfl (lv_at hl 2 rfl) ?_
          refine lv_icmp_eq (tgt := 64) hx hb dX10_apart_52 (by decide) (fun d3 => ?_) (fun d3 => ?_)
          · have e3 : a9 = b9 := (nI_eq (by omega) (by omega)).mp d3
            refine lv_iconst (v := (nI 0)) hx hb dX10_apart_64 (by decide) ?_
            have ep : oApart no RL (nI a9) (nI b9) d = (0, false, RL) := by simp only [oApart, hxx, hyy, if_neg e12, if_pos (show a9 = b9 ∨ RL.length = 20 from Or.inl e3)]
            exact fh_zret hx hb hr hlocks rfl (⟨_, rfl, fun _ => (by rw [ep] <;> rfl), by rw [ep]; exact ⟨_, _, _, _, _, _, _, _, _, _, _, _, _, _, _, _, _, _, _, _, hM_1, hX⟩⟩) hP hS (by first | exact (Nat.le_of_ble_eq_true rfl) | omega) (by first | exact (Nat.le_of_ble_eq_true rfl) | omega) dX10_apart_65
          · have e3 : ¬ a9 = b9 := fun q => d3 (by rw [q])
            refine lv_aload_n hx hb dX10_apart_55 rfl (lv_at hl 0 rfl) ?_
            refine fh_get (C := RX10) (T := TX10) (N := 28) hx hb ht inX10 hown hE.1 hP hM_1.m rfl 23 (by decide) (ht _ kw_713) (fun _ h9 => h9) (v := .int (nI RL.length)) rfl dX10_apart_56 ?_
            refine lv_bipush (v := (nI 20)) hx hb dX10_apart_59 (by decide) ?_
            refine lv_icmp_ne (tgt := 66) hx hb dX10_apart_61 (by decide) (fun d4 => ?_) (fun d4 => ?_)
            · have e4 : RL.length < 20 := by
                rcases Nat.lt_or_ge RL.length 20 with z | z
                · exact z
                · exact absurd (congrArg nI (show RL.length = 20 by omega)) d4
              refine lv_aload_n hx hb dX10_apart_66 rfl (lv_at hl 0 rfl) ?_
              refine fh_get (C := RX10) (T := TX10) (N := 28) hx hb ht inX10 hown hE.1 hP hM_1.m rfl 24 (by decide) (ht _ kw_714) (fun _ h9 => h9) (v := .ref (b 28)) rfl dX10_apart_67 ?_
              refine lv_aload_n hx hb dX10_apart_70 rfl (lv_at hl 0 rfl) ?_
              refine fh_get (C := RX10) (T := TX10) (N := 28) hx hb ht inX10 hown hE.1 hP hM_1.m rfl 23 (by decide) (ht _ kw_713) (fun _ h9 => h9) (v := .int (nI RL.length)) rfl dX10_apart_71 ?_
              refine lv_iload_n hx hb dX10_apart_74 rfl (lv_at hl 1 rfl) ?_
              refine fh_iast (k := RL.length) hx hb hE.1 hP hS hM_1.a28 (hM_1.A28) rfl (e4) (by decide) dX10_apart_75 (fun H locs hP hz hS => ?_)
              obtain ⟨h_2, eh_2⟩ : ∃ z, z = fh_up h_1 (b 28) (.inl (28, 20, .inl (upd rA RL.length (nI a9)))) := ⟨_, rfl⟩
              have hP : fh_P G vwCl h_2 H := by rw [eh_2]; exact hP
              have hM_2 := MG.w28 hM_1 (f2 := upd rA RL.length (nI a9)) eh_2
              refine lv_aload_n hx hb dX10_apart_76 rfl (lv_at hl 0 rfl) ?_
              refine fh_get (C := RX10) (T := TX10) (N := 28) hx hb ht inX10 hown hE.1 hP hM_2.m rfl 25 (by decide) (ht _ kw_715) (fun _ h9 => h9) (v := .ref (b 29)) rfl dX10_apart_77 ?_
              refine lv_aload_n hx hb dX10_apart_80 rfl (lv_at hl 0 rfl) ?_
              refine fh_get (C := RX10) (T := TX10) (N := 28) hx hb ht inX10 hown hE.1 hP hM_2.m rfl 23 (by decide) (ht _ kw_713) (fun _ h9 => h9) (v := .int (nI RL.length)) rfl dX10_apart_81 ?_
              refine lv_iload_n hx hb dX10_apart_84 rfl (lv_at hl 2 rfl) ?_
              refine fh_iast (k := RL.length) hx hb hE.1 hP hS hM_2.a29 (hM_2.A29) rfl (e4) (by decide) dX10_apart_85 (fun H locs hP hz hS => ?_)
              obtain ⟨h_3, eh_3⟩ : ∃ z, z = fh_up h_2 (b 29) (.inl (29, 20, .inl (upd rB RL.length (nI b9)))) := ⟨_, rfl⟩
              have hP : fh_P G vwCl h_3 H := by rw [eh_3]; exact hP
              have hM_3 := MG.w29 hM_2 (f2 := upd rB RL.length (nI b9)) eh_3
              refine lv_aload_n hx hb dX10_apart_86 rfl (lv_at hl 0 rfl) ?_
              refine fh_get (C := RX10) (T := TX10) (N := 28) hx hb ht inX10 hown hE.1 hP hM_3.m rfl 26 (by decide) (ht _ kw_716) (fun _ h9 => h9) (v := .ref (b 30)) rfl dX10_apart_87 ?_
              refine lv_aload_n hx hb dX10_apart_90 rfl (lv_at hl 0 rfl) ?_
              refine fh_get (C := RX10) (T := TX10) (N := 28) hx hb ht inX10 hown hE.1 hP hM_3.m rfl 23 (by decide) (ht _ kw_713) (fun _ h9 => h9) (v := .int (nI RL.length)) rfl dX10_apart_91 ?_
              refine lv_lload_n hx hb dX10_apart_94 rfl (lv_at hl 3 rfl) ?_
              refine fh_last (k := RL.length) hx hb hE.1 hP hS hM_3.a30 (hM_3.A30) rfl (e4) (by decide) dX10_apart_95 (fun H locs hP hz hS => ?_)
              obtain ⟨h_4, eh_4⟩ : ∃ z, z = fh_up h_3 (b 30) (.inl (30, 20, .inr (.inl (vp_updL rD RL.length d)))) := ⟨_, rfl⟩
              have hP : fh_P G vwCl h_4 H := by rw [eh_4]; exact hP
              have hM_4 := MG.w30 hM_3 (f2 := vp_updL rD RL.length d) eh_4
              refine lv_aload_n hx hb dX10_apart_96 rfl (lv_at hl 0 rfl) ?_
              refine lv_dup hx hb dX10_apart_97 rfl ?_
              refine fh_get (C := RX10) (T := TX10) (N := 28) hx hb ht inX10 hown hE.1 hP hM_4.m rfl 23 (by decide) (ht _ kw_713) (fun _ h9 => h9) (v := .int (nI RL.length)) rfl dX10_apart_98 ?_
              refine lv_iconst (v := (nI 1)) hx hb dX10_apart_101 (by decide) ?_
              refine lv_iadd hx hb dX10_apart_102 ?_
              refine lv_topi (fun z9 ez9 => ?_)
              rw [show z9 = nI (RL.length + 1) from ez9.trans (nI_add _ _)]
              refine fh_put (C := RX10) (T := TX10) (N := 28) (t := .int) hx hb ht inX10 tyX10 tyX10_ok nmX10 hown hE.1 hP hS hM_4.m (hM_4.A0) rfl 23 (by decide) (ht _ kw_713) (fun _ h9 => h9) rfl (by decide +kernel) rfl rfl (Nat.le_of_ble_eq_true rfl) dX10_apart_103 (fun H locs hP hz hS => ?_)
              obtain ⟨h_5, eh_5⟩ : ∃ z, z = fh_up h_4 ma (.inr (10, [.int (nI 0), .int (nI no), .ref (b 12), .int (nI nv), .ref (b 13), .ref (b 14), .int (nI ns), .ref (b 15), .ref (b 16), .ref (b 17), .ref (b 18), .ref (b 19), .ref (b 20), .ref (b 21), .ref (b 22), .ref (b 23), .ref (b 24), .int (nI J), .int (nI C.length), .ref (b 25), .int (nI LK.length), .ref (b 26), .ref (b 27), .int (nI (RL.length + 1)), .ref (b 28), .ref (b 29), .ref (b 30), .ref (b 31)])) := ⟨_, rfl⟩
              have hP : fh_P G vwCl h_5 H := by rw [eh_5]; exact hP
              have hM_5 := MG.sc hM_4 (th2 := (nI 0)) (no2 := no) (nv2 := nv) (ns2 := ns) (J2 := J) (nc2 := C.length) (nl2 := LK.length) (nr2 := (RL.length + 1)) eh_5
              refine lv_iconst (v := (nI 1)) hx hb dX10_apart_106 (by decide) ?_
              have hM9 : MG A h h_5 ma b (nI 0) no nv ns J C.length LK.length ((RL ++ [(a9, b9, d)]).length) fK fH fF fB fO fW fV fN cO cF cH cV fS fC lO lA (upd rA RL.length (nI a9)) (upd rB RL.length (nI b9)) (vp_updL rD RL.length d) fM := by rw [List.length_append]; exact hM_5
              have ep : oApart no RL (nI a9) (nI b9) d = (0, true, RL ++ [(a9, b9, d)]) := by simp only [oApart, hxx, hyy, if_neg e12, if_neg (show ¬ (a9 = b9 ∨ RL.length = 20) from fun q => q.elim e3 (Nat.ne_of_lt e4))]
              exact fh_zret hx hb hr hlocks rfl (⟨_, rfl, fun _ => (by rw [ep] <;> rfl), by rw [ep]; exact ⟨_, _, _, _, _, _, _, _, _, _, _, _, _, _, _, _, _, _, _, _, hM9, ⟨hX.1, hX.2.1, hX.2.2.1, hX.2.2.2.1, xL, mR_add xR _ _ _, xC, xM⟩⟩⟩) hP hS (by first | exact (Nat.le_of_ble_eq_true rfl) | omega) (by first | exact (Nat.le_of_ble_eq_true rfl) | omega) dX10_apart_107
            · have e4 : RL.length = 20 := (nI_eq (by omega) (by decide)).mp d4
              refine lv_iconst (v := (nI 0)) hx hb dX10_apart_64 (by decide) ?_
              have ep : oApart no RL (nI a9) (nI b9) d = (0, false, RL) := by simp only [oApart, hxx, hyy, if_neg e12, if_pos (show a9 = b9 ∨ RL.length = 20 from Or.inr e4)]
              exact fh_zret hx hb hr hlocks rfl (⟨_, rfl, fun _ => (by rw [ep] <;> rfl), by rw [ep]; exact ⟨_, _, _, _, _, _, _, _, _, _, _, _, _, _, _, _, _, _, _, _, hM_1, hX⟩⟩) hP hS (by first | exact (Nat.le_of_ble_eq_true rfl) | omega) (by first | exact (Nat.le_of_ble_eq_true rfl) | omega) dX10_apart_65
        · have e2 : (1000000000 : Int64) < d := by have z := mt (lg_cmp_le _ _).mpr d2; rw [Int64.le_iff_toInt_le] at z; rw [Int64.lt_iff_toInt_lt]; omega
          refine lv_iconst (v := (nI 2)) hx hb dX10_apart_35 (by decide) ?_
          refine lv_goto (tgt := 40) hx hb dX10_apart_36 (by decide) ?_
          refine fh_put (C := RX10) (T := TX10) (N := 28) (t := .int) hx hb ht inX10 tyX10 tyX10_ok nmX10 hown hE.1 hP hS hM.m (hM.A0) rfl 0 (by decide) (ht _ kw_690) (fun _ h9 => h9) rfl (by decide +kernel) rfl rfl (Nat.le_of_ble_eq_true rfl) dX10_apart_40 (fun H locs hP hz hS => ?_)
          obtain ⟨h_1, eh_1⟩ : ∃ z, z = fh_up h ma (.inr (10, [.int (nI 2), .int (nI no), .ref (b 12), .int (nI nv), .ref (b 13), .ref (b 14), .int (nI ns), .ref (b 15), .ref (b 16), .ref (b 17), .ref (b 18), .ref (b 19), .ref (b 20), .ref (b 21), .ref (b 22), .ref (b 23), .ref (b 24), .int (nI J), .int (nI C.length), .ref (b 25), .int (nI LK.length), .ref (b 26), .ref (b 27), .int (nI RL.length), .ref (b 28), .ref (b 29), .ref (b 30), .ref (b 31)])) := ⟨_, rfl⟩
          have hP : fh_P G vwCl h_1 H := by rw [eh_1]; exact hP
          have hM_1 := MG.sc hM (th2 := (nI 2)) (no2 := no) (nv2 := nv) (ns2 := ns) (J2 := J) (nc2 := C.length) (nl2 := LK.length) (nr2 := RL.length) eh_1
          refine lv_aload_n hx hb dX10_apart_43 rfl (lv_at hl 0 rfl) ?_
          refine fh_get (C := RX10) (T := TX10) (N := 28) hx hb ht inX10 hown hE.1 hP hM_1.m rfl 0 (by decide) (ht _ kw_690) (fun _ h9 => h9) (v := .int (nI 2)) rfl dX10_apart_44 ?_
          refine lv_if_ne (tgt := 64) hx hb dX10_apart_47 (by decide) (fun _ => ?_) (fun c9 => absurd c9 (by decide))
          refine lv_iconst (v := (nI 0)) hx hb dX10_apart_64 (by decide) ?_
          have ep : oApart no RL (nI a9) (nI b9) d = (2, false, RL) := by simp only [oApart, hxx, hyy]; rw [if_pos (Or.inr e2)]
          exact fh_zret hx hb hr hlocks rfl (⟨_, rfl, (fun z => by rw [ep] at z; cases z), by rw [ep]; exact ⟨_, _, _, _, _, _, _, _, _, _, _, _, _, _, _, _, _, _, _, _, hM_1, hX⟩⟩) hP hS (Nat.le_of_ble_eq_true rfl) (Nat.le_of_ble_eq_true rfl) dX10_apart_65

set_option maxRecDepth 100000 in
set_option maxHeartbeats 4000000 in
theorem q_conflict (l : Launch) (G : fG) (A : Nat → Prop) (h : FH) (sz : Nat) (ma : Nat) (b : Nat → Nat) (th : Int32) (no nv ns : Nat) (V : Vs) (S : Ss) (LK : List Ar) (RL : Rl) (J : Nat) (C : CL) (M : Nat → Int32) (hp0 : RepM A h h ma b th no nv ns V S LK RL J C M) (hB9 : Bd no nv ns S RL J C) (hLk : LK.length ≤ 10) (kk ww : Int32) : Met l yX10_conflict wsX10_conflict { frames := 2, cells := 0, slots := 0, locals := 65 } (va_Pc [.ref ma, .int kk, .int ww] (fh_Pre G A h sz)) (fh_Q G (fun v u => ∃ ans : Int32, v = some (.int ans) ∧ ((oConf S J C kk ww).1 = 0 → ans = (oConf S J C kk ww).2) ∧ RepM A h u ma b (nI (oConf S J C kk ww).1) no nv ns V S LK RL J C M) A) 0 0 A := by
  refine fh_Met [.ref ma, .int kk, .int ww] (by decide) rfl (Nat.le_of_ble_eq_true rfl) ?_
  intro p e s m below meth c hx hb hr hlocks hml hown hnm hts hsz hP hE hS ls hl
  have ht : ∀ w ∈ wB, w.before _ s = true := fun w h9 => hts w (List.mem_cons_of_mem _ h9)
  have hl : lv_has ls 5 [(0, .ref ma), (1, .int kk), (2, .int ww)] := hl
  obtain ⟨fK, fH, fF, fB, fO, fW, fV, fN, cO, cF, cH, cV, fS, fC, lO, lA, rA, rB, rD, fM, hM, hX⟩ := hp0
  obtain ⟨hno, hnv, hnv0, hns, hbs, hCl, hCb, hJ, hRn, hRb⟩ := id hB9
  obtain ⟨⟨zH, zO, zW, zcH⟩, xV, xS, xN, xL, xR, xC, xM⟩ := id hX
  rcases pk_ix kk (n := C.length) (by omega) with z | z | ⟨j, hj, rfl⟩
  · refine lv_aload_n hx hb dX10_conflict_0 rfl (lv_at hl 0 rfl) ?_
    refine lv_iload_n hx hb dX10_conflict_1 rfl (lv_at hl 1 rfl) ?_
    refine lv_if_lt (tgt := 26) hx hb dX10_conflict_2 (by decide) (fun _ => ?_) (fun c9 => absurd (z) c9)
    refine lv_iconst (v := (nI 1)) hx hb dX10_conflict_26 (by decide) ?_
    refine fh_put (C := RX10) (T := TX10) (N := 28) (t := .int) hx hb ht inX10 tyX10 tyX10_ok nmX10 hown hE.1 hP hS hM.m (hM.A0) rfl 0 (by decide) (ht _ kw_690) (fun _ h9 => h9) rfl (by decide +kernel) rfl rfl (Nat.le_of_ble_eq_true rfl) dX10_conflict_27 (fun H locs hP hz hS => ?_)
    obtain ⟨h_1, eh_1⟩ : ∃ z, z = fh_up h ma (.inr (10, [.int (nI 1), .int (nI no), .ref (b 12), .int (nI nv), .ref (b 13), .ref (b 14), .int (nI ns), .ref (b 15), .ref (b 16), .ref (b 17), .ref (b 18), .ref (b 19), .ref (b 20), .ref (b 21), .ref (b 22), .ref (b 23), .ref (b 24), .int (nI J), .int (nI C.length), .ref (b 25), .int (nI LK.length), .ref (b 26), .ref (b 27), .int (nI RL.length), .ref (b 28), .ref (b 29), .ref (b 30), .ref (b 31)])) := ⟨_, rfl⟩
    have hP : fh_P G vwCl h_1 H := by rw [eh_1]; exact hP
    have hM_1 := MG.sc hM (th2 := (nI 1)) (no2 := no) (nv2 := nv) (ns2 := ns) (J2 := J) (nc2 := C.length) (nl2 := LK.length) (nr2 := RL.length) eh_1
    refine lv_aload_n hx hb dX10_conflict_30 rfl (lv_at hl 0 rfl) ?_
    refine fh_get (C := RX10) (T := TX10) (N := 28) hx hb ht inX10 hown hE.1 hP hM_1.m rfl 0 (by decide) (ht _ kw_690) (fun _ h9 => h9) (v := .int (nI 1)) rfl dX10_conflict_31 ?_
    refine lv_if_eq (tgt := 39) hx hb dX10_conflict_34 (by decide) (fun c9 => absurd c9 (by decide)) (fun _ => ?_)
    refine lv_iconst (v := (nI 0)) hx hb dX10_conflict_37 (by decide) ?_
    have ep : oConf S J C kk ww = (1, 0) := by simp [oConf, ix_none (Or.inl z)]
    exact fh_iret hx hb hr hlocks (⟨_, rfl, (fun z => by rw [ep] at z; cases z), by rw [ep]; exact ⟨_, _, _, _, _, _, _, _, _, _, _, _, _, _, _, _, _, _, _, _, hM_1, hX⟩⟩) hP hS (Nat.le_of_ble_eq_true rfl) (Nat.le_of_ble_eq_true rfl) dX10_conflict_38
  · refine lv_aload_n hx hb dX10_conflict_0 rfl (lv_at hl 0 rfl) ?_
    refine lv_iload_n hx hb dX10_conflict_1 rfl (lv_at hl 1 rfl) ?_
    refine lv_if_lt (tgt := 26) hx hb dX10_conflict_2 (by decide) (fun c9 => absurd c9 (fun q => by rw [Int32.lt_iff_toInt_lt] at q; rw [Int32.le_iff_toInt_le, nI_toInt (by omega)] at z; have : (0 : Int32).toInt = 0 := rfl; omega)) (fun _ => ?_)
    refine lv_iload_n hx hb dX10_conflict_5 rfl (lv_at hl 1 rfl) ?_
    refine lv_aload_n hx hb dX10_conflict_6 rfl (lv_at hl 0 rfl) ?_
    refine fh_get (C := RX10) (T := TX10) (N := 28) hx hb ht inX10 hown hE.1 hP hM.m rfl 18 (by decide) (ht _ kw_708) (fun _ h9 => h9) (v := .int (nI C.length)) rfl dX10_conflict_7 ?_
    refine lv_icmp_ge (tgt := 26) hx hb dX10_conflict_10 (by decide) (fun _ => ?_) (fun c9 => absurd (z) c9)
    refine lv_iconst (v := (nI 1)) hx hb dX10_conflict_26 (by decide) ?_
    refine fh_put (C := RX10) (T := TX10) (N := 28) (t := .int) hx hb ht inX10 tyX10 tyX10_ok nmX10 hown hE.1 hP hS hM.m (hM.A0) rfl 0 (by decide) (ht _ kw_690) (fun _ h9 => h9) rfl (by decide +kernel) rfl rfl (Nat.le_of_ble_eq_true rfl) dX10_conflict_27 (fun H locs hP hz hS => ?_)
    obtain ⟨h_1, eh_1⟩ : ∃ z, z = fh_up h ma (.inr (10, [.int (nI 1), .int (nI no), .ref (b 12), .int (nI nv), .ref (b 13), .ref (b 14), .int (nI ns), .ref (b 15), .ref (b 16), .ref (b 17), .ref (b 18), .ref (b 19), .ref (b 20), .ref (b 21), .ref (b 22), .ref (b 23), .ref (b 24), .int (nI J), .int (nI C.length), .ref (b 25), .int (nI LK.length), .ref (b 26), .ref (b 27), .int (nI RL.length), .ref (b 28), .ref (b 29), .ref (b 30), .ref (b 31)])) := ⟨_, rfl⟩
    have hP : fh_P G vwCl h_1 H := by rw [eh_1]; exact hP
    have hM_1 := MG.sc hM (th2 := (nI 1)) (no2 := no) (nv2 := nv) (ns2 := ns) (J2 := J) (nc2 := C.length) (nl2 := LK.length) (nr2 := RL.length) eh_1
    refine lv_aload_n hx hb dX10_conflict_30 rfl (lv_at hl 0 rfl) ?_
    refine fh_get (C := RX10) (T := TX10) (N := 28) hx hb ht inX10 hown hE.1 hP hM_1.m rfl 0 (by decide) (ht _ kw_690) (fun _ h9 => h9) (v := .int (nI 1)) rfl dX10_conflict_31 ?_
    refine lv_if_eq (tgt := 39) hx hb dX10_conflict_34 (by decide) (fun c9 => absurd c9 (by decide)) (fun _ => ?_)
    refine lv_iconst (v := (nI 0)) hx hb dX10_conflict_37 (by decide) ?_
    have ep : oConf S J C kk ww = (1, 0) := by simp [oConf, ix_none (Or.inr z)]
    exact fh_iret hx hb hr hlocks (⟨_, rfl, (fun z => by rw [ep] at z; cases z), by rw [ep]; exact ⟨_, _, _, _, _, _, _, _, _, _, _, _, _, _, _, _, _, _, _, _, hM_1, hX⟩⟩) hP hS (Nat.le_of_ble_eq_true rfl) (Nat.le_of_ble_eq_true rfl) dX10_conflict_38
  · have hjx := ix_some hj (show C.length < 2 ^ 31 by omega)
    obtain ⟨o9, f9, hq⟩ : ∃ o9 f9, C[j]? = some (o9, f9) := ⟨_, _, List.getElem?_eq_getElem hj⟩
    have hq2 := hCb _ (List.mem_of_getElem? hq)
    have efc := xC j _ hq
    have hJn : J < ns := hJ (fun q => by rw [q] at hj; exact absurd hj (Nat.not_lt_zero j))
    have hJ2 : J < 20 := by omega
    obtain ⟨s1, s2, s3, s4, s5, s6, s7, s8⟩ := xS J hJn
    rcases pk_ix ww (n := 3) (by decide) with z | z | ⟨n9, hn9, rfl⟩
    · refine lv_aload_n hx hb dX10_conflict_0 rfl (lv_at hl 0 rfl) ?_
      refine lv_iload_n hx hb dX10_conflict_1 rfl (lv_at hl 1 rfl) ?_
      refine lv_if_lt (tgt := 26) hx hb dX10_conflict_2 (by decide) (fun c9 => absurd c9 (nI_pos (by omega))) (fun _ => ?_)
      refine lv_iload_n hx hb dX10_conflict_5 rfl (lv_at hl 1 rfl) ?_
      refine lv_aload_n hx hb dX10_conflict_6 rfl (lv_at hl 0 rfl) ?_
      refine fh_get (C := RX10) (T := TX10) (N := 28) hx hb ht inX10 hown hE.1 hP hM.m rfl 18 (by decide) (ht _ kw_708) (fun _ h9 => h9) (v := .int (nI C.length)) rfl dX10_conflict_7 ?_
      refine lv_icmp_ge (tgt := 26) hx hb dX10_conflict_10 (by decide) (fun c9 => absurd c9 (nI_ge hj (by omega))) (fun _ => ?_)
      refine lv_iload_n hx hb dX10_conflict_13 rfl (lv_at hl 2 rfl) ?_
      refine lv_if_lt (tgt := 26) hx hb dX10_conflict_14 (by decide) (fun _ => ?_) (fun c9 => absurd (z) c9)
      refine lv_iconst (v := (nI 1)) hx hb dX10_conflict_26 (by decide) ?_
      refine fh_put (C := RX10) (T := TX10) (N := 28) (t := .int) hx hb ht inX10 tyX10 tyX10_ok nmX10 hown hE.1 hP hS hM.m (hM.A0) rfl 0 (by decide) (ht _ kw_690) (fun _ h9 => h9) rfl (by decide +kernel) rfl rfl (Nat.le_of_ble_eq_true rfl) dX10_conflict_27 (fun H locs hP hz hS => ?_)
      obtain ⟨h_1, eh_1⟩ : ∃ z, z = fh_up h ma (.inr (10, [.int (nI 1), .int (nI no), .ref (b 12), .int (nI nv), .ref (b 13), .ref (b 14), .int (nI ns), .ref (b 15), .ref (b 16), .ref (b 17), .ref (b 18), .ref (b 19), .ref (b 20), .ref (b 21), .ref (b 22), .ref (b 23), .ref (b 24), .int (nI J), .int (nI C.length), .ref (b 25), .int (nI LK.length), .ref (b 26), .ref (b 27), .int (nI RL.length), .ref (b 28), .ref (b 29), .ref (b 30), .ref (b 31)])) := ⟨_, rfl⟩
      have hP : fh_P G vwCl h_1 H := by rw [eh_1]; exact hP
      have hM_1 := MG.sc hM (th2 := (nI 1)) (no2 := no) (nv2 := nv) (ns2 := ns) (J2 := J) (nc2 := C.length) (nl2 := LK.length) (nr2 := RL.length) eh_1
      refine lv_aload_n hx hb dX10_conflict_30 rfl (lv_at hl 0 rfl) ?_
      refine fh_get (C := RX10) (T := TX10) (N := 28) hx hb ht inX10 hown hE.1 hP hM_1.m rfl 0 (by decide) (ht _ kw_690) (fun _ h9 => h9) (v := .int (nI 1)) rfl dX10_conflict_31 ?_
      refine lv_if_eq (tgt := 39) hx hb dX10_conflict_34 (by decide) (fun c9 => absurd c9 (by decide)) (fun _ => ?_)
      refine lv_iconst (v := (nI 0)) hx hb dX10_conflict_37 (by decide) ?_
      have ep : oConf S J C (nI j) ww = (1, 0) := by simp [oConf, hjx, ix_none (Or.inl z)]
      exact fh_iret hx hb hr hlocks (⟨_, rfl, (fun z => by rw [ep] at z; cases z), by rw [ep]; exact ⟨_, _, _, _, _, _, _, _, _, _, _, _, _, _, _, _, _, _, _, _, hM_1, hX⟩⟩) hP hS (Nat.le_of_ble_eq_true rfl) (Nat.le_of_ble_eq_true rfl) dX10_conflict_38
    · refine lv_aload_n hx hb dX10_conflict_0 rfl (lv_at hl 0 rfl) ?_
      refine lv_iload_n hx hb dX10_conflict_1 rfl (lv_at hl 1 rfl) ?_
      refine lv_if_lt (tgt := 26) hx hb dX10_conflict_2 (by decide) (fun c9 => absurd c9 (nI_pos (by omega))) (fun _ => ?_)
      refine lv_iload_n hx hb dX10_conflict_5 rfl (lv_at hl 1 rfl) ?_
      refine lv_aload_n hx hb dX10_conflict_6 rfl (lv_at hl 0 rfl) ?_
      refine fh_get (C := RX10) (T := TX10) (N := 28) hx hb ht inX10 hown hE.1 hP hM.m rfl 18 (by decide) (ht _ kw_708) (fun _ h9 => h9) (v := .int (nI C.length)) rfl dX10_conflict_7 ?_
      refine lv_icmp_ge (tgt := 26) hx hb dX10_conflict_10 (by decide) (fun c9 => absurd c9 (nI_ge hj (by omega))) (fun _ => ?_)
      refine lv_iload_n hx hb dX10_conflict_13 rfl (lv_at hl 2 rfl) ?_
      refine lv_if_lt (tgt := 26) hx hb dX10_conflict_14 (by decide) (fun c9 => absurd c9 (fun q => by rw [Int32.lt_iff_toInt_lt] at q; rw [Int32.le_iff_toInt_le, nI_toInt (by omega)] at z; have : (0 : Int32).toInt = 0 := rfl; omega)) (fun _ => ?_)
      refine lv_iload_n hx hb dX10_conflict_17 rfl (lv_at hl 2 rfl) ?_
      refine lv_iconst (v := (nI 3)) hx hb dX10_conflict_18 (by decide) ?_
      refine lv_icmp_ge (tgt := 26) hx hb dX10_conflict_19 (by decide) (fun _ => ?_) (fun c9 => absurd (z) c9)
      refine lv_iconst (v := (nI 1)) hx hb dX10_conflict_26 (by decide) ?_
      refine fh_put (C := RX10) (T := TX10) (N := 28) (t := .int) hx hb ht inX10 tyX10 tyX10_ok nmX10 hown hE.1 hP hS hM.m (hM.A0) rfl 0 (by decide) (ht _ kw_690) (fun _ h9 => h9) rfl (by decide +kernel) rfl rfl (Nat.le_of_ble_eq_true rfl) dX10_conflict_27 (fun H locs hP hz hS => ?_)
      obtain ⟨h_1, eh_1⟩ : ∃ z, z = fh_up h ma (.inr (10, [.int (nI 1), .int (nI no), .ref (b 12), .int (nI nv), .ref (b 13), .ref (b 14), .int (nI ns), .ref (b 15), .ref (b 16), .ref (b 17), .ref (b 18), .ref (b 19), .ref (b 20), .ref (b 21), .ref (b 22), .ref (b 23), .ref (b 24), .int (nI J), .int (nI C.length), .ref (b 25), .int (nI LK.length), .ref (b 26), .ref (b 27), .int (nI RL.length), .ref (b 28), .ref (b 29), .ref (b 30), .ref (b 31)])) := ⟨_, rfl⟩
      have hP : fh_P G vwCl h_1 H := by rw [eh_1]; exact hP
      have hM_1 := MG.sc hM (th2 := (nI 1)) (no2 := no) (nv2 := nv) (ns2 := ns) (J2 := J) (nc2 := C.length) (nl2 := LK.length) (nr2 := RL.length) eh_1
      refine lv_aload_n hx hb dX10_conflict_30 rfl (lv_at hl 0 rfl) ?_
      refine fh_get (C := RX10) (T := TX10) (N := 28) hx hb ht inX10 hown hE.1 hP hM_1.m rfl 0 (by decide) (ht _ kw_690) (fun _ h9 => h9) (v := .int (nI 1)) rfl dX10_conflict_31 ?_
      refine lv_if_eq (tgt := 39) hx hb dX10_conflict_34 (by decide) (fun c9 => absurd c9 (by decide)) (fun _ => ?_)
      refine lv_iconst (v := (nI 0)) hx hb dX10_conflict_37 (by decide) ?_
      have ep : oConf S J C (nI j) ww = (1, 0) := by simp [oConf, hjx, ix_none (Or.inr z)]
      exact fh_iret hx hb hr hlocks (⟨_, rfl, (fun z => by rw [ep] at z; cases z), by rw [ep]; exact ⟨_, _, _, _, _, _, _, _, _, _, _, _, _, _, _, _, _, _, _, _, hM_1, hX⟩⟩) hP hS (Nat.le_of_ble_eq_true rfl) (Nat.le_of_ble_eq_true rfl) dX10_conflict_38
    · have hwx := ix_some hn9 (by decide)
      refine lv_aload_n hx hb dX10_conflict_0 rfl (lv_at hl 0 rfl) ?_
      refine lv_iload_n hx hb dX10_conflict_1 rfl (lv_at hl 1 rfl) ?_
      refine lv_if_lt (tgt := 26) hx hb dX10_conflict_2 (by decide) (fun c9 => absurd c9 (nI_pos (by omega))) (fun _ => ?_)
      refine lv_iload_n hx hb dX10_conflict_5 rfl (lv_at hl 1 rfl) ?_
      refine lv_aload_n hx hb dX10_conflict_6 rfl (lv_at hl 0 rfl) ?_
      refine fh_get (C := RX10) (T := TX10) (N := 28) hx hb ht inX10 hown hE.1 hP hM.m rfl 18 (by decide) (ht _ kw_708) (fun _ h9 => h9) (v := .int (nI C.length)) rfl dX10_conflict_7 ?_
      refine lv_icmp_ge (tgt := 26) hx hb dX10_conflict_10 (by decide) (fun c9 => absurd c9 (nI_ge hj (by omega))) (fun _ => ?_)
      refine lv_iload_n hx hb dX10_conflict_13 rfl (lv_at hl 2 rfl) ?_
      refine lv_if_lt (tgt := 26) hx hb dX10_conflict_14 (by decide) (fun c9 => absurd c9 (nI_pos (by omega))) (fun _ => ?_)
      refine lv_iload_n hx hb dX10_conflict_17 rfl (lv_at hl 2 rfl) ?_
      refine lv_iconst (v := (nI 3)) hx hb dX10_conflict_18 (by decide) ?_
      refine lv_icmp_ge (tgt := 26) hx hb dX10_conflict_19 (by decide) (fun c9 => absurd c9 (nI_ge hn9 (by decide))) (fun _ => ?_)
      refine lv_iconst (v := (nI 0)) hx hb dX10_conflict_22 (by decide) ?_
      refine lv_goto (tgt := 27) hx hb dX10_conflict_23 (by decide) ?_
      refine fh_put (C := RX10) (T := TX10) (N := 28) (t := .int) hx hb ht inX10 tyX10 tyX10_ok nmX10 hown hE.1 hP hS hM.m (hM.A0) rfl 0 (by decide) (ht _ kw_690) (fun _ h9 => h9) rfl (by decide +kernel) rfl rfl (Nat.le_of_ble_eq_true rfl) dX10_conflict_27 (fun H locs hP hz hS => ?_)
      obtain ⟨h_1, eh_1⟩ : ∃ z, z = fh_up h ma (.inr (10, [.int (nI 0), .int (nI no), .ref (b 12), .int (nI nv), .ref (b 13), .ref (b 14), .int (nI ns), .ref (b 15), .ref (b 16), .ref (b 17), .ref (b 18), .ref (b 19), .ref (b 20), .ref (b 21), .ref (b 22), .ref (b 23), .ref (b 24), .int (nI J), .int (nI C.length), .ref (b 25), .int (nI LK.length), .ref (b 26), .ref (b 27), .int (nI RL.length), .ref (b 28), .ref (b 29), .ref (b 30), .ref (b 31)])) := ⟨_, rfl⟩
      have hP : fh_P G vwCl h_1 H := by rw [eh_1]; exact hP
      have hM_1 := MG.sc hM (th2 := (nI 0)) (no2 := no) (nv2 := nv) (ns2 := ns) (J2 := J) (nc2 := C.length) (nl2 := LK.length) (nr2 := RL.length) eh_1
      refine lv_aload_n hx hb dX10_conflict_30 rfl (lv_at hl 0 rfl) ?_
      refine fh_get (C := RX10) (T := TX10) (N := 28) hx hb ht inX10 hown hE.1 hP hM_1.m rfl 0 (by decide) (ht _ kw_690) (fun _ h9 => h9) (v := .int (nI 0)) rfl dX10_conflict_31 ?_
      refine lv_if_eq (tgt := 39) hx hb dX10_conflict_34 (by decide) (fun _ => ?_) (fun c9 => absurd (rfl) c9)
      refine lv_aload_n hx hb dX10_conflict_39 rfl (lv_at hl 0 rfl) ?_
      refine fh_get (C := RX10) (T := TX10) (N := 28) hx hb ht inX10 hown hE.1 hP hM_1.m rfl 19 (by decide) (ht _ kw_709) (fun _ h9 => h9) (v := .ref (b 25)) rfl dX10_conflict_40 ?_
      refine lv_iload_n hx hb dX10_conflict_43 rfl (lv_at hl 1 rfl) ?_
      refine fh_iald (k := j) hx hb hE.1 hP hM_1.a25 rfl (by omega) (by decide) dX10_conflict_44 ?_
      rw [efc]
      refine lv_bipush (v := (nI 7)) hx hb dX10_conflict_45 (by decide) ?_
      refine lv_idiv hx hb dX10_conflict_47 (by decide) ?_
      refine lv_topi (fun z9 ez9 => ?_)
      rw [show z9 = nI o9 from ez9.trans (cod7_d hq2.1 hq2.2)]
      refine lv_istore_n (lv' := [(3, .int (nI o9)), (0, .ref ma), (1, .int (nI j)), (2, .int (nI n9))]) hx hb dX10_conflict_48 rfl hl (by decide) rfl (fun ls hl => ?_)
      refine lv_aload_n hx hb dX10_conflict_49 rfl (lv_at hl 1 rfl) ?_
      refine fh_get (C := RX10) (T := TX10) (N := 28) hx hb ht inX10 hown hE.1 hP hM_1.m rfl 19 (by decide) (ht _ kw_709) (fun _ h9 => h9) (v := .ref (b 25)) rfl dX10_conflict_50 ?_
      refine lv_iload_n hx hb dX10_conflict_53 rfl (lv_at hl 2 rfl) ?_
      refine fh_iald (k := j) hx hb hE.1 hP hM_1.a25 rfl (by omega) (by decide) dX10_conflict_54 ?_
      rw [efc]
      refine lv_bipush (v := (nI 7)) hx hb dX10_conflict_55 (by decide) ?_
      refine lv_irem hx hb dX10_conflict_57 (by decide) ?_
      refine lv_topi (fun z9 ez9 => ?_)
      rw [show z9 = nI f9 from ez9.trans (cod7_r hq2.1 hq2.2)]
      refine lv_istore (lv' := [(4, .int (nI f9)), (3, .int (nI o9)), (0, .ref ma), (1, .int (nI j)), (2, .int (nI n9))]) hx hb dX10_conflict_58 hl (by decide) rfl (fun ls hl => ?_)
      refine lv_iload_n hx hb dX10_conflict_60 rfl (lv_at hl 4 rfl) ?_
      refine lv_if_ne (tgt := 68) hx hb dX10_conflict_61 (by decide) (fun d1 => ?_) (fun d1 => ?_)
      · have e1 : ¬ n9 = 0 := fun z => d1 (by rw [z]; rfl)
        refine lv_iload_n hx hb dX10_conflict_68 rfl (lv_at hl 4 rfl) ?_
        refine lv_iconst (v := (nI 1)) hx hb dX10_conflict_69 (by decide) ?_
        refine lv_icmp_ne (tgt := 78) hx hb dX10_conflict_70 (by decide) (fun d2 => ?_) (fun d2 => ?_)
        · have e2 : ¬ n9 = 1 := fun z => d2 (by rw [z])
          refine lv_aload_n hx hb dX10_conflict_78 rfl (lv_at hl 2 rfl) ?_
          refine lv_aload_n hx hb dX10_conflict_79 rfl (lv_at hl 2 rfl) ?_
          refine fh_get (C := RX10) (T := TX10) (N := 28) hx hb ht inX10 hown hE.1 hP hM_1.m rfl 17 (by decide) (ht _ kw_707) (fun _ h9 => h9) (v := .int (nI J)) rfl dX10_conflict_80 ?_
          refine lv_iload_n hx hb dX10_conflict_83 rfl (lv_at hl 1 rfl) ?_
          refine lv_iload hx hb dX10_conflict_84 (lv_at hl 0 rfl) ?_
          refine fh_cV (q := (RX10, TX10, 28)) (As := [.int (nI J), .int (nI o9), .int (nI f9)]) (rest := []) (b := ma) ⟨hx, hb, hml, hown, ht⟩ (m_sideOf l G A h_1 _ hM_1.re J o9 f9 hJ2 hq2.1 hq2.2) (cwV 3 ht (gV kw_894 kw_896 kp_34 kw_5 kw_897) rfl rfl rfl yd_X10_sideOf ⟨(Nat.le_of_ble_eq_true rfl), (Nat.le_of_ble_eq_true rfl)⟩) hP hE hS hM_1.m rfl rfl hl.1 rfl (Nat.le_of_ble_eq_true rfl) dX10_conflict_86 ⟨(Nat.le_of_ble_eq_true rfl), (Nat.le_of_ble_eq_true rfl)⟩ (fun v u H locs hp hP hz hS => ?_)
          rw [show fS (420 * J + 7 * o9 + f9) = (S J).2.2.2.2 (o9 * 7 + f9) by rw [show 420 * J + 7 * o9 + f9 = 420 * J + (o9 * 7 + f9) by omega]; exact s8 _ (by omega)] at hp
          obtain ⟨rfl, eu⟩ := hp
          rw [eu] at hP
          refine W.eq (g2 := F0 m 89 ls [.int ((S J).2.2.2.2 (o9 * 7 + f9) - nI 1)]) rfl ?_
          have ep : oConf S J C (nI j) (nI n9) = (0, (S J).2.2.2.2 (o9 * 7 + f9) - nI 1) := by simp only [oConf, hjx, hwx, getD_of hq]; rw [if_neg e1, if_neg e2]
          exact fh_iret hx hb hr hlocks (⟨_, rfl, fun _ => (by rw [ep] <;> rfl), by rw [ep]; exact ⟨_, _, _, _, _, _, _, _, _, _, _, _, _, _, _, _, _, _, _, _, hM_1, hX⟩⟩) hP hS (by first | exact (Nat.le_of_ble_eq_true rfl) | omega) (by first | exact (Nat.le_of_ble_eq_true rfl) | omega) dX10_conflict_89
        · have e2 : n9 = 1 := (nI_eq (by omega) (by decide)).mp d2
          refine lv_iload hx hb dX10_conflict_73 (lv_at hl 0 rfl) ?_
          refine lv_goto (tgt := 89) hx hb dX10_conflict_75 (by decide) ?_
          have ep : oConf S J C (nI j) (nI n9) = (0, nI f9) := by simp only [oConf, hjx, hwx, getD_of hq]; rw [if_neg e1, if_pos e2]
          exact fh_iret hx hb hr hlocks (⟨_, rfl, fun _ => (by rw [ep] <;> rfl), by rw [ep]; exact ⟨_, _, _, _, _, _, _, _, _, _, _, _, _, _, _, _, _, _, _, _, hM_1, hX⟩⟩) hP hS (by first | exact (Nat.le_of_ble_eq_true rfl) | omega) (by first | exact (Nat.le_of_ble_eq_true rfl) | omega) dX10_conflict_89
      · have e1 : n9 = 0 := (nI_eq (by omega) (by decide)).mp (d1.trans nI_0.symm)
        refine lv_iload_n hx hb dX10_conflict_64 rfl (lv_at hl 1 rfl) ?_
        refine lv_goto (tgt := 89) hx hb dX10_conflict_65 (by decide) ?_
        have ep : oConf S J C (nI j) (nI n9) = (0, nI o9) := by simp only [oConf, hjx, hwx, getD_of hq]; rw [if_pos e1]
        exact fh_iret hx hb hr hlocks (⟨_, rfl, fun _ => (by rw [ep] <;> rfl), by rw [ep]; exact ⟨_, _, _, _, _, _, _, _, _, _, _, _, _, _, _, _, _, _, _, _, hM_1, hX⟩⟩) hP hS (by first | exact (Nat.le_of_ble_eq_true rfl) | omega) (by first | exact (Nat.le_of_ble_eq_true rfl) | omega) dX10_conflict_89

set_option maxRecDepth 100000 in
set_option maxHeartbeats 4000000 in
theorem q_settle (l : Launch) (G : fG) (A : Nat → Prop) (h : FH) (sz : Nat) (ma : Nat) (b : Nat → Nat) (th : Int32) (no nv ns : Nat) (V : Vs) (S : Ss) (LK : List Ar) (RL : Rl) (J : Nat) (C : CL) (M : Nat → Int32) (hp0 : RepM A h h ma b th no nv ns V S LK RL J C M) (hB9 : Bd no nv ns S RL J C) (hLk : LK.length ≤ 10) (kk ww : Int32) : Met l yX10_settle wsX10_settle { frames := 2, cells := 0, slots := 0, locals := 65 } (va_Pc [.ref ma, .int kk, .int ww] (fh_Pre G A h sz)) (fh_Q G (fun v u => ∃ ans : Int32, v = some (.int ans) ∧ ((oSettle S J C kk ww).1 = 0 → ans = bI (oSettle S J C kk ww).2.1) ∧ RepM A h u ma b (nI (oSettle S J C kk ww).1) no nv ns V ((oSettle S J C kk ww).2.2) LK RL J C M) A) 0 0 A := by
  refine fh_Met [.ref ma, .int kk, .int ww] (by decide) rfl (Nat.le_of_ble_eq_true rfl) ?_
  intro p e s m below meth c hx hb hr hlocks hml hown hnm hts hsz hP hE hS ls hl
  have ht : ∀ w ∈ wB, w.before _ s = true := fun w h9 => hts w (List.mem_cons_of_mem _ h9)
  have hl : lv_has ls 5 [(0, .ref ma), (1, .int kk), (2, .int ww)] := hl
  obtain ⟨fK, fH, fF, fB, fO, fW, fV, fN, cO, cF, cH, cV, fS, fC, lO, lA, rA, rB, rD, fM, hM, hX⟩ := hp0
  obtain ⟨hno, hnv, hnv0, hns, hbs, hCl, hCb, hJ, hRn, hRb⟩ := id hB9
  obtain ⟨⟨zH, zO, zW, zcH⟩, xV, xS, xN, xL, xR, xC, xM⟩ := id hX
  rcases pk_ix kk (n := C.length) (by omega) with z | z | ⟨j, hj, rfl⟩
  · refine lv_aload_n hx hb dX10_settle_0 rfl (lv_at hl 0 rfl) ?_
    refine lv_iload_n hx hb dX10_settle_1 rfl (lv_at hl 1 rfl) ?_
    refine lv_if_lt (tgt := 13) hx hb dX10_settle_2 (by decide) (fun _ => ?_) (fun c9 => absurd (z) c9)
    refine lv_iconst (v := (nI 1)) hx hb dX10_settle_13 (by decide) ?_
    refine lv_goto (tgt := 47) hx hb dX10_settle_14 (by decide) ?_
    refine fh_put (C := RX10) (T := TX10) (N := 28) (t := .int) hx hb ht inX10 tyX10 tyX10_ok nmX10 hown hE.1 hP hS hM.m (hM.A0) rfl 0 (by decide) (ht _ kw_690) (fun _ h9 => h9) rfl (by decide +kernel) rfl rfl (Nat.le_of_ble_eq_true rfl) dX10_settle_47 (fun H locs hP hz hS => ?_)
    obtain ⟨h_1, eh_1⟩ : ∃ z, z = fh_up h ma (.inr (10, [.int (nI 1), .int (nI no), .ref (b 12), .int (nI nv), .ref (b 13), .ref (b 14), .int (nI ns), .ref (b 15), .ref (b 16), .ref (b 17), .ref (b 18), .ref (b 19), .ref (b 20), .ref (b 21), .ref (b 22), .ref (b 23), .ref (b 24), .int (nI J), .int (nI C.length), .ref (b 25), .int (nI LK.length), .ref (b 26), .ref (b 27), .int (nI RL.length), .ref (b 28), .ref (b 29), .ref (b 30), .ref (b 31)])) := ⟨_, rfl⟩
    have hP : fh_P G vwCl h_1 H := by rw [eh_1]; exact hP
    have hM_1 := MG.sc hM (th2 := (nI 1)) (no2 := no) (nv2 := nv) (ns2 := ns) (J2 := J) (nc2 := C.length) (nl2 := LK.length) (nr2 := RL.length) eh_1
    refine lv_aload_n hx hb dX10_settle_50 rfl (lv_at hl 0 rfl) ?_
    refine fh_get (C := RX10) (T := TX10) (N := 28) hx hb ht inX10 hown hE.1 hP hM_1.m rfl 0 (by decide) (ht _ kw_690) (fun _ h9 => h9) (v := .int (nI 1)) rfl dX10_settle_51 ?_
    refine lv_if_eq (tgt := 59) hx hb dX10_settle_54 (by decide) (fun c9 => absurd c9 (by decide)) (fun _ => ?_)
    refine lv_iconst (v := (nI 0)) hx hb dX10_settle_57 (by decide) ?_
    have ep : oSettle S J C kk ww = (1, false, S) := by simp [oSettle, ix_none (Or.inl z)]
    exact fh_zret hx hb hr hlocks rfl (⟨_, rfl, (fun z => by rw [ep] at z; cases z), by rw [ep]; exact ⟨_, _, _, _, _, _, _, _, _, _, _, _, _, _, _, _, _, _, _, _, hM_1, hX⟩⟩) hP hS (Nat.le_of_ble_eq_true rfl) (Nat.le_of_ble_eq_true rfl) dX10_settle_58
  · refine lv_aload_n hx hb dX10_settle_0 rfl (lv_at hl 0 rfl) ?_
    refine lv_iload_n hx hb dX10_settle_1 rfl (lv_at hl 1 rfl) ?_
    refine lv_if_lt (tgt := 13) hx hb dX10_settle_2 (by decide) (fun c9 => absurd c9 (fun q => by rw [Int32.lt_iff_toInt_lt] at q; rw [Int32.le_iff_toInt_le, nI_toInt (by omega)] at z; have : (0 : Int32).toInt = 0 := rfl; omega)) (fun _ => ?_)
    refine lv_iload_n hx hb dX10_settle_5 rfl (lv_at hl 1 rfl) ?_
    refine lv_aload_n hx hb dX10_settle_6 rfl (lv_at hl 0 rfl) ?_
    refine fh_get (C := RX10) (T := TX10) (N := 28) hx hb ht inX10 hown hE.1 hP hM.m rfl 18 (by decide) (ht _ kw_708) (fun _ h9 => h9) (v := .int (nI C.length)) rfl dX10_settle_7 ?_
    refine lv_icmp_lt (tgt := 17) hx hb dX10_settle_10 (by decide) (fun c9 => absurd c9 (fun q => by rw [Int32.lt_iff_toInt_lt] at q; rw [Int32.le_iff_toInt_le] at z; omega)) (fun _ => ?_)
    refine lv_iconst (v := (nI 1)) hx hb dX10_settle_13 (by decide) ?_
    refine lv_goto (tgt := 47) hx hb dX10_settle_14 (by decide) ?_
    refine fh_put (C := RX10) (T := TX10) (N := 28) (t := .int) hx hb ht inX10 tyX10 tyX10_ok nmX10 hown hE.1 hP hS hM.m (hM.A0) rfl 0 (by decide) (ht _ kw_690) (fun _ h9 => h9) rfl (by decide +kernel) rfl rfl (Nat.le_of_ble_eq_true rfl) dX10_settle_47 (fun H locs hP hz hS => ?_)
    obtain ⟨h_1, eh_1⟩ : ∃ z, z = fh_up h ma (.inr (10, [.int (nI 1), .int (nI no), .ref (b 12), .int (nI nv), .ref (b 13), .ref (b 14), .int (nI ns), .ref (b 15), .ref (b 16), .ref (b 17), .ref (b 18), .ref (b 19), .ref (b 20), .ref (b 21), .ref (b 22), .ref (b 23), .ref (b 24), .int (nI J), .int (nI C.length), .ref (b 25), .int (nI LK.length), .ref (b 26), .ref (b 27), .int (nI RL.length), .ref (b 28), .ref (b 29), .ref (b 30), .ref (b 31)])) := ⟨_, rfl⟩
    have hP : fh_P G vwCl h_1 H := by rw [eh_1]; exact hP
    have hM_1 := MG.sc hM (th2 := (nI 1)) (no2 := no) (nv2 := nv) (ns2 := ns) (J2 := J) (nc2 := C.length) (nl2 := LK.length) (nr2 := RL.length) eh_1
    refine lv_aload_n hx hb dX10_settle_50 rfl (lv_at hl 0 rfl) ?_
    refine fh_get (C := RX10) (T := TX10) (N := 28) hx hb ht inX10 hown hE.1 hP hM_1.m rfl 0 (by decide) (ht _ kw_690) (fun _ h9 => h9) (v := .int (nI 1)) rfl dX10_settle_51 ?_
    refine lv_if_eq (tgt := 59) hx hb dX10_settle_54 (by decide) (fun c9 => absurd c9 (by decide)) (fun _ => ?_)
    refine lv_iconst (v := (nI 0)) hx hb dX10_settle_57 (by decide) ?_
    have ep : oSettle S J C kk ww = (1, false, S) := by simp [oSettle, ix_none (Or.inr z)]
    exact fh_zret hx hb hr hlocks rfl (⟨_, rfl, (fun z => by rw [ep] at z; cases z), by rw [ep]; exact ⟨_, _, _, _, _, _, _, _, _, _, _, _, _, _, _, _, _, _, _, _, hM_1, hX⟩⟩) hP hS (Nat.le_of_ble_eq_true rfl) (Nat.le_of_ble_eq_true rfl) dX10_settle_58
  · have hjx := ix_some hj (show C.length < 2 ^ 31 by omega)
    obtain ⟨o9, f9, hq⟩ : ∃ o9 f9, C[j]? = some (o9, f9) := ⟨_, _, List.getElem?_eq_getElem hj⟩
    have hq2 := hCb _ (List.mem_of_getElem? hq)
    have efc := xC j _ hq
    have hJn : J < ns := hJ (fun q => by rw [q] at hj; exact absurd hj (Nat.not_lt_zero j))
    have hJ2 : J < 20 := by omega
    obtain ⟨s1, s2, s3, s4, s5, s6, s7, s8⟩ := xS J hJn
    refine lv_aload_n hx hb dX10_settle_0 rfl (lv_at hl 0 rfl) ?_
    refine lv_iload_n hx hb dX10_settle_1 rfl (lv_at hl 1 rfl) ?_
    refine lv_if_lt (tgt := 13) hx hb dX10_settle_2 (by decide) (fun c9 => absurd c9 (nI_pos (by omega))) (fun _ => ?_)
    refine lv_iload_n hx hb dX10_settle_5 rfl (lv_at hl 1 rfl) ?_
    refine lv_aload_n hx hb dX10_settle_6 rfl (lv_at hl 0 rfl) ?_
    refine fh_get (C := RX10) (T := TX10) (N := 28) hx hb ht inX10 hown hE.1 hP hM.m rfl 18 (by decide) (ht _ kw_708) (fun _ h9 => h9) (v := .int (nI C.length)) rfl dX10_settle_7 ?_
    refine lv_icmp_lt (tgt := 17) hx hb dX10_settle_10 (by decide) (fun _ => ?_) (fun c9 => absurd (nI_lt hj (by omega)) c9)
    refine lv_aload_n hx hb dX10_settle_17 rfl (lv_at hl 0 rfl) ?_
    refine fh_get (C := RX10) (T := TX10) (N := 28) hx hb ht inX10 hown hE.1 hP hM.m rfl 8 (by decide) (ht _ kw_698) (fun _ h9 => h9) (v := .ref (b 16)) rfl dX10_settle_18 ?_
    refine lv_aload_n hx hb dX10_settle_21 rfl (lv_at hl 0 rfl) ?_
    refine fh_get (C := RX10) (T := TX10) (N := 28) hx hb ht inX10 hown hE.1 hP hM.m rfl 17 (by decide) (ht _ kw_707) (fun _ h9 => h9) (v := .int (nI J)) rfl dX10_settle_22 ?_
    refine fh_zald (k := J) hx hb hE.1 hP hM.a16 rfl (by omega) (by decide) dX10_settle_25 ?_
    rw [s2]
    refine lv_if_ne (tgt := 33) hx hb dX10_settle_26 (by decide) (fun d1 => ?_) (fun d1 => ?_)
    · have e1 := bI_nz d1
      rcases pk_ix ww (n := 2) (by decide) with z | z | ⟨n9, hn9, rfl⟩
      · refine lv_iload_n hx hb dX10_settle_33 rfl (lv_at hl 2 rfl) ?_
        refine lv_if_eq (tgt := 42) hx hb dX10_settle_34 (by decide) (fun c9 => absurd c9 (fun q => by rw [q] at z; exact absurd z (by decide))) (fun _ => ?_)
        refine lv_iload_n hx hb dX10_settle_37 rfl (lv_at hl 2 rfl) ?_
        refine lv_iconst (v := (nI 1)) hx hb dX10_settle_38 (by decide) ?_
        refine lv_icmp_ne (tgt := 46) hx hb dX10_settle_39 (by decide) (fun _ => ?_) (fun c9 => absurd c9 (fun q => by rw [q] at z; exact absurd z (by decide)))
        refine lv_iconst (v := (nI 3)) hx hb dX10_settle_46 (by decide) ?_
        refine fh_put (C := RX10) (T := TX10) (N := 28) (t := .int) hx hb ht inX10 tyX10 tyX10_ok nmX10 hown hE.1 hP hS hM.m (hM.A0) rfl 0 (by decide) (ht _ kw_690) (fun _ h9 => h9) rfl (by decide +kernel) rfl rfl (Nat.le_of_ble_eq_true rfl) dX10_settle_47 (fun H locs hP hz hS => ?_)
        obtain ⟨h_1, eh_1⟩ : ∃ z, z = fh_up h ma (.inr (10, [.int (nI 3), .int (nI no), .ref (b 12), .int (nI nv), .ref (b 13), .ref (b 14), .int (nI ns), .ref (b 15), .ref (b 16), .ref (b 17), .ref (b 18), .ref (b 19), .ref (b 20), .ref (b 21), .ref (b 22), .ref (b 23), .ref (b 24), .int (nI J), .int (nI C.length), .ref (b 25), .int (nI LK.length), .ref (b 26), .ref (b 27), .int (nI RL.length), .ref (b 28), .ref (b 29), .ref (b 30), .ref (b 31)])) := ⟨_, rfl⟩
        have hP : fh_P G vwCl h_1 H := by rw [eh_1]; exact hP
        have hM_1 := MG.sc hM (th2 := (nI 3)) (no2 := no) (nv2 := nv) (ns2 := ns) (J2 := J) (nc2 := C.length) (nl2 := LK.length) (nr2 := RL.length) eh_1
        refine lv_aload_n hx hb dX10_settle_50 rfl (lv_at hl 0 rfl) ?_
        refine fh_get (C := RX10) (T := TX10) (N := 28) hx hb ht inX10 hown hE.1 hP hM_1.m rfl 0 (by decide) (ht _ kw_690) (fun _ h9 => h9) (v := .int (nI 3)) rfl dX10_settle_51 ?_
        refine lv_if_eq (tgt := 59) hx hb dX10_settle_54 (by decide) (fun c9 => absurd c9 (by decide)) (fun _ => ?_)
        refine lv_iconst (v := (nI 0)) hx hb dX10_settle_57 (by decide) ?_
        have ep : oSettle S J C (nI j) ww = (3, false, S) := by simp [oSettle, hjx, e1, ix_none (Or.inl z)]
        exact fh_zret hx hb hr hlocks rfl (⟨_, rfl, (fun z => by rw [ep] at z; cases z), by rw [ep]; exact ⟨_, _, _, _, _, _, _, _, _, _, _, _, _, _, _, _, _, _, _, _, hM_1, hX⟩⟩) hP hS (Nat.le_of_ble_eq_true rfl) (Nat.le_of_ble_eq_true rfl) dX10_settle_58
      · refine lv_iload_n hx hb dX10_settle_33 rfl (lv_at hl 2 rfl) ?_
        refine lv_if_eq (tgt := 42) hx hb dX10_settle_34 (by decide) (fun c9 => absurd c9 (fun q => by rw [q] at z; exact absurd z (by decide))) (fun _ => ?_)
        refine lv_iload_n hx hb dX10_settle_37 rfl (lv_at hl 2 rfl) ?_
        refine lv_iconst (v := (nI 1)) hx hb dX10_settle_38 (by decide) ?_
        refine lv_icmp_ne (tgt := 46) hx hb dX10_settle_39 (by decide) (fun _ => ?_) (fun c9 => absurd c9 (fun q => by rw [q] at z; exact absurd z (by decide)))
        refine lv_iconst (v := (nI 3)) hx hb dX10_settle_46 (by decide) ?_
        refine fh_put (C := RX10) (T := TX10) (N := 28) (t := .int) hx hb ht inX10 tyX10 tyX10_ok nmX10 hown hE.1 hP hS hM.m (hM.A0) rfl 0 (by decide) (ht _ kw_690) (fun _ h9 => h9) rfl (by decide +kernel) rfl rfl (Nat.le_of_ble_eq_true rfl) dX10_settle_47 (fun H locs hP hz hS => ?_)
        obtain ⟨h_1, eh_1⟩ : ∃ z, z = fh_up h ma (.inr (10, [.int (nI 3), .int (nI no), .ref (b 12), .int (nI nv), .ref (b 13), .ref (b 14), .int (nI ns), .ref (b 15), .ref (b 16), .ref (b 17), .ref (b 18), .ref (b 19), .ref (b 20), .ref (b 21), .ref (b 22), .ref (b 23), .ref (b 24), .int (nI J), .int (nI C.length), .ref (b 25), .int (nI LK.length), .ref (b 26), .ref (b 27), .int (nI RL.length), .ref (b 28), .ref (b 29), .ref (b 30), .ref (b 31)])) := ⟨_, rfl⟩
        have hP : fh_P G vwCl h_1 H := by rw [eh_1]; exact hP
        have hM_1 := MG.sc hM (th2 := (nI 3)) (no2 := no) (nv2 := nv) (ns2 := ns) (J2 := J) (nc2 := C.length) (nl2 := LK.length) (nr2 := RL.length) eh_1
        refine lv_aload_n hx hb dX10_settle_50 rfl (lv_at hl 0 rfl) ?_
        refine fh_get (C := RX10) (T := TX10) (N := 28) hx hb ht inX10 hown hE.1 hP hM_1.m rfl 0 (by decide) (ht _ kw_690) (fun _ h9 => h9) (v := .int (nI 3)) rfl dX10_settle_51 ?_
        refine lv_if_eq (tgt := 59) hx hb dX10_settle_54 (by decide) (fun c9 => absurd c9 (by decide)) (fun _ => ?_)
        refine lv_iconst (v := (nI 0)) hx hb dX10_settle_57 (by decide) ?_
        have ep : oSettle S J C (nI j) ww = (3, false, S) := by simp [oSettle, hjx, e1, ix_none (Or.inr z)]
        exact fh_zret hx hb hr hlocks rfl (⟨_, rfl, (fun z => by rw [ep] at z; cases z), by rw [ep]; exact ⟨_, _, _, _, _, _, _, _, _, _, _, _, _, _, _, _, _, _, _, _, hM_1, hX⟩⟩) hP hS (Nat.le_of_ble_eq_true rfl) (Nat.le_of_ble_eq_true rfl) dX10_settle_58
      · have hwx := ix_some hn9 (by decide)
        rcases (show n9 = 0 ∨ n9 = 1 by omega) with e9 | e9
        · refine lv_iload_n hx hb dX10_settle_33 rfl (lv_at hl 2 rfl) ?_
          refine lv_if_eq (tgt := 42) hx hb dX10_settle_34 (by decide) (fun _ => ?_) (fun c9 => absurd (by rw [e9]; rfl) c9)
          refine lv_iconst (v := (nI 0)) hx hb dX10_settle_42 (by decide) ?_
          refine lv_goto (tgt := 47) hx hb dX10_settle_43 (by decide) ?_
          refine fh_put (C := RX10) (T := TX10) (N := 28) (t := .int) hx hb ht inX10 tyX10 tyX10_ok nmX10 hown hE.1 hP hS hM.m (hM.A0) rfl 0 (by decide) (ht _ kw_690) (fun _ h9 => h9) rfl (by decide +kernel) rfl rfl (Nat.le_of_ble_eq_true rfl) dX10_settle_47 (fun H locs hP hz hS => ?_)
          obtain ⟨h_1, eh_1⟩ : ∃ z, z = fh_up h ma (.inr (10, [.int (nI 0), .int (nI no), .ref (b 12), .int (nI nv), .ref (b 13), .ref (b 14), .int (nI ns), .ref (b 15), .ref (b 16), .ref (b 17), .ref (b 18), .ref (b 19), .ref (b 20), .ref (b 21), .ref (b 22), .ref (b 23), .ref (b 24), .int (nI J), .int (nI C.length), .ref (b 25), .int (nI LK.length), .ref (b 26), .ref (b 27), .int (nI RL.length), .ref (b 28), .ref (b 29), .ref (b 30), .ref (b 31)])) := ⟨_, rfl⟩
          have hP : fh_P G vwCl h_1 H := by rw [eh_1]; exact hP
          have hM_1 := MG.sc hM (th2 := (nI 0)) (no2 := no) (nv2 := nv) (ns2 := ns) (J2 := J) (nc2 := C.length) (nl2 := LK.length) (nr2 := RL.length) eh_1
          refine lv_aload_n hx hb dX10_settle_50 rfl (lv_at hl 0 rfl) ?_
          refine fh_get (C := RX10) (T := TX10) (N := 28) hx hb ht inX10 hown hE.1 hP hM_1.m rfl 0 (by decide) (ht _ kw_690) (fun _ h9 => h9) (v := .int (nI 0)) rfl dX10_settle_51 ?_
          refine lv_if_eq (tgt := 59) hx hb dX10_settle_54 (by decide) (fun _ => ?_) (fun c9 => absurd (rfl) c9)
          refine lv_sipush (v := (nI 420)) hx hb dX10_settle_59 (by decide) ?_
          refine lv_aload_n hx hb dX10_settle_62 rfl (lv_at hl 0 rfl) ?_
          refine fh_get (C := RX10) (T := TX10) (N := 28) hx hb ht inX10 hown hE.1 hP hM_1.m rfl 17 (by decide) (ht _ kw_707) (fun _ h9 => h9) (v := .int (nI J)) rfl dX10_settle_63 ?_
          refine lv_imul hx hb dX10_settle_66 ?_
          refine lv_topi (fun z9 ez9 => ?_)
          rw [show z9 = nI (420 * J) from ez9.trans (pk_mul _ _)]
          refine lv_aload_n hx hb dX10_settle_67 rfl (lv_at hl 0 rfl) ?_
          refine fh_get (C := RX10) (T := TX10) (N := 28) hx hb ht inX10 hown hE.1 hP hM_1.m rfl 19 (by decide) (ht _ kw_709) (fun _ h9 => h9) (v := .ref (b 25)) rfl dX10_settle_68 ?_
          refine lv_iload_n hx hb dX10_settle_71 rfl (lv_at hl 1 rfl) ?_
          refine fh_iald (k := j) hx hb hE.1 hP hM_1.a25 rfl (by omega) (by decide) dX10_settle_72 ?_
          rw [efc]
          refine lv_iadd hx hb dX10_settle_73 ?_
          refine lv_topi (fun z9 ez9 => ?_)
          rw [show z9 = nI ((420 * J) + (7 * o9 + f9)) from ez9.trans (nI_add _ _)]
          refine lv_istore_n (lv' := [(3, .int (nI ((420 * J) + (7 * o9 + f9)))), (0, .ref ma), (1, .int (nI j)), (2, .int (nI n9))]) hx hb dX10_settle_74 rfl hl (by decide) rfl (fun ls hl => ?_)
          refine lv_aload_n hx hb dX10_settle_75 rfl (lv_at hl 1 rfl) ?_
          refine fh_get (C := RX10) (T := TX10) (N := 28) hx hb ht inX10 hown hE.1 hP hM_1.m rfl 16 (by decide) (ht _ kw_706) (fun _ h9 => h9) (v := .ref (b 24)) rfl dX10_settle_76 ?_
          refine lv_iload_n hx hb dX10_settle_79 rfl (lv_at hl 0 rfl) ?_
          refine fh_iald (k := ((420 * J) + (7 * o9 + f9))) hx hb hE.1 hP hM_1.a24 rfl (by omega) (by decide) dX10_settle_80 ?_
          rw [show fS (420 * J + (7 * o9 + f9)) = (S J).2.2.2.2 (o9 * 7 + f9) by rw [show 7 * o9 + f9 = o9 * 7 + f9 by omega]; exact s8 _ (by omega)]
          refine lv_iload_n hx hb dX10_settle_81 rfl (lv_at hl 3 rfl) ?_
          refine lv_iconst (v := (nI 1)) hx hb dX10_settle_82 (by decide) ?_
          refine lv_iadd hx hb dX10_settle_83 ?_
          refine lv_topi (fun z9 ez9 => ?_)
          rw [show z9 = nI (n9 + 1) from ez9.trans (nI_add _ _)]
          refine lv_icmp_eq (tgt := 91) hx hb dX10_settle_84 (by decide) (fun d4 => ?_) (fun d4 => ?_)
          · refine lv_iconst (v := (nI 0)) hx hb dX10_settle_91 (by decide) ?_
            refine lv_istore (lv' := [(4, .int (nI 0)), (3, .int (nI ((420 * J) + (7 * o9 + f9)))), (0, .ref ma), (1, .int (nI j)), (2, .int (nI n9))]) hx hb dX10_settle_92 hl (by decide) rfl (fun ls hl => ?_)
            refine lv_aload_n hx hb dX10_settle_94 rfl (lv_at hl 2 rfl) ?_
            refine fh_get (C := RX10) (T := TX10) (N := 28) hx hb ht inX10 hown hE.1 hP hM_1.m rfl 16 (by decide) (ht _ kw_706) (fun _ h9 => h9) (v := .ref (b 24)) rfl dX10_settle_95 ?_
            refine lv_iload_n hx hb dX10_settle_98 rfl (lv_at hl 1 rfl) ?_
            refine lv_iload_n hx hb dX10_settle_99 rfl (lv_at hl 4 rfl) ?_
            refine lv_iconst (v := (nI 1)) hx hb dX10_settle_100 (by decide) ?_
            refine lv_iadd hx hb dX10_settle_101 ?_
            refine lv_topi (fun z9 ez9 => ?_)
            rw [show z9 = nI (n9 + 1) from ez9.trans (nI_add _ _)]
            refine fh_iast (k := ((420 * J) + (7 * o9 + f9))) hx hb hE.1 hP hS hM_1.a24 (hM_1.A24) rfl (by omega) (by decide) dX10_settle_102 (fun H locs hP hz hS => ?_)
            obtain ⟨h_2, eh_2⟩ : ∃ z, z = fh_up h_1 (b 24) (.inl (24, 8400, .inl (upd fS ((420 * J) + (7 * o9 + f9)) (nI (n9 + 1))))) := ⟨_, rfl⟩
            have hP : fh_P G vwCl h_2 H := by rw [eh_2]; exact hP
            have hM_2 := MG.w24 hM_1 (f2 := upd fS ((420 * J) + (7 * o9 + f9)) (nI (n9 + 1))) eh_2
            refine lv_iload hx hb dX10_settle_103 (lv_at hl 0 rfl) ?_
            have ep : oSettle S J C (nI j) (nI n9) = (0, false, upN S J (sSide (S J) (o9 * 7 + f9) n9)) := by simp [oSettle, hjx, e1, hwx, hq, d4]
            exact fh_zret hx hb hr hlocks rfl (⟨_, rfl, fun _ => (by rw [ep] <;> rfl), by rw [ep]; exact ⟨_, _, _, _, _, _, _, _, _, _, _, _, _, _, _, _, _, _, _, _, hM_2, hX.side hJn hq2.1 hq2.2⟩⟩) hP hS (by first | exact (Nat.le_of_ble_eq_true rfl) | omega) (by first | exact (Nat.le_of_ble_eq_true rfl) | omega) dX10_settle_105
          · refine lv_iconst (v := (nI 1)) hx hb dX10_settle_87 (by decide) ?_
            refine lv_goto (tgt := 92) hx hb dX10_settle_88 (by decide) ?_
            refine lv_istore (lv' := [(4, .int (nI 1)), (3, .int (nI ((420 * J) + (7 * o9 + f9)))), (0, .ref ma), (1, .int (nI j)), (2, .int (nI n9))]) hx hb dX10_settle_92 hl (by decide) rfl (fun ls hl => ?_)
            refine lv_aload_n hx hb dX10_settle_94 rfl (lv_at hl 2 rfl) ?_
            refine fh_get (C := RX10) (T := TX10) (N := 28) hx hb ht inX10 hown hE.1 hP hM_1.m rfl 16 (by decide) (ht _ kw_706) (fun _ h9 => h9) (v := .ref (b 24)) rfl dX10_settle_95 ?_
            refine lv_iload_n hx hb dX10_settle_98 rfl (lv_at hl 1 rfl) ?_
            refine lv_iload_n hx hb dX10_settle_99 rfl (lv_at hl 4 rfl) ?_
            refine lv_iconst (v := (nI 1)) hx hb dX10_settle_100 (by decide) ?_
            refine lv_iadd hx hb dX10_settle_101 ?_
            refine lv_topi (fun z9 ez9 => ?_)
            rw [show z9 = nI (n9 + 1) from ez9.trans (nI_add _ _)]
            refine fh_iast (k := ((420 * J) + (7 * o9 + f9))) hx hb hE.1 hP hS hM_1.a24 (hM_1.A24) rfl (by omega) (by decide) dX10_settle_102 (fun H locs hP hz hS => ?_)
            obtain ⟨h_2, eh_2⟩ : ∃ z, z = fh_up h_1 (b 24) (.inl (24, 8400, .inl (upd fS ((420 * J) + (7 * o9 + f9)) (nI (n9 + 1))))) := ⟨_, rfl⟩
            have hP : fh_P G vwCl h_2 H := by rw [eh_2]; exact hP
            have hM_2 := MG.w24 hM_1 (f2 := upd fS ((420 * J) + (7 * o9 + f9)) (nI (n9 + 1))) eh_2
            refine lv_iload hx hb dX10_settle_103 (lv_at hl 0 rfl) ?_
            have ep : oSettle S J C (nI j) (nI n9) = (0, true, upN S J (sSide (S J) (o9 * 7 + f9) n9)) := by simp [oSettle, hjx, e1, hwx, hq, d4]
            exact fh_zret hx hb hr hlocks rfl (⟨_, rfl, fun _ => (by rw [ep] <;> rfl), by rw [ep]; exact ⟨_, _, _, _, _, _, _, _, _, _, _, _, _, _, _, _, _, _, _, _, hM_2, hX.side hJn hq2.1 hq2.2⟩⟩) hP hS (by first | exact (Nat.le_of_ble_eq_true rfl) | omega) (by first | exact (Nat.le_of_ble_eq_true rfl) | omega) dX10_settle_105
        · refine lv_iload_n hx hb dX10_settle_33 rfl (lv_at hl 2 rfl) ?_
          refine lv_if_eq (tgt := 42) hx hb dX10_settle_34 (by decide) (fun c9 => absurd c9 (by rw [e9]; decide)) (fun _ => ?_)
          refine lv_iload_n hx hb dX10_settle_37 rfl (lv_at hl 2 rfl) ?_
          refine lv_iconst (v := (nI 1)) hx hb dX10_settle_38 (by decide) ?_
          refine lv_icmp_ne (tgt := 46) hx hb dX10_settle_39 (by decide) (fun c9 => absurd (by rw [e9]) c9) (fun _ => ?_)
          refine lv_iconst (v := (nI 0)) hx hb dX10_settle_42 (by decide) ?_
          refine lv_goto (tgt := 47) hx hb dX10_settle_43 (by decide) ?_
          refine fh_put (C := RX10) (T := TX10) (N := 28) (t := .int) hx hb ht inX10 tyX10 tyX10_ok nmX10 hown hE.1 hP hS hM.m (hM.A0) rfl 0 (by decide) (ht _ kw_690) (fun _ h9 => h9) rfl (by decide +kernel) rfl rfl (Nat.le_of_ble_eq_true rfl) dX10_settle_47 (fun H locs hP hz hS => ?_)
          obtain ⟨h_1, eh_1⟩ : ∃ z, z = fh_up h ma (.inr (10, [.int (nI 0), .int (nI no), .ref (b 12), .int (nI nv), .ref (b 13), .ref (b 14), .int (nI ns), .ref (b 15), .ref (b 16), .ref (b 17), .ref (b 18), .ref (b 19), .ref (b 20), .ref (b 21), .ref (b 22), .ref (b 23), .ref (b 24), .int (nI J), .int (nI C.length), .ref (b 25), .int (nI LK.length), .ref (b 26), .ref (b 27), .int (nI RL.length), .ref (b 28), .ref (b 29), .ref (b 30), .ref (b 31)])) := ⟨_, rfl⟩
          have hP : fh_P G vwCl h_1 H := by rw [eh_1]; exact hP
          have hM_1 := MG.sc hM (th2 := (nI 0)) (no2 := no) (nv2 := nv) (ns2 := ns) (J2 := J) (nc2 := C.length) (nl2 := LK.length) (nr2 := RL.length) eh_1
          refine lv_aload_n hx hb dX10_settle_50 rfl (lv_at hl 0 rfl) ?_
          refine fh_get (C := RX10) (T := TX10) (N := 28) hx hb ht inX10 hown hE.1 hP hM_1.m rfl 0 (by decide) (ht _ kw_690) (fun _ h9 => h9) (v := .int (nI 0)) rfl dX10_settle_51 ?_
          refine lv_if_eq (tgt := 59) hx hb dX10_settle_54 (by decide) (fun _ => ?_) (fun c9 => absurd (rfl) c9)
          refine lv_sipush (v := (nI 420)) hx hb dX10_settle_59 (by decide) ?_
          refine lv_aload_n hx hb dX10_settle_62 rfl (lv_at hl 0 rfl) ?_
          refine fh_get (C := RX10) (T := TX10) (N := 28) hx hb ht inX10 hown hE.1 hP hM_1.m rfl 17 (by decide) (ht _ kw_707) (fun _ h9 => h9) (v := .int (nI J)) rfl dX10_settle_63 ?_
          refine lv_imul hx hb dX10_settle_66 ?_
          refine lv_topi (fun z9 ez9 => ?_)
          rw [show z9 = nI (420 * J) from ez9.trans (pk_mul _ _)]
          refine lv_aload_n hx hb dX10_settle_67 rfl (lv_at hl 0 rfl) ?_
          refine fh_get (C := RX10) (T := TX10) (N := 28) hx hb ht inX10 hown hE.1 hP hM_1.m rfl 19 (by decide) (ht _ kw_709) (fun _ h9 => h9) (v := .ref (b 25)) rfl dX10_settle_68 ?_
          refine lv_iload_n hx hb dX10_settle_71 rfl (lv_at hl 1 rfl) ?_
          refine fh_iald (k := j) hx hb hE.1 hP hM_1.a25 rfl (by omega) (by decide) dX10_settle_72 ?_
          rw [efc]
          refine lv_iadd hx hb dX10_settle_73 ?_
          refine lv_topi (fun z9 ez9 => ?_)
          rw [show z9 = nI ((420 * J) + (7 * o9 + f9)) from ez9.trans (nI_add _ _)]
          refine lv_istore_n (lv' := [(3, .int (nI ((420 * J) + (7 * o9 + f9)))), (0, .ref ma), (1, .int (nI j)), (2, .int (nI n9))]) hx hb dX10_settle_74 rfl hl (by decide) rfl (fun ls hl => ?_)
          refine lv_aload_n hx hb dX10_settle_75 rfl (lv_at hl 1 rfl) ?_
          refine fh_get (C := RX10) (T := TX10) (N := 28) hx hb ht inX10 hown hE.1 hP hM_1.m rfl 16 (by decide) (ht _ kw_706) (fun _ h9 => h9) (v := .ref (b 24)) rfl dX10_settle_76 ?_
          refine lv_iload_n hx hb dX10_settle_79 rfl (lv_at hl 0 rfl) ?_
          refine fh_iald (k := ((420 * J) + (7 * o9 + f9))) hx hb hE.1 hP hM_1.a24 rfl (by omega) (by decide) dX10_settle_80 ?_
          rw [show fS (420 * J + (7 * o9 + f9)) = (S J).2.2.2.2 (o9 * 7 + f9) by rw [show 7 * o9 + f9 = o9 * 7 + f9 by omega]; exact s8 _ (by omega)]
          refine lv_iload_n hx hb dX10_settle_81 rfl (lv_at hl 3 rfl) ?_
          refine lv_iconst (v := (nI 1)) hx hb dX10_settle_82 (by decide) ?_
          refine lv_iadd hx hb dX10_settle_83 ?_
          refine lv_topi (fun z9 ez9 => ?_)
          rw [show z9 = nI (n9 + 1) from ez9.trans (nI_add _ _)]
          refine lv_icmp_eq (tgt := 91) hx hb dX10_settle_84 (by decide) (fun d4 => ?_) (fun d4 => ?_)
          · refine lv_iconst (v := (nI 0)) hx hb dX10_settle_91 (by decide) ?_
            refine lv_istore (lv' := [(4, .int (nI 0)), (3, .int (nI ((420 * J) + (7 * o9 + f9)))), (0, .ref ma), (1, .int (nI j)), (2, .int (nI n9))]) hx hb dX10_settle_92 hl (by decide) rfl (fun ls hl => ?_)
            refine lv_aload_n hx hb dX10_settle_94 rfl (lv_at hl 2 rfl) ?_
            refine fh_get (C := RX10) (T := TX10) (N := 28) hx hb ht inX10 hown hE.1 hP hM_1.m rfl 16 (by decide) (ht _ kw_706) (fun _ h9 => h9) (v := .ref (b 24)) rfl dX10_settle_95 ?_
            refine lv_iload_n hx hb dX10_settle_98 rfl (lv_at hl 1 rfl) ?_
            refine lv_iload_n hx hb dX10_settle_99 rfl (lv_at hl 4 rfl) ?_
            refine lv_iconst (v := (nI 1)) hx hb dX10_settle_100 (by decide) ?_
            refine lv_iadd hx hb dX10_settle_101 ?_
            refine lv_topi (fun z9 ez9 => ?_)
            rw [show z9 = nI (n9 + 1) from ez9.trans (nI_add _ _)]
            refine fh_iast (k := ((420 * J) + (7 * o9 + f9))) hx hb hE.1 hP hS hM_1.a24 (hM_1.A24) rfl (by omega) (by decide) dX10_settle_102 (fun H locs hP hz hS => ?_)
            obtain ⟨h_2, eh_2⟩ : ∃ z, z = fh_up h_1 (b 24) (.inl (24, 8400, .inl (upd fS ((420 * J) + (7 * o9 + f9)) (nI (n9 + 1))))) := ⟨_, rfl⟩
            have hP : fh_P G vwCl h_2 H := by rw [eh_2]; exact hP
            have hM_2 := MG.w24 hM_1 (f2 := upd fS ((420 * J) + (7 * o9 + f9)) (nI (n9 + 1))) eh_2
            refine lv_iload hx hb dX10_settle_103 (lv_at hl 0 rfl) ?_
            have ep : oSettle S J C (nI j) (nI n9) = (0, false, upN S J (sSide (S J) (o9 * 7 + f9) n9)) := by simp [oSettle, hjx, e1, hwx, hq, d4]
            exact fh_zret hx hb hr hlocks rfl (⟨_, rfl, fun _ => (by rw [ep] <;> rfl), by rw [ep]; exact ⟨_, _, _, _, _, _, _, _, _, _, _, _, _, _, _, _, _, _, _, _, hM_2, hX.side hJn hq2.1 hq2.2⟩⟩) hP hS (by first | exact (Nat.le_of_ble_eq_true rfl) | omega) (by first | exact (Nat.le_of_ble_eq_true rfl) | omega) dX10_settle_105
          · refine lv_iconst (v := (nI 1)) hx hb dX10_settle_87 (by decide) ?_
            refine lv_goto (tgt := 92) hx hb dX10_settle_88 (by decide) ?_
            refine lv_istore (lv' := [(4, .int (nI 1)), (3, .int (nI ((420 * J) + (7 * o9 + f9)))), (0, .ref ma), (1, .int (nI j)), (2, .int (nI n9))]) hx hb dX10_settle_92 hl (by decide) rfl (fun ls hl => ?_)
            refine lv_aload_n hx hb dX10_settle_94 rfl (lv_at hl 2 rfl) ?_
            refine fh_get (C := RX10) (T := TX10) (N := 28) hx hb ht inX10 hown hE.1 hP hM_1.m rfl 16 (by decide) (ht _ kw_706) (fun _ h9 => h9) (v := .ref (b 24)) rfl dX10_settle_95 ?_
            refine lv_iload_n hx hb dX10_settle_98 rfl (lv_at hl 1 rfl) ?_
            refine lv_iload_n hx hb dX10_settle_99 rfl (lv_at hl 4 rfl) ?_
            refine lv_iconst (v := (nI 1)) hx hb dX10_settle_100 (by decide) ?_
            refine lv_iadd hx hb dX10_settle_101 ?_
            refine lv_topi (fun z9 ez9 => ?_)
            rw [show z9 = nI (n9 + 1) from ez9.trans (nI_add _ _)]
            refine fh_iast (k := ((420 * J) + (7 * o9 + f9))) hx hb hE.1 hP hS hM_1.a24 (hM_1.A24) rfl (by omega) (by decide) dX10_settle_102 (fun H locs hP hz hS => ?_)
            obtain ⟨h_2, eh_2⟩ : ∃ z, z = fh_up h_1 (b 24) (.inl (24, 8400, .inl (upd fS ((420 * J) + (7 * o9 + f9)) (nI (n9 + 1))))) := ⟨_, rfl⟩
            have hP : fh_P G vwCl h_2 H := by rw [eh_2]; exact hP
            have hM_2 := MG.w24 hM_1 (f2 := upd fS ((420 * J) + (7 * o9 + f9)) (nI (n9 + 1))) eh_2
            refine lv_iload hx hb dX10_settle_103 (lv_at hl 0 rfl) ?_
            have ep : oSettle S J C (nI j) (nI n9) = (0, true, upN S J (sSide (S J) (o9 * 7 + f9) n9)) := by simp [oSettle, hjx, e1, hwx, hq, d4]
            exact fh_zret hx hb hr hlocks rfl (⟨_, rfl, fun _ => (by rw [ep] <;> rfl), by rw [ep]; exact ⟨_, _, _, _, _, _, _, _, _, _, _, _, _, _, _, _, _, _, _, _, hM_2, hX.side hJn hq2.1 hq2.2⟩⟩) hP hS (by first | exact (Nat.le_of_ble_eq_true rfl) | omega) (by first | exact (Nat.le_of_ble_eq_true rfl) | omega) dX10_settle_105
    · have e1 := bI_eq.mp d1
      refine lv_iconst (v := (nI 2)) hx hb dX10_settle_29 (by decide) ?_
      refine lv_goto (tgt := 47) hx hb dX10_settle_30 (by decide) ?_
      refine fh_put (C := RX10) (T := TX10) (N := 28) (t := .int) hx hb ht inX10 tyX10 tyX10_ok nmX10 hown hE.1 hP hS hM.m (hM.A0) rfl 0 (by decide) (ht _ kw_690) (fun _ h9 => h9) rfl (by decide +kernel) rfl rfl (Nat.le_of_ble_eq_true rfl) dX10_settle_47 (fun H locs hP hz hS => ?_)
      obtain ⟨h_1, eh_1⟩ : ∃ z, z = fh_up h ma (.inr (10, [.int (nI 2), .int (nI no), .ref (b 12), .int (nI nv), .ref (b 13), .ref (b 14), .int (nI ns), .ref (b 15), .ref (b 16), .ref (b 17), .ref (b 18), .ref (b 19), .ref (b 20), .ref (b 21), .ref (b 22), .ref (b 23), .ref (b 24), .int (nI J), .int (nI C.length), .ref (b 25), .int (nI LK.length), .ref (b 26), .ref (b 27), .int (nI RL.length), .ref (b 28), .ref (b 29), .ref (b 30), .ref (b 31)])) := ⟨_, rfl⟩
      have hP : fh_P G vwCl h_1 H := by rw [eh_1]; exact hP
      have hM_1 := MG.sc hM (th2 := (nI 2)) (no2 := no) (nv2 := nv) (ns2 := ns) (J2 := J) (nc2 := C.length) (nl2 := LK.length) (nr2 := RL.length) eh_1
      refine lv_aload_n hx hb dX10_settle_50 rfl (lv_at hl 0 rfl) ?_
      refine fh_get (C := RX10) (T := TX10) (N := 28) hx hb ht inX10 hown hE.1 hP hM_1.m rfl 0 (by decide) (ht _ kw_690) (fun _ h9 => h9) (v := .int (nI 2)) rfl dX10_settle_51 ?_
      refine lv_if_eq (tgt := 59) hx hb dX10_settle_54 (by decide) (fun c9 => absurd c9 (by decide)) (fun _ => ?_)
      refine lv_iconst (v := (nI 0)) hx hb dX10_settle_57 (by decide) ?_
      have ep : oSettle S J C (nI j) ww = (2, false, S) := by simp [oSettle, hjx, e1]
      exact fh_zret hx hb hr hlocks rfl (⟨_, rfl, (fun z => by rw [ep] at z; cases z), by rw [ep]; exact ⟨_, _, _, _, _, _, _, _, _, _, _, _, _, _, _, _, _, _, _, _, hM_1, hX⟩⟩) hP hS (Nat.le_of_ble_eq_true rfl) (Nat.le_of_ble_eq_true rfl) dX10_settle_58
