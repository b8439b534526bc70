set_option maxRecDepth 100000 in
set_option maxHeartbeats 4000000 in
theorem m_next (l : Launch) (G : fG) (A : Nat → Prop) (h : FH) (sz : Nat) (x : Int64) : Met l yX10_next wsX10_next { frames := 0, cells := 0, slots := 0, locals := 0 } (va_Pc [.long x] (fh_Pre G A h sz)) (fh_Q G (fun v u => v = some (.long (drNext x)) ∧ u = h) A) 0 0 A := by
  refine fh_Met [.long x] (by decide) rfl (Nat.le_of_ble_eq_true rfl) ?_
  intro p e s m below meth c hx hb hr hlocks hml hown hnm hts hsz hP hE hS ls hl
  have ht : ∀ w ∈ wB, w.before _ s = true := fun w h9 => hts w (List.mem_cons_of_mem _ h9)
  have hl : lv_has ls 2 [(0, .long x)] := hl
  refine lv_lload_n hx hb dX10_next_0 rfl (lv_at hl 0 rfl) ?_
  refine lv_ldc2 (v := 6364136223846793005) hx hb hown (ht _ kw_937) dX10_next_1 ?_
  refine lv_lmul hx hb dX10_next_4 ?_
  refine lv_ldc2 (v := 1442695040888963407) hx hb hown (ht _ kw_938) dX10_next_5 ?_
  refine lv_ladd hx hb dX10_next_8 ?_
  exact fh_lret hx hb hr hlocks (⟨rfl, rfl⟩) hP hS (Nat.le_of_ble_eq_true rfl) (Nat.le_of_ble_eq_true rfl) dX10_next_9

set_option maxRecDepth 100000 in
set_option maxHeartbeats 4000000 in
theorem q_play (l : Launch) (G : fG) (A : Nat → Prop) (h : FH) (sz : Nat) (ma : Nat) (b : Nat → Nat) (th : Int32) (no nv ns : Nat) (V : Vs) (S : Ss) (LK : List Ar) (RL : Rl) (J : Nat) (C : CL) (M : Nat → Int32) (hp0 : RepM A h h ma b th no nv ns V S LK RL J C M) (hB9 : Bd no nv ns S RL J C) (hLk : LK.length ≤ 10) (hVn : ∀ v, v < nv → ∀ o, no ≤ o → V v o = none) (hMz : ∀ o, V (nv - 1) o = none → M o = 0) (x : Int64) (t : Int32) : Met l yX10_play wsX10_play { frames := 5, cells := 0, slots := 0, locals := 140 } (va_Pc [.ref ma, .long x, .int t] (fh_Pre G A h sz)) (fh_Q G (fun v u => ∃ ans : Int32, v = some (.int ans) ∧ ((oPlay no nv ns V S LK J C M x t).1 = 0 → ans = (oPlay no nv ns V S LK J C M x t).2.1) ∧ RepM A h u ma b (nI (oPlay no nv ns V S LK J C M x t).1) no ((oPlay no nv ns V S LK J C M x t).2.2.1) ((oPlay no nv ns V S LK J C M x t).2.2.2.1) ((oPlay no nv ns V S LK J C M x t).2.2.2.2.1) ((oPlay no nv ns V S LK J C M x t).2.2.2.2.2.1) ((oPlay no nv ns V S LK J C M x t).2.2.2.2.2.2.1) RL ((oPlay no nv ns V S LK J C M x t).2.2.2.2.2.2.2.1) ((oPlay no nv ns V S LK J C M x t).2.2.2.2.2.2.2.2.1) ((oPlay no nv ns V S LK J C M x t).2.2.2.2.2.2.2.2.2)) A) 0 0 A := by
  refine fh_Met [.ref ma, .long x, .int t] (by decide) rfl (Nat.le_of_ble_eq_true rfl) ?_
  intro p e s m below meth c hx hb hr hlocks hml hown hnm hts hsz hP hE hS ls hl
  have ht : ∀ w ∈ wB, w.before _ s = true := fun w h9 => hts w (List.mem_cons_of_mem _ h9)
  have hl : lv_has ls 11 [(0, .ref ma), (1, .long x), (3, .int t)] := hl
  obtain ⟨fK, fH, fF, fB, fO, fW, fV, fN, cO, cF, cH, cV, fS, fC, lO, lA, rA, rB, rD, fM, hM, hX⟩ := hp0
  obtain ⟨hno, hnv, hnv0, hns, hbs, hCl, hCb, hJ, hRn, hRb⟩ := id hB9
  obtain ⟨⟨zH, zO, zW, zcH⟩, xV, xS, xN, xL, xR, xC, xM⟩ := id hX
  rcases pk_ix t (n := 101) (by decide) with z | z | ⟨n9, hn9, rfl⟩
  · refine lv_aload_n hx hb dX10_play_0 rfl (lv_at hl 0 rfl) ?_
    refine lv_iload_n hx hb dX10_play_1 rfl (lv_at hl 2 rfl) ?_
    refine lv_if_lt (tgt := 15) hx hb dX10_play_2 (by decide) (fun _ => ?_) (fun c9 => absurd (z) c9)
    refine lv_iconst (v := (nI 1)) hx hb dX10_play_15 (by decide) ?_
    refine fh_put (C := RX10) (T := TX10) (N := 28) (t := .int) hx hb ht inX10 tyX10 tyX10_ok nmX10 hown hE.1 hP hS hM.m (hM.A0) rfl 0 (by decide) (ht _ kw_690) (fun _ h9 => h9) rfl (by decide +kernel) rfl rfl (Nat.le_of_ble_eq_true rfl) dX10_play_16 (fun H locs hP hz hS => ?_)
    obtain ⟨h_1, eh_1⟩ : ∃ z, z = fh_up h ma (.inr (10, [.int (nI 1), .int (nI no), .ref (b 12), .int (nI nv), .ref (b 13), .ref (b 14), .int (nI ns), .ref (b 15), .ref (b 16), .ref (b 17), .ref (b 18), .ref (b 19), .ref (b 20), .ref (b 21), .ref (b 22), .ref (b 23), .ref (b 24), .int (nI J), .int (nI C.length), .ref (b 25), .int (nI LK.length), .ref (b 26), .ref (b 27), .int (nI RL.length), .ref (b 28), .ref (b 29), .ref (b 30), .ref (b 31)])) := ⟨_, rfl⟩
    have hP : fh_P G vwCl h_1 H := by rw [eh_1]; exact hP
    have hM_1 := MG.sc hM (th2 := (nI 1)) (no2 := no) (nv2 := nv) (ns2 := ns) (J2 := J) (nc2 := C.length) (nl2 := LK.length) (nr2 := RL.length) eh_1
    refine lv_aload_n hx hb dX10_play_19 rfl (lv_at hl 0 rfl) ?_
    refine fh_get (C := RX10) (T := TX10) (N := 28) hx hb ht inX10 hown hE.1 hP hM_1.m rfl 0 (by decide) (ht _ kw_690) (fun _ h9 => h9) (v := .int (nI 1)) rfl dX10_play_20 ?_
    refine lv_if_eq (tgt := 28) hx hb dX10_play_23 (by decide) (fun c9 => absurd c9 (by decide)) (fun _ => ?_)
    refine lv_iconst (v := (nI 0)) hx hb dX10_play_26 (by decide) ?_
    have ep : oPlay no nv ns V S LK J C M x t = (1, 0, nv, ns, V, S, LK, J, C, M) := by simp only [oPlay, ix_none (Or.inl z)]
    exact fh_iret hx hb hr hlocks (⟨_, rfl, (fun z => by rw [ep] at z; cases z), by rw [ep]; exact ⟨_, _, _, _, _, _, _, _, _, _, _, _, _, _, _, _, _, _, _, _, hM_1, hX⟩⟩) hP hS (Nat.le_of_ble_eq_true rfl) (Nat.le_of_ble_eq_true rfl) dX10_play_27
  · refine lv_aload_n hx hb dX10_play_0 rfl (lv_at hl 0 rfl) ?_
    refine lv_iload_n hx hb dX10_play_1 rfl (lv_at hl 2 rfl) ?_
    refine lv_if_lt (tgt := 15) hx hb dX10_play_2 (by decide) (fun c9 => absurd c9 (fun q => by rw [Int32.lt_iff_toInt_lt] at q; rw [Int32.le_iff_toInt_le, nI_toInt (by omega)] at z; have : (0 : Int32).toInt = 0 := rfl; omega)) (fun _ => ?_)
    refine lv_iload_n hx hb dX10_play_5 rfl (lv_at hl 2 rfl) ?_
    refine lv_bipush (v := (nI 100)) hx hb dX10_play_6 (by decide) ?_
    refine lv_icmp_gt (tgt := 15) hx hb dX10_play_8 (by decide) (fun _ => ?_) (fun c9 => absurd (by rw [Int32.le_iff_toInt_le, nI_toInt (by decide)] at z; rw [Int32.lt_iff_toInt_lt, nI_toInt (by decide)]; omega) c9)
    refine lv_iconst (v := (nI 1)) hx hb dX10_play_15 (by decide) ?_
    refine fh_put (C := RX10) (T := TX10) (N := 28) (t := .int) hx hb ht inX10 tyX10 tyX10_ok nmX10 hown hE.1 hP hS hM.m (hM.A0) rfl 0 (by decide) (ht _ kw_690) (fun _ h9 => h9) rfl (by decide +kernel) rfl rfl (Nat.le_of_ble_eq_true rfl) dX10_play_16 (fun H locs hP hz hS => ?_)
    obtain ⟨h_1, eh_1⟩ : ∃ z, z = fh_up h ma (.inr (10, [.int (nI 1), .int (nI no), .ref (b 12), .int (nI nv), .ref (b 13), .ref (b 14), .int (nI ns), .ref (b 15), .ref (b 16), .ref (b 17), .ref (b 18), .ref (b 19), .ref (b 20), .ref (b 21), .ref (b 22), .ref (b 23), .ref (b 24), .int (nI J), .int (nI C.length), .ref (b 25), .int (nI LK.length), .ref (b 26), .ref (b 27), .int (nI RL.length), .ref (b 28), .ref (b 29), .ref (b 30), .ref (b 31)])) := ⟨_, rfl⟩
    have hP : fh_P G vwCl h_1 H := by rw [eh_1]; exact hP
    have hM_1 := MG.sc hM (th2 := (nI 1)) (no2 := no) (nv2 := nv) (ns2 := ns) (J2 := J) (nc2 := C.length) (nl2 := LK.length) (nr2 := RL.length) eh_1
    refine lv_aload_n hx hb dX10_play_19 rfl (lv_at hl 0 rfl) ?_
    refine fh_get (C := RX10) (T := TX10) (N := 28) hx hb ht inX10 hown hE.1 hP hM_1.m rfl 0 (by decide) (ht _ kw_690) (fun _ h9 => h9) (v := .int (nI 1)) rfl dX10_play_20 ?_
    refine lv_if_eq (tgt := 28) hx hb dX10_play_23 (by decide) (fun c9 => absurd c9 (by decide)) (fun _ => ?_)
    refine lv_iconst (v := (nI 0)) hx hb dX10_play_26 (by decide) ?_
    have ep : oPlay no nv ns V S LK J C M x t = (1, 0, nv, ns, V, S, LK, J, C, M) := by simp only [oPlay, ix_none (Or.inr z)]
    exact fh_iret hx hb hr hlocks (⟨_, rfl, (fun z => by rw [ep] at z; cases z), by rw [ep]; exact ⟨_, _, _, _, _, _, _, _, _, _, _, _, _, _, _, _, _, _, _, _, hM_1, hX⟩⟩) hP hS (Nat.le_of_ble_eq_true rfl) (Nat.le_of_ble_eq_true rfl) dX10_play_27
  · have htx := ix_some hn9 (by decide)
    refine lv_aload_n hx hb dX10_play_0 rfl (lv_at hl 0 rfl) ?_
    refine lv_iload_n hx hb dX10_play_1 rfl (lv_at hl 2 rfl) ?_
    refine lv_if_lt (tgt := 15) hx hb dX10_play_2 (by decide) (fun c9 => absurd c9 (nI_pos (by omega))) (fun _ => ?_)
    refine lv_iload_n hx hb dX10_play_5 rfl (lv_at hl 2 rfl) ?_
    refine lv_bipush (v := (nI 100)) hx hb dX10_play_6 (by decide) ?_
    refine lv_icmp_gt (tgt := 15) hx hb dX10_play_8 (by decide) (fun c9 => absurd c9 (nI_nlt (by omega) (by decide))) (fun _ => ?_)
    refine lv_iconst (v := (nI 0)) hx hb dX10_play_11 (by decide) ?_
    refine lv_goto (tgt := 16) hx hb dX10_play_12 (by decide) ?_
    refine fh_put (C := RX10) (T := TX10) (N := 28) (t := .int) hx hb ht inX10 tyX10 tyX10_ok nmX10 hown hE.1 hP hS hM.m (hM.A0) rfl 0 (by decide) (ht _ kw_690) (fun _ h9 => h9) rfl (by decide +kernel) rfl rfl (Nat.le_of_ble_eq_true rfl) dX10_play_16 (fun H locs hP hz hS => ?_)
    obtain ⟨h_1, eh_1⟩ : ∃ z, z = fh_up h ma (.inr (10, [.int (nI 0), .int (nI no), .ref (b 12), .int (nI nv), .ref (b 13), .ref (b 14), .int (nI ns), .ref (b 15), .ref (b 16), .ref (b 17), .ref (b 18), .ref (b 19), .ref (b 20), .ref (b 21), .ref (b 22), .ref (b 23), .ref (b 24), .int (nI J), .int (nI C.length), .ref (b 25), .int (nI LK.length), .ref (b 26), .ref (b 27), .int (nI RL.length), .ref (b 28), .ref (b 29), .ref (b 30), .ref (b 31)])) := ⟨_, rfl⟩
    have hP : fh_P G vwCl h_1 H := by rw [eh_1]; exact hP
    have hM_1 := MG.sc hM (th2 := (nI 0)) (no2 := no) (nv2 := nv) (ns2 := ns) (J2 := J) (nc2 := C.length) (nl2 := LK.length) (nr2 := RL.length) eh_1
    refine lv_aload_n hx hb dX10_play_19 rfl (lv_at hl 0 rfl) ?_
    refine fh_get (C := RX10) (T := TX10) (N := 28) hx hb ht inX10 hown hE.1 hP hM_1.m rfl 0 (by decide) (ht _ kw_690) (fun _ h9 => h9) (v := .int (nI 0)) rfl dX10_play_20 ?_
    refine lv_if_eq (tgt := 28) hx hb dX10_play_23 (by decide) (fun _ => ?_) (fun c9 => absurd (rfl) c9)
    refine lv_aload_n hx hb dX10_play_28 rfl (lv_at hl 0 rfl) ?_
    refine fh_get (C := RX10) (T := TX10) (N := 28) hx hb ht inX10 hown hE.1 hP hM_1.m rfl 6 (by decide) (ht _ kw_696) (fun _ h9 => h9) (v := .int (nI ns)) rfl dX10_play_29 ?_
    refine lv_bipush (v := (nI 20)) hx hb dX10_play_32 (by decide) ?_
    refine lv_icmp_eq (tgt := 46) hx hb dX10_play_34 (by decide) (fun d1 => ?_) (fun d1 => ?_)
    · have e1 : ns = 20 := (nI_eq (by omega) (by decide)).mp d1
      refine lv_iconst (v := (-1)) hx hb dX10_play_46 (by decide) ?_
      have ep : oPlay no nv ns V S LK J C M x (nI n9) = (0, -1, nv, ns, V, S, LK, J, C, M) := by simp only [oPlay, htx]; rw [if_pos (Or.inl e1)]
      exact fh_iret hx hb hr hlocks (⟨_, rfl, fun _ => (by rw [ep] <;> rfl), by rw [ep]; exact ⟨_, _, _, _, _, _, _, _, _, _, _, _, _, _, _, _, _, _, _, _, hM_1, hX⟩⟩) hP hS (by first | exact (Nat.le_of_ble_eq_true rfl) | omega) (by first | exact (Nat.le_of_ble_eq_true rfl) | omega) dX10_play_47
    · have e1 : ns < 20 := by
        rcases Nat.lt_or_ge ns 20 with z | z
        · exact z
        · exact absurd (congrArg nI (show ns = 20 by omega)) d1
      refine lv_aload_n hx hb dX10_play_37 rfl (lv_at hl 0 rfl) ?_
      refine fh_get (C := RX10) (T := TX10) (N := 28) hx hb ht inX10 hown hE.1 hP hM_1.m rfl 3 (by decide) (ht _ kw_693) (fun _ h9 => h9) (v := .int (nI nv)) rfl dX10_play_38 ?_
      refine lv_bipush (v := (nI 40)) hx hb dX10_play_41 (by decide) ?_
      refine lv_icmp_ne (tgt := 48) hx hb dX10_play_43 (by decide) (fun d2 => ?_) (fun d2 => ?_)
      · have e2 : nv < 40 := by
          rcases Nat.lt_or_ge nv 40 with z | z
          · exact z
          · exact absurd (congrArg nI (show nv = 40 by omega)) d2
        refine lv_aload_n hx hb dX10_play_48 rfl (lv_at hl 0 rfl) ?_
        refine lv_aload_n hx hb dX10_play_49 rfl (lv_at hl 0 rfl) ?_
        refine fh_cV (q := (RX10, TX10, 28)) (As := []) (rest := [.ref ma]) (b := ma) ⟨hx, hb, hml, hown, ht⟩ (m_head l G A h_1 _ hM_1.re hnv0) (cwV 0 ht (gV kw_791 kw_793 kp_16 kw_5 kw_794) rfl rfl rfl yd_X10_head ⟨(Nat.le_of_ble_eq_true rfl), (Nat.le_of_ble_eq_true rfl)⟩) hP hE hS hM_1.m rfl rfl hl.1 rfl (Nat.le_of_ble_eq_true rfl) dX10_play_50 ⟨(Nat.le_of_ble_eq_true rfl), (Nat.le_of_ble_eq_true rfl)⟩ (fun v u H locs hp hP hz hS => ?_)
        obtain ⟨rfl, eu⟩ := hp
        rw [eu] at hP
        refine W.eq (g2 := F0 m 53 ls [.int (nI (nv - 1)), .ref ma]) rfl ?_
        refine fh_cV (q := (RX10, TX10, 28)) (As := [.int (nI (nv - 1))]) (rest := []) (b := ma) ⟨hx, hb, hml, hown, ht⟩ (m_begin l G A h_1 _ hM_1.re (nv - 1) (by omega) hns zO zW zH) (cwV 1 ht (gV kw_799 kw_801 kp_17 kw_5 kw_802) rfl rfl rfl yd_X10_begin ⟨(Nat.le_of_ble_eq_true rfl), (Nat.le_of_ble_eq_true rfl)⟩) hP hE hS hM_1.m rfl rfl hl.1 rfl (Nat.le_of_ble_eq_true rfl) dX10_play_53 ⟨(Nat.le_of_ble_eq_true rfl), (Nat.le_of_ble_eq_true rfl)⟩ (fun v u H locs hp hP hz hS => ?_)
        rcases hp with ⟨z9, -, -⟩ | ⟨-, rfl, fB2, fO2, fW2, fV2, hM2, g1, g2, g3, g4, g5, g6, g7, g8, g9⟩
        · exact absurd z9 (Nat.ne_of_lt e1)
        · refine W.eq (g2 := F0 m 56 ls [.int (nI ns)]) rfl ?_
          obtain ⟨PT, hPT0, hPTf, hPTt, hPTn, hPTl⟩ := ptA no LK ns (nv - 1, V (nv - 1), true, [], fun _ => 0) x n9
          have hM3 := MG.tr hM_1.kept hM2
          have hX3 := hX.begin e1 (show nv - 1 < nv by omega) g1 g2 g3 g4 g5 g6 g7 g8 g9
          have hR3 : RepM A h u ma b (nI 0) no nv (ns + 1) V (upN S ns (nv - 1, V (nv - 1), true, [], fun _ => 0)) LK RL J C M := ⟨_, _, _, _, _, _, _, _, _, _, _, _, _, _, _, _, _, _, _, _, hM3, hX3⟩
          refine lv_istore (lv' := [(4, .int (nI ns)), (0, .ref ma), (1, .long x), (3, .int (nI n9))]) hx hb dX10_play_56 hl (by decide) rfl (fun ls hl => ?_)
          refine lv_lload_n hx hb dX10_play_58 rfl (lv_at hl 2 rfl) ?_
          refine lv_lstore (lv' := [(5, .long x), (4, .int (nI ns)), (0, .ref ma), (1, .long x), (3, .int (nI n9))]) hx hb dX10_play_59 hl (by decide) rfl (fun ls hl => ?_)
          refine lv_iconst (v := (nI 0)) hx hb dX10_play_61 (by decide) ?_
          refine lv_istore (lv' := [(7, .int (nI 0)), (5, .long x), (4, .int (nI ns)), (0, .ref ma), (1, .long x), (3, .int (nI n9))]) hx hb dX10_play_62 hl (by decide) rfl (fun ls hl => ?_)
          refine lv_iconst (v := (nI 0)) hx hb dX10_play_64 (by decide) ?_
          refine lv_istore (lv' := [(8, .int (nI 0)), (7, .int (nI 0)), (5, .long x), (4, .int (nI ns)), (0, .ref ma), (1, .long x), (3, .int (nI n9))]) hx hb dX10_play_65 hl (by decide) rfl (fun ls hl => ?_)
          have tl : ∀ (hh : FH) (nd : Nat) (s9 : Ses) (_ : (nd, s9) = ((PT n9).1, (PT n9).2.1)) (_ : RepM A h hh ma b (nI 0) no nv (ns + 1) V (upN S ns s9) LK RL J C M) (H : Heap) (locs : List Loc) (ls : Array Slot), fh_P G vwCl hh H → va_S A s.heap H locs → lv_has ls 11 [(7, .int (nI nd)), (4, .int (nI ns)), (0, .ref ma), (1, .long x), (3, .int (nI n9))] → W p l e (headSpec wsX10_play { frames := 5, cells := 0, slots := 0, locals := 140 }).room s m [.ref ma, .long x, .int (nI n9)].toArray below meth c H locs 0 0 (MQ below (fh_Q G (fun v u => ∃ ans : Int32, v = some (.int ans) ∧ ((oPlay no nv ns V S LK J C M x (nI n9)).1 = 0 → ans = (oPlay no nv ns V S LK J C M x (nI n9)).2.1) ∧ RepM A h u ma b (nI (oPlay no nv ns V S LK J C M x (nI n9)).1) no ((oPlay no nv ns V S LK J C M x (nI n9)).2.2.1) ((oPlay no nv ns V S LK J C M x (nI n9)).2.2.2.1) ((oPlay no nv ns V S LK J C M x (nI n9)).2.2.2.2.1) ((oPlay no nv ns V S LK J C M x (nI n9)).2.2.2.2.2.1) ((oPlay no nv ns V S LK J C M x (nI n9)).2.2.2.2.2.2.1) RL ((oPlay no nv ns V S LK J C M x (nI n9)).2.2.2.2.2.2.2.1) ((oPlay no nv ns V S LK J C M x (nI n9)).2.2.2.2.2.2.2.2.1) ((oPlay no nv ns V S LK J C M x (nI n9)).2.2.2.2.2.2.2.2.2)) A) [.ref ma, .long x, .int (nI n9)].toArray s 0 0 A) (F0 m 184 ls []) := by
            intro hh nd s9 es hRk H locs ls hP hS hl
            have en : nd = (PT n9).1 := (Prod.mk.inj es).1
            have es9 : s9 = (PT n9).2.1 := (Prod.mk.inj es).2
            have eb : s9.1 = nv - 1 := by rw [es9, hPTn]; exact ptN_base _ _ _ _ _ _
            obtain ⟨fK, fH, fF, fB, fO, fW, fV, fN, cO, cF, cH, cV, fS, fC, lO, lA, rA, rB, rD, fM, hM9, hX9⟩ := hRk
            have hB1 : Bd no nv (ns + 1) (upN S ns s9) RL J C := ⟨hno, hnv, hnv0, by omega, fun j hj => by
              by_cases c : j = ns
              · subst c; rw [upN_s, eb]; omega
              · rw [upN_n _ _ c]; exact hbs j (by omega), hCl, hCb, fun z => Nat.lt_succ_of_lt (hJ z), hRn, hRb⟩
            refine lv_aload_n hx hb dX10_play_184 rfl (lv_at hl 2 rfl) ?_
            refine lv_iload hx hb dX10_play_185 (lv_at hl 1 rfl) ?_
            refine fh_cV (q := (RX10, TX10, 28)) (As := [.int (nI ns)]) (rest := []) (b := ma) ⟨hx, hb, hml, hown, ht⟩ (m_joins l G A hh _ ma b (nI 0) no nv (ns + 1) V (upN S ns s9) LK RL J C M ⟨_, _, _, _, _, _, _, _, _, _, _, _, _, _, _, _, _, _, _, _, hM9.re, hX9⟩ hB1 hLk hVn hMz ns (Nat.lt_succ_self ns) (by rw [upN_s, es9, hPTn]; exact ptN_none (hVn (nv - 1) (by omega)) n9) (by rw [upN_s, eb]; exact fun o h1 _ => h1) e2) (cwV 1 ht (gV kw_850 kw_852 kp_23 kw_5 kw_853) rfl rfl rfl yd_X10_joins ⟨(Nat.le_of_ble_eq_true rfl), (Nat.le_of_ble_eq_true rfl)⟩) hP hE hS hM9.m rfl rfl hl.1 rfl (Nat.le_of_ble_eq_true rfl) dX10_play_187 ⟨(Nat.le_of_ble_eq_true rfl), (Nat.le_of_ble_eq_true rfl)⟩ (fun v u H locs hp hP hz hS => ?_)
            obtain ⟨rfl, fK9, fH9, fF9, fB9, fO9, fW9, fV9, fN9, cO9, cF9, cH9, cV9, fS9, fC9, lO9, lA9, rA9, rB9, rD9, fM9, hM8, hX8⟩ := hp
            refine W.eq (g2 := F0 m 190 ls [.int (nI (oTry nv V (upN S ns s9) LK M ns).1)]) rfl ?_
            have hM10 := MG.tr hM9.kept hM8
            have ep : oPlay no nv ns V S LK J C M x (nI n9) = (0, nI nd, (oTry nv V (upN S ns s9) LK M ns).2.1, ns + 1, (oTry nv V (upN S ns s9) LK M ns).2.2.1, (oTry nv V (upN S ns s9) LK M ns).2.2.2.1, (oTry nv V (upN S ns s9) LK M ns).2.2.2.2.1, ns, (oTry nv V (upN S ns s9) LK M ns).2.2.2.2.2.1, (oTry nv V (upN S ns s9) LK M ns).2.2.2.2.2.2) := by simp only [oPlay, htx]; rw [if_neg (show ¬ (ns = 20 ∨ nv = 40) from fun q => q.elim (Nat.ne_of_lt e1) (Nat.ne_of_lt e2)), en, es9, hPTn]
            generalize hjr : oTry nv V (upN S ns s9) LK M ns = jr at hM10 hX8 ep ⊢
            refine lv_pop hx hb dX10_play_190 rfl ?_
            refine lv_iload hx hb dX10_play_191 (lv_at hl 0 rfl) ?_
            exact fh_iret hx hb hr hlocks (⟨_, rfl, fun _ => (by rw [ep]), by rw [ep]; exact ⟨_, _, _, _, _, _, _, _, _, _, _, _, _, _, _, _, _, _, _, _, hM10, hX8⟩⟩) hP hS (Nat.le_of_ble_eq_true rfl) (Nat.le_of_ble_eq_true rfl) dX10_play_193
          by_cases hz0 : no = 0
          · refine lv_iload hx hb dX10_play_67 (lv_at hl 0 rfl) ?_
            refine lv_iload_n hx hb dX10_play_69 rfl (lv_at hl 6 rfl) ?_
            refine lv_icmp_ge (tgt := 184) hx hb dX10_play_70 (by decide) (fun c1 => ?_) (fun c1 => ?_)
            · refine W.eq (g2 := F0 m 184 ls []) rfl ?_
              exact tl u 0 (nv - 1, V (nv - 1), true, [], fun _ => 0) (by rw [hPTn, hz0, ptN_0]) hR3 _ _ _ hP hS (lv_sub hl [1, 3, 4, 5, 6] rfl)
            · refine lv_aload_n hx hb dX10_play_73 rfl (lv_at hl 4 rfl) ?_
              refine fh_get (C := RX10) (T := TX10) (N := 28) hx hb ht inX10 hown hE.1 hP hM3.m rfl 1 (by decide) (ht _ kw_691) (fun _ h9 => h9) (v := .int (nI no)) rfl dX10_play_74 ?_
              refine lv_if_le (tgt := 184) hx hb dX10_play_77 (by decide) (fun _ => ?_) (fun c9 => absurd (by rw [hz0]; decide) c9)
              refine W.eq (g2 := F0 m 184 ls []) rfl ?_
              exact tl u 0 (nv - 1, V (nv - 1), true, [], fun _ => 0) (by rw [hPTn, hz0, ptN_0]) hR3 _ _ _ hP hS (lv_sub hl [1, 3, 4, 5, 6] rfl)
          · have hpos : 0 < no := Nat.pos_of_ne_zero hz0
            have loop : ∀ (n k : Nat), k + n = n9 → ∀ (hh : FH) (_ : RepM A h hh ma b (nI 0) no nv (ns + 1) V (upN S ns (PT k).2.1) LK RL J C M), ∀ (H : Heap) (locs : List Loc) (ls : Array Slot), fh_P G vwCl hh H → va_S A s.heap H locs → lv_has ls 11 [(8, .int (nI k)), (7, .int (nI (PT k).1)), (5, .long ((PT k).2.2)), (4, .int (nI ns)), (0, .ref ma), (1, .long x), (3, .int (nI n9))] → W p l e (headSpec wsX10_play { frames := 5, cells := 0, slots := 0, locals := 140 }).room s m [.ref ma, .long x, .int (nI n9)].toArray below meth c H locs 0 0 (MQ below (fh_Q G (fun v u => ∃ ans : Int32, v = some (.int ans) ∧ ((oPlay no nv ns V S LK J C M x (nI n9)).1 = 0 → ans = (oPlay no nv ns V S LK J C M x (nI n9)).2.1) ∧ RepM A h u ma b (nI (oPlay no nv ns V S LK J C M x (nI n9)).1) no ((oPlay no nv ns V S LK J C M x (nI n9)).2.2.1) ((oPlay no nv ns V S LK J C M x (nI n9)).2.2.2.1) ((oPlay no nv ns V S LK J C M x (nI n9)).2.2.2.2.1) ((oPlay no nv ns V S LK J C M x (nI n9)).2.2.2.2.2.1) ((oPlay no nv ns V S LK J C M x (nI n9)).2.2.2.2.2.2.1) RL ((oPlay no nv ns V S LK J C M x (nI n9)).2.2.2.2.2.2.2.1) ((oPlay no nv ns V S LK J C M x (nI n9)).2.2.2.2.2.2.2.2.1) ((oPlay no nv ns V S LK J C M x (nI n9)).2.2.2.2.2.2.2.2.2)) A) [.ref ma, .long x, .int (nI n9)].toArray s 0 0 A) (F0 m 67 ls []) := by
              intro n
              induction n with
              | zero =>
                intro k hin hh hRk H locs ls hP hS hl
                have kn : k = n9 := by omega
                have hRk0 := hRk
                obtain ⟨fK, fH, fF, fB, fO, fW, fV, fN, cO, cF, cH, cV, fS, fC, lO, lA, rA, rB, rD, fM, hM9, hX9⟩ := hRk
                refine lv_iload hx hb dX10_play_67 (lv_at hl 0 rfl) ?_
                refine lv_iload_n hx hb dX10_play_69 rfl (lv_at hl 6 rfl) ?_
                refine lv_icmp_ge (tgt := 184) hx hb dX10_play_70 (by decide) (fun _ => ?_) (fun c9 => absurd (nI_le (by omega) (by omega)) c9)
                refine W.eq (g2 := F0 m 184 ls []) rfl ?_
                exact tl hh (PT k).1 (PT k).2.1 (by rw [kn]) hRk0 _ _ _ hP hS (lv_sub hl [1, 3, 4, 5, 6] rfl)
              | succ n ih =>
                intro k hin hh hRk H locs ls hP hS hl
                obtain ⟨fK, fH, fF, fB, fO, fW, fV, fN, cO, cF, cH, cV, fS, fC, lO, lA, rA, rB, rD, fM, hM9, hX9⟩ := hRk
                obtain ⟨⟨zH, zO, zW, zcH⟩, xV, xS, xN, xL, xR, xC, xM⟩ := id hX9
                have hmS := xS ns (Nat.lt_succ_self ns)
                rw [upN_s] at hmS
                obtain ⟨s1, s2, s3, s4, s5, s6, s7, s8⟩ := hmS
                have hle := hPTl k
                obtain ⟨sk, hsk⟩ : ∃ z, z = (PT k).2.1 := ⟨_, rfl⟩
                obtain ⟨xk, hxk⟩ : ∃ z, z = (PT k).2.2 := ⟨_, rfl⟩
                rw [← hsk] at s1 s2 s3 s5 s6 s7 s8 hX9
                rw [← hxk] at hl
                refine lv_iload hx hb dX10_play_67 (lv_at hl 0 rfl) ?_
                refine lv_iload_n hx hb dX10_play_69 rfl (lv_at hl 6 rfl) ?_
                refine lv_icmp_ge (tgt := 184) hx hb dX10_play_70 (by decide) (fun c9 => absurd c9 (nI_ge (by omega) (by omega))) (fun _ => ?_)
                refine lv_aload_n hx hb dX10_play_73 rfl (lv_at hl 4 rfl) ?_
                refine fh_get (C := RX10) (T := TX10) (N := 28) hx hb ht inX10 hown hE.1 hP hM9.m rfl 1 (by decide) (ht _ kw_691) (fun _ h9 => h9) (v := .int (nI no)) rfl dX10_play_74 ?_
                refine lv_if_le (tgt := 184) hx hb dX10_play_77 (by decide) (fun c9 => absurd c9 (nI_nle hpos (by omega))) (fun _ => ?_)
                refine lv_lload hx hb dX10_play_80 (lv_at hl 2 rfl) ?_
                refine fh_cS (As := [.long xk]) (rest := []) ⟨hx, hb, hml, hown, ht⟩ (m_next l G A hh _ xk) (va_cwS 1 ht (gS kw_934 kw_935 kw_5 kw_936) rfl rfl rfl yd_X10_next.2 ⟨(Nat.le_of_ble_eq_true rfl), (Nat.le_of_ble_eq_true rfl)⟩) hP hE hS rfl hl.1 rfl (Nat.le_of_ble_eq_true rfl) dX10_play_82 ⟨(Nat.le_of_ble_eq_true rfl), (Nat.le_of_ble_eq_true rfl)⟩ (fun v u H locs hp hP hz hS => ?_)
                obtain ⟨rfl, eu⟩ := hp
                rw [eu] at hP
                refine W.eq (g2 := F0 m 85 ls [.long (drNext xk)]) rfl ?_
                refine lv_lstore (lv' := [(5, .long (drNext xk)), (8, .int (nI k)), (7, .int (nI (PT k).1)), (4, .int (nI ns)), (0, .ref ma), (1, .long x), (3, .int (nI n9))]) hx hb dX10_play_85 hl (by decide) rfl (fun ls hl => ?_)
                refine lv_lload hx hb dX10_play_87 (lv_at hl 0 rfl) ?_
                refine lv_bipush (v := (nI 33)) hx hb dX10_play_89 (by decide) ?_
                refine lv_lushr (v := ((drNext xk).toUInt64 >>> (((nI 33) : Int32).toInt64.toUInt64 &&& Int64.toUInt64 63)).toInt64) hx hb dX10_play_91 rfl ?_
                refine lv_aload_n hx hb dX10_play_92 rfl (lv_at hl 4 rfl) ?_
                refine fh_get (C := RX10) (T := TX10) (N := 28) hx hb ht inX10 hown hE.1 hP hM9.m rfl 1 (by decide) (ht _ kw_691) (fun _ h9 => h9) (v := .int (nI no)) rfl dX10_play_93 ?_
                refine lv_i2l (v := (nI no : Int32).toInt64) hx hb dX10_play_96 rfl ?_
                refine lv_lrem hx hb dX10_play_97 (by rw [nI_l (by omega)]; exact fun q => by have q2 : lN no = lN 0 := q; rw [pk_lEQ (by omega) (by decide)] at q2; omega) ?_
                refine lv_l2i (v := ((((drNext xk).toUInt64 >>> (((nI 33) : Int32).toInt64.toUInt64 &&& Int64.toUInt64 63)).toInt64) - (((drNext xk).toUInt64 >>> (((nI 33) : Int32).toInt64.toUInt64 &&& Int64.toUInt64 63)).toInt64) / ((nI no : Int32).toInt64) * ((nI no : Int32).toInt64)).toInt32) hx hb dX10_play_98 rfl ?_
                refine lv_topi (fun z9 ez9 => ?_)
                rw [show z9 = nI (drI (drNext xk) no) from ez9.trans (drMod_eq hpos (by omega))]
                have ho : (drI (drNext xk) no) < no := drI_lt hpos
                have hrel := s3 (drI (drNext xk) no) (by omega)
                refine lv_istore (lv' := [(9, .int (nI (drI (drNext xk) no))), (5, .long (drNext xk)), (8, .int (nI k)), (7, .int (nI (PT k).1)), (4, .int (nI ns)), (0, .ref ma), (1, .long x), (3, .int (nI n9))]) hx hb dX10_play_99 hl (by decide) rfl (fun ls hl => ?_)
                refine lv_aload_n hx hb dX10_play_101 rfl (lv_at hl 5 rfl) ?_
                refine fh_get (C := RX10) (T := TX10) (N := 28) hx hb ht inX10 hown hE.1 hP hM9.m rfl 9 (by decide) (ht _ kw_699) (fun _ h9 => h9) (v := .ref (b 17)) rfl dX10_play_102 ?_
                refine lv_bipush (v := (nI 60)) hx hb dX10_play_105 (by decide) ?_
                refine lv_iload hx hb dX10_play_107 (lv_at hl 4 rfl) ?_
                refine lv_imul hx hb dX10_play_109 ?_
                refine lv_topi (fun z9 ez9 => ?_)
                rw [show z9 = nI (60 * ns) from ez9.trans (pk_mul _ _)]
                refine lv_iload hx hb dX10_play_110 (lv_at hl 0 rfl) ?_
                refine lv_iadd hx hb dX10_play_112 ?_
                refine lv_topi (fun z9 ez9 => ?_)
                rw [show z9 = nI ((60 * ns) + (drI (drNext xk) no)) from ez9.trans (nI_add _ _)]
                refine fh_zald (k := ((60 * ns) + (drI (drNext xk) no))) hx hb hE.1 hP hM9.a17 rfl (by omega) (by decide) dX10_play_113 ?_
                rw [show fW (60 * ns + (drI (drNext xk) no)) = bI (sk.2.1 (drI (drNext xk) no)).isSome from hrel.1]
                refine lv_if_ne (tgt := 120) hx hb dX10_play_114 (by decide) (fun f1 => ?_) (fun f1 => ?_)
                · obtain ⟨r, e4⟩ : ∃ r, sk.2.1 (drI (drNext xk) no) = some r := Option.isSome_iff_exists.mp (bI_nz f1)
                  have r0 := hrel.2 r e4
                  refine lv_lload hx hb dX10_play_120 (lv_at hl 1 rfl) ?_
                  refine fh_cS (As := [.long (drNext xk)]) (rest := []) ⟨hx, hb, hml, hown, ht⟩ (m_next l G A hh _ (drNext xk)) (va_cwS 1 ht (gS kw_934 kw_935 kw_5 kw_936) rfl rfl rfl yd_X10_next.2 ⟨(Nat.le_of_ble_eq_true rfl), (Nat.le_of_ble_eq_true rfl)⟩) hP hE hS rfl hl.1 rfl (Nat.le_of_ble_eq_true rfl) dX10_play_122 ⟨(Nat.le_of_ble_eq_true rfl), (Nat.le_of_ble_eq_true rfl)⟩ (fun v u H locs hp hP hz hS => ?_)
                  obtain ⟨rfl, eu⟩ := hp
                  rw [eu] at hP
                  refine W.eq (g2 := F0 m 125 ls [.long (drNext (drNext xk))]) rfl ?_
                  refine lv_lstore (lv' := [(5, .long (drNext (drNext xk))), (9, .int (nI (drI (drNext xk) no))), (8, .int (nI k)), (7, .int (nI (PT k).1)), (4, .int (nI ns)), (0, .ref ma), (1, .long x), (3, .int (nI n9))]) hx hb dX10_play_125 hl (by decide) rfl (fun ls hl => ?_)
                  refine lv_lload hx hb dX10_play_127 (lv_at hl 0 rfl) ?_
                  refine lv_bipush (v := (nI 33)) hx hb dX10_play_129 (by decide) ?_
                  refine lv_lushr (v := ((drNext (drNext xk)).toUInt64 >>> (((nI 33) : Int32).toInt64.toUInt64 &&& Int64.toUInt64 63)).toInt64) hx hb dX10_play_131 rfl ?_
                  refine lv_ldc2 (v := 6) hx hb hown (ht _ kw_939) dX10_play_132 ?_
                  refine lv_lrem hx hb dX10_play_135 (by decide) ?_
                  refine lv_l2i (v := ((((drNext (drNext xk)).toUInt64 >>> (((nI 33) : Int32).toInt64.toUInt64 &&& Int64.toUInt64 63)).toInt64) - (((drNext (drNext xk)).toUInt64 >>> (((nI 33) : Int32).toInt64.toUInt64 &&& Int64.toUInt64 63)).toInt64) / 6 * 6).toInt32) hx hb dX10_play_136 rfl ?_
                  refine lv_topi (fun z9 ez9 => ?_)
                  rw [show z9 = nI (drI (drNext (drNext xk)) 6) from ez9.trans (dr6_eq _)]
                  refine lv_istore (lv' := [(10, .int (nI (drI (drNext (drNext xk)) 6))), (5, .long (drNext (drNext xk))), (9, .int (nI (drI (drNext xk) no))), (8, .int (nI k)), (7, .int (nI (PT k).1)), (4, .int (nI ns)), (0, .ref ma), (1, .long x), (3, .int (nI n9))]) hx hb dX10_play_137 hl (by decide) rfl (fun ls hl => ?_)
                  refine lv_lload hx hb dX10_play_139 (lv_at hl 1 rfl) ?_
                  refine fh_cS (As := [.long (drNext (drNext xk))]) (rest := []) ⟨hx, hb, hml, hown, ht⟩ (m_next l G A hh _ (drNext (drNext xk))) (va_cwS 1 ht (gS kw_934 kw_935 kw_5 kw_936) rfl rfl rfl yd_X10_next.2 ⟨(Nat.le_of_ble_eq_true rfl), (Nat.le_of_ble_eq_true rfl)⟩) hP hE hS rfl hl.1 rfl (Nat.le_of_ble_eq_true rfl) dX10_play_141 ⟨(Nat.le_of_ble_eq_true rfl), (Nat.le_of_ble_eq_true rfl)⟩ (fun v u H locs hp hP hz hS => ?_)
                  obtain ⟨rfl, eu⟩ := hp
                  rw [eu] at hP
                  refine W.eq (g2 := F0 m 144 ls [.long (drNext (drNext (drNext xk)))]) rfl ?_
                  refine lv_lstore (lv' := [(5, .long (drNext (drNext (drNext xk)))), (10, .int (nI (drI (drNext (drNext xk)) 6))), (9, .int (nI (drI (drNext xk) no))), (8, .int (nI k)), (7, .int (nI (PT k).1)), (4, .int (nI ns)), (0, .ref ma), (1, .long x), (3, .int (nI n9))]) hx hb dX10_play_144 hl (by decide) rfl (fun ls hl => ?_)
                  refine lv_iload hx hb dX10_play_146 (lv_at hl 4 rfl) ?_
                  refine lv_aload_n hx hb dX10_play_148 rfl (lv_at hl 6 rfl) ?_
                  refine lv_iload hx hb dX10_play_149 (lv_at hl 5 rfl) ?_
                  refine lv_iload hx hb dX10_play_151 (lv_at hl 2 rfl) ?_
                  refine lv_iload hx hb dX10_play_153 (lv_at hl 1 rfl) ?_
                  refine lv_lload hx hb dX10_play_155 (lv_at hl 0 rfl) ?_
                  refine lv_bipush (v := (nI 33)) hx hb dX10_play_157 (by decide) ?_
                  refine lv_lushr (v := ((drNext (drNext (drNext xk))).toUInt64 >>> (((nI 33) : Int32).toInt64.toUInt64 &&& Int64.toUInt64 63)).toInt64) hx hb dX10_play_159 rfl ?_
                  refine lv_ldc2 (v := 100) hx hb hown (ht _ kw_940) dX10_play_160 ?_
                  refine lv_lrem hx hb dX10_play_163 (by decide) ?_
                  refine lv_topl (fun z9 ez9 => ?_)
                  rw [show z9 = (lN (drI (drNext (drNext (drNext xk))) 100)) from ez9.trans (drL_eq _)]
                  have hf : (drI (drNext (drNext xk)) 6) < 6 := drI_lt (by decide)
                  refine fh_cV (q := (RX10, TX10, 28)) (As := [.int (nI ns), .int (nI (drI (drNext xk) no)), .int (nI (drI (drNext (drNext xk)) 6)), .long (lN (drI (drNext (drNext (drNext xk))) 100))]) (rest := [.int (nI (PT k).1)]) (b := ma) ⟨hx, hb, hml, hown, ht⟩ (m_setsField l G A hh _ hM9.re ns (drI (drNext xk) no) (drI (drNext (drNext xk)) 6) sk.2.2.2.1.length (lN (drI (drNext (drNext (drNext xk))) 100)) e1 (by omega) hf s5 s6 zW zcH LK rfl hLk xL) (cwV 4 ht (gV kw_822 kw_824 kp_20 kw_5 kw_825) rfl rfl rfl yd_X10_setsField ⟨(Nat.le_of_ble_eq_true rfl), (Nat.le_of_ble_eq_true rfl)⟩) hP hE hS hM9.m rfl rfl hl.1 rfl (Nat.le_of_ble_eq_true rfl) dX10_play_164 ⟨(Nat.le_of_ble_eq_true rfl), (Nat.le_of_ble_eq_true rfl)⟩ (fun v u H locs hp hP hz hS => ?_)
                  have eK : fV (360 * ns + 6 * (drI (drNext xk) no) + (drI (drNext (drNext xk)) 6)) = r (drI (drNext (drNext xk)) 6) := (congrArg fV (by omega)).trans (r0 (drI (drNext (drNext xk)) 6) hf)
                  have e0 : fV (360 * ns + 6 * (drI (drNext xk) no)) = r 0 := (congrArg fV (by omega)).trans (r0 0 (by decide))
                  have e01 : fV (360 * ns + 6 * (drI (drNext xk) no) + 1) = r 1 := (congrArg fV (by omega)).trans (r0 1 (by decide))
                  rw [eK, e0, e01] at hp
                  rcases hp with ⟨c1, rfl, eu⟩ | ⟨c1, rfl, fN3, cO3, cF3, cH3, cV3, hM4, hNP⟩
                  · rw [eu] at hP
                    refine W.eq (g2 := F0 m 167 ls [.int 0, .int (nI (PT k).1)]) rfl ?_
                    have ew : opWr LK ns (drI (drNext (drNext xk)) 6) (lN (drI (drNext (drNext (drNext xk))) 100)) r = false := by unfold opWr; rcases c1 with q | q <;> simp [q]
                    have eps : ptStep no LK ns sk xk = (false, sk, drNext (drNext (drNext xk))) := by unfold ptStep; rw [if_neg hz0, e4]; simp only [ew]; rfl
                    have en1 : (PT (k + 1)) = ((PT k).1, sk, drNext (drNext (drNext xk))) := hPTf k _ _ (by rw [← hsk, ← hxk]; exact eps)
                    refine lv_if_eq (tgt := 174) hx hb dX10_play_167 (by decide) (fun _ => ?_) (fun c9 => absurd (rfl) c9)
                    refine lv_iconst (v := (nI 0)) hx hb dX10_play_174 (by decide) ?_
                    refine lv_iadd hx hb dX10_play_175 ?_
                    refine lv_topi (fun z9 ez9 => ?_)
                    rw [show z9 = nI ((PT k).1 + 0) from ez9.trans (nI_add _ _)]
                    refine lv_istore (lv' := [(7, .int (nI ((PT k).1 + 0))), (5, .long (drNext (drNext (drNext xk)))), (10, .int (nI (drI (drNext (drNext xk)) 6))), (9, .int (nI (drI (drNext xk) no))), (8, .int (nI k)), (4, .int (nI ns)), (0, .ref ma), (1, .long x), (3, .int (nI n9))]) hx hb dX10_play_176 hl (by decide) rfl (fun ls hl => ?_)
                    refine lv_iinc (v := nI (k + 1)) (lv' := [(8, .int (nI (k + 1))), (7, .int (nI ((PT k).1 + 0))), (5, .long (drNext (drNext (drNext xk)))), (10, .int (nI (drI (drNext (drNext xk)) 6))), (9, .int (nI (drI (drNext xk) no))), (4, .int (nI ns)), (0, .ref ma), (1, .long x), (3, .int (nI n9))]) hx hb dX10_play_178 hl (k := 4) rfl (nI_1 _) (by decide) rfl (fun ls hl => ?_)
                    refine lv_goto (tgt := 67) hx hb dX10_play_181 (by decide) ?_
                    exact ih (k + 1) (by omega) hh (by rw [en1]; exact ⟨_, _, _, _, _, _, _, _, _, _, _, _, _, _, _, _, _, _, _, _, hM9, hX9⟩) H locs ls hP hS (by rw [en1]; exact lv_sub hl [0, 1, 2, 5, 6, 7, 8] rfl)
                  · refine W.eq (g2 := F0 m 167 ls [.int 1, .int (nI (PT k).1)]) rfl ?_
                    have ew : opWr LK ns (drI (drNext (drNext xk)) 6) (lN (drI (drNext (drNext (drNext xk))) 100)) r = true := by unfold opWr; simp at c1; simp [c1]
                    have eps : ptStep no LK ns sk xk = (true, (sChg sk (drI (drNext xk) no) (some (rwSet r (drI (drNext (drNext xk)) 6) (lN (drI (drNext (drNext (drNext xk))) 100))))), drNext (drNext (drNext xk))) := by unfold ptStep; rw [if_neg hz0, e4]; simp only [ew]; rfl
                    have en1 : (PT (k + 1)) = ((PT k).1 + 1, (sChg sk (drI (drNext xk) no) (some (rwSet r (drI (drNext (drNext xk)) 6) (lN (drI (drNext (drNext (drNext xk))) 100))))), drNext (drNext (drNext xk))) := hPTt k _ _ (by rw [← hsk, ← hxk]; exact eps)
                    refine lv_if_eq (tgt := 174) hx hb dX10_play_167 (by decide) (fun c9 => absurd c9 (by decide)) (fun _ => ?_)
                    have hM5 := MG.tr hM9.kept hM4
                    have hX5 := hX9.set (x := (lN (drI (drNext (drNext (drNext xk))) 100))) (Nat.lt_succ_self ns) (n := sk.2.2.2.1.length) (by rw [upN_s]) hNP hno ho hf (by rw [upN_s]; exact e4)
                    rw [upN_up, upN_s] at hX5
                    refine lv_iconst (v := (nI 1)) hx hb dX10_play_170 (by decide) ?_
                    refine lv_goto (tgt := 175) hx hb dX10_play_171 (by decide) ?_
                    refine lv_iadd hx hb dX10_play_175 ?_
                    refine lv_topi (fun z9 ez9 => ?_)
                    rw [show z9 = nI ((PT k).1 + 1) from ez9.trans (nI_add _ _)]
                    refine lv_istore (lv' := [(7, .int (nI ((PT k).1 + 1))), (5, .long (drNext (drNext (drNext xk)))), (10, .int (nI (drI (drNext (drNext xk)) 6))), (9, .int (nI (drI (drNext xk) no))), (8, .int (nI k)), (4, .int (nI ns)), (0, .ref ma), (1, .long x), (3, .int (nI n9))]) hx hb dX10_play_176 hl (by decide) rfl (fun ls hl => ?_)
                    refine lv_iinc (v := nI (k + 1)) (lv' := [(8, .int (nI (k + 1))), (7, .int (nI ((PT k).1 + 1))), (5, .long (drNext (drNext (drNext xk)))), (10, .int (nI (drI (drNext (drNext xk)) 6))), (9, .int (nI (drI (drNext xk) no))), (4, .int (nI ns)), (0, .ref ma), (1, .long x), (3, .int (nI n9))]) hx hb dX10_play_178 hl (k := 4) rfl (nI_1 _) (by decide) rfl (fun ls hl => ?_)
                    refine lv_goto (tgt := 67) hx hb dX10_play_181 (by decide) ?_
                    exact ih (k + 1) (by omega) u (by rw [en1]; exact ⟨_, _, _, _, _, _, _, _, _, _, _, _, _, _, _, _, _, _, _, _, hM5, hX5⟩) H locs ls hP hS (by rw [en1]; exact lv_sub hl [0, 1, 2, 5, 6, 7, 8] rfl)
                · have e4 : sk.2.1 (drI (drNext xk) no) = none := by have z := bI_eq.mp f1; revert z; cases sk.2.1 (drI (drNext xk) no) <;> simp
                  have eps : ptStep no LK ns sk xk = (false, sk, drNext xk) := by unfold ptStep; rw [if_neg hz0, e4]
                  have en1 : (PT (k + 1)) = ((PT k).1, sk, drNext xk) := hPTf k _ _ (by rw [← hsk, ← hxk]; exact eps)
                  refine lv_goto (tgt := 178) hx hb dX10_play_117 (by decide) ?_
                  refine lv_iinc (v := nI (k + 1)) (lv' := [(8, .int (nI (k + 1))), (9, .int (nI (drI (drNext xk) no))), (5, .long (drNext xk)), (7, .int (nI (PT k).1)), (4, .int (nI ns)), (0, .ref ma), (1, .long x), (3, .int (nI n9))]) hx hb dX10_play_178 hl (k := 2) rfl (nI_1 _) (by decide) rfl (fun ls hl => ?_)
                  refine lv_goto (tgt := 67) hx hb dX10_play_181 (by decide) ?_
                  exact ih (k + 1) (by omega) hh (by rw [en1]; exact ⟨_, _, _, _, _, _, _, _, _, _, _, _, _, _, _, _, _, _, _, _, hM9, hX9⟩) H locs ls hP hS (by rw [en1]; exact lv_sub hl [0, 3, 2, 4, 5, 6, 7] rfl)
            exact loop n9 0 (by omega) u (by rw [hPT0]; exact hR3) _ _ _ hP hS (by rw [hPT0]; exact lv_sub hl [0, 1, 2, 3, 4, 5, 6] rfl)
      · have e2 : nv = 40 := (nI_eq (by omega) (by decide)).mp d2
        refine lv_iconst (v := (-1)) hx hb dX10_play_46 (by decide) ?_
        have ep : oPlay no nv ns V S LK J C M x (nI n9) = (0, -1, nv, ns, V, S, LK, J, C, M) := by simp only [oPlay, htx]; rw [if_pos (Or.inr e2)]
        exact fh_iret hx hb hr hlocks (⟨_, rfl, fun _ => (by rw [ep] <;> rfl), by rw [ep]; exact ⟨_, _, _, _, _, _, _, _, _, _, _, _, _, _, _, _, _, _, _, _, hM_1, hX⟩⟩) hP hS (by first | exact (Nat.le_of_ble_eq_true rfl) | omega) (by first | exact (Nat.le_of_ble_eq_true rfl) | omega) dX10_play_47
