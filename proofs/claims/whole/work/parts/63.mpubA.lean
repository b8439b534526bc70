set_option maxRecDepth 100000 in
set_option maxHeartbeats 4000000 in
theorem q_set (l : Launch) (G : fG) (A : Nat → Prop) (h : FH) (sz : Nat) (ma : Nat) (b : Nat → Nat) (th : Int32) (no nv ns : Nat) (V : Vs) (S : Ss) (LK : List Ar) (RL : Rl) (J : Nat) (C : CL) (M : Nat → Int32) (hp0 : RepM A h h ma b th no nv ns V S LK RL J C M) (hB9 : Bd no nv ns S RL J C) (hLk : LK.length ≤ 10) (x y z : Int32) (vv : Int64) : Met l yX10_set wsX10_set { frames := 2, cells := 0, slots := 0, locals := 65 } (va_Pc [.ref ma, .int x, .int y, .int z, .long vv] (fh_Pre G A h sz)) (fh_Q G (fun v u => ∃ ans : Int32, v = some (.int ans) ∧ ((oSet no ns S LK x y z vv).1 = 0 → ans = bI (oSet no ns S LK x y z vv).2.1) ∧ RepM A h u ma b (nI (oSet no ns S LK x y z vv).1) no nv ns V ((oSet no ns S LK x y z vv).2.2) LK RL J C M) A) 0 0 A := by
  refine fh_Met [.ref ma, .int x, .int y, .int z, .long vv] (by decide) rfl (Nat.le_of_ble_eq_true rfl) ?_
  intro p e s m below meth c hx hb hr hlocks hml hown hnm hts hsz hP hE hS ls hl
  have ht : ∀ w ∈ wB, w.before _ s = true := fun w h9 => hts w (List.mem_cons_of_mem _ h9)
  have hl : lv_has ls 7 [(0, .ref ma), (1, .int x), (2, .int y), (3, .int z), (4, .long vv)] := hl
  obtain ⟨fK, fH, fF, fB, fO, fW, fV, fN, cO, cF, cH, cV, fS, fC, lO, lA, rA, rB, rD, fM, hM, hX⟩ := hp0
  obtain ⟨hno, hnv, hnv0, hns, hbs, hCl, hCb, hJ, hRn, hRb⟩ := id hB9
  obtain ⟨⟨zH, zO, zW, zcH⟩, xV, xS, xN, xL, xR, xC, xM⟩ := id hX
  cases hxx : ix x ns with
  | none =>
    refine lv_aload_n hx hb dX10_set_0 rfl (lv_at hl 0 rfl) ?_
    refine lv_iload_n hx hb dX10_set_1 rfl (lv_at hl 1 rfl) ?_
    refine fh_cV (q := (RX10, TX10, 28)) (As := [.int x]) (rest := []) (b := ma) ⟨hx, hb, hml, hown, ht⟩ (m_isSes l G A h _ hM.re hns x) (cwV 1 ht (gV kw_811 kw_813 kp_18 kw_5 kw_814) rfl rfl rfl yd_X10_isSession ⟨(Nat.le_of_ble_eq_true rfl), (Nat.le_of_ble_eq_true rfl)⟩) hP hE hS hM.m rfl rfl hl.1 rfl (Nat.le_of_ble_eq_true rfl) dX10_set_2 ⟨(Nat.le_of_ble_eq_true rfl), (Nat.le_of_ble_eq_true rfl)⟩ (fun v u H locs hp hP hz hS => ?_)
    obtain ⟨rfl, eu⟩ := hp
    rw [eu] at hP
    refine W.eq (g2 := F0 m 5 ls [.int (bI (ix x ns).isSome)]) rfl ?_
    refine lv_if_eq (tgt := 27) hx hb dX10_set_5 (by decide) (fun _ => ?_) (fun c9 => absurd (by rw [hxx]; rfl) c9)
    refine lv_iconst (v := (nI 0)) hx hb dX10_set_27 (by decide) ?_
    refine lv_istore (lv' := [(6, .int (nI 0)), (0, .ref ma), (1, .int x), (2, .int y), (3, .int z), (4, .long vv)]) hx hb dX10_set_28 hl (by decide) rfl (fun ls hl => ?_)
    refine lv_aload_n hx hb dX10_set_30 rfl (lv_at hl 1 rfl) ?_
    refine lv_iload hx hb dX10_set_31 (lv_at hl 0 rfl) ?_
    refine lv_if_ne (tgt := 40) hx hb dX10_set_33 (by decide) (fun c9 => absurd (rfl) c9) (fun _ => ?_)
    refine lv_iconst (v := (nI 1)) hx hb dX10_set_36 (by decide) ?_
    refine lv_goto (tgt := 68) hx hb dX10_set_37 (by decide) ?_
    refine fh_put (C := RX10) (T := TX10) (N := 28) (t := .int) hx hb ht inX10 tyX10 tyX10_ok nmX10 hown hE.1 hP hS hM.m (hM.A0) rfl 0 (by decide) (ht _ kw_690) (fun _ h9 => h9) rfl (by decide +kernel) rfl rfl (Nat.le_of_ble_eq_true rfl) dX10_set_68 (fun H locs hP hz hS => ?_)
    obtain ⟨h_1, eh_1⟩ : ∃ z, z = fh_up h ma (.inr (10, [.int (nI 1), .int (nI no), .ref (b 12), .int (nI nv), .ref (b 13), .ref (b 14), .int (nI ns), .ref (b 15), .ref (b 16), .ref (b 17), .ref (b 18), .ref (b 19), .ref (b 20), .ref (b 21), .ref (b 22), .ref (b 23), .ref (b 24), .int (nI J), .int (nI C.length), .ref (b 25), .int (nI LK.length), .ref (b 26), .ref (b 27), .int (nI RL.length), .ref (b 28), .ref (b 29), .ref (b 30), .ref (b 31)])) := ⟨_, rfl⟩
    have hP : fh_P G vwCl h_1 H := by rw [eh_1]; exact hP
    have hM_1 := MG.sc hM (th2 := (nI 1)) (no2 := no) (nv2 := nv) (ns2 := ns) (J2 := J) (nc2 := C.length) (nl2 := LK.length) (nr2 := RL.length) eh_1
    refine lv_aload_n hx hb dX10_set_71 rfl (lv_at hl 1 rfl) ?_
    refine fh_get (C := RX10) (T := TX10) (N := 28) hx hb ht inX10 hown hE.1 hP hM_1.m rfl 0 (by decide) (ht _ kw_690) (fun _ h9 => h9) (v := .int (nI 1)) rfl dX10_set_72 ?_
    refine lv_if_ne (tgt := 94) hx hb dX10_set_75 (by decide) (fun _ => ?_) (fun c9 => absurd c9 (by decide))
    refine lv_iconst (v := (nI 0)) hx hb dX10_set_94 (by decide) ?_
    have ep : oSet no ns S LK x y z vv = (1, false, S) := by simp [oSet, hxx]
    exact fh_zret hx hb hr hlocks rfl (⟨_, rfl, (fun z => by rw [ep] at z; cases z), by rw [ep]; exact ⟨_, _, _, _, _, _, _, _, _, _, _, _, _, _, _, _, _, _, _, _, hM_1, hX⟩⟩) hP hS (Nat.le_of_ble_eq_true rfl) (Nat.le_of_ble_eq_true rfl) dX10_set_95
  | some i =>
    cases hyy : ix y no with
    | none =>
      refine lv_aload_n hx hb dX10_set_0 rfl (lv_at hl 0 rfl) ?_
      refine lv_iload_n hx hb dX10_set_1 rfl (lv_at hl 1 rfl) ?_
      refine fh_cV (q := (RX10, TX10, 28)) (As := [.int x]) (rest := []) (b := ma) ⟨hx, hb, hml, hown, ht⟩ (m_isSes l G A h _ hM.re hns x) (cwV 1 ht (gV kw_811 kw_813 kp_18 kw_5 kw_814) rfl rfl rfl yd_X10_isSession ⟨(Nat.le_of_ble_eq_true rfl), (Nat.le_of_ble_eq_true rfl)⟩) hP hE hS hM.m rfl rfl hl.1 rfl (Nat.le_of_ble_eq_true rfl) dX10_set_2 ⟨(Nat.le_of_ble_eq_true rfl), (Nat.le_of_ble_eq_true rfl)⟩ (fun v u H locs hp hP hz hS => ?_)
      obtain ⟨rfl, eu⟩ := hp
      rw [eu] at hP
      refine W.eq (g2 := F0 m 5 ls [.int (bI (ix x ns).isSome)]) rfl ?_
      refine lv_if_eq (tgt := 27) hx hb dX10_set_5 (by decide) (fun c9 => absurd c9 (by rw [hxx]; show ¬ bI true = 0; decide)) (fun _ => ?_)
      refine lv_aload_n hx hb dX10_set_8 rfl (lv_at hl 0 rfl) ?_
      refine lv_iload_n hx hb dX10_set_9 rfl (lv_at hl 2 rfl) ?_
      refine fh_cV (q := (RX10, TX10, 28)) (As := [.int y]) (rest := []) (b := ma) ⟨hx, hb, hml, hown, ht⟩ (m_isObj l G A h _ hM.re hno y) (cwV 1 ht (gV kw_815 kw_817 kp_19 kw_5 kw_818) rfl rfl rfl yd_X10_isObject ⟨(Nat.le_of_ble_eq_true rfl), (Nat.le_of_ble_eq_true rfl)⟩) hP hE hS hM.m rfl rfl hl.1 rfl (Nat.le_of_ble_eq_true rfl) dX10_set_10 ⟨(Nat.le_of_ble_eq_true rfl), (Nat.le_of_ble_eq_true rfl)⟩ (fun v u H locs hp hP hz hS => ?_)
      obtain ⟨rfl, eu⟩ := hp
      rw [eu] at hP
      refine W.eq (g2 := F0 m 13 ls [.int (bI (ix y no).isSome)]) rfl ?_
      refine lv_if_eq (tgt := 27) hx hb dX10_set_13 (by decide) (fun _ => ?_) (fun c9 => absurd (by rw [hyy]; rfl) c9)
      refine lv_iconst (v := (nI 0)) hx hb dX10_set_27 (by decide) ?_
      refine lv_istore (lv' := [(6, .int (nI 0)), (0, .ref ma), (1, .int x), (2, .int y), (3, .int z), (4, .long vv)]) hx hb dX10_set_28 hl (by decide) rfl (fun ls hl => ?_)
      refine lv_aload_n hx hb dX10_set_30 rfl (lv_at hl 1 rfl) ?_
      refine lv_iload hx hb dX10_set_31 (lv_at hl 0 rfl) ?_
      refine lv_if_ne (tgt := 40) hx hb dX10_set_33 (by decide) (fun c9 => absurd (rfl) c9) (fun _ => ?_)
      refine lv_iconst (v := (nI 1)) hx hb dX10_set_36 (by decide) ?_
      refine lv_goto (tgt := 68) hx hb dX10_set_37 (by decide) ?_
      refine fh_put (C := RX10) (T := TX10) (N := 28) (t := .int) hx hb ht inX10 tyX10 tyX10_ok nmX10 hown hE.1 hP hS hM.m (hM.A0) rfl 0 (by decide) (ht _ kw_690) (fun _ h9 => h9) rfl (by decide +kernel) rfl rfl (Nat.le_of_ble_eq_true rfl) dX10_set_68 (fun H locs hP hz hS => ?_)
      obtain ⟨h_1, eh_1⟩ : ∃ z, z = fh_up h ma (.inr (10, [.int (nI 1), .int (nI no), .ref (b 12), .int (nI nv), .ref (b 13), .ref (b 14), .int (nI ns), .ref (b 15), .ref (b 16), .ref (b 17), .ref (b 18), .ref (b 19), .ref (b 20), .ref (b 21), .ref (b 22), .ref (b 23), .ref (b 24), .int (nI J), .int (nI C.length), .ref (b 25), .int (nI LK.length), .ref (b 26), .ref (b 27), .int (nI RL.length), .ref (b 28), .ref (b 29), .ref (b 30), .ref (b 31)])) := ⟨_, rfl⟩
      have hP : fh_P G vwCl h_1 H := by rw [eh_1]; exact hP
      have hM_1 := MG.sc hM (th2 := (nI 1)) (no2 := no) (nv2 := nv) (ns2 := ns) (J2 := J) (nc2 := C.length) (nl2 := LK.length) (nr2 := RL.length) eh_1
      refine lv_aload_n hx hb dX10_set_71 rfl (lv_at hl 1 rfl) ?_
      refine fh_get (C := RX10) (T := TX10) (N := 28) hx hb ht inX10 hown hE.1 hP hM_1.m rfl 0 (by decide) (ht _ kw_690) (fun _ h9 => h9) (v := .int (nI 1)) rfl dX10_set_72 ?_
      refine lv_if_ne (tgt := 94) hx hb dX10_set_75 (by decide) (fun _ => ?_) (fun c9 => absurd c9 (by decide))
      refine lv_iconst (v := (nI 0)) hx hb dX10_set_94 (by decide) ?_
      have ep : oSet no ns S LK x y z vv = (1, false, S) := by simp [oSet, hxx, hyy]
      exact fh_zret hx hb hr hlocks rfl (⟨_, rfl, (fun z => by rw [ep] at z; cases z), by rw [ep]; exact ⟨_, _, _, _, _, _, _, _, _, _, _, _, _, _, _, _, _, _, _, _, hM_1, hX⟩⟩) hP hS (Nat.le_of_ble_eq_true rfl) (Nat.le_of_ble_eq_true rfl) dX10_set_95
    | some o =>
      cases hz9 : ix z 6 with
      | none =>
        refine lv_aload_n hx hb dX10_set_0 rfl (lv_at hl 0 rfl) ?_
        refine lv_iload_n hx hb dX10_set_1 rfl (lv_at hl 1 rfl) ?_
        refine fh_cV (q := (RX10, TX10, 28)) (As := [.int x]) (rest := []) (b := ma) ⟨hx, hb, hml, hown, ht⟩ (m_isSes l G A h _ hM.re hns x) (cwV 1 ht (gV kw_811 kw_813 kp_18 kw_5 kw_814) rfl rfl rfl yd_X10_isSession ⟨(Nat.le_of_ble_eq_true rfl), (Nat.le_of_ble_eq_true rfl)⟩) hP hE hS hM.m rfl rfl hl.1 rfl (Nat.le_of_ble_eq_true rfl) dX10_set_2 ⟨(Nat.le_of_ble_eq_true rfl), (Nat.le_of_ble_eq_true rfl)⟩ (fun v u H locs hp hP hz hS => ?_)
        obtain ⟨rfl, eu⟩ := hp
        rw [eu] at hP
        refine W.eq (g2 := F0 m 5 ls [.int (bI (ix x ns).isSome)]) rfl ?_
        refine lv_if_eq (tgt := 27) hx hb dX10_set_5 (by decide) (fun c9 => absurd c9 (by rw [hxx]; show ¬ bI true = 0; decide)) (fun _ => ?_)
        refine lv_aload_n hx hb dX10_set_8 rfl (lv_at hl 0 rfl) ?_
        refine lv_iload_n hx hb dX10_set_9 rfl (lv_at hl 2 rfl) ?_
        refine fh_cV (q := (RX10, TX10, 28)) (As := [.int y]) (rest := []) (b := ma) ⟨hx, hb, hml, hown, ht⟩ (m_isObj l G A h _ hM.re hno y) (cwV 1 ht (gV kw_815 kw_817 kp_19 kw_5 kw_818) rfl rfl rfl yd_X10_isObject ⟨(Nat.le_of_ble_eq_true rfl), (Nat.le_of_ble_eq_true rfl)⟩) hP hE hS hM.m rfl rfl hl.1 rfl (Nat.le_of_ble_eq_true rfl) dX10_set_10 ⟨(Nat.le_of_ble_eq_true rfl), (Nat.le_of_ble_eq_true rfl)⟩ (fun v u H locs hp hP hz hS => ?_)
        obtain ⟨rfl, eu⟩ := hp
        rw [eu] at hP
        refine W.eq (g2 := F0 m 13 ls [.int (bI (ix y no).isSome)]) rfl ?_
        refine lv_if_eq (tgt := 27) hx hb dX10_set_13 (by decide) (fun c9 => absurd c9 (by rw [hyy]; show ¬ bI true = 0; decide)) (fun _ => ?_)
        refine lv_iload_n hx hb dX10_set_16 rfl (lv_at hl 3 rfl) ?_
        refine fh_cS (As := [.int z]) (rest := []) ⟨hx, hb, hml, hown, ht⟩ (m_isField l G A h _ z) (va_cwS 1 ht (gS kw_819 kw_820 kw_5 kw_821) rfl rfl rfl yd_X10_isField.2 ⟨(Nat.le_of_ble_eq_true rfl), (Nat.le_of_ble_eq_true rfl)⟩) hP hE hS rfl hl.1 rfl (Nat.le_of_ble_eq_true rfl) dX10_set_17 ⟨(Nat.le_of_ble_eq_true rfl), (Nat.le_of_ble_eq_true rfl)⟩ (fun v u H locs hp hP hz hS => ?_)
        obtain ⟨rfl, eu⟩ := hp
        rw [eu] at hP
        refine W.eq (g2 := F0 m 20 ls [.int (bI (ix z 6).isSome)]) rfl ?_
        refine lv_if_eq (tgt := 27) hx hb dX10_set_20 (by decide) (fun _ => ?_) (fun c9 => absurd (by rw [hz9]; rfl) c9)
        refine lv_iconst (v := (nI 0)) hx hb dX10_set_27 (by decide) ?_
        refine lv_istore (lv' := [(6, .int (nI 0)), (0, .ref ma), (1, .int x), (2, .int y), (3, .int z), (4, .long vv)]) hx hb dX10_set_28 hl (by decide) rfl (fun ls hl => ?_)
        refine lv_aload_n hx hb dX10_set_30 rfl (lv_at hl 1 rfl) ?_
        refine lv_iload hx hb dX10_set_31 (lv_at hl 0 rfl) ?_
        refine lv_if_ne (tgt := 40) hx hb dX10_set_33 (by decide) (fun c9 => absurd (rfl) c9) (fun _ => ?_)
        refine lv_iconst (v := (nI 1)) hx hb dX10_set_36 (by decide) ?_
        refine lv_goto (tgt := 68) hx hb dX10_set_37 (by decide) ?_
        refine fh_put (C := RX10) (T := TX10) (N := 28) (t := .int) hx hb ht inX10 tyX10 tyX10_ok nmX10 hown hE.1 hP hS hM.m (hM.A0) rfl 0 (by decide) (ht _ kw_690) (fun _ h9 => h9) rfl (by decide +kernel) rfl rfl (Nat.le_of_ble_eq_true rfl) dX10_set_68 (fun H locs hP hz hS => ?_)
        obtain ⟨h_1, eh_1⟩ : ∃ z, z = fh_up h ma (.inr (10, [.int (nI 1), .int (nI no), .ref (b 12), .int (nI nv), .ref (b 13), .ref (b 14), .int (nI ns), .ref (b 15), .ref (b 16), .ref (b 17), .ref (b 18), .ref (b 19), .ref (b 20), .ref (b 21), .ref (b 22), .ref (b 23), .ref (b 24), .int (nI J), .int (nI C.length), .ref (b 25), .int (nI LK.length), .ref (b 26), .ref (b 27), .int (nI RL.length), .ref (b 28), .ref (b 29), .ref (b 30), .ref (b 31)])) := ⟨_, rfl⟩
        have hP : fh_P G vwCl h_1 H := by rw [eh_1]; exact hP
        have hM_1 := MG.sc hM (th2 := (nI 1)) (no2 := no) (nv2 := nv) (ns2 := ns) (J2 := J) (nc2 := C.length) (nl2 := LK.length) (nr2 := RL.length) eh_1
        refine lv_aload_n hx hb dX10_set_71 rfl (lv_at hl 1 rfl) ?_
        refine fh_get (C := RX10) (T := TX10) (N := 28) hx hb ht inX10 hown hE.1 hP hM_1.m rfl 0 (by decide) (ht _ kw_690) (fun _ h9 => h9) (v := .int (nI 1)) rfl dX10_set_72 ?_
        refine lv_if_ne (tgt := 94) hx hb dX10_set_75 (by decide) (fun _ => ?_) (fun c9 => absurd c9 (by decide))
        refine lv_iconst (v := (nI 0)) hx hb dX10_set_94 (by decide) ?_
        have ep : oSet no ns S LK x y z vv = (1, false, S) := by simp [oSet, hxx, hyy, hz9]
        exact fh_zret hx hb hr hlocks rfl (⟨_, rfl, (fun z => by rw [ep] at z; cases z), by rw [ep]; exact ⟨_, _, _, _, _, _, _, _, _, _, _, _, _, _, _, _, _, _, _, _, hM_1, hX⟩⟩) hP hS (Nat.le_of_ble_eq_true rfl) (Nat.le_of_ble_eq_true rfl) dX10_set_95
      | some f =>
        obtain ⟨hi, rfl⟩ := ix_of (by omega) hxx
        obtain ⟨ho, rfl⟩ := ix_of (by omega) hyy
        obtain ⟨hf, rfl⟩ := ix_of (by decide) hz9
        have hi2 : i < 20 := by omega
        obtain ⟨s1, s2, s3, s4, s5, s6, s7, s8⟩ := xS i hi
        have hrel := s3 o (by omega)
        refine lv_aload_n hx hb dX10_set_0 rfl (lv_at hl 0 rfl) ?_
        refine lv_iload_n hx hb dX10_set_1 rfl (lv_at hl 1 rfl) ?_
        refine fh_cV (q := (RX10, TX10, 28)) (As := [.int (nI i)]) (rest := []) (b := ma) ⟨hx, hb, hml, hown, ht⟩ (m_isSes l G A h _ hM.re hns (nI i)) (cwV 1 ht (gV kw_811 kw_813 kp_18 kw_5 kw_814) rfl rfl rfl yd_X10_isSession ⟨(Nat.le_of_ble_eq_true rfl), (Nat.le_of_ble_eq_true rfl)⟩) hP hE hS hM.m rfl rfl hl.1 rfl (Nat.le_of_ble_eq_true rfl) dX10_set_2 ⟨(Nat.le_of_ble_eq_true rfl), (Nat.le_of_ble_eq_true rfl)⟩ (fun v u H locs hp hP hz hS => ?_)
        obtain ⟨rfl, eu⟩ := hp
        rw [eu] at hP
        refine W.eq (g2 := F0 m 5 ls [.int (bI (ix (nI i) ns).isSome)]) rfl ?_
        refine lv_if_eq (tgt := 27) hx hb dX10_set_5 (by decide) (fun c9 => absurd c9 (by rw [hxx]; show ¬ bI true = 0; decide)) (fun _ => ?_)
        refine lv_aload_n hx hb dX10_set_8 rfl (lv_at hl 0 rfl) ?_
        refine lv_iload_n hx hb dX10_set_9 rfl (lv_at hl 2 rfl) ?_
        refine fh_cV (q := (RX10, TX10, 28)) (As := [.int (nI o)]) (rest := []) (b := ma) ⟨hx, hb, hml, hown, ht⟩ (m_isObj l G A h _ hM.re hno (nI o)) (cwV 1 ht (gV kw_815 kw_817 kp_19 kw_5 kw_818) rfl rfl rfl yd_X10_isObject ⟨(Nat.le_of_ble_eq_true rfl), (Nat.le_of_ble_eq_true rfl)⟩) hP hE hS hM.m rfl rfl hl.1 rfl (Nat.le_of_ble_eq_true rfl) dX10_set_10 ⟨(Nat.le_of_ble_eq_true rfl), (Nat.le_of_ble_eq_true rfl)⟩ (fun v u H locs hp hP hz hS => ?_)
        obtain ⟨rfl, eu⟩ := hp
        rw [eu] at hP
        refine W.eq (g2 := F0 m 13 ls [.int (bI (ix (nI o) no).isSome)]) rfl ?_
        refine lv_if_eq (tgt := 27) hx hb dX10_set_13 (by decide) (fun c9 => absurd c9 (by rw [hyy]; show ¬ bI true = 0; decide)) (fun _ => ?_)
        refine lv_iload_n hx hb dX10_set_16 rfl (lv_at hl 3 rfl) ?_
        refine fh_cS (As := [.int (nI f)]) (rest := []) ⟨hx, hb, hml, hown, ht⟩ (m_isField l G A h _ (nI f)) (va_cwS 1 ht (gS kw_819 kw_820 kw_5 kw_821) rfl rfl rfl yd_X10_isField.2 ⟨(Nat.le_of_ble_eq_true rfl), (Nat.le_of_ble_eq_true rfl)⟩) hP hE hS rfl hl.1 rfl (Nat.le_of_ble_eq_true rfl) dX10_set_17 ⟨(Nat.le_of_ble_eq_true rfl), (Nat.le_of_ble_eq_true rfl)⟩ (fun v u H locs hp hP hz hS => ?_)
        obtain ⟨rfl, eu⟩ := hp
        rw [eu] at hP
        refine W.eq (g2 := F0 m 20 ls [.int (bI (ix (nI f) 6).isSome)]) rfl ?_
        refine lv_if_eq (tgt := 27) hx hb dX10_set_20 (by decide) (fun c9 => absurd c9 (by rw [hz9]; show ¬ bI true = 0; decide)) (fun _ => ?_)
        refine lv_iconst (v := (nI 1)) hx hb dX10_set_23 (by decide) ?_
        refine lv_goto (tgt := 28) hx hb dX10_set_24 (by decide) ?_
        refine lv_istore (lv' := [(6, .int (nI 1)), (0, .ref ma), (1, .int (nI i)), (2, .int (nI o)), (3, .int (nI f)), (4, .long vv)]) hx hb dX10_set_28 hl (by decide) rfl (fun ls hl => ?_)
        refine lv_aload_n hx hb dX10_set_30 rfl (lv_at hl 1 rfl) ?_
        refine lv_iload hx hb dX10_set_31 (lv_at hl 0 rfl) ?_
        refine lv_if_ne (tgt := 40) hx hb dX10_set_33 (by decide) (fun _ => ?_) (fun c9 => absurd c9 (by decide))
        refine lv_aload_n hx hb dX10_set_40 rfl (lv_at hl 1 rfl) ?_
        refine fh_get (C := RX10) (T := TX10) (N := 28) hx hb ht inX10 hown hE.1 hP hM.m rfl 8 (by decide) (ht _ kw_698) (fun _ h9 => h9) (v := .ref (b 16)) rfl dX10_set_41 ?_
        refine lv_iload_n hx hb dX10_set_44 rfl (lv_at hl 2 rfl) ?_
        refine fh_zald (k := i) hx hb hE.1 hP hM.a16 rfl (by omega) (by decide) dX10_set_45 ?_
        rw [s2]
        refine lv_if_eq (tgt := 67) hx hb dX10_set_46 (by decide) (fun d1 => ?_) (fun d1 => ?_)
        · have e1 := bI_eq.mp d1
          refine lv_iconst (v := (nI 2)) hx hb dX10_set_67 (by decide) ?_
          refine fh_put (C := RX10) (T := TX10) (N := 28) (t := .int) hx hb ht inX10 tyX10 tyX10_ok nmX10 hown hE.1 hP hS hM.m (hM.A0) rfl 0 (by decide) (ht _ kw_690) (fun _ h9 => h9) rfl (by decide +kernel) rfl rfl (Nat.le_of_ble_eq_true rfl) dX10_set_68 (fun H locs hP hz hS => ?_)
          obtain ⟨h_1, eh_1⟩ : ∃ z, z = fh_up h ma (.inr (10, [.int (nI 2), .int (nI no), .ref (b 12), .int (nI nv), .ref (b 13), .ref (b 14), .int (nI ns), .ref (b 15), .ref (b 16), .ref (b 17), .ref (b 18), .ref (b 19), .ref (b 20), .ref (b 21), .ref (b 22), .ref (b 23), .ref (b 24), .int (nI J), .int (nI C.length), .ref (b 25), .int (nI LK.length), .ref (b 26), .ref (b 27), .int (nI RL.length), .ref (b 28), .ref (b 29), .ref (b 30), .ref (b 31)])) := ⟨_, rfl⟩
          have hP : fh_P G vwCl h_1 H := by rw [eh_1]; exact hP
          have hM_1 := MG.sc hM (th2 := (nI 2)) (no2 := no) (nv2 := nv) (ns2 := ns) (J2 := J) (nc2 := C.length) (nl2 := LK.length) (nr2 := RL.length) eh_1
          refine lv_aload_n hx hb dX10_set_71 rfl (lv_at hl 1 rfl) ?_
          refine fh_get (C := RX10) (T := TX10) (N := 28) hx hb ht inX10 hown hE.1 hP hM_1.m rfl 0 (by decide) (ht _ kw_690) (fun _ h9 => h9) (v := .int (nI 2)) rfl dX10_set_72 ?_
          refine lv_if_ne (tgt := 94) hx hb dX10_set_75 (by decide) (fun _ => ?_) (fun c9 => absurd c9 (by decide))
          refine lv_iconst (v := (nI 0)) hx hb dX10_set_94 (by decide) ?_
          have ep : oSet no ns S LK (nI i) (nI o) (nI f) vv = (2, false, S) := by simp [oSet, hxx, hyy, hz9, e1]
          exact fh_zret hx hb hr hlocks rfl (⟨_, rfl, (fun z => by rw [ep] at z; cases z), by rw [ep]; exact ⟨_, _, _, _, _, _, _, _, _, _, _, _, _, _, _, _, _, _, _, _, hM_1, hX⟩⟩) hP hS (Nat.le_of_ble_eq_true rfl) (Nat.le_of_ble_eq_true rfl) dX10_set_95
        · have e1 := bI_nz d1
          refine lv_aload_n hx hb dX10_set_49 rfl (lv_at hl 1 rfl) ?_
          refine fh_get (C := RX10) (T := TX10) (N := 28) hx hb ht inX10 hown hE.1 hP hM.m rfl 9 (by decide) (ht _ kw_699) (fun _ h9 => h9) (v := .ref (b 17)) rfl dX10_set_50 ?_
          refine lv_bipush (v := (nI 60)) hx hb dX10_set_53 (by decide) ?_
          refine lv_iload_n hx hb dX10_set_55 rfl (lv_at hl 2 rfl) ?_
          refine lv_imul hx hb dX10_set_56 ?_
          refine lv_topi (fun z9 ez9 => ?_)
          rw [show z9 = nI (60 * i) from ez9.trans (pk_mul _ _)]
          refine lv_iload_n hx hb dX10_set_57 rfl (lv_at hl 3 rfl) ?_
          refine lv_iadd hx hb dX10_set_58 ?_
          refine lv_topi (fun z9 ez9 => ?_)
          rw [show z9 = nI ((60 * i) + o) from ez9.trans (nI_add _ _)]
          refine fh_zald (k := ((60 * i) + o)) hx hb hE.1 hP hM.a17 rfl (by omega) (by decide) dX10_set_59 ?_
          rw [show fW (60 * i + o) = bI ((S i).2.1 o).isSome from hrel.1]
          refine lv_if_eq (tgt := 67) hx hb dX10_set_60 (by decide) (fun d2 => ?_) (fun d2 => ?_)
          · have e2 : (S i).2.1 o = none := by have z := bI_eq.mp d2; revert z; cases (S i).2.1 o <;> simp
            refine lv_iconst (v := (nI 2)) hx hb dX10_set_67 (by decide) ?_
            refine fh_put (C := RX10) (T := TX10) (N := 28) (t := .int) hx hb ht inX10 tyX10 tyX10_ok nmX10 hown hE.1 hP hS hM.m (hM.A0) rfl 0 (by decide) (ht _ kw_690) (fun _ h9 => h9) rfl (by decide +kernel) rfl rfl (Nat.le_of_ble_eq_true rfl) dX10_set_68 (fun H locs hP hz hS => ?_)
            obtain ⟨h_1, eh_1⟩ : ∃ z, z = fh_up h ma (.inr (10, [.int (nI 2), .int (nI no), .ref (b 12), .int (nI nv), .ref (b 13), .ref (b 14), .int (nI ns), .ref (b 15), .ref (b 16), .ref (b 17), .ref (b 18), .ref (b 19), .ref (b 20), .ref (b 21), .ref (b 22), .ref (b 23), .ref (b 24), .int (nI J), .int (nI C.length), .ref (b 25), .int (nI LK.length), .ref (b 26), .ref (b 27), .int (nI RL.length), .ref (b 28), .ref (b 29), .ref (b 30), .ref (b 31)])) := ⟨_, rfl⟩
            have hP : fh_P G vwCl h_1 H := by rw [eh_1]; exact hP
            have hM_1 := MG.sc hM (th2 := (nI 2)) (no2 := no) (nv2 := nv) (ns2 := ns) (J2 := J) (nc2 := C.length) (nl2 := LK.length) (nr2 := RL.length) eh_1
            refine lv_aload_n hx hb dX10_set_71 rfl (lv_at hl 1 rfl) ?_
            refine fh_get (C := RX10) (T := TX10) (N := 28) hx hb ht inX10 hown hE.1 hP hM_1.m rfl 0 (by decide) (ht _ kw_690) (fun _ h9 => h9) (v := .int (nI 2)) rfl dX10_set_72 ?_
            refine lv_if_ne (tgt := 94) hx hb dX10_set_75 (by decide) (fun _ => ?_) (fun c9 => absurd c9 (by decide))
            refine lv_iconst (v := (nI 0)) hx hb dX10_set_94 (by decide) ?_
            have ep : oSet no ns S LK (nI i) (nI o) (nI f) vv = (2, false, S) := by simp [oSet, hxx, hyy, hz9, e1, e2]
            exact fh_zret hx hb hr hlocks rfl (⟨_, rfl, (fun z => by rw [ep] at z; cases z), by rw [ep]; exact ⟨_, _, _, _, _, _, _, _, _, _, _, _, _, _, _, _, _, _, _, _, hM_1, hX⟩⟩) hP hS (Nat.le_of_ble_eq_true rfl) (Nat.le_of_ble_eq_true rfl) dX10_set_95
          · obtain ⟨r, e2⟩ : ∃ r, (S i).2.1 o = some r := Option.isSome_iff_exists.mp (bI_nz d2)
            have r0 := hrel.2 r e2
            refine lv_iconst (v := (nI 0)) hx hb dX10_set_63 (by decide) ?_
            refine lv_goto (tgt := 68) hx hb dX10_set_64 (by decide) ?_
            refine fh_put (C := RX10) (T := TX10) (N := 28) (t := .int) hx hb ht inX10 tyX10 tyX10_ok nmX10 hown hE.1 hP hS hM.m (hM.A0) rfl 0 (by decide) (ht _ kw_690) (fun _ h9 => h9) rfl (by decide +kernel) rfl rfl (Nat.le_of_ble_eq_true rfl) dX10_set_68 (fun H locs hP hz hS => ?_)
            obtain ⟨h_1, eh_1⟩ : ∃ z, z = fh_up h ma (.inr (10, [.int (nI 0), .int (nI no), .ref (b 12), .int (nI nv), .ref (b 13), .ref (b 14), .int (nI ns), .ref (b 15), .ref (b 16), .ref (b 17), .ref (b 18), .ref (b 19), .ref (b 20), .ref (b 21), .ref (b 22), .ref (b 23), .ref (b 24), .int (nI J), .int (nI C.length), .ref (b 25), .int (nI LK.length), .ref (b 26), .ref (b 27), .int (nI RL.length), .ref (b 28), .ref (b 29), .ref (b 30), .ref (b 31)])) := ⟨_, rfl⟩
            have hP : fh_P G vwCl h_1 H := by rw [eh_1]; exact hP
            have hM_1 := MG.sc hM (th2 := (nI 0)) (no2 := no) (nv2 := nv) (ns2 := ns) (J2 := J) (nc2 := C.length) (nl2 := LK.length) (nr2 := RL.length) eh_1
            refine lv_aload_n hx hb dX10_set_71 rfl (lv_at hl 1 rfl) ?_
            refine fh_get (C := RX10) (T := TX10) (N := 28) hx hb ht inX10 hown hE.1 hP hM_1.m rfl 0 (by decide) (ht _ kw_690) (fun _ h9 => h9) (v := .int (nI 0)) rfl dX10_set_72 ?_
            refine lv_if_ne (tgt := 94) hx hb dX10_set_75 (by decide) (fun c9 => absurd (rfl) c9) (fun _ => ?_)
            refine lv_aload_n hx hb dX10_set_78 rfl (lv_at hl 1 rfl) ?_
            refine lv_iload_n hx hb dX10_set_79 rfl (lv_at hl 2 rfl) ?_
            refine lv_iload_n hx hb dX10_set_80 rfl (lv_at hl 3 rfl) ?_
            refine lv_iload_n hx hb dX10_set_81 rfl (lv_at hl 4 rfl) ?_
            refine lv_lload hx hb dX10_set_82 (lv_at hl 5 rfl) ?_
            refine fh_cV (q := (RX10, TX10, 28)) (As := [.int (nI i), .int (nI o), .int (nI f), .long vv]) (rest := []) (b := ma) ⟨hx, hb, hml, hown, ht⟩ (m_setsField l G A h_1 _ hM_1.re i o f (S i).2.2.2.1.length vv hi2 (by omega) hf s5 s6 zW zcH LK rfl hLk xL) (cwV 4 ht (gV kw_822 kw_824 kp_20 kw_5 kw_825) rfl rfl rfl yd_X10_setsField ⟨(Nat.le_of_ble_eq_true rfl), (Nat.le_of_ble_eq_true rfl)⟩) hP hE hS hM_1.m rfl rfl hl.1 rfl (Nat.le_of_ble_eq_true rfl) dX10_set_84 ⟨(Nat.le_of_ble_eq_true rfl), (Nat.le_of_ble_eq_true rfl)⟩ (fun v u H locs hp hP hz hS => ?_)
            have eK : fV (360 * i + 6 * o + f) = r f := by rw [Nat.add_assoc]; exact r0 f hf
            have e0 : fV (360 * i + 6 * o) = r 0 := r0 0 (by decide)
            have e01 : fV (360 * i + 6 * o + 1) = r 1 := by rw [Nat.add_assoc]; exact r0 1 (by decide)
            rw [eK, e0, e01] at hp
            rcases hp with ⟨c1, rfl, eu⟩ | ⟨c1, rfl, fN2, cO2, cF2, cH2, cV2, hM2, hNP⟩
            · rw [eu] at hP
              refine W.eq (g2 := F0 m 87 ls [.int 0]) rfl ?_
              have ew : opWr LK i f vv r = false := by unfold opWr; rcases c1 with q | q <;> simp [q]
              refine lv_if_eq (tgt := 94) hx hb dX10_set_87 (by decide) (fun _ => ?_) (fun c9 => absurd (rfl) c9)
              refine lv_iconst (v := (nI 0)) hx hb dX10_set_94 (by decide) ?_
              have ep : oSet no ns S LK (nI i) (nI o) (nI f) vv = (0, false, S) := by simp [oSet, hxx, hyy, hz9, e1, e2, ew]
              exact fh_zret hx hb hr hlocks rfl (⟨_, rfl, fun _ => (by rw [ep] <;> rfl), by rw [ep]; exact ⟨_, _, _, _, _, _, _, _, _, _, _, _, _, _, _, _, _, _, _, _, hM_1, hX⟩⟩) hP hS (by first | exact (Nat.le_of_ble_eq_true rfl) | omega) (by first | exact (Nat.le_of_ble_eq_true rfl) | omega) dX10_set_95
            · refine W.eq (g2 := F0 m 87 ls [.int 1]) rfl ?_
              have ew : opWr LK i f vv r = true := by unfold opWr; simp at c1; simp [c1]
              refine lv_if_eq (tgt := 94) hx hb dX10_set_87 (by decide) (fun c9 => absurd c9 (by decide)) (fun _ => ?_)
              have hM3 := MG.tr hM_1.kept hM2
              refine lv_iconst (v := (nI 1)) hx hb dX10_set_90 (by decide) ?_
              refine lv_goto (tgt := 95) hx hb dX10_set_91 (by decide) ?_
              have ep : oSet no ns S LK (nI i) (nI o) (nI f) vv = (0, true, upN S i (sChg (S i) o (some (rwSet r f vv)))) := by simp [oSet, hxx, hyy, hz9, e1, e2, ew]
              exact fh_zret hx hb hr hlocks rfl (⟨_, rfl, fun _ => (by rw [ep] <;> rfl), by rw [ep]; exact ⟨_, _, _, _, _, _, _, _, _, _, _, _, _, _, _, _, _, _, _, _, hM3, hX.set hi rfl hNP hno ho hf e2⟩⟩) hP hS (by first | exact (Nat.le_of_ble_eq_true rfl) | omega) (by first | exact (Nat.le_of_ble_eq_true rfl) | omega) dX10_set_95

set_option maxRecDepth 100000 in
set_option maxHeartbeats 4000000 in
theorem q_drop (l : Launch) (G : fG) (A : Nat → Prop) (h : FH) (sz : Nat) (ma : Nat) (b : Nat → Nat) (th : Int32) (no nv ns : Nat) (V : Vs) (S : Ss) (LK : List Ar) (RL : Rl) (J : Nat) (C : CL) (M : Nat → Int32) (hp0 : RepM A h h ma b th no nv ns V S LK RL J C M) (hB9 : Bd no nv ns S RL J C) (hLk : LK.length ≤ 10) (x y : Int32) : Met l yX10_drop wsX10_drop { frames := 2, cells := 0, slots := 0, locals := 65 } (va_Pc [.ref ma, .int x, .int y] (fh_Pre G A h sz)) (fh_Q G (fun v u => ∃ ans : Int32, v = some (.int ans) ∧ ((oDrop no ns S LK x y).1 = 0 → ans = bI (oDrop no ns S LK x y).2.1) ∧ RepM A h u ma b (nI (oDrop no ns S LK x y).1) no nv ns V ((oDrop no ns S LK x y).2.2) LK RL J C M) A) 0 0 A := by
  refine fh_Met [.ref ma, .int x, .int y] (by decide) rfl (Nat.le_of_ble_eq_true rfl) ?_
  intro p e s m below meth c hx hb hr hlocks hml hown hnm hts hsz hP hE hS ls hl
  have ht : ∀ w ∈ wB, w.before _ s = true := fun w h9 => hts w (List.mem_cons_of_mem _ h9)
  have hl : lv_has ls 4 [(0, .ref ma), (1, .int x), (2, .int y)] := hl
  obtain ⟨fK, fH, fF, fB, fO, fW, fV, fN, cO, cF, cH, cV, fS, fC, lO, lA, rA, rB, rD, fM, hM, hX⟩ := hp0
  obtain ⟨hno, hnv, hnv0, hns, hbs, hCl, hCb, hJ, hRn, hRb⟩ := id hB9
  obtain ⟨⟨zH, zO, zW, zcH⟩, xV, xS, xN, xL, xR, xC, xM⟩ := id hX
  cases hxx : ix x ns with
  | none =>
    refine lv_aload_n hx hb dX10_drop_0 rfl (lv_at hl 0 rfl) ?_
    refine lv_iload_n hx hb dX10_drop_1 rfl (lv_at hl 1 rfl) ?_
    refine fh_cV (q := (RX10, TX10, 28)) (As := [.int x]) (rest := []) (b := ma) ⟨hx, hb, hml, hown, ht⟩ (m_isSes l G A h _ hM.re hns x) (cwV 1 ht (gV kw_811 kw_813 kp_18 kw_5 kw_814) rfl rfl rfl yd_X10_isSession ⟨(Nat.le_of_ble_eq_true rfl), (Nat.le_of_ble_eq_true rfl)⟩) hP hE hS hM.m rfl rfl hl.1 rfl (Nat.le_of_ble_eq_true rfl) dX10_drop_2 ⟨(Nat.le_of_ble_eq_true rfl), (Nat.le_of_ble_eq_true rfl)⟩ (fun v u H locs hp hP hz hS => ?_)
    obtain ⟨rfl, eu⟩ := hp
    rw [eu] at hP
    refine W.eq (g2 := F0 m 5 ls [.int (bI (ix x ns).isSome)]) rfl ?_
    refine lv_if_eq (tgt := 20) hx hb dX10_drop_5 (by decide) (fun _ => ?_) (fun c9 => absurd (by rw [hxx]; rfl) c9)
    refine lv_iconst (v := (nI 0)) hx hb dX10_drop_20 (by decide) ?_
    refine lv_istore_n (lv' := [(3, .int (nI 0)), (0, .ref ma), (1, .int x), (2, .int y)]) hx hb dX10_drop_21 rfl hl (by decide) rfl (fun ls hl => ?_)
    refine lv_aload_n hx hb dX10_drop_22 rfl (lv_at hl 1 rfl) ?_
    refine lv_iload_n hx hb dX10_drop_23 rfl (lv_at hl 0 rfl) ?_
    refine lv_if_ne (tgt := 31) hx hb dX10_drop_24 (by decide) (fun c9 => absurd (rfl) c9) (fun _ => ?_)
    refine lv_iconst (v := (nI 1)) hx hb dX10_drop_27 (by decide) ?_
    refine lv_goto (tgt := 59) hx hb dX10_drop_28 (by decide) ?_
    refine fh_put (C := RX10) (T := TX10) (N := 28) (t := .int) hx hb ht inX10 tyX10 tyX10_ok nmX10 hown hE.1 hP hS hM.m (hM.A0) rfl 0 (by decide) (ht _ kw_690) (fun _ h9 => h9) rfl (by decide +kernel) rfl rfl (Nat.le_of_ble_eq_true rfl) dX10_drop_59 (fun H locs hP hz hS => ?_)
    obtain ⟨h_1, eh_1⟩ : ∃ z, z = fh_up h ma (.inr (10, [.int (nI 1), .int (nI no), .ref (b 12), .int (nI nv), .ref (b 13), .ref (b 14), .int (nI ns), .ref (b 15), .ref (b 16), .ref (b 17), .ref (b 18), .ref (b 19), .ref (b 20), .ref (b 21), .ref (b 22), .ref (b 23), .ref (b 24), .int (nI J), .int (nI C.length), .ref (b 25), .int (nI LK.length), .ref (b 26), .ref (b 27), .int (nI RL.length), .ref (b 28), .ref (b 29), .ref (b 30), .ref (b 31)])) := ⟨_, rfl⟩
    have hP : fh_P G vwCl h_1 H := by rw [eh_1]; exact hP
    have hM_1 := MG.sc hM (th2 := (nI 1)) (no2 := no) (nv2 := nv) (ns2 := ns) (J2 := J) (nc2 := C.length) (nl2 := LK.length) (nr2 := RL.length) eh_1
    refine lv_aload_n hx hb dX10_drop_62 rfl (lv_at hl 1 rfl) ?_
    refine fh_get (C := RX10) (T := TX10) (N := 28) hx hb ht inX10 hown hE.1 hP hM_1.m rfl 0 (by decide) (ht _ kw_690) (fun _ h9 => h9) (v := .int (nI 1)) rfl dX10_drop_63 ?_
    refine lv_if_ne (tgt := 78) hx hb dX10_drop_66 (by decide) (fun _ => ?_) (fun c9 => absurd c9 (by decide))
    refine lv_iconst (v := (nI 0)) hx hb dX10_drop_78 (by decide) ?_
    have ep : oDrop no ns S LK x y = (1, false, S) := by simp [oDrop, hxx]
    exact fh_zret hx hb hr hlocks rfl (⟨_, rfl, (fun z => by rw [ep] at z; cases z), by rw [ep]; exact ⟨_, _, _, _, _, _, _, _, _, _, _, _, _, _, _, _, _, _, _, _, hM_1, hX⟩⟩) hP hS (Nat.le_of_ble_eq_true rfl) (Nat.le_of_ble_eq_true rfl) dX10_drop_79
  | some i =>
    cases hyy : ix y no with
    | none =>
      refine lv_aload_n hx hb dX10_drop_0 rfl (lv_at hl 0 rfl) ?_
      refine lv_iload_n hx hb dX10_drop_1 rfl (lv_at hl 1 rfl) ?_
      refine fh_cV (q := (RX10, TX10, 28)) (As := [.int x]) (rest := []) (b := ma) ⟨hx, hb, hml, hown, ht⟩ (m_isSes l G A h _ hM.re hns x) (cwV 1 ht (gV kw_811 kw_813 kp_18 kw_5 kw_814) rfl rfl rfl yd_X10_isSession ⟨(Nat.le_of_ble_eq_true rfl), (Nat.le_of_ble_eq_true rfl)⟩) hP hE hS hM.m rfl rfl hl.1 rfl (Nat.le_of_ble_eq_true rfl) dX10_drop_2 ⟨(Nat.le_of_ble_eq_true rfl), (Nat.le_of_ble_eq_true rfl)⟩ (fun v u H locs hp hP hz hS => ?_)
      obtain ⟨rfl, eu⟩ := hp
      rw [eu] at hP
      refine W.eq (g2 := F0 m 5 ls [.int (bI (ix x ns).isSome)]) rfl ?_
      refine lv_if_eq (tgt := 20) hx hb dX10_drop_5 (by decide) (fun c9 => absurd c9 (by rw [hxx]; show ¬ bI true = 0; decide)) (fun _ => ?_)
      refine lv_aload_n hx hb dX10_drop_8 rfl (lv_at hl 0 rfl) ?_
      refine lv_iload_n hx hb dX10_drop_9 rfl (lv_at hl 2 rfl) ?_
      refine fh_cV (q := (RX10, TX10, 28)) (As := [.int y]) (rest := []) (b := ma) ⟨hx, hb, hml, hown, ht⟩ (m_isObj l G A h _ hM.re hno y) (cwV 1 ht (gV kw_815 kw_817 kp_19 kw_5 kw_818) rfl rfl rfl yd_X10_isObject ⟨(Nat.le_of_ble_eq_true rfl), (Nat.le_of_ble_eq_true rfl)⟩) hP hE hS hM.m rfl rfl hl.1 rfl (Nat.le_of_ble_eq_true rfl) dX10_drop_10 ⟨(Nat.le_of_ble_eq_true rfl), (Nat.le_of_ble_eq_true rfl)⟩ (fun v u H locs hp hP hz hS => ?_)
      obtain ⟨rfl, eu⟩ := hp
      rw [eu] at hP
      refine W.eq (g2 := F0 m 13 ls [.int (bI (ix y no).isSome)]) rfl ?_
      refine lv_if_eq (tgt := 20) hx hb dX10_drop_13 (by decide) (fun _ => ?_) (fun c9 => absurd (by rw [hyy]; rfl) c9)
      refine lv_iconst (v := (nI 0)) hx hb dX10_drop_20 (by decide) ?_
      refine lv_istore_n (lv' := [(3, .int (nI 0)), (0, .ref ma), (1, .int x), (2, .int y)]) hx hb dX10_drop_21 rfl hl (by decide) rfl (fun ls hl => ?_)
      refine lv_aload_n hx hb dX10_drop_22 rfl (lv_at hl 1 rfl) ?_
      refine lv_iload_n hx hb dX10_drop_23 rfl (lv_at hl 0 rfl) ?_
      refine lv_if_ne (tgt := 31) hx hb dX10_drop_24 (by decide) (fun c9 => absurd (rfl) c9) (fun _ => ?_)
      refine lv_iconst (v := (nI 1)) hx hb dX10_drop_27 (by decide) ?_
      refine lv_goto (tgt := 59) hx hb dX10_drop_28 (by decide) ?_
      refine fh_put (C := RX10) (T := TX10) (N := 28) (t := .int) hx hb ht inX10 tyX10 tyX10_ok nmX10 hown hE.1 hP hS hM.m (hM.A0) rfl 0 (by decide) (ht _ kw_690) (fun _ h9 => h9) rfl (by decide +kernel) rfl rfl (Nat.le_of_ble_eq_true rfl) dX10_drop_59 (fun H locs hP hz hS => ?_)
      obtain ⟨h_1, eh_1⟩ : ∃ z, z = fh_up h ma (.inr (10, [.int (nI 1), .int (nI no), .ref (b 12), .int (nI nv), .ref (b 13), .ref (b 14), .int (nI ns), .ref (b 15), .ref (b 16), .ref (b 17), .ref (b 18), .ref (b 19), .ref (b 20), .ref (b 21), .ref (b 22), .ref (b 23), .ref (b 24), .int (nI J), .int (nI C.length), .ref (b 25), .int (nI LK.length), .ref (b 26), .ref (b 27), .int (nI RL.length), .ref (b 28), .ref (b 29), .ref (b 30), .ref (b 31)])) := ⟨_, rfl⟩
      have hP : fh_P G vwCl h_1 H := by rw [eh_1]; exact hP
      have hM_1 := MG.sc hM (th2 := (nI 1)) (no2 := no) (nv2 := nv) (ns2 := ns) (J2 := J) (nc2 := C.length) (nl2 := LK.length) (nr2 := RL.length) eh_1
      refine lv_aload_n hx hb dX10_drop_62 rfl (lv_at hl 1 rfl) ?_
      refine fh_get (C := RX10) (T := TX10) (N := 28) hx hb ht inX10 hown hE.1 hP hM_1.m rfl 0 (by decide) (ht _ kw_690) (fun _ h9 => h9) (v := .int (nI 1)) rfl dX10_drop_63 ?_
      refine lv_if_ne (tgt := 78) hx hb dX10_drop_66 (by decide) (fun _ => ?_) (fun c9 => absurd c9 (by decide))
      refine lv_iconst (v := (nI 0)) hx hb dX10_drop_78 (by decide) ?_
      have ep : oDrop no ns S LK x y = (1, false, S) := by simp [oDrop, hxx, hyy]
      exact fh_zret hx hb hr hlocks rfl (⟨_, rfl, (fun z => by rw [ep] at z; cases z), by rw [ep]; exact ⟨_, _, _, _, _, _, _, _, _, _, _, _, _, _, _, _, _, _, _, _, hM_1, hX⟩⟩) hP hS (Nat.le_of_ble_eq_true rfl) (Nat.le_of_ble_eq_true rfl) dX10_drop_79
    | some o =>
      obtain ⟨hi, rfl⟩ := ix_of (by omega) hxx
      obtain ⟨ho, rfl⟩ := ix_of (by omega) hyy
      have hi2 : i < 20 := by omega
      obtain ⟨s1, s2, s3, s4, s5, s6, s7, s8⟩ := xS i hi
      have hrel := s3 o (by omega)
      refine lv_aload_n hx hb dX10_drop_0 rfl (lv_at hl 0 rfl) ?_
      refine lv_iload_n hx hb dX10_drop_1 rfl (lv_at hl 1 rfl) ?_
      refine fh_cV (q := (RX10, TX10, 28)) (As := [.int (nI i)]) (rest := []) (b := ma) ⟨hx, hb, hml, hown, ht⟩ (m_isSes l G A h _ hM.re hns (nI i)) (cwV 1 ht (gV kw_811 kw_813 kp_18 kw_5 kw_814) rfl rfl rfl yd_X10_isSession ⟨(Nat.le_of_ble_eq_true rfl), (Nat.le_of_ble_eq_true rfl)⟩) hP hE hS hM.m rfl rfl hl.1 rfl (Nat.le_of_ble_eq_true rfl) dX10_drop_2 ⟨(Nat.le_of_ble_eq_true rfl), (Nat.le_of_ble_eq_true rfl)⟩ (fun v u H locs hp hP hz hS => ?_)
      obtain ⟨rfl, eu⟩ := hp
      rw [eu] at hP
      refine W.eq (g2 := F0 m 5 ls [.int (bI (ix (nI i) ns).isSome)]) rfl ?_
      refine lv_if_eq (tgt := 20) hx hb dX10_drop_5 (by decide) (fun c9 => absurd c9 (by rw [hxx]; show ¬ bI true = 0; decide)) (fun _ => ?_)
      refine lv_aload_n hx hb dX10_drop_8 rfl (lv_at hl 0 rfl) ?_
      refine lv_iload_n hx hb dX10_drop_9 rfl (lv_at hl 2 rfl) ?_
      refine fh_cV (q := (RX10, TX10, 28)) (As := [.int (nI o)]) (rest := []) (b := ma) ⟨hx, hb, hml, hown, ht⟩ (m_isObj l G A h _ hM.re hno (nI o)) (cwV 1 ht (gV kw_815 kw_817 kp_19 kw_5 kw_818) rfl rfl rfl yd_X10_isObject ⟨(Nat.le_of_ble_eq_true rfl), (Nat.le_of_ble_eq_true rfl)⟩) hP hE hS hM.m rfl rfl hl.1 rfl (Nat.le_of_ble_eq_true rfl) dX10_drop_10 ⟨(Nat.le_of_ble_eq_true rfl), (Nat.le_of_ble_eq_true rfl)⟩ (fun v u H locs hp hP hz hS => ?_)
      obtain ⟨rfl, eu⟩ := hp
      rw [eu] at hP
      refine W.eq (g2 := F0 m 13 ls [.int (bI (ix (nI o) no).isSome)]) rfl ?_
      refine lv_if_eq (tgt := 20) hx hb dX10_drop_13 (by decide) (fun c9 => absurd c9 (by rw [hyy]; show ¬ bI true = 0; decide)) (fun _ => ?_)
      refine lv_iconst (v := (nI 1)) hx hb dX10_drop_16 (by decide) ?_
      refine lv_goto (tgt := 21) hx hb dX10_drop_17 (by decide) ?_
      refine lv_istore_n (lv' := [(3, .int (nI 1)), (0, .ref ma), (1, .int (nI i)), (2, .int (nI o))]) hx hb dX10_drop_21 rfl hl (by decide) rfl (fun ls hl => ?_)
      refine lv_aload_n hx hb dX10_drop_22 rfl (lv_at hl 1 rfl) ?_
      refine lv_iload_n hx hb dX10_drop_23 rfl (lv_at hl 0 rfl) ?_
      refine lv_if_ne (tgt := 31) hx hb dX10_drop_24 (by decide) (fun _ => ?_) (fun c9 => absurd c9 (by decide))
      refine lv_aload_n hx hb dX10_drop_31 rfl (lv_at hl 1 rfl) ?_
      refine fh_get (C := RX10) (T := TX10) (N := 28) hx hb ht inX10 hown hE.1 hP hM.m rfl 8 (by decide) (ht _ kw_698) (fun _ h9 => h9) (v := .ref (b 16)) rfl dX10_drop_32 ?_
      refine lv_iload_n hx hb dX10_drop_35 rfl (lv_at hl 2 rfl) ?_
      refine fh_zald (k := i) hx hb hE.1 hP hM.a16 rfl (by omega) (by decide) dX10_drop_36 ?_
      rw [s2]
      refine lv_if_eq (tgt := 58) hx hb dX10_drop_37 (by decide) (fun d1 => ?_) (fun d1 => ?_)
      · have e1 := bI_eq.mp d1
        refine lv_iconst (v := (nI 2)) hx hb dX10_drop_58 (by decide) ?_
        refine fh_put (C := RX10) (T := TX10) (N := 28) (t := .int) hx hb ht inX10 tyX10 tyX10_ok nmX10 hown hE.1 hP hS hM.m (hM.A0) rfl 0 (by decide) (ht _ kw_690) (fun _ h9 => h9) rfl (by decide +kernel) rfl rfl (Nat.le_of_ble_eq_true rfl) dX10_drop_59 (fun H locs hP hz hS => ?_)
        obtain ⟨h_1, eh_1⟩ : ∃ z, z = fh_up h ma (.inr (10, [.int (nI 2), .int (nI no), .ref (b 12), .int (nI nv), .ref (b 13), .ref (b 14), .int (nI ns), .ref (b 15), .ref (b 16), .ref (b 17), .ref (b 18), .ref (b 19), .ref (b 20), .ref (b 21), .ref (b 22), .ref (b 23), .ref (b 24), .int (nI J), .int (nI C.length), .ref (b 25), .int (nI LK.length), .ref (b 26), .ref (b 27), .int (nI RL.length), .ref (b 28), .ref (b 29), .ref (b 30), .ref (b 31)])) := ⟨_, rfl⟩
        have hP : fh_P G vwCl h_1 H := by rw [eh_1]; exact hP
        have hM_1 := MG.sc hM (th2 := (nI 2)) (no2 := no) (nv2 := nv) (ns2 := ns) (J2 := J) (nc2 := C.length) (nl2 := LK.length) (nr2 := RL.length) eh_1
        refine lv_aload_n hx hb dX10_drop_62 rfl (lv_at hl 1 rfl) ?_
        refine fh_get (C := RX10) (T := TX10) (N := 28) hx hb ht inX10 hown hE.1 hP hM_1.m rfl 0 (by decide) (ht _ kw_690) (fun _ h9 => h9) (v := .int (nI 2)) rfl dX10_drop_63 ?_
        refine lv_if_ne (tgt := 78) hx hb dX10_drop_66 (by decide) (fun _ => ?_) (fun c9 => absurd c9 (by decide))
        refine lv_iconst (v := (nI 0)) hx hb dX10_drop_78 (by decide) ?_
        have ep : oDrop no ns S LK (nI i) (nI o) = (2, false, S) := by simp [oDrop, hxx, hyy, e1]
        exact fh_zret hx hb hr hlocks rfl (⟨_, rfl, (fun z => by rw [ep] at z; cases z), by rw [ep]; exact ⟨_, _, _, _, _, _, _, _, _, _, _, _, _, _, _, _, _, _, _, _, hM_1, hX⟩⟩) hP hS (Nat.le_of_ble_eq_true rfl) (Nat.le_of_ble_eq_true rfl) dX10_drop_79
      · have e1 := bI_nz d1
        refine lv_aload_n hx hb dX10_drop_40 rfl (lv_at hl 1 rfl) ?_
        refine fh_get (C := RX10) (T := TX10) (N := 28) hx hb ht inX10 hown hE.1 hP hM.m rfl 9 (by decide) (ht _ kw_699) (fun _ h9 => h9) (v := .ref (b 17)) rfl dX10_drop_41 ?_
        refine lv_bipush (v := (nI 60)) hx hb dX10_drop_44 (by decide) ?_
        refine lv_iload_n hx hb dX10_drop_46 rfl (lv_at hl 2 rfl) ?_
        refine lv_imul hx hb dX10_drop_47 ?_
        refine lv_topi (fun z9 ez9 => ?_)
        rw [show z9 = nI (60 * i) from ez9.trans (pk_mul _ _)]
        refine lv_iload_n hx hb dX10_drop_48 rfl (lv_at hl 3 rfl) ?_
        refine lv_iadd hx hb dX10_drop_49 ?_
        refine lv_topi (fun z9 ez9 => ?_)
        rw [show z9 = nI ((60 * i) + o) from ez9.trans (nI_add _ _)]
        refine fh_zald (k := ((60 * i) + o)) hx hb hE.1 hP hM.a17 rfl (by omega) (by decide) dX10_drop_50 ?_
        rw [show fW (60 * i + o) = bI ((S i).2.1 o).isSome from hrel.1]
        refine lv_if_eq (tgt := 58) hx hb dX10_drop_51 (by decide) (fun d2 => ?_) (fun d2 => ?_)
        · have e2 : (S i).2.1 o = none := by have z := bI_eq.mp d2; revert z; cases (S i).2.1 o <;> simp
          refine lv_iconst (v := (nI 2)) hx hb dX10_drop_58 (by decide) ?_
          refine fh_put (C := RX10) (T := TX10) (N := 28) (t := .int) hx hb ht inX10 tyX10 tyX10_ok nmX10 hown hE.1 hP hS hM.m (hM.A0) rfl 0 (by decide) (ht _ kw_690) (fun _ h9 => h9) rfl (by decide +kernel) rfl rfl (Nat.le_of_ble_eq_true rfl) dX10_drop_59 (fun H locs hP hz hS => ?_)
          obtain ⟨h_1, eh_1⟩ : ∃ z, z = fh_up h ma (.inr (10, [.int (nI 2), .int (nI no), .ref (b 12), .int (nI nv), .ref (b 13), .ref (b 14), .int (nI ns), .ref (b 15), .ref (b 16), .ref (b 17), .ref (b 18), .ref (b 19), .ref (b 20), .ref (b 21), .ref (b 22), .ref (b 23), .ref (b 24), .int (nI J), .int (nI C.length), .ref (b 25), .int (nI LK.length), .ref (b 26), .ref (b 27), .int (nI RL.length), .ref (b 28), .ref (b 29), .ref (b 30), .ref (b 31)])) := ⟨_, rfl⟩
          have hP : fh_P G vwCl h_1 H := by rw [eh_1]; exact hP
          have hM_1 := MG.sc hM (th2 := (nI 2)) (no2 := no) (nv2 := nv) (ns2 := ns) (J2 := J) (nc2 := C.length) (nl2 := LK.length) (nr2 := RL.length) eh_1
          refine lv_aload_n hx hb dX10_drop_62 rfl (lv_at hl 1 rfl) ?_
          refine fh_get (C := RX10) (T := TX10) (N := 28) hx hb ht inX10 hown hE.1 hP hM_1.m rfl 0 (by decide) (ht _ kw_690) (fun _ h9 => h9) (v := .int (nI 2)) rfl dX10_drop_63 ?_
          refine lv_if_ne (tgt := 78) hx hb dX10_drop_66 (by decide) (fun _ => ?_) (fun c9 => absurd c9 (by decide))
          refine lv_iconst (v := (nI 0)) hx hb dX10_drop_78 (by decide) ?_
          have ep : oDrop no ns S LK (nI i) (nI o) = (2, false, S) := by simp [oDrop, hxx, hyy, e1, e2]
          exact fh_zret hx hb hr hlocks rfl (⟨_, rfl, (fun z => by rw [ep] at z; cases z), by rw [ep]; exact ⟨_, _, _, _, _, _, _, _, _, _, _, _, _, _, _, _, _, _, _, _, hM_1, hX⟩⟩) hP hS (Nat.le_of_ble_eq_true rfl) (Nat.le_of_ble_eq_true rfl) dX10_drop_79
        · obtain ⟨r, e2⟩ : ∃ r, (S i).2.1 o = some r := Option.isSome_iff_exists.mp (bI_nz d2)
          have r0 := hrel.2 r e2
          refine lv_iconst (v := (nI 0)) hx hb dX10_drop_54 (by decide) ?_
          refine lv_goto (tgt := 59) hx hb dX10_drop_55 (by decide) ?_
          refine fh_put (C := RX10) (T := TX10) (N := 28) (t := .int) hx hb ht inX10 tyX10 tyX10_ok nmX10 hown hE.1 hP hS hM.m (hM.A0) rfl 0 (by decide) (ht _ kw_690) (fun _ h9 => h9) rfl (by decide +kernel) rfl rfl (Nat.le_of_ble_eq_true rfl) dX10_drop_59 (fun H locs hP hz hS => ?_)
          obtain ⟨h_1, eh_1⟩ : ∃ z, z = fh_up h ma (.inr (10, [.int (nI 0), .int (nI no), .ref (b 12), .int (nI nv), .ref (b 13), .ref (b 14), .int (nI ns), .ref (b 15), .ref (b 16), .ref (b 17), .ref (b 18), .ref (b 19), .ref (b 20), .ref (b 21), .ref (b 22), .ref (b 23), .ref (b 24), .int (nI J), .int (nI C.length), .ref (b 25), .int (nI LK.length), .ref (b 26), .ref (b 27), .int (nI RL.length), .ref (b 28), .ref (b 29), .ref (b 30), .ref (b 31)])) := ⟨_, rfl⟩
          have hP : fh_P G vwCl h_1 H := by rw [eh_1]; exact hP
          have hM_1 := MG.sc hM (th2 := (nI 0)) (no2 := no) (nv2 := nv) (ns2 := ns) (J2 := J) (nc2 := C.length) (nl2 := LK.length) (nr2 := RL.length) eh_1
          refine lv_aload_n hx hb dX10_drop_62 rfl (lv_at hl 1 rfl) ?_
          refine fh_get (C := RX10) (T := TX10) (N := 28) hx hb ht inX10 hown hE.1 hP hM_1.m rfl 0 (by decide) (ht _ kw_690) (fun _ h9 => h9) (v := .int (nI 0)) rfl dX10_drop_63 ?_
          refine lv_if_ne (tgt := 78) hx hb dX10_drop_66 (by decide) (fun c9 => absurd (rfl) c9) (fun _ => ?_)
          refine lv_aload_n hx hb dX10_drop_69 rfl (lv_at hl 1 rfl) ?_
          refine lv_iload_n hx hb dX10_drop_70 rfl (lv_at hl 2 rfl) ?_
          refine lv_iload_n hx hb dX10_drop_71 rfl (lv_at hl 3 rfl) ?_
          have e0 : fV (360 * i + 6 * o) = r 0 := r0 0 (by decide)
          have e01 : fV (360 * i + 6 * o + 1) = r 1 := by rw [Nat.add_assoc]; exact r0 1 (by decide)
          refine fh_cV (q := (RX10, TX10, 28)) (As := [.int (nI i), .int (nI o)]) (rest := []) (b := ma) ⟨hx, hb, hml, hown, ht⟩ (m_isBarred l G A h_1 _ hM_1.re i o hi2 (by omega) LK rfl hLk xL) (cwV 2 ht (gV kw_826 kw_828 kp_21 kw_5 kw_829) rfl rfl rfl yd_X10_isBarred ⟨(Nat.le_of_ble_eq_true rfl), (Nat.le_of_ble_eq_true rfl)⟩) hP hE hS hM_1.m rfl rfl hl.1 rfl (Nat.le_of_ble_eq_true rfl) dX10_drop_72 ⟨(Nat.le_of_ble_eq_true rfl), (Nat.le_of_ble_eq_true rfl)⟩ (fun v u H locs hp hP hz hS => ?_)
          rw [e0, e01] at hp
          obtain ⟨rfl, eu⟩ := hp
          rw [eu] at hP
          refine W.eq (g2 := F0 m 75 ls [.int (bI (barred LK i (r 0) (r 1)))]) rfl ?_
          refine lv_if_eq (tgt := 80) hx hb dX10_drop_75 (by decide) (fun d3 => ?_) (fun d3 => ?_)
          · refine lv_aload_n hx hb dX10_drop_80 rfl (lv_at hl 1 rfl) ?_
            refine lv_iload_n hx hb dX10_drop_81 rfl (lv_at hl 2 rfl) ?_
            refine lv_iload_n hx hb dX10_drop_82 rfl (lv_at hl 3 rfl) ?_
            refine lv_bipush (v := (nI 6)) hx hb dX10_drop_83 (by decide) ?_
            refine fh_cV (q := (RX10, TX10, 28)) (As := [.int (nI i), .int (nI o), .int (nI 6)]) (rest := []) (b := ma) ⟨hx, hb, hml, hown, ht⟩ (m_note l G A h_1 _ hM_1.re i o 6 (S i).2.2.2.1.length hi2 (by omega) (by decide) s5 s6 zW zcH) (cwV 3 ht (gV kw_830 kw_832 kp_22 kw_5 kw_833) rfl rfl rfl yd_X10_note ⟨(Nat.le_of_ble_eq_true rfl), (Nat.le_of_ble_eq_true rfl)⟩) hP hE hS hM_1.m rfl rfl hl.1 rfl (Nat.le_of_ble_eq_true rfl) dX10_drop_85 ⟨(Nat.le_of_ble_eq_true rfl), (Nat.le_of_ble_eq_true rfl)⟩ (fun v u H locs hp hP hz hS => ?_)
            obtain ⟨fN2, cO2, cF2, cH2, cV2, rfl, hM2, hNP⟩ := hp
            refine W.eq (g2 := F0 m 88 ls []) rfl ?_
            have hM3 := MG.tr hM_1.kept hM2
            refine lv_aload_n hx hb dX10_drop_88 rfl (lv_at hl 1 rfl) ?_
            refine fh_get (C := RX10) (T := TX10) (N := 28) hx hb ht inX10 hown hE.1 hP hM3.m rfl 9 (by decide) (ht _ kw_699) (fun _ h9 => h9) (v := .ref (b 17)) rfl dX10_drop_89 ?_
            refine lv_bipush (v := (nI 60)) hx hb dX10_drop_92 (by decide) ?_
            refine lv_iload_n hx hb dX10_drop_94 rfl (lv_at hl 2 rfl) ?_
            refine lv_imul hx hb dX10_drop_95 ?_
            refine lv_topi (fun z9 ez9 => ?_)
            rw [show z9 = nI (60 * i) from ez9.trans (pk_mul _ _)]
            refine lv_iload_n hx hb dX10_drop_96 rfl (lv_at hl 3 rfl) ?_
            refine lv_iadd hx hb dX10_drop_97 ?_
            refine lv_topi (fun z9 ez9 => ?_)
            rw [show z9 = nI ((60 * i) + o) from ez9.trans (nI_add _ _)]
            refine lv_iconst (v := (nI 0)) hx hb dX10_drop_98 (by decide) ?_
            refine fh_zast (k := ((60 * i) + o)) hx hb hE.1 hP hS hM3.a17 (hM3.A17) rfl (by omega) (by decide) dX10_drop_99 (fun H locs hP hz hS => ?_)
            obtain ⟨h_2, eh_2⟩ : ∃ z, z = fh_up u (b 17) (.inl (17, 1200, .inl (upd fW ((60 * i) + o) (vp_nar .boolean (nI 0))))) := ⟨_, rfl⟩
            have hP : fh_P G vwCl h_2 H := by rw [eh_2]; exact hP
            have hM_2 := MG.w17 hM3 (f2 := upd fW ((60 * i) + o) (vp_nar .boolean (nI 0))) eh_2
            refine lv_iconst (v := (nI 1)) hx hb dX10_drop_100 (by decide) ?_
            have ep : oDrop no ns S LK (nI i) (nI o) = (0, true, upN S i (sChg (S i) o none)) := by simp [oDrop, hxx, hyy, e1, e2, bI_eq.mp d3]
            exact fh_zret hx hb hr hlocks rfl (⟨_, rfl, fun _ => (by rw [ep] <;> rfl), by rw [ep]; exact ⟨_, _, _, _, _, _, _, _, _, _, _, _, _, _, _, _, _, _, _, _, hM_2, hX.drop hi rfl hNP hno ho⟩⟩) hP hS (by first | exact (Nat.le_of_ble_eq_true rfl) | omega) (by first | exact (Nat.le_of_ble_eq_true rfl) | omega) dX10_drop_101
          · refine lv_iconst (v := (nI 0)) hx hb dX10_drop_78 (by decide) ?_
            have ep : oDrop no ns S LK (nI i) (nI o) = (0, false, S) := by simp [oDrop, hxx, hyy, e1, e2, bI_nz d3]
            exact fh_zret hx hb hr hlocks rfl (⟨_, rfl, fun _ => (by rw [ep] <;> rfl), by rw [ep]; exact ⟨_, _, _, _, _, _, _, _, _, _, _, _, _, _, _, _, _, _, _, _, hM_1, hX⟩⟩) hP hS (by first | exact (Nat.le_of_ble_eq_true rfl) | omega) (by first | exact (Nat.le_of_ble_eq_true rfl) | omega) dX10_drop_79

set_option maxRecDepth 100000 in
set_option maxHeartbeats 4000000 in
theorem q_make (l : Launch) (G : fG) (A : Nat → Prop) (h : FH) (sz : Nat) (ma : Nat) (b : Nat → Nat) (th : Int32) (no nv ns : Nat) (V : Vs) (S : Ss) (LK : List Ar) (RL : Rl) (J : Nat) (C : CL) (M : Nat → Int32) (hp0 : RepM A h h ma b th no nv ns V S LK RL J C M) (hB9 : Bd no nv ns S RL J C) (hLk : LK.length ≤ 10) (x kk : Int32) : Met l yX10_make wsX10_make { frames := 2, cells := 0, slots := 0, locals := 65 } (va_Pc [.ref ma, .int x, .int kk] (fh_Pre G A h sz)) (fh_Q G (fun v u => ∃ ans : Int32, v = some (.int ans) ∧ ((oMake no ns S x kk).1 = 0 → ans = (oMake no ns S x kk).2.1) ∧ RepM A h u ma b (nI (oMake no ns S x kk).1) ((oMake no ns S x kk).2.2.1) nv ns V ((oMake no ns S x kk).2.2.2) LK RL J C M) A) 0 0 A := by
  refine fh_Met [.ref ma, .int x, .int kk] (by decide) rfl (Nat.le_of_ble_eq_true rfl) ?_
  intro p e s m below meth c hx hb hr hlocks hml hown hnm hts hsz hP hE hS ls hl
  have ht : ∀ w ∈ wB, w.before _ s = true := fun w h9 => hts w (List.mem_cons_of_mem _ h9)
  have hl : lv_has ls 3 [(0, .ref ma), (1, .int x), (2, .int kk)] := hl
  obtain ⟨fK, fH, fF, fB, fO, fW, fV, fN, cO, cF, cH, cV, fS, fC, lO, lA, rA, rB, rD, fM, hM, hX⟩ := hp0
  obtain ⟨hno, hnv, hnv0, hns, hbs, hCl, hCb, hJ, hRn, hRb⟩ := id hB9
  obtain ⟨⟨zH, zO, zW, zcH⟩, xV, xS, xN, xL, xR, xC, xM⟩ := id hX
  cases hxx : ix x ns with
  | none =>
    refine lv_aload_n hx hb dX10_make_0 rfl (lv_at hl 0 rfl) ?_
    refine lv_aload_n hx hb dX10_make_1 rfl (lv_at hl 0 rfl) ?_
    refine lv_iload_n hx hb dX10_make_2 rfl (lv_at hl 1 rfl) ?_
    refine fh_cV (q := (RX10, TX10, 28)) (As := [.int x]) (rest := [.ref ma]) (b := ma) ⟨hx, hb, hml, hown, ht⟩ (m_isSes l G A h _ hM.re hns x) (cwV 1 ht (gV kw_811 kw_813 kp_18 kw_5 kw_814) rfl rfl rfl yd_X10_isSession ⟨(Nat.le_of_ble_eq_true rfl), (Nat.le_of_ble_eq_true rfl)⟩) hP hE hS hM.m rfl rfl hl.1 rfl (Nat.le_of_ble_eq_true rfl) dX10_make_3 ⟨(Nat.le_of_ble_eq_true rfl), (Nat.le_of_ble_eq_true rfl)⟩ (fun v u H locs hp hP hz hS => ?_)
    obtain ⟨rfl, eu⟩ := hp
    rw [eu] at hP
    refine W.eq (g2 := F0 m 6 ls [.int (bI (ix x ns).isSome), .ref ma]) rfl ?_
    refine lv_if_ne (tgt := 13) hx hb dX10_make_6 (by decide) (fun c9 => absurd (by rw [hxx]; rfl) c9) (fun _ => ?_)
    refine lv_iconst (v := (nI 1)) hx hb dX10_make_9 (by decide) ?_
    refine lv_goto (tgt := 38) hx hb dX10_make_10 (by decide) ?_
    refine fh_put (C := RX10) (T := TX10) (N := 28) (t := .int) hx hb ht inX10 tyX10 tyX10_ok nmX10 hown hE.1 hP hS hM.m (hM.A0) rfl 0 (by decide) (ht _ kw_690) (fun _ h9 => h9) rfl (by decide +kernel) rfl rfl (Nat.le_of_ble_eq_true rfl) dX10_make_38 (fun H locs hP hz hS => ?_)
    obtain ⟨h_1, eh_1⟩ : ∃ z, z = fh_up h ma (.inr (10, [.int (nI 1), .int (nI no), .ref (b 12), .int (nI nv), .ref (b 13), .ref (b 14), .int (nI ns), .ref (b 15), .ref (b 16), .ref (b 17), .ref (b 18), .ref (b 19), .ref (b 20), .ref (b 21), .ref (b 22), .ref (b 23), .ref (b 24), .int (nI J), .int (nI C.length), .ref (b 25), .int (nI LK.length), .ref (b 26), .ref (b 27), .int (nI RL.length), .ref (b 28), .ref (b 29), .ref (b 30), .ref (b 31)])) := ⟨_, rfl⟩
    have hP : fh_P G vwCl h_1 H := by rw [eh_1]; exact hP
    have hM_1 := MG.sc hM (th2 := (nI 1)) (no2 := no) (nv2 := nv) (ns2 := ns) (J2 := J) (nc2 := C.length) (nl2 := LK.length) (nr2 := RL.length) eh_1
    refine lv_aload_n hx hb dX10_make_41 rfl (lv_at hl 0 rfl) ?_
    refine fh_get (C := RX10) (T := TX10) (N := 28) hx hb ht inX10 hown hE.1 hP hM_1.m rfl 0 (by decide) (ht _ kw_690) (fun _ h9 => h9) (v := .int (nI 1)) rfl dX10_make_42 ?_
    refine lv_if_eq (tgt := 50) hx hb dX10_make_45 (by decide) (fun c9 => absurd c9 (by decide)) (fun _ => ?_)
    refine lv_iconst (v := (nI 0)) hx hb dX10_make_48 (by decide) ?_
    have ep : oMake no ns S x kk = (1, 0, no, S) := by simp [oMake, hxx]
    exact fh_iret hx hb hr hlocks (⟨_, rfl, (fun z => by rw [ep] at z; cases z), by rw [ep]; exact ⟨_, _, _, _, _, _, _, _, _, _, _, _, _, _, _, _, _, _, _, _, hM_1, hX⟩⟩) hP hS (Nat.le_of_ble_eq_true rfl) (Nat.le_of_ble_eq_true rfl) dX10_make_49
  | some i =>
    obtain ⟨hi, rfl⟩ := ix_of (by omega) hxx
    have hi2 : i < 20 := by omega
    obtain ⟨s1, s2, s3, s4, s5, s6, s7, s8⟩ := xS i hi
    refine lv_aload_n hx hb dX10_make_0 rfl (lv_at hl 0 rfl) ?_
    refine lv_aload_n hx hb dX10_make_1 rfl (lv_at hl 0 rfl) ?_
    refine lv_iload_n hx hb dX10_make_2 rfl (lv_at hl 1 rfl) ?_
    refine fh_cV (q := (RX10, TX10, 28)) (As := [.int (nI i)]) (rest := [.ref ma]) (b := ma) ⟨hx, hb, hml, hown, ht⟩ (m_isSes l G A h _ hM.re hns (nI i)) (cwV 1 ht (gV kw_811 kw_813 kp_18 kw_5 kw_814) rfl rfl rfl yd_X10_isSession ⟨(Nat.le_of_ble_eq_true rfl), (Nat.le_of_ble_eq_true rfl)⟩) hP hE hS hM.m rfl rfl hl.1 rfl (Nat.le_of_ble_eq_true rfl) dX10_make_3 ⟨(Nat.le_of_ble_eq_true rfl), (Nat.le_of_ble_eq_true rfl)⟩ (fun v u H locs hp hP hz hS => ?_)
    obtain ⟨rfl, eu⟩ := hp
    rw [eu] at hP
    refine W.eq (g2 := F0 m 6 ls [.int (bI (ix (nI i) ns).isSome), .ref ma]) rfl ?_
    refine lv_if_ne (tgt := 13) hx hb dX10_make_6 (by decide) (fun _ => ?_) (fun c9 => absurd c9 (by rw [hxx]; show ¬ bI true = 0; decide))
    refine lv_aload_n hx hb dX10_make_13 rfl (lv_at hl 0 rfl) ?_
    refine fh_get (C := RX10) (T := TX10) (N := 28) hx hb ht inX10 hown hE.1 hP hM.m rfl 8 (by decide) (ht _ kw_698) (fun _ h9 => h9) (v := .ref (b 16)) rfl dX10_make_14 ?_
    refine lv_iload_n hx hb dX10_make_17 rfl (lv_at hl 1 rfl) ?_
    refine fh_zald (k := i) hx hb hE.1 hP hM.a16 rfl (by omega) (by decide) dX10_make_18 ?_
    rw [s2]
    refine lv_if_ne (tgt := 26) hx hb dX10_make_19 (by decide) (fun d1 => ?_) (fun d1 => ?_)
    · have e1 := bI_nz d1
      cases hkx : ix kk 10 with
      | none =>
        refine lv_iload_n hx hb dX10_make_26 rfl (lv_at hl 2 rfl) ?_
        refine fh_cS (As := [.int kk]) (rest := [.ref ma]) ⟨hx, hb, hml, hown, ht⟩ (m_isKind l G A h _ kk) (va_cwS 1 ht (gS kw_784 kw_785 kw_5 kw_786) rfl rfl rfl yd_X10_isKind.2 ⟨(Nat.le_of_ble_eq_true rfl), (Nat.le_of_ble_eq_true rfl)⟩) hP hE hS rfl hl.1 rfl (Nat.le_of_ble_eq_true rfl) dX10_make_27 ⟨(Nat.le_of_ble_eq_true rfl), (Nat.le_of_ble_eq_true rfl)⟩ (fun v u H locs hp hP hz hS => ?_)
        obtain ⟨rfl, eu⟩ := hp
        rw [eu] at hP
        refine W.eq (g2 := F0 m 30 ls [.int (bI (ix kk 10).isSome), .ref ma]) rfl ?_
        refine lv_if_eq (tgt := 37) hx hb dX10_make_30 (by decide) (fun _ => ?_) (fun c9 => absurd (by rw [hkx]; rfl) c9)
        refine lv_iconst (v := (nI 3)) hx hb dX10_make_37 (by decide) ?_
        refine fh_put (C := RX10) (T := TX10) (N := 28) (t := .int) hx hb ht inX10 tyX10 tyX10_ok nmX10 hown hE.1 hP hS hM.m (hM.A0) rfl 0 (by decide) (ht _ kw_690) (fun _ h9 => h9) rfl (by decide +kernel) rfl rfl (Nat.le_of_ble_eq_true rfl) dX10_make_38 (fun H locs hP hz hS => ?_)
        obtain ⟨h_1, eh_1⟩ : ∃ z, z = fh_up h ma (.inr (10, [.int (nI 3), .int (nI no), .ref (b 12), .int (nI nv), .ref (b 13), .ref (b 14), .int (nI ns), .ref (b 15), .ref (b 16), .ref (b 17), .ref (b 18), .ref (b 19), .ref (b 20), .ref (b 21), .ref (b 22), .ref (b 23), .ref (b 24), .int (nI J), .int (nI C.length), .ref (b 25), .int (nI LK.length), .ref (b 26), .ref (b 27), .int (nI RL.length), .ref (b 28), .ref (b 29), .ref (b 30), .ref (b 31)])) := ⟨_, rfl⟩
        have hP : fh_P G vwCl h_1 H := by rw [eh_1]; exact hP
        have hM_1 := MG.sc hM (th2 := (nI 3)) (no2 := no) (nv2 := nv) (ns2 := ns) (J2 := J) (nc2 := C.length) (nl2 := LK.length) (nr2 := RL.length) eh_1
        refine lv_aload_n hx hb dX10_make_41 rfl (lv_at hl 0 rfl) ?_
        refine fh_get (C := RX10) (T := TX10) (N := 28) hx hb ht inX10 hown hE.1 hP hM_1.m rfl 0 (by decide) (ht _ kw_690) (fun _ h9 => h9) (v := .int (nI 3)) rfl dX10_make_42 ?_
        refine lv_if_eq (tgt := 50) hx hb dX10_make_45 (by decide) (fun c9 => absurd c9 (by decide)) (fun _ => ?_)
        refine lv_iconst (v := (nI 0)) hx hb dX10_make_48 (by decide) ?_
        have ep : oMake no ns S (nI i) kk = (3, 0, no, S) := by simp [oMake, hxx, e1, hkx]
        exact fh_iret hx hb hr hlocks (⟨_, rfl, (fun z => by rw [ep] at z; cases z), by rw [ep]; exact ⟨_, _, _, _, _, _, _, _, _, _, _, _, _, _, _, _, _, _, _, _, hM_1, hX⟩⟩) hP hS (Nat.le_of_ble_eq_true rfl) (Nat.le_of_ble_eq_true rfl) dX10_make_49
      | some k9 =>
        refine lv_iload_n hx hb dX10_make_26 rfl (lv_at hl 2 rfl) ?_
        refine fh_cS (As := [.int kk]) (rest := [.ref ma]) ⟨hx, hb, hml, hown, ht⟩ (m_isKind l G A h _ kk) (va_cwS 1 ht (gS kw_784 kw_785 kw_5 kw_786) rfl rfl rfl yd_X10_isKind.2 ⟨(Nat.le_of_ble_eq_true rfl), (Nat.le_of_ble_eq_true rfl)⟩) hP hE hS rfl hl.1 rfl (Nat.le_of_ble_eq_true rfl) dX10_make_27 ⟨(Nat.le_of_ble_eq_true rfl), (Nat.le_of_ble_eq_true rfl)⟩ (fun v u H locs hp hP hz hS => ?_)
        obtain ⟨rfl, eu⟩ := hp
        rw [eu] at hP
        refine W.eq (g2 := F0 m 30 ls [.int (bI (ix kk 10).isSome), .ref ma]) rfl ?_
        refine lv_if_eq (tgt := 37) hx hb dX10_make_30 (by decide) (fun c9 => absurd c9 (by rw [hkx]; show ¬ bI true = 0; decide)) (fun _ => ?_)
        refine lv_iconst (v := (nI 0)) hx hb dX10_make_33 (by decide) ?_
        refine lv_goto (tgt := 38) hx hb dX10_make_34 (by decide) ?_
        refine fh_put (C := RX10) (T := TX10) (N := 28) (t := .int) hx hb ht inX10 tyX10 tyX10_ok nmX10 hown hE.1 hP hS hM.m (hM.A0) rfl 0 (by decide) (ht _ kw_690) (fun _ h9 => h9) rfl (by decide +kernel) rfl rfl (Nat.le_of_ble_eq_true rfl) dX10_make_38 (fun H locs hP hz hS => ?_)
        obtain ⟨h_1, eh_1⟩ : ∃ z, z = fh_up h ma (.inr (10, [.int (nI 0), .int (nI no), .ref (b 12), .int (nI nv), .ref (b 13), .ref (b 14), .int (nI ns), .ref (b 15), .ref (b 16), .ref (b 17), .ref (b 18), .ref (b 19), .ref (b 20), .ref (b 21), .ref (b 22), .ref (b 23), .ref (b 24), .int (nI J), .int (nI C.length), .ref (b 25), .int (nI LK.length), .ref (b 26), .ref (b 27), .int (nI RL.length), .ref (b 28), .ref (b 29), .ref (b 30), .ref (b 31)])) := ⟨_, rfl⟩
        have hP : fh_P G vwCl h_1 H := by rw [eh_1]; exact hP
        have hM_1 := MG.sc hM (th2 := (nI 0)) (no2 := no) (nv2 := nv) (ns2 := ns) (J2 := J) (nc2 := C.length) (nl2 := LK.length) (nr2 := RL.length) eh_1
        refine lv_aload_n hx hb dX10_make_41 rfl (lv_at hl 0 rfl) ?_
        refine fh_get (C := RX10) (T := TX10) (N := 28) hx hb ht inX10 hown hE.1 hP hM_1.m rfl 0 (by decide) (ht _ kw_690) (fun _ h9 => h9) (v := .int (nI 0)) rfl dX10_make_42 ?_
        refine lv_if_eq (tgt := 50) hx hb dX10_make_45 (by decide) (fun _ => ?_) (fun c9 => absurd (rfl) c9)
        refine lv_aload_n hx hb dX10_make_50 rfl (lv_at hl 0 rfl) ?_
        refine fh_get (C := RX10) (T := TX10) (N := 28) hx hb ht inX10 hown hE.1 hP hM_1.m rfl 1 (by decide) (ht _ kw_691) (fun _ h9 => h9) (v := .int (nI no)) rfl dX10_make_51 ?_
        refine lv_bipush (v := (nI 60)) hx hb dX10_make_54 (by decide) ?_
        refine lv_icmp_ne (tgt := 61) hx hb dX10_make_56 (by decide) (fun d2 => ?_) (fun d2 => ?_)
        · have e2 : no < 60 := by
            rcases Nat.lt_or_ge no 60 with z | z
            · exact z
            · exact absurd (congrArg nI (show no = 60 by omega)) d2
          refine lv_aload_n hx hb dX10_make_61 rfl (lv_at hl 0 rfl) ?_
          refine fh_get (C := RX10) (T := TX10) (N := 28) hx hb ht inX10 hown hE.1 hP hM_1.m rfl 2 (by decide) (ht _ kw_692) (fun _ h9 => h9) (v := .ref (b 12)) rfl dX10_make_62 ?_
          refine lv_aload_n hx hb dX10_make_65 rfl (lv_at hl 0 rfl) ?_
          refine fh_get (C := RX10) (T := TX10) (N := 28) hx hb ht inX10 hown hE.1 hP hM_1.m rfl 1 (by decide) (ht _ kw_691) (fun _ h9 => h9) (v := .int (nI no)) rfl dX10_make_66 ?_
          refine lv_iload_n hx hb dX10_make_69 rfl (lv_at hl 2 rfl) ?_
          refine fh_iast (k := no) hx hb hE.1 hP hS hM_1.a12 (hM_1.A12) rfl (e2) (by decide) dX10_make_70 (fun H locs hP hz hS => ?_)
          obtain ⟨h_2, eh_2⟩ : ∃ z, z = fh_up h_1 (b 12) (.inl (12, 60, .inl (upd fK no kk))) := ⟨_, rfl⟩
          have hP : fh_P G vwCl h_2 H := by rw [eh_2]; exact hP
          have hM_2 := MG.w12 hM_1 (f2 := upd fK no kk) eh_2
          refine lv_aload_n hx hb dX10_make_71 rfl (lv_at hl 0 rfl) ?_
          refine lv_iload_n hx hb dX10_make_72 rfl (lv_at hl 1 rfl) ?_
          refine lv_aload_n hx hb dX10_make_73 rfl (lv_at hl 0 rfl) ?_
          refine fh_get (C := RX10) (T := TX10) (N := 28) hx hb ht inX10 hown hE.1 hP hM_2.m rfl 1 (by decide) (ht _ kw_691) (fun _ h9 => h9) (v := .int (nI no)) rfl dX10_make_74 ?_
          refine lv_bipush (v := (nI 6)) hx hb dX10_make_77 (by decide) ?_
          refine fh_cV (q := (RX10, TX10, 28)) (As := [.int (nI i), .int (nI no), .int (nI 6)]) (rest := []) (b := ma) ⟨hx, hb, hml, hown, ht⟩ (m_note l G A h_2 _ hM_2.re i no 6 (S i).2.2.2.1.length hi2 e2 (by decide) s5 s6 zW zcH) (cwV 3 ht (gV kw_830 kw_832 kp_22 kw_5 kw_833) rfl rfl rfl yd_X10_note ⟨(Nat.le_of_ble_eq_true rfl), (Nat.le_of_ble_eq_true rfl)⟩) hP hE hS hM_2.m rfl rfl hl.1 rfl (Nat.le_of_ble_eq_true rfl) dX10_make_79 ⟨(Nat.le_of_ble_eq_true rfl), (Nat.le_of_ble_eq_true rfl)⟩ (fun v u H locs hp hP hz hS => ?_)
          obtain ⟨fN2, cO2, cF2, cH2, cV2, rfl, hM2, hNP⟩ := hp
          refine W.eq (g2 := F0 m 82 ls []) rfl ?_
          have hM3 := MG.tr hM_2.kept hM2
          refine lv_aload_n hx hb dX10_make_82 rfl (lv_at hl 0 rfl) ?_
          refine fh_get (C := RX10) (T := TX10) (N := 28) hx hb ht inX10 hown hE.1 hP hM3.m rfl 9 (by decide) (ht _ kw_699) (fun _ h9 => h9) (v := .ref (b 17)) rfl dX10_make_83 ?_
          refine lv_bipush (v := (nI 60)) hx hb dX10_make_86 (by decide) ?_
          refine lv_iload_n hx hb dX10_make_88 rfl (lv_at hl 1 rfl) ?_
          refine lv_imul hx hb dX10_make_89 ?_
          refine lv_topi (fun z9 ez9 => ?_)
          rw [show z9 = nI (60 * i) from ez9.trans (pk_mul _ _)]
          refine lv_aload_n hx hb dX10_make_90 rfl (lv_at hl 0 rfl) ?_
          refine fh_get (C := RX10) (T := TX10) (N := 28) hx hb ht inX10 hown hE.1 hP hM3.m rfl 1 (by decide) (ht _ kw_691) (fun _ h9 => h9) (v := .int (nI no)) rfl dX10_make_91 ?_
          refine lv_iadd hx hb dX10_make_94 ?_
          refine lv_topi (fun z9 ez9 => ?_)
          rw [show z9 = nI ((60 * i) + no) from ez9.trans (nI_add _ _)]
          refine lv_iconst (v := (nI 1)) hx hb dX10_make_95 (by decide) ?_
          refine fh_zast (k := ((60 * i) + no)) hx hb hE.1 hP hS hM3.a17 (hM3.A17) rfl (by omega) (by decide) dX10_make_96 (fun H locs hP hz hS => ?_)
          obtain ⟨h_3, eh_3⟩ : ∃ z, z = fh_up u (b 17) (.inl (17, 1200, .inl (upd fW ((60 * i) + no) (vp_nar .boolean (nI 1))))) := ⟨_, rfl⟩
          have hP : fh_P G vwCl h_3 H := by rw [eh_3]; exact hP
          have hM_3 := MG.w17 hM3 (f2 := upd fW ((60 * i) + no) (vp_nar .boolean (nI 1))) eh_3
          refine lv_aload_n hx hb dX10_make_97 rfl (lv_at hl 0 rfl) ?_
          refine lv_dup hx hb dX10_make_98 rfl ?_
          refine fh_get (C := RX10) (T := TX10) (N := 28) hx hb ht inX10 hown hE.1 hP hM_3.m rfl 1 (by decide) (ht _ kw_691) (fun _ h9 => h9) (v := .int (nI no)) rfl dX10_make_99 ?_
          refine lv_iconst (v := (nI 1)) hx hb dX10_make_102 (by decide) ?_
          refine lv_iadd hx hb dX10_make_103 ?_
          refine lv_topi (fun z9 ez9 => ?_)
          rw [show z9 = nI (no + 1) from ez9.trans (nI_add _ _)]
          refine fh_put (C := RX10) (T := TX10) (N := 28) (t := .int) hx hb ht inX10 tyX10 tyX10_ok nmX10 hown hE.1 hP hS hM_3.m (hM_3.A0) rfl 1 (by decide) (ht _ kw_691) (fun _ h9 => h9) rfl (by decide +kernel) rfl rfl (Nat.le_of_ble_eq_true rfl) dX10_make_104 (fun H locs hP hz hS => ?_)
          obtain ⟨h_4, eh_4⟩ : ∃ z, z = fh_up h_3 ma (.inr (10, [.int (nI 0), .int (nI (no + 1)), .ref (b 12), .int (nI nv), .ref (b 13), .ref (b 14), .int (nI ns), .ref (b 15), .ref (b 16), .ref (b 17), .ref (b 18), .ref (b 19), .ref (b 20), .ref (b 21), .ref (b 22), .ref (b 23), .ref (b 24), .int (nI J), .int (nI C.length), .ref (b 25), .int (nI LK.length), .ref (b 26), .ref (b 27), .int (nI RL.length), .ref (b 28), .ref (b 29), .ref (b 30), .ref (b 31)])) := ⟨_, rfl⟩
          have hP : fh_P G vwCl h_4 H := by rw [eh_4]; exact hP
          have hM_4 := MG.sc hM_3 (th2 := (nI 0)) (no2 := (no + 1)) (nv2 := nv) (ns2 := ns) (J2 := J) (nc2 := C.length) (nl2 := LK.length) (nr2 := RL.length) eh_4
          refine lv_aload_n hx hb dX10_make_107 rfl (lv_at hl 0 rfl) ?_
          refine fh_get (C := RX10) (T := TX10) (N := 28) hx hb ht inX10 hown hE.1 hP hM_4.m rfl 1 (by decide) (ht _ kw_691) (fun _ h9 => h9) (v := .int (nI (no + 1))) rfl dX10_make_108 ?_
          refine lv_iconst (v := (nI 1)) hx hb dX10_make_111 (by decide) ?_
          refine lv_isub hx hb dX10_make_112 ?_
          refine lv_topi (fun z9 ez9 => ?_)
          rw [show z9 = nI no from ez9.trans (pk_sub (by omega))]
          have ep : oMake no ns S (nI i) kk = (0, nI no, no + 1, upN S i (sChg (S i) no (some (fun _ => 0)))) := by simp [oMake, hxx, e1, hkx, Nat.ne_of_lt e2]
          exact fh_iret hx hb hr hlocks (⟨_, rfl, fun _ => (by rw [ep] <;> rfl), by rw [ep]; exact ⟨_, _, _, _, _, _, _, _, _, _, _, _, _, _, _, _, _, _, _, _, hM_4, hX.make hi rfl hNP e2⟩⟩) hP hS (by first | exact (Nat.le_of_ble_eq_true rfl) | omega) (by first | exact (Nat.le_of_ble_eq_true rfl) | omega) dX10_make_113
        · have e2 : no = 60 := (nI_eq (by omega) (by decide)).mp d2
          refine lv_iconst (v := (-1)) hx hb dX10_make_59 (by decide) ?_
          have ep : oMake no ns S (nI i) kk = (0, -1, no, S) := by simp [oMake, hxx, e1, hkx, e2]
          exact fh_iret hx hb hr hlocks (⟨_, rfl, fun _ => (by rw [ep] <;> rfl), by rw [ep]; exact ⟨_, _, _, _, _, _, _, _, _, _, _, _, _, _, _, _, _, _, _, _, hM_1, hX⟩⟩) hP hS (by first | exact (Nat.le_of_ble_eq_true rfl) | omega) (by first | exact (Nat.le_of_ble_eq_true rfl) | omega) dX10_make_60
    · have e1 := bI_eq.mp d1
      refine lv_iconst (v := (nI 2)) hx hb dX10_make_22 (by decide) ?_
      refine lv_goto (tgt := 38) hx hb dX10_make_23 (by decide) ?_
      refine fh_put (C := RX10) (T := TX10) (N := 28) (t := .int) hx hb ht inX10 tyX10 tyX10_ok nmX10 hown hE.1 hP hS hM.m (hM.A0) rfl 0 (by decide) (ht _ kw_690) (fun _ h9 => h9) rfl (by decide +kernel) rfl rfl (Nat.le_of_ble_eq_true rfl) dX10_make_38 (fun H locs hP hz hS => ?_)
      obtain ⟨h_1, eh_1⟩ : ∃ z, z = fh_up h ma (.inr (10, [.int (nI 2), .int (nI no), .ref (b 12), .int (nI nv), .ref (b 13), .ref (b 14), .int (nI ns), .ref (b 15), .ref (b 16), .ref (b 17), .ref (b 18), .ref (b 19), .ref (b 20), .ref (b 21), .ref (b 22), .ref (b 23), .ref (b 24), .int (nI J), .int (nI C.length), .ref (b 25), .int (nI LK.length), .ref (b 26), .ref (b 27), .int (nI RL.length), .ref (b 28), .ref (b 29), .ref (b 30), .ref (b 31)])) := ⟨_, rfl⟩
      have hP : fh_P G vwCl h_1 H := by rw [eh_1]; exact hP
      have hM_1 := MG.sc hM (th2 := (nI 2)) (no2 := no) (nv2 := nv) (ns2 := ns) (J2 := J) (nc2 := C.length) (nl2 := LK.length) (nr2 := RL.length) eh_1
      refine lv_aload_n hx hb dX10_make_41 rfl (lv_at hl 0 rfl) ?_
      refine fh_get (C := RX10) (T := TX10) (N := 28) hx hb ht inX10 hown hE.1 hP hM_1.m rfl 0 (by decide) (ht _ kw_690) (fun _ h9 => h9) (v := .int (nI 2)) rfl dX10_make_42 ?_
      refine lv_if_eq (tgt := 50) hx hb dX10_make_45 (by decide) (fun c9 => absurd c9 (by decide)) (fun _ => ?_)
      refine lv_iconst (v := (nI 0)) hx hb dX10_make_48 (by decide) ?_
      have ep : oMake no ns S (nI i) kk = (2, 0, no, S) := by simp [oMake, hxx, e1]
      exact fh_iret hx hb hr hlocks (⟨_, rfl, (fun z => by rw [ep] at z; cases z), by rw [ep]; exact ⟨_, _, _, _, _, _, _, _, _, _, _, _, _, _, _, _, _, _, _, _, hM_1, hX⟩⟩) hP hS (Nat.le_of_ble_eq_true rfl) (Nat.le_of_ble_eq_true rfl) dX10_make_49

set_option maxRecDepth 100000 in
set_option maxHeartbeats 4000000 in
theorem q_undo (l : Launch) (G : fG) (A : Nat → Prop) (h : FH) (sz : Nat) (ma : Nat) (b : Nat → Nat) (th : Int32) (no nv ns : Nat) (V : Vs) (S : Ss) (LK : List Ar) (RL : Rl) (J : Nat) (C : CL) (M : Nat → Int32) (hp0 : RepM A h h ma b th no nv ns V S LK RL J C M) (hB9 : Bd no nv ns S RL J C) (hLk : LK.length ≤ 10) (x : Int32) : Met l yX10_undo wsX10_undo { frames := 2, cells := 0, slots := 0, locals := 65 } (va_Pc [.ref ma, .int x] (fh_Pre G A h sz)) (fh_Q G (fun v u => ∃ ans : Int32, v = some (.int ans) ∧ ((oUndo ns S x).1 = 0 → ans = bI (oUndo ns S x).2.1) ∧ RepM A h u ma b (nI (oUndo ns S x).1) no nv ns V ((oUndo ns S x).2.2) LK RL J C M) A) 0 0 A := by
  refine fh_Met [.ref ma, .int x] (by decide) rfl (Nat.le_of_ble_eq_true rfl) ?_
  intro p e s m below meth c hx hb hr hlocks hml hown hnm hts hsz hP hE hS ls hl
  have ht : ∀ w ∈ wB, w.before _ s = true := fun w h9 => hts w (List.mem_cons_of_mem _ h9)
  have hl : lv_has ls 4 [(0, .ref ma), (1, .int x)] := hl
  obtain ⟨fK, fH, fF, fB, fO, fW, fV, fN, cO, cF, cH, cV, fS, fC, lO, lA, rA, rB, rD, fM, hM, hX⟩ := hp0
  obtain ⟨hno, hnv, hnv0, hns, hbs, hCl, hCb, hJ, hRn, hRb⟩ := id hB9
  obtain ⟨⟨zH, zO, zW, zcH⟩, xV, xS, xN, xL, xR, xC, xM⟩ := id hX
  cases hxx : ix x ns with
  | none =>
    refine lv_aload_n hx hb dX10_undo_0 rfl (lv_at hl 0 rfl) ?_
    refine lv_aload_n hx hb dX10_undo_1 rfl (lv_at hl 0 rfl) ?_
    refine lv_iload_n hx hb dX10_undo_2 rfl (lv_at hl 1 rfl) ?_
    refine fh_cV (q := (RX10, TX10, 28)) (As := [.int x]) (rest := [.ref ma]) (b := ma) ⟨hx, hb, hml, hown, ht⟩ (m_isSes l G A h _ hM.re hns x) (cwV 1 ht (gV kw_811 kw_813 kp_18 kw_5 kw_814) rfl rfl rfl yd_X10_isSession ⟨(Nat.le_of_ble_eq_true rfl), (Nat.le_of_ble_eq_true rfl)⟩) hP hE hS hM.m rfl rfl hl.1 rfl (Nat.le_of_ble_eq_true rfl) dX10_undo_3 ⟨(Nat.le_of_ble_eq_true rfl), (Nat.le_of_ble_eq_true rfl)⟩ (fun v u H locs hp hP hz hS => ?_)
    obtain ⟨rfl, eu⟩ := hp
    rw [eu] at hP
    refine W.eq (g2 := F0 m 6 ls [.int (bI (ix x ns).isSome), .ref ma]) rfl ?_
    refine lv_if_ne (tgt := 13) hx hb dX10_undo_6 (by decide) (fun c9 => absurd (by rw [hxx]; rfl) c9) (fun _ => ?_)
    refine lv_iconst (v := (nI 1)) hx hb dX10_undo_9 (by decide) ?_
    refine lv_goto (tgt := 27) hx hb dX10_undo_10 (by decide) ?_
    refine fh_put (C := RX10) (T := TX10) (N := 28) (t := .int) hx hb ht inX10 tyX10 tyX10_ok nmX10 hown hE.1 hP hS hM.m (hM.A0) rfl 0 (by decide) (ht _ kw_690) (fun _ h9 => h9) rfl (by decide +kernel) rfl rfl (Nat.le_of_ble_eq_true rfl) dX10_undo_27 (fun H locs hP hz hS => ?_)
    obtain ⟨h_1, eh_1⟩ : ∃ z, z = fh_up h ma (.inr (10, [.int (nI 1), .int (nI no), .ref (b 12), .int (nI nv), .ref (b 13), .ref (b 14), .int (nI ns), .ref (b 15), .ref (b 16), .ref (b 17), .ref (b 18), .ref (b 19), .ref (b 20), .ref (b 21), .ref (b 22), .ref (b 23), .ref (b 24), .int (nI J), .int (nI C.length), .ref (b 25), .int (nI LK.length), .ref (b 26), .ref (b 27), .int (nI RL.length), .ref (b 28), .ref (b 29), .ref (b 30), .ref (b 31)])) := ⟨_, rfl⟩
    have hP : fh_P G vwCl h_1 H := by rw [eh_1]; exact hP
    have hM_1 := MG.sc hM (th2 := (nI 1)) (no2 := no) (nv2 := nv) (ns2 := ns) (J2 := J) (nc2 := C.length) (nl2 := LK.length) (nr2 := RL.length) eh_1
    refine lv_aload_n hx hb dX10_undo_30 rfl (lv_at hl 0 rfl) ?_
    refine fh_get (C := RX10) (T := TX10) (N := 28) hx hb ht inX10 hown hE.1 hP hM_1.m rfl 0 (by decide) (ht _ kw_690) (fun _ h9 => h9) (v := .int (nI 1)) rfl dX10_undo_31 ?_
    refine lv_if_ne (tgt := 46) hx hb dX10_undo_34 (by decide) (fun _ => ?_) (fun c9 => absurd c9 (by decide))
    refine lv_iconst (v := (nI 0)) hx hb dX10_undo_46 (by decide) ?_
    have ep : oUndo ns S x = (1, false, S) := by simp [oUndo, hxx]
    exact fh_zret hx hb hr hlocks rfl (⟨_, rfl, (fun z => by rw [ep] at z; cases z), by rw [ep]; exact ⟨_, _, _, _, _, _, _, _, _, _, _, _, _, _, _, _, _, _, _, _, hM_1, hX⟩⟩) hP hS (Nat.le_of_ble_eq_true rfl) (Nat.le_of_ble_eq_true rfl) dX10_undo_47
  | some i =>
    obtain ⟨hi, rfl⟩ := ix_of (by omega) hxx
    have hi2 : i < 20 := by omega
    obtain ⟨s1, s2, s3, s4, s5, s6, s7, s8⟩ := xS i hi
    refine lv_aload_n hx hb dX10_undo_0 rfl (lv_at hl 0 rfl) ?_
    refine lv_aload_n hx hb dX10_undo_1 rfl (lv_at hl 0 rfl) ?_
    refine lv_iload_n hx hb dX10_undo_2 rfl (lv_at hl 1 rfl) ?_
    refine fh_cV (q := (RX10, TX10, 28)) (As := [.int (nI i)]) (rest := [.ref ma]) (b := ma) ⟨hx, hb, hml, hown, ht⟩ (m_isSes l G A h _ hM.re hns (nI i)) (cwV 1 ht (gV kw_811 kw_813 kp_18 kw_5 kw_814) rfl rfl rfl yd_X10_isSession ⟨(Nat.le_of_ble_eq_true rfl), (Nat.le_of_ble_eq_true rfl)⟩) hP hE hS hM.m rfl rfl hl.1 rfl (Nat.le_of_ble_eq_true rfl) dX10_undo_3 ⟨(Nat.le_of_ble_eq_true rfl), (Nat.le_of_ble_eq_true rfl)⟩ (fun v u H locs hp hP hz hS => ?_)
    obtain ⟨rfl, eu⟩ := hp
    rw [eu] at hP
    refine W.eq (g2 := F0 m 6 ls [.int (bI (ix (nI i) ns).isSome), .ref ma]) rfl ?_
    refine lv_if_ne (tgt := 13) hx hb dX10_undo_6 (by decide) (fun _ => ?_) (fun c9 => absurd c9 (by rw [hxx]; show ¬ bI true = 0; decide))
    refine lv_aload_n hx hb dX10_undo_13 rfl (lv_at hl 0 rfl) ?_
    refine fh_get (C := RX10) (T := TX10) (N := 28) hx hb ht inX10 hown hE.1 hP hM.m rfl 8 (by decide) (ht _ kw_698) (fun _ h9 => h9) (v := .ref (b 16)) rfl dX10_undo_14 ?_
    refine lv_iload_n hx hb dX10_undo_17 rfl (lv_at hl 1 rfl) ?_
    refine fh_zald (k := i) hx hb hE.1 hP hM.a16 rfl (by omega) (by decide) dX10_undo_18 ?_
    rw [s2]
    refine lv_if_eq (tgt := 26) hx hb dX10_undo_19 (by decide) (fun d1 => ?_) (fun d1 => ?_)
    · have e1 := bI_eq.mp d1
      refine lv_iconst (v := (nI 2)) hx hb dX10_undo_26 (by decide) ?_
      refine fh_put (C := RX10) (T := TX10) (N := 28) (t := .int) hx hb ht inX10 tyX10 tyX10_ok nmX10 hown hE.1 hP hS hM.m (hM.A0) rfl 0 (by decide) (ht _ kw_690) (fun _ h9 => h9) rfl (by decide +kernel) rfl rfl (Nat.le_of_ble_eq_true rfl) dX10_undo_27 (fun H locs hP hz hS => ?_)
      obtain ⟨h_1, eh_1⟩ : ∃ z, z = fh_up h ma (.inr (10, [.int (nI 2), .int (nI no), .ref (b 12), .int (nI nv), .ref (b 13), .ref (b 14), .int (nI ns), .ref (b 15), .ref (b 16), .ref (b 17), .ref (b 18), .ref (b 19), .ref (b 20), .ref (b 21), .ref (b 22), .ref (b 23), .ref (b 24), .int (nI J), .int (nI C.length), .ref (b 25), .int (nI LK.length), .ref (b 26), .ref (b 27), .int (nI RL.length), .ref (b 28), .ref (b 29), .ref (b 30), .ref (b 31)])) := ⟨_, rfl⟩
      have hP : fh_P G vwCl h_1 H := by rw [eh_1]; exact hP
      have hM_1 := MG.sc hM (th2 := (nI 2)) (no2 := no) (nv2 := nv) (ns2 := ns) (J2 := J) (nc2 := C.length) (nl2 := LK.length) (nr2 := RL.length) eh_1
      refine lv_aload_n hx hb dX10_undo_30 rfl (lv_at hl 0 rfl) ?_
      refine fh_get (C := RX10) (T := TX10) (N := 28) hx hb ht inX10 hown hE.1 hP hM_1.m rfl 0 (by decide) (ht _ kw_690) (fun _ h9 => h9) (v := .int (nI 2)) rfl dX10_undo_31 ?_
      refine lv_if_ne (tgt := 46) hx hb dX10_undo_34 (by decide) (fun _ => ?_) (fun c9 => absurd c9 (by decide))
      refine lv_iconst (v := (nI 0)) hx hb dX10_undo_46 (by decide) ?_
      have ep : oUndo ns S (nI i) = (2, false, S) := by simp [oUndo, hxx, e1]
      exact fh_zret hx hb hr hlocks rfl (⟨_, rfl, (fun z => by rw [ep] at z; cases z), by rw [ep]; exact ⟨_, _, _, _, _, _, _, _, _, _, _, _, _, _, _, _, _, _, _, _, hM_1, hX⟩⟩) hP hS (Nat.le_of_ble_eq_true rfl) (Nat.le_of_ble_eq_true rfl) dX10_undo_47
    · have e1 := bI_nz d1
      refine lv_iconst (v := (nI 0)) hx hb dX10_undo_22 (by decide) ?_
      refine lv_goto (tgt := 27) hx hb dX10_undo_23 (by decide) ?_
      refine fh_put (C := RX10) (T := TX10) (N := 28) (t := .int) hx hb ht inX10 tyX10 tyX10_ok nmX10 hown hE.1 hP hS hM.m (hM.A0) rfl 0 (by decide) (ht _ kw_690) (fun _ h9 => h9) rfl (by decide +kernel) rfl rfl (Nat.le_of_ble_eq_true rfl) dX10_undo_27 (fun H locs hP hz hS => ?_)
      obtain ⟨h_1, eh_1⟩ : ∃ z, z = fh_up h ma (.inr (10, [.int (nI 0), .int (nI no), .ref (b 12), .int (nI nv), .ref (b 13), .ref (b 14), .int (nI ns), .ref (b 15), .ref (b 16), .ref (b 17), .ref (b 18), .ref (b 19), .ref (b 20), .ref (b 21), .ref (b 22), .ref (b 23), .ref (b 24), .int (nI J), .int (nI C.length), .ref (b 25), .int (nI LK.length), .ref (b 26), .ref (b 27), .int (nI RL.length), .ref (b 28), .ref (b 29), .ref (b 30), .ref (b 31)])) := ⟨_, rfl⟩
      have hP : fh_P G vwCl h_1 H := by rw [eh_1]; exact hP
      have hM_1 := MG.sc hM (th2 := (nI 0)) (no2 := no) (nv2 := nv) (ns2 := ns) (J2 := J) (nc2 := C.length) (nl2 := LK.length) (nr2 := RL.length) eh_1
      refine lv_aload_n hx hb dX10_undo_30 rfl (lv_at hl 0 rfl) ?_
      refine fh_get (C := RX10) (T := TX10) (N := 28) hx hb ht inX10 hown hE.1 hP hM_1.m rfl 0 (by decide) (ht _ kw_690) (fun _ h9 => h9) (v := .int (nI 0)) rfl dX10_undo_31 ?_
      refine lv_if_ne (tgt := 46) hx hb dX10_undo_34 (by decide) (fun c9 => absurd (rfl) c9) (fun _ => ?_)
      refine lv_aload_n hx hb dX10_undo_37 rfl (lv_at hl 0 rfl) ?_
      refine fh_get (C := RX10) (T := TX10) (N := 28) hx hb ht inX10 hown hE.1 hP hM_1.m rfl 11 (by decide) (ht _ kw_701) (fun _ h9 => h9) (v := .ref (b 19)) rfl dX10_undo_38 ?_
      refine lv_iload_n hx hb dX10_undo_41 rfl (lv_at hl 1 rfl) ?_
      refine fh_iald (k := i) hx hb hE.1 hP hM_1.a19 rfl (by omega) (by decide) dX10_undo_42 ?_
      rw [s5]
      cases hh : (S i).2.2.2.1 with
      | nil =>
        have e3 : sBack (S i) = S i := by unfold sBack; rw [hh]
        refine lv_if_ne (tgt := 48) hx hb dX10_undo_43 (by decide) (fun c9 => absurd (rfl) c9) (fun _ => ?_)
        refine lv_iconst (v := (nI 0)) hx hb dX10_undo_46 (by decide) ?_
        have ep : oUndo ns S (nI i) = (0, false, S) := by simp [oUndo, hxx, e1, hh, e3, upN_same]
        exact fh_zret hx hb hr hlocks rfl (⟨_, rfl, fun _ => (by rw [ep] <;> rfl), by rw [ep]; exact ⟨_, _, _, _, _, _, _, _, _, _, _, _, _, _, _, _, _, _, _, _, hM_1, hX⟩⟩) hP hS (by first | exact (Nat.le_of_ble_eq_true rfl) | omega) (by first | exact (Nat.le_of_ble_eq_true rfl) | omega) dX10_undo_47
      | cons S0 Ss =>
        obtain ⟨l40, en, o, f, ho, hf, eO, eF⟩ := hX.last hi hh
        refine lv_if_ne (tgt := 48) hx hb dX10_undo_43 (by decide) (fun _ => ?_) (fun c9 => absurd c9 (nI_ne0 (by simp) (by simp; omega)))
        refine lv_aload_n hx hb dX10_undo_48 rfl (lv_at hl 0 rfl) ?_
        refine fh_get (C := RX10) (T := TX10) (N := 28) hx hb ht inX10 hown hE.1 hP hM_1.m rfl 11 (by decide) (ht _ kw_701) (fun _ h9 => h9) (v := .ref (b 19)) rfl dX10_undo_49 ?_
        refine lv_iload_n hx hb dX10_undo_52 rfl (lv_at hl 1 rfl) ?_
        refine lv_dup2_11 hx hb dX10_undo_53 rfl rfl ?_
        refine fh_iald (k := i) hx hb hE.1 hP hM_1.a19 rfl (by omega) (by decide) dX10_undo_54 ?_
        rw [en]
        refine lv_iconst (v := (nI 1)) hx hb dX10_undo_55 (by decide) ?_
        refine lv_isub hx hb dX10_undo_56 ?_
        refine lv_topi (fun z9 ez9 => ?_)
        rw [show z9 = nI Ss.length from ez9.trans (pk_sub (by omega))]
        refine fh_iast (k := i) hx hb hE.1 hP hS hM_1.a19 (hM_1.A19) rfl (by omega) (by decide) dX10_undo_57 (fun H locs hP hz hS => ?_)
        obtain ⟨h_2, eh_2⟩ : ∃ z, z = fh_up h_1 (b 19) (.inl (19, 20, .inl (upd fN i (nI Ss.length)))) := ⟨_, rfl⟩
        have hP : fh_P G vwCl h_2 H := by rw [eh_2]; exact hP
        have hM_2 := MG.w19 hM_1 (f2 := upd fN i (nI Ss.length)) eh_2
        refine lv_bipush (v := (nI 40)) hx hb dX10_undo_58 (by decide) ?_
        refine lv_iload_n hx hb dX10_undo_60 rfl (lv_at hl 1 rfl) ?_
        refine lv_imul hx hb dX10_undo_61 ?_
        refine lv_topi (fun z9 ez9 => ?_)
        rw [show z9 = nI (40 * i) from ez9.trans (pk_mul _ _)]
        refine lv_aload_n hx hb dX10_undo_62 rfl (lv_at hl 0 rfl) ?_
        refine fh_get (C := RX10) (T := TX10) (N := 28) hx hb ht inX10 hown hE.1 hP hM_2.m rfl 11 (by decide) (ht _ kw_701) (fun _ h9 => h9) (v := .ref (b 19)) rfl dX10_undo_63 ?_
        refine lv_iload_n hx hb dX10_undo_66 rfl (lv_at hl 1 rfl) ?_
        refine fh_iald (k := i) hx hb hE.1 hP hM_2.a19 rfl (by omega) (by decide) dX10_undo_67 ?_
        refine lv_topi (fun z9 ez9 => ?_)
        rw [show z9 = nI Ss.length from ez9.trans (by simp [upd])]
        refine lv_iadd hx hb dX10_undo_68 ?_
        refine lv_topi (fun z9 ez9 => ?_)
        rw [show z9 = nI ((40 * i) + Ss.length) from ez9.trans (nI_add _ _)]
        refine lv_istore_n (lv' := [(2, .int (nI ((40 * i) + Ss.length))), (0, .ref ma), (1, .int (nI i))]) hx hb dX10_undo_69 rfl hl (by decide) rfl (fun ls hl => ?_)
        refine lv_aload_n hx hb dX10_undo_70 rfl (lv_at hl 1 rfl) ?_
        refine fh_get (C := RX10) (T := TX10) (N := 28) hx hb ht inX10 hown hE.1 hP hM_2.m rfl 12 (by decide) (ht _ kw_702) (fun _ h9 => h9) (v := .ref (b 20)) rfl dX10_undo_71 ?_
        refine lv_iload_n hx hb dX10_undo_74 rfl (lv_at hl 0 rfl) ?_
        refine fh_iald (k := ((40 * i) + Ss.length)) hx hb hE.1 hP hM_2.a20 rfl (by omega) (by decide) dX10_undo_75 ?_
        rw [eO]
        refine lv_istore_n (lv' := [(3, .int (nI o)), (2, .int (nI ((40 * i) + Ss.length))), (0, .ref ma), (1, .int (nI i))]) hx hb dX10_undo_76 rfl hl (by decide) rfl (fun ls hl => ?_)
        refine lv_aload_n hx hb dX10_undo_77 rfl (lv_at hl 2 rfl) ?_
        refine fh_get (C := RX10) (T := TX10) (N := 28) hx hb ht inX10 hown hE.1 hP hM_2.m rfl 13 (by decide) (ht _ kw_703) (fun _ h9 => h9) (v := .ref (b 21)) rfl dX10_undo_78 ?_
        refine lv_iload_n hx hb dX10_undo_81 rfl (lv_at hl 1 rfl) ?_
        refine fh_iald (k := ((40 * i) + Ss.length)) hx hb hE.1 hP hM_2.a21 rfl (by omega) (by decide) dX10_undo_82 ?_
        rw [eF]
        refine lv_bipush (v := (nI 6)) hx hb dX10_undo_83 (by decide) ?_
        refine lv_icmp_ne (tgt := 108) hx hb dX10_undo_85 (by decide) (fun d3 => ?_) (fun d3 => ?_)
        · have e3 : ¬ f = 6 := fun z => d3 (by rw [z])
          refine lv_aload_n hx hb dX10_undo_108 rfl (lv_at hl 2 rfl) ?_
          refine fh_get (C := RX10) (T := TX10) (N := 28) hx hb ht inX10 hown hE.1 hP hM_2.m rfl 10 (by decide) (ht _ kw_700) (fun _ h9 => h9) (v := .ref (b 18)) rfl dX10_undo_109 ?_
          refine lv_sipush (v := (nI 360)) hx hb dX10_undo_112 (by decide) ?_
          refine lv_iload_n hx hb dX10_undo_115 rfl (lv_at hl 3 rfl) ?_
          refine lv_imul hx hb dX10_undo_116 ?_
          refine lv_topi (fun z9 ez9 => ?_)
          rw [show z9 = nI (360 * i) from ez9.trans (pk_mul _ _)]
          refine lv_bipush (v := (nI 6)) hx hb dX10_undo_117 (by decide) ?_
          refine lv_iload_n hx hb dX10_undo_119 rfl (lv_at hl 0 rfl) ?_
          refine lv_imul hx hb dX10_undo_120 ?_
          refine lv_topi (fun z9 ez9 => ?_)
          rw [show z9 = nI (6 * o) from ez9.trans (pk_mul _ _)]
          refine lv_iadd hx hb dX10_undo_121 ?_
          refine lv_topi (fun z9 ez9 => ?_)
          rw [show z9 = nI ((360 * i) + (6 * o)) from ez9.trans (nI_add _ _)]
          refine lv_aload_n hx hb dX10_undo_122 rfl (lv_at hl 2 rfl) ?_
          refine fh_get (C := RX10) (T := TX10) (N := 28) hx hb ht inX10 hown hE.1 hP hM_2.m rfl 13 (by decide) (ht _ kw_703) (fun _ h9 => h9) (v := .ref (b 21)) rfl dX10_undo_123 ?_
          refine lv_iload_n hx hb dX10_undo_126 rfl (lv_at hl 1 rfl) ?_
          refine fh_iald (k := ((40 * i) + Ss.length)) hx hb hE.1 hP hM_2.a21 rfl (by omega) (by decide) dX10_undo_127 ?_
          rw [eF]
          refine lv_iadd hx hb dX10_undo_128 ?_
          refine lv_topi (fun z9 ez9 => ?_)
          rw [show z9 = nI (((360 * i) + (6 * o)) + f) from ez9.trans (nI_add _ _)]
          refine lv_aload_n hx hb dX10_undo_129 rfl (lv_at hl 2 rfl) ?_
          refine fh_get (C := RX10) (T := TX10) (N := 28) hx hb ht inX10 hown hE.1 hP hM_2.m rfl 15 (by decide) (ht _ kw_705) (fun _ h9 => h9) (v := .ref (b 23)) rfl dX10_undo_130 ?_
          refine lv_iload_n hx hb dX10_undo_133 rfl (lv_at hl 1 rfl) ?_
          refine fh_lald (k := ((40 * i) + Ss.length)) hx hb hE.1 hP hM_2.a23 rfl (by omega) (by decide) dX10_undo_134 ?_
          refine fh_last (k := (((360 * i) + (6 * o)) + f)) hx hb hE.1 hP hS hM_2.a18 (hM_2.A18) rfl (by omega) (by decide) dX10_undo_135 (fun H locs hP hz hS => ?_)
          obtain ⟨h_3, eh_3⟩ : ∃ z, z = fh_up h_2 (b 18) (.inl (18, 7200, .inr (.inl (vp_updL fV (((360 * i) + (6 * o)) + f) (cV ((40 * i) + Ss.length)))))) := ⟨_, rfl⟩
          have hP : fh_P G vwCl h_3 H := by rw [eh_3]; exact hP
          have hM_3 := MG.w18 hM_2 (f2 := vp_updL fV (((360 * i) + (6 * o)) + f) (cV ((40 * i) + Ss.length))) eh_3
          refine lv_iconst (v := (nI 1)) hx hb dX10_undo_136 (by decide) ?_
          have ep : oUndo ns S (nI i) = (0, true, upN S i (sBack (S i))) := by simp [oUndo, hxx, e1, hh]
          exact fh_zret hx hb hr hlocks rfl (⟨_, rfl, fun _ => (by rw [ep] <;> rfl), by rw [ep]; exact ⟨_, _, _, _, _, _, _, _, _, _, _, _, _, _, _, _, _, _, _, _, hM_3, hX.back hi hno hh ho hf eO eF (Or.inr ⟨e3, rfl, rfl⟩)⟩⟩) hP hS (by first | exact (Nat.le_of_ble_eq_true rfl) | omega) (by first | exact (Nat.le_of_ble_eq_true rfl) | omega) dX10_undo_137
        · have e3 : f = 6 := (nI_eq (by omega) (by decide)).mp d3
          refine lv_aload_n hx hb dX10_undo_88 rfl (lv_at hl 2 rfl) ?_
          refine fh_get (C := RX10) (T := TX10) (N := 28) hx hb ht inX10 hown hE.1 hP hM_2.m rfl 9 (by decide) (ht _ kw_699) (fun _ h9 => h9) (v := .ref (b 17)) rfl dX10_undo_89 ?_
          refine lv_bipush (v := (nI 60)) hx hb dX10_undo_92 (by decide) ?_
          refine lv_iload_n hx hb dX10_undo_94 rfl (lv_at hl 3 rfl) ?_
          refine lv_imul hx hb dX10_undo_95 ?_
          refine lv_topi (fun z9 ez9 => ?_)
          rw [show z9 = nI (60 * i) from ez9.trans (pk_mul _ _)]
          refine lv_iload_n hx hb dX10_undo_96 rfl (lv_at hl 0 rfl) ?_
          refine lv_iadd hx hb dX10_undo_97 ?_
          refine lv_topi (fun z9 ez9 => ?_)
          rw [show z9 = nI ((60 * i) + o) from ez9.trans (nI_add _ _)]
          refine lv_aload_n hx hb dX10_undo_98 rfl (lv_at hl 2 rfl) ?_
          refine fh_get (C := RX10) (T := TX10) (N := 28) hx hb ht inX10 hown hE.1 hP hM_2.m rfl 14 (by decide) (ht _ kw_704) (fun _ h9 => h9) (v := .ref (b 22)) rfl dX10_undo_99 ?_
          refine lv_iload_n hx hb dX10_undo_102 rfl (lv_at hl 1 rfl) ?_
          refine fh_zald (k := ((40 * i) + Ss.length)) hx hb hE.1 hP hM_2.a22 rfl (by omega) (by decide) dX10_undo_103 ?_
          refine fh_zast (k := ((60 * i) + o)) hx hb hE.1 hP hS hM_2.a17 (hM_2.A17) rfl (by omega) (by decide) dX10_undo_104 (fun H locs hP hz hS => ?_)
          obtain ⟨h_3, eh_3⟩ : ∃ z, z = fh_up h_2 (b 17) (.inl (17, 1200, .inl (upd fW ((60 * i) + o) (vp_nar .boolean (cH ((40 * i) + Ss.length)))))) := ⟨_, rfl⟩
          have hP : fh_P G vwCl h_3 H := by rw [eh_3]; exact hP
          have hM_3 := MG.w17 hM_2 (f2 := upd fW ((60 * i) + o) (vp_nar .boolean (cH ((40 * i) + Ss.length)))) eh_3
          refine lv_goto (tgt := 136) hx hb dX10_undo_105 (by decide) ?_
          refine lv_iconst (v := (nI 1)) hx hb dX10_undo_136 (by decide) ?_
          have ep : oUndo ns S (nI i) = (0, true, upN S i (sBack (S i))) := by simp [oUndo, hxx, e1, hh]
          exact fh_zret hx hb hr hlocks rfl (⟨_, rfl, fun _ => (by rw [ep] <;> rfl), by rw [ep]; exact ⟨_, _, _, _, _, _, _, _, _, _, _, _, _, _, _, _, _, _, _, _, hM_3, hX.back hi hno hh ho hf eO eF (Or.inl ⟨e3, rfl, rfl⟩)⟩⟩) hP hS (by first | exact (Nat.le_of_ble_eq_true rfl) | omega) (by first | exact (Nat.le_of_ble_eq_true rfl) | omega) dX10_undo_137
