set_option maxRecDepth 100000 in
set_option maxHeartbeats 4000000 in
theorem m_copyHead (l : Launch) (G : fG) (A : Nat → Prop) (h : FH) (sz : Nat) {ma : Nat} {b : Nat → Nat} {th : Int32} {no nv ns J nc nl nr : Nat} {fK : Nat → Int32} {fH : Nat → Int32} {fF : Nat → Int64} {fB : Nat → Int32} {fO : Nat → Int32} {fW : Nat → Int32} {fV : Nat → Int64} {fN : Nat → Int32} {cO : Nat → Int32} {cF : Nat → Int32} {cH : Nat → Int32} {cV : Nat → Int64} {fS : Nat → Int32} {fC : Nat → Int32} {lO : Nat → Int32} {lA : Nat → Int64} {rA : Nat → Int32} {rB : Nat → Int32} {rD : Nat → Int64} {fM : Nat → Int32} (hM : MG A h h ma b th no nv ns J nc nl nr fK fH fF fB fO fW fV fN cO cF cH cV fS fC lO lA rA rB rD fM) (hnv0 : 0 < nv) (hnv : nv < 40) (hzH : bz fH) : Met l yX10_copyHead wsX10_copyHead { frames := 0, cells := 0, slots := 0, locals := 0 } (va_Pc [.ref ma] (fh_Pre G A h sz)) (fh_Q G (fun v u => ∃ fH2 fF2, v = none ∧ MG A h u ma b th no (nv + 1) ns J nc nl nr fK fH2 fF2 fB fO fW fV fN cO cF cH cV fS fC lO lA rA rB rD fM ∧ bz fH2 ∧ (∀ o, o < 60 → fH2 (60 * nv + o) = fH (60 * (nv - 1) + o)) ∧ (∀ x, x < 60 * nv → fH2 x = fH x) ∧ (∀ p, p < 360 → fF2 (360 * nv + p) = fF (360 * (nv - 1) + p)) ∧ ∀ x, x < 360 * nv → fF2 x = fF x) A) 0 0 A := by
  refine fh_Met [.ref ma] (by decide) rfl (Nat.le_of_ble_eq_true rfl) ?_
  intro p e s m below meth c hx hb hr hlocks hml hown hnm hts hsz hP hE hS ls hl
  have ht : ∀ w ∈ wB, w.before _ s = true := fun w h9 => hts w (List.mem_cons_of_mem _ h9)
  have hl : lv_has ls 4 [(0, .ref ma)] := hl
  refine lv_bipush (v := (nI 60)) hx hb dX10_copyHead_0 (by decide) ?_
  refine lv_aload_n hx hb dX10_copyHead_2 rfl (lv_at hl 0 rfl) ?_
  refine fh_get (C := RX10) (T := TX10) (N := 28) hx hb ht inX10 hown hE.1 hP hM.m rfl 3 (by decide) (ht _ kw_693) (fun _ h9 => h9) (v := .int (nI nv)) rfl dX10_copyHead_3 ?_
  refine lv_imul hx hb dX10_copyHead_6 ?_
  refine lv_topi (fun z9 ez9 => ?_)
  rw [show z9 = nI (60 * nv) from ez9.trans (pk_mul _ _)]
  refine lv_istore_n (lv' := [(1, .int (nI (60 * nv))), (0, .ref ma)]) hx hb dX10_copyHead_7 rfl hl (by decide) rfl (fun ls hl => ?_)
  refine lv_iload_n hx hb dX10_copyHead_8 rfl (lv_at hl 0 rfl) ?_
  refine lv_bipush (v := (nI 60)) hx hb dX10_copyHead_9 (by decide) ?_
  refine lv_isub hx hb dX10_copyHead_11 ?_
  refine lv_topi (fun z9 ez9 => ?_)
  rw [show z9 = nI (60 * (nv - 1)) from ez9.trans ((pk_sub (by omega)).trans (congrArg nI (by omega)))]
  refine lv_istore_n (lv' := [(2, .int (nI (60 * (nv - 1)))), (1, .int (nI (60 * nv))), (0, .ref ma)]) hx hb dX10_copyHead_12 rfl hl (by decide) rfl (fun ls hl => ?_)
  refine lv_iconst (v := (nI 0)) hx hb dX10_copyHead_13 (by decide) ?_
  refine lv_istore_n (lv' := [(3, .int (nI 0)), (2, .int (nI (60 * (nv - 1)))), (1, .int (nI (60 * nv))), (0, .ref ma)]) hx hb dX10_copyHead_14 rfl hl (by decide) rfl (fun ls hl => ?_)
  have loop : ∀ (n o : Nat), o + n = 60 → ∀ (hh : FH) (f2 : Nat → Int32) (_ : MG A h hh ma b th no nv ns J nc nl nr fK f2 fF fB fO fW fV fN cO cF cH cV fS fC lO lA rA rB rD fM) (_ : bz f2) (_ : ∀ q, q < o → f2 (60 * nv + q) = fH (60 * (nv - 1) + q)) (_ : ∀ x, x < 60 * nv → f2 x = fH x), ∀ (H : Heap) (locs : List Loc) (ls : Array Slot), fh_P G vwCl hh H → va_S A s.heap H locs → lv_has ls 4 [(3, .int (nI o)), (2, .int (nI (60 * (nv - 1)))), (1, .int (nI (60 * nv))), (0, .ref ma)] → W p l e (headSpec wsX10_copyHead { frames := 0, cells := 0, slots := 0, locals := 0 }).room s m [.ref ma].toArray below meth c H locs 0 0 (MQ below (fh_Q G (fun v u => ∃ fH2 fF2, v = none ∧ MG A h u ma b th no (nv + 1) ns J nc nl nr fK fH2 fF2 fB fO fW fV fN cO cF cH cV fS fC lO lA rA rB rD fM ∧ bz fH2 ∧ (∀ o, o < 60 → fH2 (60 * nv + o) = fH (60 * (nv - 1) + o)) ∧ (∀ x, x < 60 * nv → fH2 x = fH x) ∧ (∀ p, p < 360 → fF2 (360 * nv + p) = fF (360 * (nv - 1) + p)) ∧ ∀ x, x < 360 * nv → fF2 x = fF x) A) [.ref ma].toArray s 0 0 A) (F0 m 15 ls []) := by
    intro n
    induction n with
    | zero =>
      intro o hin hh f2 hM9 hb2 i1 i2 H locs ls hP hS hl
      have o60 : o = 60 := by omega
      refine lv_iload_n hx hb dX10_copyHead_15 rfl (lv_at hl 0 rfl) ?_
      refine lv_bipush (v := (nI 60)) hx hb dX10_copyHead_16 (by decide) ?_
      refine lv_icmp_ge (tgt := 43) hx hb dX10_copyHead_18 (by decide) (fun _ => ?_) (fun c9 => absurd (nI_le (by omega) (by omega)) c9)
      refine lv_iconst (v := (nI 0)) hx hb dX10_copyHead_43 (by decide) ?_
      refine lv_istore_n (lv' := [(3, .int (nI 0)), (2, .int (nI (60 * (nv - 1)))), (1, .int (nI (60 * nv))), (0, .ref ma)]) hx hb dX10_copyHead_44 rfl hl (by decide) rfl (fun ls hl => ?_)
      have lop2 : ∀ (n k : Nat), k + n = 360 → ∀ (hh : FH) (g2 : Nat → Int64) (_ : MG A h hh ma b th no nv ns J nc nl nr fK f2 g2 fB fO fW fV fN cO cF cH cV fS fC lO lA rA rB rD fM) (_ : ∀ q, q < k → g2 (360 * nv + q) = fF (360 * (nv - 1) + q)) (_ : ∀ x, x < 360 * nv → g2 x = fF x), ∀ (H : Heap) (locs : List Loc) (ls : Array Slot), fh_P G vwCl hh H → va_S A s.heap H locs → lv_has ls 4 [(3, .int (nI k)), (2, .int (nI (60 * (nv - 1)))), (1, .int (nI (60 * nv))), (0, .ref ma)] → W p l e (headSpec wsX10_copyHead { frames := 0, cells := 0, slots := 0, locals := 0 }).room s m [.ref ma].toArray below meth c H locs 0 0 (MQ below (fh_Q G (fun v u => ∃ fH2 fF2, v = none ∧ MG A h u ma b th no (nv + 1) ns J nc nl nr fK fH2 fF2 fB fO fW fV fN cO cF cH cV fS fC lO lA rA rB rD fM ∧ bz fH2 ∧ (∀ o, o < 60 → fH2 (60 * nv + o) = fH (60 * (nv - 1) + o)) ∧ (∀ x, x < 60 * nv → fH2 x = fH x) ∧ (∀ p, p < 360 → fF2 (360 * nv + p) = fF (360 * (nv - 1) + p)) ∧ ∀ x, x < 360 * nv → fF2 x = fF x) A) [.ref ma].toArray s 0 0 A) (F0 m 45 ls []) := by
        intro n
        induction n with
        | zero =>
          intro k hin hh g2 hM9 j1 j2 H locs ls hP hS hl
          refine lv_iload_n hx hb dX10_copyHead_45 rfl (lv_at hl 0 rfl) ?_
          refine lv_sipush (v := (nI 360)) hx hb dX10_copyHead_46 (by decide) ?_
          refine lv_icmp_ge (tgt := 90) hx hb dX10_copyHead_49 (by decide) (fun _ => ?_) (fun c9 => absurd (nI_le (by omega) (by omega)) c9)
          refine lv_aload_n hx hb dX10_copyHead_90 rfl (lv_at hl 3 rfl) ?_
          refine lv_dup hx hb dX10_copyHead_91 rfl ?_
          refine fh_get (C := RX10) (T := TX10) (N := 28) hx hb ht inX10 hown hE.1 hP hM9.m rfl 3 (by decide) (ht _ kw_693) (fun _ h9 => h9) (v := .int (nI nv)) rfl dX10_copyHead_92 ?_
          refine lv_iconst (v := (nI 1)) hx hb dX10_copyHead_95 (by decide) ?_
          refine lv_iadd hx hb dX10_copyHead_96 ?_
          refine lv_topi (fun z9 ez9 => ?_)
          rw [show z9 = nI (nv + 1) from ez9.trans (nI_add _ _)]
          refine fh_put (C := RX10) (T := TX10) (N := 28) (t := .int) hx hb ht inX10 tyX10 tyX10_ok nmX10 hown hE.1 hP hS hM9.m (hM9.A0) rfl 3 (by decide) (ht _ kw_693) (fun _ h9 => h9) rfl (by decide +kernel) rfl rfl (Nat.le_of_ble_eq_true rfl) dX10_copyHead_97 (fun H locs hP hz hS => ?_)
          obtain ⟨h_1, eh_1⟩ : ∃ z, z = fh_up hh ma (.inr (10, [.int th, .int (nI no), .ref (b 12), .int (nI (nv + 1)), .ref (b 13), .ref (b 14), .int (nI ns), .ref (b 15), .ref (b 16), .ref (b 17), .ref (b 18), .ref (b 19), .ref (b 20), .ref (b 21), .ref (b 22), .ref (b 23), .ref (b 24), .int (nI J), .int (nI nc), .ref (b 25), .int (nI nl), .ref (b 26), .ref (b 27), .int (nI nr), .ref (b 28), .ref (b 29), .ref (b 30), .ref (b 31)])) := ⟨_, rfl⟩
          have hP : fh_P G vwCl h_1 H := by rw [eh_1]; exact hP
          have hM_1 := MG.sc hM9 (th2 := th) (no2 := no) (nv2 := (nv + 1)) (ns2 := ns) (J2 := J) (nc2 := nc) (nl2 := nl) (nr2 := nr) eh_1
          exact fh_vret hx hb hr hlocks (⟨f2, g2, rfl, hM_1, hb2, fun q hq => i1 q (by omega), i2, fun q hq => j1 q (by omega), j2⟩) hP hS (Nat.le_of_ble_eq_true rfl) (Nat.le_of_ble_eq_true rfl) dX10_copyHead_100
        | succ n ih =>
          intro k hin hh g2 hM9 j1 j2 H locs ls hP hS hl
          refine lv_iload_n hx hb dX10_copyHead_45 rfl (lv_at hl 0 rfl) ?_
          refine lv_sipush (v := (nI 360)) hx hb dX10_copyHead_46 (by decide) ?_
          refine lv_icmp_ge (tgt := 90) hx hb dX10_copyHead_49 (by decide) (fun c9 => absurd c9 (nI_ge (by omega) (by decide))) (fun _ => ?_)
          refine lv_aload_n hx hb dX10_copyHead_52 rfl (lv_at hl 3 rfl) ?_
          refine fh_get (C := RX10) (T := TX10) (N := 28) hx hb ht inX10 hown hE.1 hP hM9.m rfl 5 (by decide) (ht _ kw_695) (fun _ h9 => h9) (v := .ref (b 14)) rfl dX10_copyHead_53 ?_
          refine lv_sipush (v := (nI 360)) hx hb dX10_copyHead_56 (by decide) ?_
          refine lv_aload_n hx hb dX10_copyHead_59 rfl (lv_at hl 3 rfl) ?_
          refine fh_get (C := RX10) (T := TX10) (N := 28) hx hb ht inX10 hown hE.1 hP hM9.m rfl 3 (by decide) (ht _ kw_693) (fun _ h9 => h9) (v := .int (nI nv)) rfl dX10_copyHead_60 ?_
          refine lv_imul hx hb dX10_copyHead_63 ?_
          refine lv_topi (fun z9 ez9 => ?_)
          rw [show z9 = nI (360 * nv) from ez9.trans (pk_mul _ _)]
          refine lv_iload_n hx hb dX10_copyHead_64 rfl (lv_at hl 0 rfl) ?_
          refine lv_iadd hx hb dX10_copyHead_65 ?_
          refine lv_topi (fun z9 ez9 => ?_)
          rw [show z9 = nI ((360 * nv) + k) from ez9.trans (nI_add _ _)]
          refine lv_aload_n hx hb dX10_copyHead_66 rfl (lv_at hl 3 rfl) ?_
          refine fh_get (C := RX10) (T := TX10) (N := 28) hx hb ht inX10 hown hE.1 hP hM9.m rfl 5 (by decide) (ht _ kw_695) (fun _ h9 => h9) (v := .ref (b 14)) rfl dX10_copyHead_67 ?_
          refine lv_sipush (v := (nI 360)) hx hb dX10_copyHead_70 (by decide) ?_
          refine lv_aload_n hx hb dX10_copyHead_73 rfl (lv_at hl 3 rfl) ?_
          refine fh_get (C := RX10) (T := TX10) (N := 28) hx hb ht inX10 hown hE.1 hP hM9.m rfl 3 (by decide) (ht _ kw_693) (fun _ h9 => h9) (v := .int (nI nv)) rfl dX10_copyHead_74 ?_
          refine lv_iconst (v := (nI 1)) hx hb dX10_copyHead_77 (by decide) ?_
          refine lv_isub hx hb dX10_copyHead_78 ?_
          refine lv_topi (fun z9 ez9 => ?_)
          rw [show z9 = nI (nv - 1) from ez9.trans (pk_sub hnv0)]
          refine lv_imul hx hb dX10_copyHead_79 ?_
          refine lv_topi (fun z9 ez9 => ?_)
          rw [show z9 = nI (360 * (nv - 1)) from ez9.trans (pk_mul _ _)]
          refine lv_iload_n hx hb dX10_copyHead_80 rfl (lv_at hl 0 rfl) ?_
          refine lv_iadd hx hb dX10_copyHead_81 ?_
          refine lv_topi (fun z9 ez9 => ?_)
          rw [show z9 = nI ((360 * (nv - 1)) + k) from ez9.trans (nI_add _ _)]
          refine fh_lald (k := ((360 * (nv - 1)) + k)) hx hb hE.1 hP hM9.a14 rfl (by omega) (by decide) dX10_copyHead_82 ?_
          refine fh_last (k := ((360 * nv) + k)) hx hb hE.1 hP hS hM9.a14 (hM9.A14) rfl (by omega) (by decide) dX10_copyHead_83 (fun H locs hP hz hS => ?_)
          obtain ⟨h_1, eh_1⟩ : ∃ z, z = fh_up hh (b 14) (.inl (14, 14400, .inr (.inl (vp_updL g2 ((360 * nv) + k) (g2 ((360 * (nv - 1)) + k)))))) := ⟨_, rfl⟩
          have hP : fh_P G vwCl h_1 H := by rw [eh_1]; exact hP
          have hM_1 := MG.w14 hM9 (f2 := vp_updL g2 ((360 * nv) + k) (g2 ((360 * (nv - 1)) + k))) eh_1
          refine lv_iinc (v := nI (k + 1)) (lv' := [(3, .int (nI (k + 1))), (2, .int (nI (60 * (nv - 1)))), (1, .int (nI (60 * nv))), (0, .ref ma)]) hx hb dX10_copyHead_84 hl (k := 0) rfl (nI_1 _) (by decide) rfl (fun ls hl => ?_)
          refine lv_goto (tgt := 45) hx hb dX10_copyHead_87 (by decide) ?_
          exact ih (k + 1) (by omega) h_1 _ hM_1 (lt_s (fun q hq => by rw [show vp_updL g2 (360 * nv + k) (g2 (360 * (nv - 1) + k)) (360 * nv + q) = g2 (360 * nv + q) by simp [vp_updL, Nat.ne_of_lt hq]]; exact j1 q hq) (by rw [show vp_updL g2 (360 * nv + k) (g2 (360 * (nv - 1) + k)) (360 * nv + k) = g2 (360 * (nv - 1) + k) by simp [vp_updL]]; exact j2 _ (by omega))) (fun x hx => by rw [show vp_updL g2 (360 * nv + k) (g2 (360 * (nv - 1) + k)) x = g2 x by simp [vp_updL, show x ≠ 360 * nv + k by omega]]; exact j2 x hx) H locs ls hP hS (lv_sub hl [0, 1, 2, 3] rfl)
      exact lop2 360 0 (by omega) hh fF hM9 (fun q hq => absurd hq (Nat.not_lt_zero q)) (fun _ _ => rfl) _ _ _ hP hS (lv_sub hl [0, 1, 2, 3] rfl)
    | succ n ih =>
      intro o hin hh f2 hM9 hb2 i1 i2 H locs ls hP hS hl
      refine lv_iload_n hx hb dX10_copyHead_15 rfl (lv_at hl 0 rfl) ?_
      refine lv_bipush (v := (nI 60)) hx hb dX10_copyHead_16 (by decide) ?_
      refine lv_icmp_ge (tgt := 43) hx hb dX10_copyHead_18 (by decide) (fun c9 => absurd c9 (nI_ge (by omega) (by decide))) (fun _ => ?_)
      refine lv_aload_n hx hb dX10_copyHead_21 rfl (lv_at hl 3 rfl) ?_
      refine fh_get (C := RX10) (T := TX10) (N := 28) hx hb ht inX10 hown hE.1 hP hM9.m rfl 4 (by decide) (ht _ kw_694) (fun _ h9 => h9) (v := .ref (b 13)) rfl dX10_copyHead_22 ?_
      refine lv_iload_n hx hb dX10_copyHead_25 rfl (lv_at hl 2 rfl) ?_
      refine lv_iload_n hx hb dX10_copyHead_26 rfl (lv_at hl 0 rfl) ?_
      refine lv_iadd hx hb dX10_copyHead_27 ?_
      refine lv_topi (fun z9 ez9 => ?_)
      rw [show z9 = nI ((60 * nv) + o) from ez9.trans (nI_add _ _)]
      refine lv_aload_n hx hb dX10_copyHead_28 rfl (lv_at hl 3 rfl) ?_
      refine fh_get (C := RX10) (T := TX10) (N := 28) hx hb ht inX10 hown hE.1 hP hM9.m rfl 4 (by decide) (ht _ kw_694) (fun _ h9 => h9) (v := .ref (b 13)) rfl dX10_copyHead_29 ?_
      refine lv_iload_n hx hb dX10_copyHead_32 rfl (lv_at hl 1 rfl) ?_
      refine lv_iload_n hx hb dX10_copyHead_33 rfl (lv_at hl 0 rfl) ?_
      refine lv_iadd hx hb dX10_copyHead_34 ?_
      refine lv_topi (fun z9 ez9 => ?_)
      rw [show z9 = nI ((60 * (nv - 1)) + o) from ez9.trans (nI_add _ _)]
      refine fh_zald (k := ((60 * (nv - 1)) + o)) hx hb hE.1 hP hM9.a13 rfl (by omega) (by decide) dX10_copyHead_35 ?_
      refine fh_zast (k := ((60 * nv) + o)) hx hb hE.1 hP hS hM9.a13 (hM9.A13) rfl (by omega) (by decide) dX10_copyHead_36 (fun H locs hP hz hS => ?_)
      obtain ⟨h_1, eh_1⟩ : ∃ z, z = fh_up hh (b 13) (.inl (13, 2400, .inl (upd f2 ((60 * nv) + o) (vp_nar .boolean (f2 ((60 * (nv - 1)) + o)))))) := ⟨_, rfl⟩
      have hP : fh_P G vwCl h_1 H := by rw [eh_1]; exact hP
      have hM_1 := MG.w13 hM9 (f2 := upd f2 ((60 * nv) + o) (vp_nar .boolean (f2 ((60 * (nv - 1)) + o)))) eh_1
      refine lv_iinc (v := nI (o + 1)) (lv' := [(3, .int (nI (o + 1))), (2, .int (nI (60 * (nv - 1)))), (1, .int (nI (60 * nv))), (0, .ref ma)]) hx hb dX10_copyHead_37 hl (k := 0) rfl (nI_1 _) (by decide) rfl (fun ls hl => ?_)
      refine lv_goto (tgt := 15) hx hb dX10_copyHead_40 (by decide) ?_
      exact ih (o + 1) (by omega) h_1 _ hM_1 (bz_u hb2 _ _) (lt_s (fun q hq => by rw [show upd f2 (60 * nv + o) (vp_nar .boolean (f2 (60 * (nv - 1) + o))) (60 * nv + q) = f2 (60 * nv + q) by simp [upd, Nat.ne_of_lt hq]]; exact i1 q hq) (by rw [hb2, show upd f2 (60 * nv + o) (f2 (60 * (nv - 1) + o)) (60 * nv + o) = f2 (60 * (nv - 1) + o) by simp [upd]]; exact i2 _ (by omega))) (fun x hx => by rw [show upd f2 (60 * nv + o) (vp_nar .boolean (f2 (60 * (nv - 1) + o))) x = f2 x by simp [upd, show x ≠ 60 * nv + o by omega]]; exact i2 x hx) H locs ls hP hS (lv_sub hl [0, 1, 2, 3] rfl)
  exact loop 60 0 (by omega) h fH hM hzH (fun q hq => absurd hq (Nat.not_lt_zero q)) (fun _ _ => rfl) _ _ _ hP hS hl

set_option maxRecDepth 100000 in
set_option maxHeartbeats 4000000 in
theorem m_begin (l : Launch) (G : fG) (A : Nat → Prop) (h : FH) (sz : Nat) {ma : Nat} {b : Nat → Nat} {th : Int32} {no nv ns J nc nl nr : Nat} {fK : Nat → Int32} {fH : Nat → Int32} {fF : Nat → Int64} {fB : Nat → Int32} {fO : Nat → Int32} {fW : Nat → Int32} {fV : Nat → Int64} {fN : Nat → Int32} {cO : Nat → Int32} {cF : Nat → Int32} {cH : Nat → Int32} {cV : Nat → Int64} {fS : Nat → Int32} {fC : Nat → Int32} {lO : Nat → Int32} {lA : Nat → Int64} {rA : Nat → Int32} {rB : Nat → Int32} {rD : Nat → Int64} {fM : Nat → Int32} (hM : MG A h h ma b th no nv ns J nc nl nr fK fH fF fB fO fW fV fN cO cF cH cV fS fC lO lA rA rB rD fM) (bb : Nat) (hbb : bb < 40) (hns : ns ≤ 20) (hzO : bz fO) (hzW : bz fW) (hzH : bz fH) : Met l yX10_begin wsX10_begin { frames := 0, cells := 0, slots := 0, locals := 0 } (va_Pc [.ref ma, .int (nI bb)] (fh_Pre G A h sz)) (fh_Q G (fun v u => (ns = 20 ∧ v = some (.int (-1)) ∧ u = h) ∨ (ns < 20 ∧ v = some (.int (nI ns)) ∧ ∃ fB2 fO2 fW2 fV2, MG A h u ma b th no nv (ns + 1) J nc nl nr fK fH fF fB2 fO2 fW2 fV2 fN cO cF cH cV fS fC lO lA rA rB rD fM ∧ bz fO2 ∧ bz fW2 ∧ (∀ j, j ≠ ns → fB2 j = fB j ∧ fO2 j = fO j) ∧ fB2 ns = nI bb ∧ fO2 ns = 1 ∧ (∀ q, q < 60 → fW2 (60 * ns + q) = fH (60 * bb + q)) ∧ (∀ x, x < 60 * ns → fW2 x = fW x) ∧ (∀ p, p < 360 → fV2 (360 * ns + p) = fF (360 * bb + p)) ∧ ∀ x, x < 360 * ns → fV2 x = fV x)) A) 0 0 A := by
  refine fh_Met [.ref ma, .int (nI bb)] (by decide) rfl (Nat.le_of_ble_eq_true rfl) ?_
  intro p e s m below meth c hx hb hr hlocks hml hown hnm hts hsz hP hE hS ls hl
  have ht : ∀ w ∈ wB, w.before _ s = true := fun w h9 => hts w (List.mem_cons_of_mem _ h9)
  have hl : lv_has ls 3 [(0, .ref ma), (1, .int (nI bb))] := hl
  refine lv_aload_n hx hb dX10_begin_0 rfl (lv_at hl 0 rfl) ?_
  refine fh_get (C := RX10) (T := TX10) (N := 28) hx hb ht inX10 hown hE.1 hP hM.m rfl 6 (by decide) (ht _ kw_696) (fun _ h9 => h9) (v := .int (nI ns)) rfl dX10_begin_1 ?_
  refine lv_bipush (v := (nI 20)) hx hb dX10_begin_4 (by decide) ?_
  refine lv_icmp_ne (tgt := 11) hx hb dX10_begin_6 (by decide) (fun c1 => ?_) (fun c1 => ?_)
  · have e1 : ns < 20 := by
      rcases Nat.lt_or_ge ns 20 with z | z
      · exact z
      · exact absurd (congrArg nI (show ns = 20 by omega)) c1
    refine lv_aload_n hx hb dX10_begin_11 rfl (lv_at hl 0 rfl) ?_
    refine fh_get (C := RX10) (T := TX10) (N := 28) hx hb ht inX10 hown hE.1 hP hM.m rfl 7 (by decide) (ht _ kw_697) (fun _ h9 => h9) (v := .ref (b 15)) rfl dX10_begin_12 ?_
    refine lv_aload_n hx hb dX10_begin_15 rfl (lv_at hl 0 rfl) ?_
    refine fh_get (C := RX10) (T := TX10) (N := 28) hx hb ht inX10 hown hE.1 hP hM.m rfl 6 (by decide) (ht _ kw_696) (fun _ h9 => h9) (v := .int (nI ns)) rfl dX10_begin_16 ?_
    refine lv_iload_n hx hb dX10_begin_19 rfl (lv_at hl 1 rfl) ?_
    refine fh_iast (k := ns) hx hb hE.1 hP hS hM.a15 (hM.A15) rfl (e1) (by decide) dX10_begin_20 (fun H locs hP hz hS => ?_)
    obtain ⟨h_1, eh_1⟩ : ∃ z, z = fh_up h (b 15) (.inl (15, 20, .inl (upd fB ns (nI bb)))) := ⟨_, rfl⟩
    have hP : fh_P G vwCl h_1 H := by rw [eh_1]; exact hP
    have hM_1 := MG.w15 hM (f2 := upd fB ns (nI bb)) eh_1
    refine lv_aload_n hx hb dX10_begin_21 rfl (lv_at hl 0 rfl) ?_
    refine fh_get (C := RX10) (T := TX10) (N := 28) hx hb ht inX10 hown hE.1 hP hM_1.m rfl 8 (by decide) (ht _ kw_698) (fun _ h9 => h9) (v := .ref (b 16)) rfl dX10_begin_22 ?_
    refine lv_aload_n hx hb dX10_begin_25 rfl (lv_at hl 0 rfl) ?_
    refine fh_get (C := RX10) (T := TX10) (N := 28) hx hb ht inX10 hown hE.1 hP hM_1.m rfl 6 (by decide) (ht _ kw_696) (fun _ h9 => h9) (v := .int (nI ns)) rfl dX10_begin_26 ?_
    refine lv_iconst (v := (nI 1)) hx hb dX10_begin_29 (by decide) ?_
    refine fh_zast (k := ns) hx hb hE.1 hP hS hM_1.a16 (hM_1.A16) rfl (e1) (by decide) dX10_begin_30 (fun H locs hP hz hS => ?_)
    obtain ⟨h_2, eh_2⟩ : ∃ z, z = fh_up h_1 (b 16) (.inl (16, 20, .inl (upd fO ns (vp_nar .boolean (nI 1))))) := ⟨_, rfl⟩
    have hP : fh_P G vwCl h_2 H := by rw [eh_2]; exact hP
    have hM_2 := MG.w16 hM_1 (f2 := upd fO ns (vp_nar .boolean (nI 1))) eh_2
    refine lv_iconst (v := (nI 0)) hx hb dX10_begin_31 (by decide) ?_
    refine lv_istore_n (lv' := [(2, .int (nI 0)), (0, .ref ma), (1, .int (nI bb))]) hx hb dX10_begin_32 rfl hl (by decide) rfl (fun ls hl => ?_)
    have loop : ∀ (n o : Nat), o + n = 60 → ∀ (hh : FH) (f2 : Nat → Int32) (_ : MG A h hh ma b th no nv ns J nc nl nr fK fH fF (upd fB ns (nI bb)) (upd fO ns (vp_nar .boolean (nI 1))) f2 fV fN cO cF cH cV fS fC lO lA rA rB rD fM) (_ : bz f2) (_ : ∀ q, q < o → f2 (60 * ns + q) = fH (60 * bb + q)) (_ : ∀ x, x < 60 * ns → f2 x = fW x), ∀ (H : Heap) (locs : List Loc) (ls : Array Slot), fh_P G vwCl hh H → va_S A s.heap H locs → lv_has ls 3 [(2, .int (nI o)), (0, .ref ma), (1, .int (nI bb))] → W p l e (headSpec wsX10_begin { frames := 0, cells := 0, slots := 0, locals := 0 }).room s m [.ref ma, .int (nI bb)].toArray below meth c H locs 0 0 (MQ below (fh_Q G (fun v u => (ns = 20 ∧ v = some (.int (-1)) ∧ u = h) ∨ (ns < 20 ∧ v = some (.int (nI ns)) ∧ ∃ fB2 fO2 fW2 fV2, MG A h u ma b th no nv (ns + 1) J nc nl nr fK fH fF fB2 fO2 fW2 fV2 fN cO cF cH cV fS fC lO lA rA rB rD fM ∧ bz fO2 ∧ bz fW2 ∧ (∀ j, j ≠ ns → fB2 j = fB j ∧ fO2 j = fO j) ∧ fB2 ns = nI bb ∧ fO2 ns = 1 ∧ (∀ q, q < 60 → fW2 (60 * ns + q) = fH (60 * bb + q)) ∧ (∀ x, x < 60 * ns → fW2 x = fW x) ∧ (∀ p, p < 360 → fV2 (360 * ns + p) = fF (360 * bb + p)) ∧ ∀ x, x < 360 * ns → fV2 x = fV x)) A) [.ref ma, .int (nI bb)].toArray s 0 0 A) (F0 m 33 ls []) := by
      intro n
      induction n with
      | zero =>
        intro o hin hh f2 hM9 hb2 i1 i2 H locs ls hP hS hl
        have o60 : o = 60 := by omega
        refine lv_iload_n hx hb dX10_begin_33 rfl (lv_at hl 0 rfl) ?_
        refine lv_bipush (v := (nI 60)) hx hb dX10_begin_34 (by decide) ?_
        refine lv_icmp_ge (tgt := 70) hx hb dX10_begin_36 (by decide) (fun _ => ?_) (fun c9 => absurd (nI_le (by omega) (by omega)) c9)
        refine lv_iconst (v := (nI 0)) hx hb dX10_begin_70 (by decide) ?_
        refine lv_istore_n (lv' := [(2, .int (nI 0)), (0, .ref ma), (1, .int (nI bb))]) hx hb dX10_begin_71 rfl hl (by decide) rfl (fun ls hl => ?_)
        have lop2 : ∀ (n k : Nat), k + n = 360 → ∀ (hh : FH) (g2 : Nat → Int64) (_ : MG A h hh ma b th no nv ns J nc nl nr fK fH fF (upd fB ns (nI bb)) (upd fO ns (vp_nar .boolean (nI 1))) f2 g2 fN cO cF cH cV fS fC lO lA rA rB rD fM) (_ : ∀ q, q < k → g2 (360 * ns + q) = fF (360 * bb + q)) (_ : ∀ x, x < 360 * ns → g2 x = fV x), ∀ (H : Heap) (locs : List Loc) (ls : Array Slot), fh_P G vwCl hh H → va_S A s.heap H locs → lv_has ls 3 [(2, .int (nI k)), (0, .ref ma), (1, .int (nI bb))] → W p l e (headSpec wsX10_begin { frames := 0, cells := 0, slots := 0, locals := 0 }).room s m [.ref ma, .int (nI bb)].toArray below meth c H locs 0 0 (MQ below (fh_Q G (fun v u => (ns = 20 ∧ v = some (.int (-1)) ∧ u = h) ∨ (ns < 20 ∧ v = some (.int (nI ns)) ∧ ∃ fB2 fO2 fW2 fV2, MG A h u ma b th no nv (ns + 1) J nc nl nr fK fH fF fB2 fO2 fW2 fV2 fN cO cF cH cV fS fC lO lA rA rB rD fM ∧ bz fO2 ∧ bz fW2 ∧ (∀ j, j ≠ ns → fB2 j = fB j ∧ fO2 j = fO j) ∧ fB2 ns = nI bb ∧ fO2 ns = 1 ∧ (∀ q, q < 60 → fW2 (60 * ns + q) = fH (60 * bb + q)) ∧ (∀ x, x < 60 * ns → fW2 x = fW x) ∧ (∀ p, p < 360 → fV2 (360 * ns + p) = fF (360 * bb + p)) ∧ ∀ x, x < 360 * ns → fV2 x = fV x)) A) [.ref ma, .int (nI bb)].toArray s 0 0 A) (F0 m 72 ls []) := by
          intro n
          induction n with
          | zero =>
            intro k hin hh g2 hM9 j1 j2 H locs ls hP hS hl
            refine lv_iload_n hx hb dX10_begin_72 rfl (lv_at hl 0 rfl) ?_
            refine lv_sipush (v := (nI 360)) hx hb dX10_begin_73 (by decide) ?_
            refine lv_icmp_ge (tgt := 112) hx hb dX10_begin_76 (by decide) (fun _ => ?_) (fun c9 => absurd (nI_le (by omega) (by omega)) c9)
            refine lv_aload_n hx hb dX10_begin_112 rfl (lv_at hl 1 rfl) ?_
            refine lv_dup hx hb dX10_begin_113 rfl ?_
            refine fh_get (C := RX10) (T := TX10) (N := 28) hx hb ht inX10 hown hE.1 hP hM9.m rfl 6 (by decide) (ht _ kw_696) (fun _ h9 => h9) (v := .int (nI ns)) rfl dX10_begin_114 ?_
            refine lv_iconst (v := (nI 1)) hx hb dX10_begin_117 (by decide) ?_
            refine lv_iadd hx hb dX10_begin_118 ?_
            refine lv_topi (fun z9 ez9 => ?_)
            rw [show z9 = nI (ns + 1) from ez9.trans (nI_add _ _)]
            refine fh_put (C := RX10) (T := TX10) (N := 28) (t := .int) hx hb ht inX10 tyX10 tyX10_ok nmX10 hown hE.1 hP hS hM9.m (hM9.A0) rfl 6 (by decide) (ht _ kw_696) (fun _ h9 => h9) rfl (by decide +kernel) rfl rfl (Nat.le_of_ble_eq_true rfl) dX10_begin_119 (fun H locs hP hz hS => ?_)
            obtain ⟨h_3, eh_3⟩ : ∃ z, z = fh_up hh ma (.inr (10, [.int th, .int (nI no), .ref (b 12), .int (nI nv), .ref (b 13), .ref (b 14), .int (nI (ns + 1)), .ref (b 15), .ref (b 16), .ref (b 17), .ref (b 18), .ref (b 19), .ref (b 20), .ref (b 21), .ref (b 22), .ref (b 23), .ref (b 24), .int (nI J), .int (nI nc), .ref (b 25), .int (nI nl), .ref (b 26), .ref (b 27), .int (nI nr), .ref (b 28), .ref (b 29), .ref (b 30), .ref (b 31)])) := ⟨_, rfl⟩
            have hP : fh_P G vwCl h_3 H := by rw [eh_3]; exact hP
            have hM_3 := MG.sc hM9 (th2 := th) (no2 := no) (nv2 := nv) (ns2 := (ns + 1)) (J2 := J) (nc2 := nc) (nl2 := nl) (nr2 := nr) eh_3
            refine lv_aload_n hx hb dX10_begin_122 rfl (lv_at hl 1 rfl) ?_
            refine fh_get (C := RX10) (T := TX10) (N := 28) hx hb ht inX10 hown hE.1 hP hM_3.m rfl 6 (by decide) (ht _ kw_696) (fun _ h9 => h9) (v := .int (nI (ns + 1))) rfl dX10_begin_123 ?_
            refine lv_iconst (v := (nI 1)) hx hb dX10_begin_126 (by decide) ?_
            refine lv_isub hx hb dX10_begin_127 ?_
            refine lv_topi (fun z9 ez9 => ?_)
            rw [show z9 = nI ns from ez9.trans (pk_sub (by omega))]
            exact fh_iret hx hb hr hlocks (Or.inr ⟨e1, rfl, _, _, f2, g2, hM_3, bz_u hzO _ _, hb2, fun j hj => ⟨by simp [upd, hj], by simp [upd, hj]⟩, by simp [upd], (by simp only [upd, if_true]; rfl), fun q hq => i1 q (by omega), i2, fun q hq => j1 q (by omega), j2⟩) hP hS (Nat.le_of_ble_eq_true rfl) (Nat.le_of_ble_eq_true rfl) dX10_begin_128
          | succ n ih =>
            intro k hin hh g2 hM9 j1 j2 H locs ls hP hS hl
            refine lv_iload_n hx hb dX10_begin_72 rfl (lv_at hl 0 rfl) ?_
            refine lv_sipush (v := (nI 360)) hx hb dX10_begin_73 (by decide) ?_
            refine lv_icmp_ge (tgt := 112) hx hb dX10_begin_76 (by decide) (fun c9 => absurd c9 (nI_ge (by omega) (by decide))) (fun _ => ?_)
            refine lv_aload_n hx hb dX10_begin_79 rfl (lv_at hl 1 rfl) ?_
            refine fh_get (C := RX10) (T := TX10) (N := 28) hx hb ht inX10 hown hE.1 hP hM9.m rfl 10 (by decide) (ht _ kw_700) (fun _ h9 => h9) (v := .ref (b 18)) rfl dX10_begin_80 ?_
            refine lv_sipush (v := (nI 360)) hx hb dX10_begin_83 (by decide) ?_
            refine lv_aload_n hx hb dX10_begin_86 rfl (lv_at hl 1 rfl) ?_
            refine fh_get (C := RX10) (T := TX10) (N := 28) hx hb ht inX10 hown hE.1 hP hM9.m rfl 6 (by decide) (ht _ kw_696) (fun _ h9 => h9) (v := .int (nI ns)) rfl dX10_begin_87 ?_
            refine lv_imul hx hb dX10_begin_90 ?_
            refine lv_topi (fun z9 ez9 => ?_)
            rw [show z9 = nI (360 * ns) from ez9.trans (pk_mul _ _)]
            refine lv_iload_n hx hb dX10_begin_91 rfl (lv_at hl 0 rfl) ?_
            refine lv_iadd hx hb dX10_begin_92 ?_
            refine lv_topi (fun z9 ez9 => ?_)
            rw [show z9 = nI ((360 * ns) + k) from ez9.trans (nI_add _ _)]
            refine lv_aload_n hx hb dX10_begin_93 rfl (lv_at hl 1 rfl) ?_
            refine fh_get (C := RX10) (T := TX10) (N := 28) hx hb ht inX10 hown hE.1 hP hM9.m rfl 5 (by decide) (ht _ kw_695) (fun _ h9 => h9) (v := .ref (b 14)) rfl dX10_begin_94 ?_
            refine lv_sipush (v := (nI 360)) hx hb dX10_begin_97 (by decide) ?_
            refine lv_iload_n hx hb dX10_begin_100 rfl (lv_at hl 2 rfl) ?_
            refine lv_imul hx hb dX10_begin_101 ?_
            refine lv_topi (fun z9 ez9 => ?_)
            rw [show z9 = nI (360 * bb) from ez9.trans (pk_mul _ _)]
            refine lv_iload_n hx hb dX10_begin_102 rfl (lv_at hl 0 rfl) ?_
            refine lv_iadd hx hb dX10_begin_103 ?_
            refine lv_topi (fun z9 ez9 => ?_)
            rw [show z9 = nI ((360 * bb) + k) from ez9.trans (nI_add _ _)]
            refine fh_lald (k := ((360 * bb) + k)) hx hb hE.1 hP hM9.a14 rfl (by omega) (by decide) dX10_begin_104 ?_
            refine fh_last (k := ((360 * ns) + k)) hx hb hE.1 hP hS hM9.a18 (hM9.A18) rfl (by omega) (by decide) dX10_begin_105 (fun H locs hP hz hS => ?_)
            obtain ⟨h_3, eh_3⟩ : ∃ z, z = fh_up hh (b 18) (.inl (18, 7200, .inr (.inl (vp_updL g2 ((360 * ns) + k) (fF ((360 * bb) + k)))))) := ⟨_, rfl⟩
            have hP : fh_P G vwCl h_3 H := by rw [eh_3]; exact hP
            have hM_3 := MG.w18 hM9 (f2 := vp_updL g2 ((360 * ns) + k) (fF ((360 * bb) + k))) eh_3
            refine lv_iinc (v := nI (k + 1)) (lv' := [(2, .int (nI (k + 1))), (0, .ref ma), (1, .int (nI bb))]) hx hb dX10_begin_106 hl (k := 0) rfl (nI_1 _) (by decide) rfl (fun ls hl => ?_)
            refine lv_goto (tgt := 72) hx hb dX10_begin_109 (by decide) ?_
            exact ih (k + 1) (by omega) h_3 _ hM_3 (lt_s (fun q hq => by rw [show vp_updL g2 (360 * ns + k) (fF (360 * bb + k)) (360 * ns + q) = g2 (360 * ns + q) by simp [vp_updL, Nat.ne_of_lt hq]]; exact j1 q hq) (by simp [vp_updL])) (fun x hx => by rw [show vp_updL g2 (360 * ns + k) (fF (360 * bb + k)) x = g2 x by simp [vp_updL, show x ≠ 360 * ns + k by omega]]; exact j2 x hx) H locs ls hP hS (lv_sub hl [0, 1, 2] rfl)
        exact lop2 360 0 (by omega) hh fV hM9 (fun q hq => absurd hq (Nat.not_lt_zero q)) (fun _ _ => rfl) _ _ _ hP hS (lv_sub hl [0, 1, 2] rfl)
      | succ n ih =>
        intro o hin hh f2 hM9 hb2 i1 i2 H locs ls hP hS hl
        refine lv_iload_n hx hb dX10_begin_33 rfl (lv_at hl 0 rfl) ?_
        refine lv_bipush (v := (nI 60)) hx hb dX10_begin_34 (by decide) ?_
        refine lv_icmp_ge (tgt := 70) hx hb dX10_begin_36 (by decide) (fun c9 => absurd c9 (nI_ge (by omega) (by decide))) (fun _ => ?_)
        refine lv_aload_n hx hb dX10_begin_39 rfl (lv_at hl 1 rfl) ?_
        refine fh_get (C := RX10) (T := TX10) (N := 28) hx hb ht inX10 hown hE.1 hP hM9.m rfl 9 (by decide) (ht _ kw_699) (fun _ h9 => h9) (v := .ref (b 17)) rfl dX10_begin_40 ?_
        refine lv_bipush (v := (nI 60)) hx hb dX10_begin_43 (by decide) ?_
        refine lv_aload_n hx hb dX10_begin_45 rfl (lv_at hl 1 rfl) ?_
        refine fh_get (C := RX10) (T := TX10) (N := 28) hx hb ht inX10 hown hE.1 hP hM9.m rfl 6 (by decide) (ht _ kw_696) (fun _ h9 => h9) (v := .int (nI ns)) rfl dX10_begin_46 ?_
        refine lv_imul hx hb dX10_begin_49 ?_
        refine lv_topi (fun z9 ez9 => ?_)
        rw [show z9 = nI (60 * ns) from ez9.trans (pk_mul _ _)]
        refine lv_iload_n hx hb dX10_begin_50 rfl (lv_at hl 0 rfl) ?_
        refine lv_iadd hx hb dX10_begin_51 ?_
        refine lv_topi (fun z9 ez9 => ?_)
        rw [show z9 = nI ((60 * ns) + o) from ez9.trans (nI_add _ _)]
        refine lv_aload_n hx hb dX10_begin_52 rfl (lv_at hl 1 rfl) ?_
        refine fh_get (C := RX10) (T := TX10) (N := 28) hx hb ht inX10 hown hE.1 hP hM9.m rfl 4 (by decide) (ht _ kw_694) (fun _ h9 => h9) (v := .ref (b 13)) rfl dX10_begin_53 ?_
        refine lv_bipush (v := (nI 60)) hx hb dX10_begin_56 (by decide) ?_
        refine lv_iload_n hx hb dX10_begin_58 rfl (lv_at hl 2 rfl) ?_
        refine lv_imul hx hb dX10_begin_59 ?_
        refine lv_topi (fun z9 ez9 => ?_)
        rw [show z9 = nI (60 * bb) from ez9.trans (pk_mul _ _)]
        refine lv_iload_n hx hb dX10_begin_60 rfl (lv_at hl 0 rfl) ?_
        refine lv_iadd hx hb dX10_begin_61 ?_
        refine lv_topi (fun z9 ez9 => ?_)
        rw [show z9 = nI ((60 * bb) + o) from ez9.trans (nI_add _ _)]
        refine fh_zald (k := ((60 * bb) + o)) hx hb hE.1 hP hM9.a13 rfl (by omega) (by decide) dX10_begin_62 ?_
        refine fh_zast (k := ((60 * ns) + o)) hx hb hE.1 hP hS hM9.a17 (hM9.A17) rfl (by omega) (by decide) dX10_begin_63 (fun H locs hP hz hS => ?_)
        obtain ⟨h_3, eh_3⟩ : ∃ z, z = fh_up hh (b 17) (.inl (17, 1200, .inl (upd f2 ((60 * ns) + o) (vp_nar .boolean (fH ((60 * bb) + o)))))) := ⟨_, rfl⟩
        have hP : fh_P G vwCl h_3 H := by rw [eh_3]; exact hP
        have hM_3 := MG.w17 hM9 (f2 := upd f2 ((60 * ns) + o) (vp_nar .boolean (fH ((60 * bb) + o)))) eh_3
        refine lv_iinc (v := nI (o + 1)) (lv' := [(2, .int (nI (o + 1))), (0, .ref ma), (1, .int (nI bb))]) hx hb dX10_begin_64 hl (k := 0) rfl (nI_1 _) (by decide) rfl (fun ls hl => ?_)
        refine lv_goto (tgt := 33) hx hb dX10_begin_67 (by decide) ?_
        exact ih (o + 1) (by omega) h_3 _ hM_3 (bz_u hb2 _ _) (lt_s (fun q hq => by rw [show upd f2 (60 * ns + o) (vp_nar .boolean (fH (60 * bb + o))) (60 * ns + q) = f2 (60 * ns + q) by simp [upd, Nat.ne_of_lt hq]]; exact i1 q hq) (by rw [hzH]; simp [upd])) (fun x hx => by rw [show upd f2 (60 * ns + o) (vp_nar .boolean (fH (60 * bb + o))) x = f2 x by simp [upd, show x ≠ 60 * ns + o by omega]]; exact i2 x hx) H locs ls hP hS (lv_sub hl [0, 1, 2] rfl)
    exact loop 60 0 (by omega) h_2 fW hM_2 hzW (fun q hq => absurd hq (Nat.not_lt_zero q)) (fun _ _ => rfl) _ _ _ hP hS hl
  · have e1 : ns = 20 := (nI_eq (by omega) (by decide)).mp c1
    refine lv_iconst (v := (-1)) hx hb dX10_begin_9 (by decide) ?_
    exact fh_iret hx hb hr hlocks (Or.inl ⟨e1, rfl, rfl⟩) hP hS (Nat.le_of_ble_eq_true rfl) (Nat.le_of_ble_eq_true rfl) dX10_begin_10

set_option maxRecDepth 100000 in
set_option maxHeartbeats 4000000 in
theorem q_object (l : Launch) (G : fG) (A : Nat → Prop) (h : FH) (sz : Nat) (ma : Nat) (b : Nat → Nat) (th : Int32) (no nv ns : Nat) (V : Vs) (S : Ss) (LK : List Ar) (RL : Rl) (J : Nat) (C : CL) (M : Nat → Int32) (hp0 : RepM A h h ma b th no nv ns V S LK RL J C M) (hB9 : Bd no nv ns S RL J C) (hLk : LK.length ≤ 10) (kk : Int32) : Met l yX10_object wsX10_object { frames := 2, cells := 0, slots := 0, locals := 65 } (va_Pc [.ref ma, .int kk] (fh_Pre G A h sz)) (fh_Q G (fun v u => ∃ ans : Int32, v = some (.int ans) ∧ ((oObj no nv V kk).1 = 0 → ans = (oObj no nv V kk).2.1) ∧ RepM A h u ma b (nI (oObj no nv V kk).1) ((oObj no nv V kk).2.2.1) ((oObj no nv V kk).2.2.2.1) ns ((oObj no nv V kk).2.2.2.2) S LK RL J C M) A) 0 0 A := by
  refine fh_Met [.ref ma, .int kk] (by decide) rfl (Nat.le_of_ble_eq_true rfl) ?_
  intro p e s m below meth c hx hb hr hlocks hml hown hnm hts hsz hP hE hS ls hl
  have ht : ∀ w ∈ wB, w.before _ s = true := fun w h9 => hts w (List.mem_cons_of_mem _ h9)
  have hl : lv_has ls 2 [(0, .ref ma), (1, .int kk)] := hl
  obtain ⟨fK, fH, fF, fB, fO, fW, fV, fN, cO, cF, cH, cV, fS, fC, lO, lA, rA, rB, rD, fM, hM, hX⟩ := hp0
  obtain ⟨hno, hnv, hnv0, hns, hbs, hCl, hCb, hJ, hRn, hRb⟩ := id hB9
  obtain ⟨⟨zH, zO, zW, zcH⟩, xV, xS, xN, xL, xR, xC, xM⟩ := id hX
  cases hkx : ix kk 10 with
  | none =>
    refine lv_aload_n hx hb dX10_object_0 rfl (lv_at hl 0 rfl) ?_
    refine lv_iload_n hx hb dX10_object_1 rfl (lv_at hl 1 rfl) ?_
    refine fh_cS (As := [.int kk]) (rest := [.ref ma]) ⟨hx, hb, hml, hown, ht⟩ (m_isKind l G A h _ kk) (va_cwS 1 ht (gS kw_784 kw_785 kw_5 kw_786) rfl rfl rfl yd_X10_isKind.2 ⟨(Nat.le_of_ble_eq_true rfl), (Nat.le_of_ble_eq_true rfl)⟩) hP hE hS rfl hl.1 rfl (Nat.le_of_ble_eq_true rfl) dX10_object_2 ⟨(Nat.le_of_ble_eq_true rfl), (Nat.le_of_ble_eq_true rfl)⟩ (fun v u H locs hp hP hz hS => ?_)
    obtain ⟨rfl, eu⟩ := hp
    rw [eu] at hP
    refine W.eq (g2 := F0 m 5 ls [.int (bI (ix kk 10).isSome), .ref ma]) rfl ?_
    refine lv_if_eq (tgt := 12) hx hb dX10_object_5 (by decide) (fun _ => ?_) (fun c9 => absurd (by rw [hkx]; rfl) c9)
    refine lv_iconst (v := (nI 1)) hx hb dX10_object_12 (by decide) ?_
    refine fh_put (C := RX10) (T := TX10) (N := 28) (t := .int) hx hb ht inX10 tyX10 tyX10_ok nmX10 hown hE.1 hP hS hM.m (hM.A0) rfl 0 (by decide) (ht _ kw_690) (fun _ h9 => h9) rfl (by decide +kernel) rfl rfl (Nat.le_of_ble_eq_true rfl) dX10_object_13 (fun H locs hP hz hS => ?_)
    obtain ⟨h_1, eh_1⟩ : ∃ z, z = fh_up h ma (.inr (10, [.int (nI 1), .int (nI no), .ref (b 12), .int (nI nv), .ref (b 13), .ref (b 14), .int (nI ns), .ref (b 15), .ref (b 16), .ref (b 17), .ref (b 18), .ref (b 19), .ref (b 20), .ref (b 21), .ref (b 22), .ref (b 23), .ref (b 24), .int (nI J), .int (nI C.length), .ref (b 25), .int (nI LK.length), .ref (b 26), .ref (b 27), .int (nI RL.length), .ref (b 28), .ref (b 29), .ref (b 30), .ref (b 31)])) := ⟨_, rfl⟩
    have hP : fh_P G vwCl h_1 H := by rw [eh_1]; exact hP
    have hM_1 := MG.sc hM (th2 := (nI 1)) (no2 := no) (nv2 := nv) (ns2 := ns) (J2 := J) (nc2 := C.length) (nl2 := LK.length) (nr2 := RL.length) eh_1
    refine lv_aload_n hx hb dX10_object_16 rfl (lv_at hl 0 rfl) ?_
    refine fh_get (C := RX10) (T := TX10) (N := 28) hx hb ht inX10 hown hE.1 hP hM_1.m rfl 0 (by decide) (ht _ kw_690) (fun _ h9 => h9) (v := .int (nI 1)) rfl dX10_object_17 ?_
    refine lv_if_eq (tgt := 25) hx hb dX10_object_20 (by decide) (fun c9 => absurd c9 (by decide)) (fun _ => ?_)
    refine lv_iconst (v := (nI 0)) hx hb dX10_object_23 (by decide) ?_
    have ep : oObj no nv V kk = (1, 0, no, nv, V) := by simp [oObj, hkx]
    exact fh_iret hx hb hr hlocks (⟨_, rfl, (fun z => by rw [ep] at z; cases z), by rw [ep]; exact ⟨_, _, _, _, _, _, _, _, _, _, _, _, _, _, _, _, _, _, _, _, hM_1, hX⟩⟩) hP hS (Nat.le_of_ble_eq_true rfl) (Nat.le_of_ble_eq_true rfl) dX10_object_24
  | some k9 =>
    refine lv_aload_n hx hb dX10_object_0 rfl (lv_at hl 0 rfl) ?_
    refine lv_iload_n hx hb dX10_object_1 rfl (lv_at hl 1 rfl) ?_
    refine fh_cS (As := [.int kk]) (rest := [.ref ma]) ⟨hx, hb, hml, hown, ht⟩ (m_isKind l G A h _ kk) (va_cwS 1 ht (gS kw_784 kw_785 kw_5 kw_786) rfl rfl rfl yd_X10_isKind.2 ⟨(Nat.le_of_ble_eq_true rfl), (Nat.le_of_ble_eq_true rfl)⟩) hP hE hS rfl hl.1 rfl (Nat.le_of_ble_eq_true rfl) dX10_object_2 ⟨(Nat.le_of_ble_eq_true rfl), (Nat.le_of_ble_eq_true rfl)⟩ (fun v u H locs hp hP hz hS => ?_)
    obtain ⟨rfl, eu⟩ := hp
    rw [eu] at hP
    refine W.eq (g2 := F0 m 5 ls [.int (bI (ix kk 10).isSome), .ref ma]) rfl ?_
    refine lv_if_eq (tgt := 12) hx hb dX10_object_5 (by decide) (fun c9 => absurd c9 (by rw [hkx]; show ¬ bI true = 0; decide)) (fun _ => ?_)
    refine lv_iconst (v := (nI 0)) hx hb dX10_object_8 (by decide) ?_
    refine lv_goto (tgt := 13) hx hb dX10_object_9 (by decide) ?_
    refine fh_put (C := RX10) (T := TX10) (N := 28) (t := .int) hx hb ht inX10 tyX10 tyX10_ok nmX10 hown hE.1 hP hS hM.m (hM.A0) rfl 0 (by decide) (ht _ kw_690) (fun _ h9 => h9) rfl (by decide +kernel) rfl rfl (Nat.le_of_ble_eq_true rfl) dX10_object_13 (fun H locs hP hz hS => ?_)
    obtain ⟨h_1, eh_1⟩ : ∃ z, z = fh_up h ma (.inr (10, [.int (nI 0), .int (nI no), .ref (b 12), .int (nI nv), .ref (b 13), .ref (b 14), .int (nI ns), .ref (b 15), .ref (b 16), .ref (b 17), .ref (b 18), .ref (b 19), .ref (b 20), .ref (b 21), .ref (b 22), .ref (b 23), .ref (b 24), .int (nI J), .int (nI C.length), .ref (b 25), .int (nI LK.length), .ref (b 26), .ref (b 27), .int (nI RL.length), .ref (b 28), .ref (b 29), .ref (b 30), .ref (b 31)])) := ⟨_, rfl⟩
    have hP : fh_P G vwCl h_1 H := by rw [eh_1]; exact hP
    have hM_1 := MG.sc hM (th2 := (nI 0)) (no2 := no) (nv2 := nv) (ns2 := ns) (J2 := J) (nc2 := C.length) (nl2 := LK.length) (nr2 := RL.length) eh_1
    refine lv_aload_n hx hb dX10_object_16 rfl (lv_at hl 0 rfl) ?_
    refine fh_get (C := RX10) (T := TX10) (N := 28) hx hb ht inX10 hown hE.1 hP hM_1.m rfl 0 (by decide) (ht _ kw_690) (fun _ h9 => h9) (v := .int (nI 0)) rfl dX10_object_17 ?_
    refine lv_if_eq (tgt := 25) hx hb dX10_object_20 (by decide) (fun _ => ?_) (fun c9 => absurd (rfl) c9)
    refine lv_aload_n hx hb dX10_object_25 rfl (lv_at hl 0 rfl) ?_
    refine fh_get (C := RX10) (T := TX10) (N := 28) hx hb ht inX10 hown hE.1 hP hM_1.m rfl 1 (by decide) (ht _ kw_691) (fun _ h9 => h9) (v := .int (nI no)) rfl dX10_object_26 ?_
    refine lv_bipush (v := (nI 60)) hx hb dX10_object_29 (by decide) ?_
    refine lv_icmp_eq (tgt := 43) hx hb dX10_object_31 (by decide) (fun d1 => ?_) (fun d1 => ?_)
    · have e1 : no = 60 := (nI_eq (by omega) (by decide)).mp d1
      refine lv_iconst (v := (-1)) hx hb dX10_object_43 (by decide) ?_
      have ep : oObj no nv V kk = (0, -1, no, nv, V) := by simp [oObj, hkx, e1]
      exact fh_iret hx hb hr hlocks (⟨_, rfl, fun _ => (by rw [ep] <;> rfl), by rw [ep]; exact ⟨_, _, _, _, _, _, _, _, _, _, _, _, _, _, _, _, _, _, _, _, hM_1, hX⟩⟩) hP hS (by first | exact (Nat.le_of_ble_eq_true rfl) | omega) (by first | exact (Nat.le_of_ble_eq_true rfl) | omega) dX10_object_44
    · have e1 : no < 60 := by
        rcases Nat.lt_or_ge no 60 with z | z
        · exact z
        · exact absurd (congrArg nI (show no = 60 by omega)) d1
      refine lv_aload_n hx hb dX10_object_34 rfl (lv_at hl 0 rfl) ?_
      refine fh_get (C := RX10) (T := TX10) (N := 28) hx hb ht inX10 hown hE.1 hP hM_1.m rfl 3 (by decide) (ht _ kw_693) (fun _ h9 => h9) (v := .int (nI nv)) rfl dX10_object_35 ?_
      refine lv_bipush (v := (nI 40)) hx hb dX10_object_38 (by decide) ?_
      refine lv_icmp_ne (tgt := 45) hx hb dX10_object_40 (by decide) (fun d2 => ?_) (fun d2 => ?_)
      · have e2 : nv < 40 := by
          rcases Nat.lt_or_ge nv 40 with z | z
          · exact z
          · exact absurd (congrArg nI (show nv = 40 by omega)) d2
        refine lv_aload_n hx hb dX10_object_45 rfl (lv_at hl 0 rfl) ?_
        refine fh_cV (q := (RX10, TX10, 28)) (As := []) (rest := []) (b := ma) ⟨hx, hb, hml, hown, ht⟩ (m_copyHead l G A h_1 _ hM_1.re hnv0 e2 zH) (cwV 0 ht (gV kw_787 kw_789 kp_15 kw_5 kw_790) rfl rfl rfl yd_X10_copyHead ⟨(Nat.le_of_ble_eq_true rfl), (Nat.le_of_ble_eq_true rfl)⟩) hP hE hS hM_1.m rfl rfl hl.1 rfl (Nat.le_of_ble_eq_true rfl) dX10_object_46 ⟨(Nat.le_of_ble_eq_true rfl), (Nat.le_of_ble_eq_true rfl)⟩ (fun v u H locs hp hP hz hS => ?_)
        obtain ⟨fH2, fF2, rfl, hM2, zH2, i1, i2, j1, j2⟩ := hp
        refine W.eq (g2 := F0 m 49 ls []) rfl ?_
        have hM3 := MG.tr hM_1.kept hM2
        refine lv_aload_n hx hb dX10_object_49 rfl (lv_at hl 0 rfl) ?_
        refine fh_get (C := RX10) (T := TX10) (N := 28) hx hb ht inX10 hown hE.1 hP hM3.m rfl 2 (by decide) (ht _ kw_692) (fun _ h9 => h9) (v := .ref (b 12)) rfl dX10_object_50 ?_
        refine lv_aload_n hx hb dX10_object_53 rfl (lv_at hl 0 rfl) ?_
        refine fh_get (C := RX10) (T := TX10) (N := 28) hx hb ht inX10 hown hE.1 hP hM3.m rfl 1 (by decide) (ht _ kw_691) (fun _ h9 => h9) (v := .int (nI no)) rfl dX10_object_54 ?_
        refine lv_iload_n hx hb dX10_object_57 rfl (lv_at hl 1 rfl) ?_
        refine fh_iast (k := no) hx hb hE.1 hP hS hM3.a12 (hM3.A12) rfl (e1) (by decide) dX10_object_58 (fun H locs hP hz hS => ?_)
        obtain ⟨h_2, eh_2⟩ : ∃ z, z = fh_up u (b 12) (.inl (12, 60, .inl (upd fK no kk))) := ⟨_, rfl⟩
        have hP : fh_P G vwCl h_2 H := by rw [eh_2]; exact hP
        have hM_2 := MG.w12 hM3 (f2 := upd fK no kk) eh_2
        refine lv_aload_n hx hb dX10_object_59 rfl (lv_at hl 0 rfl) ?_
        refine fh_get (C := RX10) (T := TX10) (N := 28) hx hb ht inX10 hown hE.1 hP hM_2.m rfl 4 (by decide) (ht _ kw_694) (fun _ h9 => h9) (v := .ref (b 13)) rfl dX10_object_60 ?_
        refine lv_bipush (v := (nI 60)) hx hb dX10_object_63 (by decide) ?_
        refine lv_aload_n hx hb dX10_object_65 rfl (lv_at hl 0 rfl) ?_
        refine fh_cV (q := (RX10, TX10, 28)) (As := []) (rest := [.int (nI 60), .ref (b 13)]) (b := ma) ⟨hx, hb, hml, hown, ht⟩ (m_head l G A h_2 _ hM_2.re (Nat.succ_pos nv)) (cwV 0 ht (gV kw_791 kw_793 kp_16 kw_5 kw_794) rfl rfl rfl yd_X10_head ⟨(Nat.le_of_ble_eq_true rfl), (Nat.le_of_ble_eq_true rfl)⟩) hP hE hS hM_2.m rfl rfl hl.1 rfl (Nat.le_of_ble_eq_true rfl) dX10_object_66 ⟨(Nat.le_of_ble_eq_true rfl), (Nat.le_of_ble_eq_true rfl)⟩ (fun v u9 H locs hp hP hz hS => ?_)
        obtain ⟨rfl, eu9⟩ := hp
        rw [eu9] at hP
        refine W.eq (g2 := F0 m 69 ls [.int (nI nv), .int (nI 60), .ref (b 13)]) rfl ?_
        refine lv_imul hx hb dX10_object_69 ?_
        refine lv_topi (fun z9 ez9 => ?_)
        rw [show z9 = nI (60 * nv) from ez9.trans (pk_mul _ _)]
        refine lv_aload_n hx hb dX10_object_70 rfl (lv_at hl 0 rfl) ?_
        refine fh_get (C := RX10) (T := TX10) (N := 28) hx hb ht inX10 hown hE.1 hP hM_2.m rfl 1 (by decide) (ht _ kw_691) (fun _ h9 => h9) (v := .int (nI no)) rfl dX10_object_71 ?_
        refine lv_iadd hx hb dX10_object_74 ?_
        refine lv_topi (fun z9 ez9 => ?_)
        rw [show z9 = nI ((60 * nv) + no) from ez9.trans (nI_add _ _)]
        refine lv_iconst (v := (nI 1)) hx hb dX10_object_75 (by decide) ?_
        refine fh_zast (k := ((60 * nv) + no)) hx hb hE.1 hP hS hM_2.a13 (hM_2.A13) rfl (by omega) (by decide) dX10_object_76 (fun H locs hP hz hS => ?_)
        obtain ⟨h_3, eh_3⟩ : ∃ z, z = fh_up h_2 (b 13) (.inl (13, 2400, .inl (upd fH2 ((60 * nv) + no) (vp_nar .boolean (nI 1))))) := ⟨_, rfl⟩
        have hP : fh_P G vwCl h_3 H := by rw [eh_3]; exact hP
        have hM_3 := MG.w13 hM_2 (f2 := upd fH2 ((60 * nv) + no) (vp_nar .boolean (nI 1))) eh_3
        refine lv_aload_n hx hb dX10_object_77 rfl (lv_at hl 0 rfl) ?_
        refine lv_dup hx hb dX10_object_78 rfl ?_
        refine fh_get (C := RX10) (T := TX10) (N := 28) hx hb ht inX10 hown hE.1 hP hM_3.m rfl 1 (by decide) (ht _ kw_691) (fun _ h9 => h9) (v := .int (nI no)) rfl dX10_object_79 ?_
        refine lv_iconst (v := (nI 1)) hx hb dX10_object_82 (by decide) ?_
        refine lv_iadd hx hb dX10_object_83 ?_
        refine lv_topi (fun z9 ez9 => ?_)
        rw [show z9 = nI (no + 1) from ez9.trans (nI_add _ _)]
        refine fh_put (C := RX10) (T := TX10) (N := 28) (t := .int) hx hb ht inX10 tyX10 tyX10_ok nmX10 hown hE.1 hP hS hM_3.m (hM_3.A0) rfl 1 (by decide) (ht _ kw_691) (fun _ h9 => h9) rfl (by decide +kernel) rfl rfl (Nat.le_of_ble_eq_true rfl) dX10_object_84 (fun H locs hP hz hS => ?_)
        obtain ⟨h_4, eh_4⟩ : ∃ z, z = fh_up h_3 ma (.inr (10, [.int (nI 0), .int (nI (no + 1)), .ref (b 12), .int (nI (nv + 1)), .ref (b 13), .ref (b 14), .int (nI ns), .ref (b 15), .ref (b 16), .ref (b 17), .ref (b 18), .ref (b 19), .ref (b 20), .ref (b 21), .ref (b 22), .ref (b 23), .ref (b 24), .int (nI J), .int (nI C.length), .ref (b 25), .int (nI LK.length), .ref (b 26), .ref (b 27), .int (nI RL.length), .ref (b 28), .ref (b 29), .ref (b 30), .ref (b 31)])) := ⟨_, rfl⟩
        have hP : fh_P G vwCl h_4 H := by rw [eh_4]; exact hP
        have hM_4 := MG.sc hM_3 (th2 := (nI 0)) (no2 := (no + 1)) (nv2 := (nv + 1)) (ns2 := ns) (J2 := J) (nc2 := C.length) (nl2 := LK.length) (nr2 := RL.length) eh_4
        refine lv_aload_n hx hb dX10_object_87 rfl (lv_at hl 0 rfl) ?_
        refine fh_get (C := RX10) (T := TX10) (N := 28) hx hb ht inX10 hown hE.1 hP hM_4.m rfl 1 (by decide) (ht _ kw_691) (fun _ h9 => h9) (v := .int (nI (no + 1))) rfl dX10_object_88 ?_
        refine lv_iconst (v := (nI 1)) hx hb dX10_object_91 (by decide) ?_
        refine lv_isub hx hb dX10_object_92 ?_
        refine lv_topi (fun z9 ez9 => ?_)
        rw [show z9 = nI no from ez9.trans (pk_sub (by omega))]
        have hro := xV (nv - 1) (by omega)
        have hX2 := hX.ver (no' := no + 1) (T := upN (V (nv - 1)) no (some (fun _ => 0))) (Nat.le_succ no) (bz_u zH2 (60 * nv + no) (nI 1)) (fun x hx => by rw [show upd fH2 (60 * nv + no) (vp_nar .boolean (nI 1)) x = fH2 x by simp [upd, show x ≠ 60 * nv + no by omega]]; exact i2 x hx) j2 (by rw [rw1_u]; exact (hro.1.congr (fun o ho => i1 o ho) (fun p hp => j1 p hp)).up (fun q hq hn => upN_n _ _ hn) (fun _ _ _ _ _ => rfl) (by rw [upN_s]; rfl) (fun r2 hr2 k hk => by cases hr2; exact (j1 _ (by omega)).trans (hro.2 no (Nat.le_refl no) e1 k hk))) ((hro.2.congr (fun p hp => j1 p hp)).mono (Nat.le_succ no))
        have ep : oObj no nv V kk = (0, nI no, no + 1, nv + 1, upN V nv (upN (V (nv - 1)) no (some (fun _ => 0)))) := by simp [oObj, hkx, Nat.ne_of_lt e1, Nat.ne_of_lt e2]
        exact fh_iret hx hb hr hlocks (⟨_, rfl, fun _ => (by rw [ep] <;> rfl), by rw [ep]; exact ⟨_, _, _, _, _, _, _, _, _, _, _, _, _, _, _, _, _, _, _, _, hM_4, hX2⟩⟩) hP hS (by first | exact (Nat.le_of_ble_eq_true rfl) | omega) (by first | exact (Nat.le_of_ble_eq_true rfl) | omega) dX10_object_93
      · have e2 : nv = 40 := (nI_eq (by omega) (by decide)).mp d2
        refine lv_iconst (v := (-1)) hx hb dX10_object_43 (by decide) ?_
        have ep : oObj no nv V kk = (0, -1, no, nv, V) := by simp [oObj, hkx, e2]
        exact fh_iret hx hb hr hlocks (⟨_, rfl, fun _ => (by rw [ep] <;> rfl), by rw [ep]; exact ⟨_, _, _, _, _, _, _, _, _, _, _, _, _, _, _, _, _, _, _, _, hM_1, hX⟩⟩) hP hS (by first | exact (Nat.le_of_ble_eq_true rfl) | omega) (by first | exact (Nat.le_of_ble_eq_true rfl) | omega) dX10_object_44

set_option maxRecDepth 100000 in
set_option maxHeartbeats 4000000 in
theorem q_session (l : Launch) (G : fG) (A : Nat → Prop) (h : FH) (sz : Nat) (ma : Nat) (b : Nat → Nat) (th : Int32) (no nv ns : Nat) (V : Vs) (S : Ss) (LK : List Ar) (RL : Rl) (J : Nat) (C : CL) (M : Nat → Int32) (hp0 : RepM A h h ma b th no nv ns V S LK RL J C M) (hB9 : Bd no nv ns S RL J C) (hLk : LK.length ≤ 10)  : Met l yX10_session wsX10_session { frames := 2, cells := 0, slots := 0, locals := 65 } (va_Pc [.ref ma] (fh_Pre G A h sz)) (fh_Q G (fun v u => ∃ ans : Int32, v = some (.int ans) ∧ (ans = (oBegin ns V S (nv - 1)).1) ∧ RepM A h u ma b (nI 0) no nv ((oBegin ns V S (nv - 1)).2.1) V ((oBegin ns V S (nv - 1)).2.2) LK RL J C M) A) 0 0 A := by
  refine fh_Met [.ref ma] (by decide) rfl (Nat.le_of_ble_eq_true rfl) ?_
  intro p e s m below meth c hx hb hr hlocks hml hown hnm hts hsz hP hE hS ls hl
  have ht : ∀ w ∈ wB, w.before _ s = true := fun w h9 => hts w (List.mem_cons_of_mem _ h9)
  have hl : lv_has ls 1 [(0, .ref ma)] := hl
  obtain ⟨fK, fH, fF, fB, fO, fW, fV, fN, cO, cF, cH, cV, fS, fC, lO, lA, rA, rB, rD, fM, hM, hX⟩ := hp0
  obtain ⟨hno, hnv, hnv0, hns, hbs, hCl, hCb, hJ, hRn, hRb⟩ := id hB9
  obtain ⟨⟨zH, zO, zW, zcH⟩, xV, xS, xN, xL, xR, xC, xM⟩ := id hX
  refine lv_aload_n hx hb dX10_session_0 rfl (lv_at hl 0 rfl) ?_
  refine lv_iconst (v := (nI 0)) hx hb dX10_session_1 (by decide) ?_
  refine fh_put (C := RX10) (T := TX10) (N := 28) (t := .int) hx hb ht inX10 tyX10 tyX10_ok nmX10 hown hE.1 hP hS hM.m (hM.A0) rfl 0 (by decide) (ht _ kw_690) (fun _ h9 => h9) rfl (by decide +kernel) rfl rfl (Nat.le_of_ble_eq_true rfl) dX10_session_2 (fun H locs hP hz hS => ?_)
  obtain ⟨h_1, eh_1⟩ : ∃ z, z = fh_up h ma (.inr (10, [.int (nI 0), .int (nI no), .ref (b 12), .int (nI nv), .ref (b 13), .ref (b 14), .int (nI ns), .ref (b 15), .ref (b 16), .ref (b 17), .ref (b 18), .ref (b 19), .ref (b 20), .ref (b 21), .ref (b 22), .ref (b 23), .ref (b 24), .int (nI J), .int (nI C.length), .ref (b 25), .int (nI LK.length), .ref (b 26), .ref (b 27), .int (nI RL.length), .ref (b 28), .ref (b 29), .ref (b 30), .ref (b 31)])) := ⟨_, rfl⟩
  have hP : fh_P G vwCl h_1 H := by rw [eh_1]; exact hP
  have hM_1 := MG.sc hM (th2 := (nI 0)) (no2 := no) (nv2 := nv) (ns2 := ns) (J2 := J) (nc2 := C.length) (nl2 := LK.length) (nr2 := RL.length) eh_1
  refine lv_aload_n hx hb dX10_session_5 rfl (lv_at hl 0 rfl) ?_
  refine lv_aload_n hx hb dX10_session_6 rfl (lv_at hl 0 rfl) ?_
  refine fh_cV (q := (RX10, TX10, 28)) (As := []) (rest := [.ref ma]) (b := ma) ⟨hx, hb, hml, hown, ht⟩ (m_head l G A h_1 _ hM_1.re hnv0) (cwV 0 ht (gV kw_791 kw_793 kp_16 kw_5 kw_794) rfl rfl rfl yd_X10_head ⟨(Nat.le_of_ble_eq_true rfl), (Nat.le_of_ble_eq_true rfl)⟩) hP hE hS hM_1.m rfl rfl hl.1 rfl (Nat.le_of_ble_eq_true rfl) dX10_session_7 ⟨(Nat.le_of_ble_eq_true rfl), (Nat.le_of_ble_eq_true rfl)⟩ (fun v u H locs hp hP hz hS => ?_)
  obtain ⟨rfl, eu⟩ := hp
  rw [eu] at hP
  refine W.eq (g2 := F0 m 10 ls [.int (nI (nv - 1)), .ref ma]) rfl ?_
  refine fh_cV (q := (RX10, TX10, 28)) (As := [.int (nI (nv - 1))]) (rest := []) (b := ma) ⟨hx, hb, hml, hown, ht⟩ (m_begin l G A h_1 _ hM_1.re (nv - 1) (by omega) hns zO zW zH) (cwV 1 ht (gV kw_799 kw_801 kp_17 kw_5 kw_802) rfl rfl rfl yd_X10_begin ⟨(Nat.le_of_ble_eq_true rfl), (Nat.le_of_ble_eq_true rfl)⟩) hP hE hS hM_1.m rfl rfl hl.1 rfl (Nat.le_of_ble_eq_true rfl) dX10_session_10 ⟨(Nat.le_of_ble_eq_true rfl), (Nat.le_of_ble_eq_true rfl)⟩ (fun v u H locs hp hP hz hS => ?_)
  rcases hp with ⟨e1, rfl, eu⟩ | ⟨e1, rfl, fB2, fO2, fW2, fV2, hM2, g1, g2, g3, g4, g5, g6, g7, g8, g9⟩
  · rw [eu] at hP
    refine W.eq (g2 := F0 m 13 ls [.int (-1)]) rfl ?_
    have ep : oBegin ns V S (nv - 1) = (-1, ns, S) := by simp [oBegin, e1]
    exact fh_iret hx hb hr hlocks (⟨_, rfl, by rw [ep] <;> rfl, by rw [ep]; exact ⟨_, _, _, _, _, _, _, _, _, _, _, _, _, _, _, _, _, _, _, _, hM_1, hX⟩⟩) hP hS (by first | exact (Nat.le_of_ble_eq_true rfl) | omega) (by first | exact (Nat.le_of_ble_eq_true rfl) | omega) dX10_session_13
  · refine W.eq (g2 := F0 m 13 ls [.int (nI ns)]) rfl ?_
    have hM3 := MG.tr hM_1.kept hM2
    have ep : oBegin ns V S (nv - 1) = (nI ns, ns + 1, upN S ns (nv - 1, V (nv - 1), true, [], fun _ => 0)) := by simp [oBegin, Nat.ne_of_lt e1]
    exact fh_iret hx hb hr hlocks (⟨_, rfl, by rw [ep] <;> rfl, by rw [ep]; exact ⟨_, _, _, _, _, _, _, _, _, _, _, _, _, _, _, _, _, _, _, _, hM3, hX.begin e1 (by omega) g1 g2 g3 g4 g5 g6 g7 g8 g9⟩⟩) hP hS (by first | exact (Nat.le_of_ble_eq_true rfl) | omega) (by first | exact (Nat.le_of_ble_eq_true rfl) | omega) dX10_session_13

set_option maxRecDepth 100000 in
set_option maxHeartbeats 4000000 in
theorem q_branch (l : Launch) (G : fG) (A : Nat → Prop) (h : FH) (sz : Nat) (ma : Nat) (b : Nat → Nat) (th : Int32) (no nv ns : Nat) (V : Vs) (S : Ss) (LK : List Ar) (RL : Rl) (J : Nat) (C : CL) (M : Nat → Int32) (hp0 : RepM A h h ma b th no nv ns V S LK RL J C M) (hB9 : Bd no nv ns S RL J C) (hLk : LK.length ≤ 10) (x : Int32) : Met l yX10_branch wsX10_branch { frames := 2, cells := 0, slots := 0, locals := 65 } (va_Pc [.ref ma, .int x] (fh_Pre G A h sz)) (fh_Q G (fun v u => ∃ ans : Int32, v = some (.int ans) ∧ ((oBranch nv ns V S x).1 = 0 → ans = (oBranch nv ns V S x).2.1) ∧ RepM A h u ma b (nI (oBranch nv ns V S x).1) no nv ((oBranch nv ns V S x).2.2.1) V ((oBranch nv ns V S x).2.2.2) LK RL J C M) A) 0 0 A := by
  refine fh_Met [.ref ma, .int x] (by decide) rfl (Nat.le_of_ble_eq_true rfl) ?_
  intro p e s m below meth c hx hb hr hlocks hml hown hnm hts hsz hP hE hS ls hl
  have ht : ∀ w ∈ wB, w.before _ s = true := fun w h9 => hts w (List.mem_cons_of_mem _ h9)
  have hl : lv_has ls 2 [(0, .ref ma), (1, .int x)] := hl
  obtain ⟨fK, fH, fF, fB, fO, fW, fV, fN, cO, cF, cH, cV, fS, fC, lO, lA, rA, rB, rD, fM, hM, hX⟩ := hp0
  obtain ⟨hno, hnv, hnv0, hns, hbs, hCl, hCb, hJ, hRn, hRb⟩ := id hB9
  obtain ⟨⟨zH, zO, zW, zcH⟩, xV, xS, xN, xL, xR, xC, xM⟩ := id hX
  rcases pk_ix x (n := nv) (by omega) with z | z | ⟨bb, hbb, rfl⟩
  · refine lv_aload_n hx hb dX10_branch_0 rfl (lv_at hl 0 rfl) ?_
    refine lv_iload_n hx hb dX10_branch_1 rfl (lv_at hl 1 rfl) ?_
    refine lv_if_lt (tgt := 17) hx hb dX10_branch_2 (by decide) (fun _ => ?_) (fun c9 => absurd (z) c9)
    refine lv_iconst (v := (nI 1)) hx hb dX10_branch_17 (by decide) ?_
    refine fh_put (C := RX10) (T := TX10) (N := 28) (t := .int) hx hb ht inX10 tyX10 tyX10_ok nmX10 hown hE.1 hP hS hM.m (hM.A0) rfl 0 (by decide) (ht _ kw_690) (fun _ h9 => h9) rfl (by decide +kernel) rfl rfl (Nat.le_of_ble_eq_true rfl) dX10_branch_18 (fun H locs hP hz hS => ?_)
    obtain ⟨h_1, eh_1⟩ : ∃ z, z = fh_up h ma (.inr (10, [.int (nI 1), .int (nI no), .ref (b 12), .int (nI nv), .ref (b 13), .ref (b 14), .int (nI ns), .ref (b 15), .ref (b 16), .ref (b 17), .ref (b 18), .ref (b 19), .ref (b 20), .ref (b 21), .ref (b 22), .ref (b 23), .ref (b 24), .int (nI J), .int (nI C.length), .ref (b 25), .int (nI LK.length), .ref (b 26), .ref (b 27), .int (nI RL.length), .ref (b 28), .ref (b 29), .ref (b 30), .ref (b 31)])) := ⟨_, rfl⟩
    have hP : fh_P G vwCl h_1 H := by rw [eh_1]; exact hP
    have hM_1 := MG.sc hM (th2 := (nI 1)) (no2 := no) (nv2 := nv) (ns2 := ns) (J2 := J) (nc2 := C.length) (nl2 := LK.length) (nr2 := RL.length) eh_1
    refine lv_aload_n hx hb dX10_branch_21 rfl (lv_at hl 0 rfl) ?_
    refine fh_get (C := RX10) (T := TX10) (N := 28) hx hb ht inX10 hown hE.1 hP hM_1.m rfl 0 (by decide) (ht _ kw_690) (fun _ h9 => h9) (v := .int (nI 1)) rfl dX10_branch_22 ?_
    refine lv_if_ne (tgt := 36) hx hb dX10_branch_25 (by decide) (fun _ => ?_) (fun c9 => absurd c9 (by decide))
    refine lv_iconst (v := (nI 0)) hx hb dX10_branch_36 (by decide) ?_
    have ep : oBranch nv ns V S x = (1, 0, ns, S) := by simp [oBranch, ix_none (Or.inl z)]
    exact fh_iret hx hb hr hlocks (⟨_, rfl, (fun z => by rw [ep] at z; cases z), by rw [ep]; exact ⟨_, _, _, _, _, _, _, _, _, _, _, _, _, _, _, _, _, _, _, _, hM_1, hX⟩⟩) hP hS (Nat.le_of_ble_eq_true rfl) (Nat.le_of_ble_eq_true rfl) dX10_branch_37
  · refine lv_aload_n hx hb dX10_branch_0 rfl (lv_at hl 0 rfl) ?_
    refine lv_iload_n hx hb dX10_branch_1 rfl (lv_at hl 1 rfl) ?_
    refine lv_if_lt (tgt := 17) hx hb dX10_branch_2 (by decide) (fun c9 => absurd c9 (fun q => by rw [Int32.lt_iff_toInt_lt] at q; rw [Int32.le_iff_toInt_le, nI_toInt (by omega)] at z; have : (0 : Int32).toInt = 0 := rfl; omega)) (fun _ => ?_)
    refine lv_iload_n hx hb dX10_branch_5 rfl (lv_at hl 1 rfl) ?_
    refine lv_aload_n hx hb dX10_branch_6 rfl (lv_at hl 0 rfl) ?_
    refine fh_get (C := RX10) (T := TX10) (N := 28) hx hb ht inX10 hown hE.1 hP hM.m rfl 3 (by decide) (ht _ kw_693) (fun _ h9 => h9) (v := .int (nI nv)) rfl dX10_branch_7 ?_
    refine lv_icmp_ge (tgt := 17) hx hb dX10_branch_10 (by decide) (fun _ => ?_) (fun c9 => absurd (z) c9)
    refine lv_iconst (v := (nI 1)) hx hb dX10_branch_17 (by decide) ?_
    refine fh_put (C := RX10) (T := TX10) (N := 28) (t := .int) hx hb ht inX10 tyX10 tyX10_ok nmX10 hown hE.1 hP hS hM.m (hM.A0) rfl 0 (by decide) (ht _ kw_690) (fun _ h9 => h9) rfl (by decide +kernel) rfl rfl (Nat.le_of_ble_eq_true rfl) dX10_branch_18 (fun H locs hP hz hS => ?_)
    obtain ⟨h_1, eh_1⟩ : ∃ z, z = fh_up h ma (.inr (10, [.int (nI 1), .int (nI no), .ref (b 12), .int (nI nv), .ref (b 13), .ref (b 14), .int (nI ns), .ref (b 15), .ref (b 16), .ref (b 17), .ref (b 18), .ref (b 19), .ref (b 20), .ref (b 21), .ref (b 22), .ref (b 23), .ref (b 24), .int (nI J), .int (nI C.length), .ref (b 25), .int (nI LK.length), .ref (b 26), .ref (b 27), .int (nI RL.length), .ref (b 28), .ref (b 29), .ref (b 30), .ref (b 31)])) := ⟨_, rfl⟩
    have hP : fh_P G vwCl h_1 H := by rw [eh_1]; exact hP
    have hM_1 := MG.sc hM (th2 := (nI 1)) (no2 := no) (nv2 := nv) (ns2 := ns) (J2 := J) (nc2 := C.length) (nl2 := LK.length) (nr2 := RL.length) eh_1
    refine lv_aload_n hx hb dX10_branch_21 rfl (lv_at hl 0 rfl) ?_
    refine fh_get (C := RX10) (T := TX10) (N := 28) hx hb ht inX10 hown hE.1 hP hM_1.m rfl 0 (by decide) (ht _ kw_690) (fun _ h9 => h9) (v := .int (nI 1)) rfl dX10_branch_22 ?_
    refine lv_if_ne (tgt := 36) hx hb dX10_branch_25 (by decide) (fun _ => ?_) (fun c9 => absurd c9 (by decide))
    refine lv_iconst (v := (nI 0)) hx hb dX10_branch_36 (by decide) ?_
    have ep : oBranch nv ns V S x = (1, 0, ns, S) := by simp [oBranch, ix_none (Or.inr z)]
    exact fh_iret hx hb hr hlocks (⟨_, rfl, (fun z => by rw [ep] at z; cases z), by rw [ep]; exact ⟨_, _, _, _, _, _, _, _, _, _, _, _, _, _, _, _, _, _, _, _, hM_1, hX⟩⟩) hP hS (Nat.le_of_ble_eq_true rfl) (Nat.le_of_ble_eq_true rfl) dX10_branch_37
  · refine lv_aload_n hx hb dX10_branch_0 rfl (lv_at hl 0 rfl) ?_
    refine lv_iload_n hx hb dX10_branch_1 rfl (lv_at hl 1 rfl) ?_
    refine lv_if_lt (tgt := 17) hx hb dX10_branch_2 (by decide) (fun c9 => absurd c9 (nI_pos (by omega))) (fun _ => ?_)
    refine lv_iload_n hx hb dX10_branch_5 rfl (lv_at hl 1 rfl) ?_
    refine lv_aload_n hx hb dX10_branch_6 rfl (lv_at hl 0 rfl) ?_
    refine fh_get (C := RX10) (T := TX10) (N := 28) hx hb ht inX10 hown hE.1 hP hM.m rfl 3 (by decide) (ht _ kw_693) (fun _ h9 => h9) (v := .int (nI nv)) rfl dX10_branch_7 ?_
    refine lv_icmp_ge (tgt := 17) hx hb dX10_branch_10 (by decide) (fun c9 => absurd c9 (nI_ge hbb (by omega))) (fun _ => ?_)
    refine lv_iconst (v := (nI 0)) hx hb dX10_branch_13 (by decide) ?_
    refine lv_goto (tgt := 18) hx hb dX10_branch_14 (by decide) ?_
    refine fh_put (C := RX10) (T := TX10) (N := 28) (t := .int) hx hb ht inX10 tyX10 tyX10_ok nmX10 hown hE.1 hP hS hM.m (hM.A0) rfl 0 (by decide) (ht _ kw_690) (fun _ h9 => h9) rfl (by decide +kernel) rfl rfl (Nat.le_of_ble_eq_true rfl) dX10_branch_18 (fun H locs hP hz hS => ?_)
    obtain ⟨h_1, eh_1⟩ : ∃ z, z = fh_up h ma (.inr (10, [.int (nI 0), .int (nI no), .ref (b 12), .int (nI nv), .ref (b 13), .ref (b 14), .int (nI ns), .ref (b 15), .ref (b 16), .ref (b 17), .ref (b 18), .ref (b 19), .ref (b 20), .ref (b 21), .ref (b 22), .ref (b 23), .ref (b 24), .int (nI J), .int (nI C.length), .ref (b 25), .int (nI LK.length), .ref (b 26), .ref (b 27), .int (nI RL.length), .ref (b 28), .ref (b 29), .ref (b 30), .ref (b 31)])) := ⟨_, rfl⟩
    have hP : fh_P G vwCl h_1 H := by rw [eh_1]; exact hP
    have hM_1 := MG.sc hM (th2 := (nI 0)) (no2 := no) (nv2 := nv) (ns2 := ns) (J2 := J) (nc2 := C.length) (nl2 := LK.length) (nr2 := RL.length) eh_1
    refine lv_aload_n hx hb dX10_branch_21 rfl (lv_at hl 0 rfl) ?_
    refine fh_get (C := RX10) (T := TX10) (N := 28) hx hb ht inX10 hown hE.1 hP hM_1.m rfl 0 (by decide) (ht _ kw_690) (fun _ h9 => h9) (v := .int (nI 0)) rfl dX10_branch_22 ?_
    refine lv_if_ne (tgt := 36) hx hb dX10_branch_25 (by decide) (fun c9 => absurd (rfl) c9) (fun _ => ?_)
    refine lv_aload_n hx hb dX10_branch_28 rfl (lv_at hl 0 rfl) ?_
    refine lv_iload_n hx hb dX10_branch_29 rfl (lv_at hl 1 rfl) ?_
    refine fh_cV (q := (RX10, TX10, 28)) (As := [.int (nI bb)]) (rest := []) (b := ma) ⟨hx, hb, hml, hown, ht⟩ (m_begin l G A h_1 _ hM_1.re bb (by omega) hns zO zW zH) (cwV 1 ht (gV kw_799 kw_801 kp_17 kw_5 kw_802) rfl rfl rfl yd_X10_begin ⟨(Nat.le_of_ble_eq_true rfl), (Nat.le_of_ble_eq_true rfl)⟩) hP hE hS hM_1.m rfl rfl hl.1 rfl (Nat.le_of_ble_eq_true rfl) dX10_branch_30 ⟨(Nat.le_of_ble_eq_true rfl), (Nat.le_of_ble_eq_true rfl)⟩ (fun v u H locs hp hP hz hS => ?_)
    rcases hp with ⟨e1, rfl, eu⟩ | ⟨e1, rfl, fB2, fO2, fW2, fV2, hM2, g1, g2, g3, g4, g5, g6, g7, g8, g9⟩
    · rw [eu] at hP
      refine W.eq (g2 := F0 m 33 ls [.int (-1)]) rfl ?_
      refine lv_goto (tgt := 37) hx hb dX10_branch_33 (by decide) ?_
      have ep : oBranch nv ns V S (nI bb) = (0, -1, ns, S) := by simp [oBranch, ix_some hbb (by omega), oBegin, e1]
      exact fh_iret hx hb hr hlocks (⟨_, rfl, fun _ => (by rw [ep] <;> rfl), by rw [ep]; exact ⟨_, _, _, _, _, _, _, _, _, _, _, _, _, _, _, _, _, _, _, _, hM_1, hX⟩⟩) hP hS (by first | exact (Nat.le_of_ble_eq_true rfl) | omega) (by first | exact (Nat.le_of_ble_eq_true rfl) | omega) dX10_branch_37
    · refine W.eq (g2 := F0 m 33 ls [.int (nI ns)]) rfl ?_
      have hM3 := MG.tr hM_1.kept hM2
      refine lv_goto (tgt := 37) hx hb dX10_branch_33 (by decide) ?_
      have ep : oBranch nv ns V S (nI bb) = (0, nI ns, ns + 1, upN S ns (bb, V bb, true, [], fun _ => 0)) := by simp [oBranch, ix_some hbb (by omega), oBegin, Nat.ne_of_lt e1]
      exact fh_iret hx hb hr hlocks (⟨_, rfl, fun _ => (by rw [ep] <;> rfl), by rw [ep]; exact ⟨_, _, _, _, _, _, _, _, _, _, _, _, _, _, _, _, _, _, _, _, hM3, hX.begin e1 hbb g1 g2 g3 g4 g5 g6 g7 g8 g9⟩⟩) hP hS (by first | exact (Nat.le_of_ble_eq_true rfl) | omega) (by first | exact (Nat.le_of_ble_eq_true rfl) | omega) dX10_branch_37

set_option maxRecDepth 100000 in
set_option maxHeartbeats 4000000 in
theorem q_version (l : Launch) (G : fG) (A : Nat → Prop) (h : FH) (sz : Nat) (ma : Nat) (b : Nat → Nat) (th : Int32) (no nv ns : Nat) (V : Vs) (S : Ss) (LK : List Ar) (RL : Rl) (J : Nat) (C : CL) (M : Nat → Int32) (hp0 : RepM A h h ma b th no nv ns V S LK RL J C M) (hB9 : Bd no nv ns S RL J C) (hLk : LK.length ≤ 10)  : Met l yX10_version wsX10_version { frames := 2, cells := 0, slots := 0, locals := 65 } (va_Pc [.ref ma] (fh_Pre G A h sz)) (fh_Q G (fun v u => ∃ ans : Int32, v = some (.int ans) ∧ (ans = nI (nv - 1)) ∧ RepM A h u ma b (nI 0) no nv ns V S LK RL J C M) A) 0 0 A := by
  refine fh_Met [.ref ma] (by decide) rfl (Nat.le_of_ble_eq_true rfl) ?_
  intro p e s m below meth c hx hb hr hlocks hml hown hnm hts hsz hP hE hS ls hl
  have ht : ∀ w ∈ wB, w.before _ s = true := fun w h9 => hts w (List.mem_cons_of_mem _ h9)
  have hl : lv_has ls 1 [(0, .ref ma)] := hl
  obtain ⟨fK, fH, fF, fB, fO, fW, fV, fN, cO, cF, cH, cV, fS, fC, lO, lA, rA, rB, rD, fM, hM, hX⟩ := hp0
  obtain ⟨hno, hnv, hnv0, hns, hbs, hCl, hCb, hJ, hRn, hRb⟩ := id hB9
  obtain ⟨⟨zH, zO, zW, zcH⟩, xV, xS, xN, xL, xR, xC, xM⟩ := id hX
  refine lv_aload_n hx hb dX10_version_0 rfl (lv_at hl 0 rfl) ?_
  refine lv_iconst (v := (nI 0)) hx hb dX10_version_1 (by decide) ?_
  refine fh_put (C := RX10) (T := TX10) (N := 28) (t := .int) hx hb ht inX10 tyX10 tyX10_ok nmX10 hown hE.1 hP hS hM.m (hM.A0) rfl 0 (by decide) (ht _ kw_690) (fun _ h9 => h9) rfl (by decide +kernel) rfl rfl (Nat.le_of_ble_eq_true rfl) dX10_version_2 (fun H locs hP hz hS => ?_)
  obtain ⟨h_1, eh_1⟩ : ∃ z, z = fh_up h ma (.inr (10, [.int (nI 0), .int (nI no), .ref (b 12), .int (nI nv), .ref (b 13), .ref (b 14), .int (nI ns), .ref (b 15), .ref (b 16), .ref (b 17), .ref (b 18), .ref (b 19), .ref (b 20), .ref (b 21), .ref (b 22), .ref (b 23), .ref (b 24), .int (nI J), .int (nI C.length), .ref (b 25), .int (nI LK.length), .ref (b 26), .ref (b 27), .int (nI RL.length), .ref (b 28), .ref (b 29), .ref (b 30), .ref (b 31)])) := ⟨_, rfl⟩
  have hP : fh_P G vwCl h_1 H := by rw [eh_1]; exact hP
  have hM_1 := MG.sc hM (th2 := (nI 0)) (no2 := no) (nv2 := nv) (ns2 := ns) (J2 := J) (nc2 := C.length) (nl2 := LK.length) (nr2 := RL.length) eh_1
  refine lv_aload_n hx hb dX10_version_5 rfl (lv_at hl 0 rfl) ?_
  refine fh_cV (q := (RX10, TX10, 28)) (As := []) (rest := []) (b := ma) ⟨hx, hb, hml, hown, ht⟩ (m_head l G A h_1 _ hM_1.re hnv0) (cwV 0 ht (gV kw_791 kw_793 kp_16 kw_5 kw_794) rfl rfl rfl yd_X10_head ⟨(Nat.le_of_ble_eq_true rfl), (Nat.le_of_ble_eq_true rfl)⟩) hP hE hS hM_1.m rfl rfl hl.1 rfl (Nat.le_of_ble_eq_true rfl) dX10_version_6 ⟨(Nat.le_of_ble_eq_true rfl), (Nat.le_of_ble_eq_true rfl)⟩ (fun v u H locs hp hP hz hS => ?_)
  obtain ⟨rfl, eu⟩ := hp
  rw [eu] at hP
  refine W.eq (g2 := F0 m 9 ls [.int (nI (nv - 1))]) rfl ?_
  exact fh_iret hx hb hr hlocks (⟨_, rfl, rfl, ⟨_, _, _, _, _, _, _, _, _, _, _, _, _, _, _, _, _, _, _, _, hM_1, hX⟩⟩) hP hS (Nat.le_of_ble_eq_true rfl) (Nat.le_of_ble_eq_true rfl) dX10_version_9

set_option maxRecDepth 100000 in
set_option maxHeartbeats 4000000 in
theorem q_at (l : Launch) (G : fG) (A : Nat → Prop) (h : FH) (sz : Nat) (ma : Nat) (b : Nat → Nat) (th : Int32) (no nv ns : Nat) (V : Vs) (S : Ss) (LK : List Ar) (RL : Rl) (J : Nat) (C : CL) (M : Nat → Int32) (hp0 : RepM A h h ma b th no nv ns V S LK RL J C M) (hB9 : Bd no nv ns S RL J C) (hLk : LK.length ≤ 10) (y z : Int32) : Met l yX10_at wsX10_at { frames := 2, cells := 0, slots := 0, locals := 65 } (va_Pc [.ref ma, .int y, .int z] (fh_Pre G A h sz)) (fh_Q G (fun v u => ∃ ans : Int64, v = some (.long ans) ∧ ((oAt no nv V y z).1 = 0 → ans = (oAt no nv V y z).2) ∧ RepM A h u ma b (nI (oAt no nv V y z).1) no nv ns V S LK RL J C M) A) 0 0 A := by
  refine fh_Met [.ref ma, .int y, .int z] (by decide) rfl (Nat.le_of_ble_eq_true rfl) ?_
  intro p e s m below meth c hx hb hr hlocks hml hown hnm hts hsz hP hE hS ls hl
  have ht : ∀ w ∈ wB, w.before _ s = true := fun w h9 => hts w (List.mem_cons_of_mem _ h9)
  have hl : lv_has ls 4 [(0, .ref ma), (1, .int y), (2, .int z)] := hl
  obtain ⟨fK, fH, fF, fB, fO, fW, fV, fN, cO, cF, cH, cV, fS, fC, lO, lA, rA, rB, rD, fM, hM, hX⟩ := hp0
  obtain ⟨hno, hnv, hnv0, hns, hbs, hCl, hCb, hJ, hRn, hRb⟩ := id hB9
  obtain ⟨⟨zH, zO, zW, zcH⟩, xV, xS, xN, xL, xR, xC, xM⟩ := id hX
  cases hyy : ix y no with
  | none =>
    refine lv_aload_n hx hb dX10_at_0 rfl (lv_at hl 0 rfl) ?_
    refine lv_iload_n hx hb dX10_at_1 rfl (lv_at hl 1 rfl) ?_
    refine fh_cV (q := (RX10, TX10, 28)) (As := [.int y]) (rest := []) (b := ma) ⟨hx, hb, hml, hown, ht⟩ (m_isObj l G A h _ hM.re hno y) (cwV 1 ht (gV kw_815 kw_817 kp_19 kw_5 kw_818) rfl rfl rfl yd_X10_isObject ⟨(Nat.le_of_ble_eq_true rfl), (Nat.le_of_ble_eq_true rfl)⟩) hP hE hS hM.m rfl rfl hl.1 rfl (Nat.le_of_ble_eq_true rfl) dX10_at_2 ⟨(Nat.le_of_ble_eq_true rfl), (Nat.le_of_ble_eq_true rfl)⟩ (fun v u H locs hp hP hz hS => ?_)
    obtain ⟨rfl, eu⟩ := hp
    rw [eu] at hP
    refine W.eq (g2 := F0 m 5 ls [.int (bI (ix y no).isSome)]) rfl ?_
    refine lv_if_eq (tgt := 19) hx hb dX10_at_5 (by decide) (fun _ => ?_) (fun c9 => absurd (by rw [hyy]; rfl) c9)
    refine lv_iconst (v := (nI 0)) hx hb dX10_at_19 (by decide) ?_
    refine lv_istore_n (lv' := [(3, .int (nI 0)), (0, .ref ma), (1, .int y), (2, .int z)]) hx hb dX10_at_20 rfl hl (by decide) rfl (fun ls hl => ?_)
    refine lv_aload_n hx hb dX10_at_21 rfl (lv_at hl 1 rfl) ?_
    refine lv_iload_n hx hb dX10_at_22 rfl (lv_at hl 0 rfl) ?_
    refine lv_if_ne (tgt := 30) hx hb dX10_at_23 (by decide) (fun c9 => absurd (rfl) c9) (fun _ => ?_)
    refine lv_iconst (v := (nI 1)) hx hb dX10_at_26 (by decide) ?_
    refine lv_goto (tgt := 43) hx hb dX10_at_27 (by decide) ?_
    refine fh_put (C := RX10) (T := TX10) (N := 28) (t := .int) hx hb ht inX10 tyX10 tyX10_ok nmX10 hown hE.1 hP hS hM.m (hM.A0) rfl 0 (by decide) (ht _ kw_690) (fun _ h9 => h9) rfl (by decide +kernel) rfl rfl (Nat.le_of_ble_eq_true rfl) dX10_at_43 (fun H locs hP hz hS => ?_)
    obtain ⟨h_1, eh_1⟩ : ∃ z, z = fh_up h ma (.inr (10, [.int (nI 1), .int (nI no), .ref (b 12), .int (nI nv), .ref (b 13), .ref (b 14), .int (nI ns), .ref (b 15), .ref (b 16), .ref (b 17), .ref (b 18), .ref (b 19), .ref (b 20), .ref (b 21), .ref (b 22), .ref (b 23), .ref (b 24), .int (nI J), .int (nI C.length), .ref (b 25), .int (nI LK.length), .ref (b 26), .ref (b 27), .int (nI RL.length), .ref (b 28), .ref (b 29), .ref (b 30), .ref (b 31)])) := ⟨_, rfl⟩
    have hP : fh_P G vwCl h_1 H := by rw [eh_1]; exact hP
    have hM_1 := MG.sc hM (th2 := (nI 1)) (no2 := no) (nv2 := nv) (ns2 := ns) (J2 := J) (nc2 := C.length) (nl2 := LK.length) (nr2 := RL.length) eh_1
    refine lv_aload_n hx hb dX10_at_46 rfl (lv_at hl 1 rfl) ?_
    refine fh_get (C := RX10) (T := TX10) (N := 28) hx hb ht inX10 hown hE.1 hP hM_1.m rfl 0 (by decide) (ht _ kw_690) (fun _ h9 => h9) (v := .int (nI 1)) rfl dX10_at_47 ?_
    refine lv_if_ne (tgt := 62) hx hb dX10_at_50 (by decide) (fun _ => ?_) (fun c9 => absurd c9 (by decide))
    refine lv_lconst (v := 0) hx hb dX10_at_62 (by decide) ?_
    have ep : oAt no nv V y z = (1, 0) := by simp [oAt, hyy]
    exact fh_lret hx hb hr hlocks (⟨_, rfl, (fun z => by rw [ep] at z; cases z), by rw [ep]; exact ⟨_, _, _, _, _, _, _, _, _, _, _, _, _, _, _, _, _, _, _, _, hM_1, hX⟩⟩) hP hS (Nat.le_of_ble_eq_true rfl) (Nat.le_of_ble_eq_true rfl) dX10_at_63
  | some o =>
    cases hz9 : ix z 6 with
    | none =>
      refine lv_aload_n hx hb dX10_at_0 rfl (lv_at hl 0 rfl) ?_
      refine lv_iload_n hx hb dX10_at_1 rfl (lv_at hl 1 rfl) ?_
      refine fh_cV (q := (RX10, TX10, 28)) (As := [.int y]) (rest := []) (b := ma) ⟨hx, hb, hml, hown, ht⟩ (m_isObj l G A h _ hM.re hno y) (cwV 1 ht (gV kw_815 kw_817 kp_19 kw_5 kw_818) rfl rfl rfl yd_X10_isObject ⟨(Nat.le_of_ble_eq_true rfl), (Nat.le_of_ble_eq_true rfl)⟩) hP hE hS hM.m rfl rfl hl.1 rfl (Nat.le_of_ble_eq_true rfl) dX10_at_2 ⟨(Nat.le_of_ble_eq_true rfl), (Nat.le_of_ble_eq_true rfl)⟩ (fun v u H locs hp hP hz hS => ?_)
      obtain ⟨rfl, eu⟩ := hp
      rw [eu] at hP
      refine W.eq (g2 := F0 m 5 ls [.int (bI (ix y no).isSome)]) rfl ?_
      refine lv_if_eq (tgt := 19) hx hb dX10_at_5 (by decide) (fun c9 => absurd c9 (by rw [hyy]; show ¬ bI true = 0; decide)) (fun _ => ?_)
      refine lv_iload_n hx hb dX10_at_8 rfl (lv_at hl 2 rfl) ?_
      refine fh_cS (As := [.int z]) (rest := []) ⟨hx, hb, hml, hown, ht⟩ (m_isField l G A h _ z) (va_cwS 1 ht (gS kw_819 kw_820 kw_5 kw_821) rfl rfl rfl yd_X10_isField.2 ⟨(Nat.le_of_ble_eq_true rfl), (Nat.le_of_ble_eq_true rfl)⟩) hP hE hS rfl hl.1 rfl (Nat.le_of_ble_eq_true rfl) dX10_at_9 ⟨(Nat.le_of_ble_eq_true rfl), (Nat.le_of_ble_eq_true rfl)⟩ (fun v u H locs hp hP hz hS => ?_)
      obtain ⟨rfl, eu⟩ := hp
      rw [eu] at hP
      refine W.eq (g2 := F0 m 12 ls [.int (bI (ix z 6).isSome)]) rfl ?_
      refine lv_if_eq (tgt := 19) hx hb dX10_at_12 (by decide) (fun _ => ?_) (fun c9 => absurd (by rw [hz9]; rfl) c9)
      refine lv_iconst (v := (nI 0)) hx hb dX10_at_19 (by decide) ?_
      refine lv_istore_n (lv' := [(3, .int (nI 0)), (0, .ref ma), (1, .int y), (2, .int z)]) hx hb dX10_at_20 rfl hl (by decide) rfl (fun ls hl => ?_)
      refine lv_aload_n hx hb dX10_at_21 rfl (lv_at hl 1 rfl) ?_
      refine lv_iload_n hx hb dX10_at_22 rfl (lv_at hl 0 rfl) ?_
      refine lv_if_ne (tgt := 30) hx hb dX10_at_23 (by decide) (fun c9 => absurd (rfl) c9) (fun _ => ?_)
      refine lv_iconst (v := (nI 1)) hx hb dX10_at_26 (by decide) ?_
      refine lv_goto (tgt := 43) hx hb dX10_at_27 (by decide) ?_
      refine fh_put (C := RX10) (T := TX10) (N := 28) (t := .int) hx hb ht inX10 tyX10 tyX10_ok nmX10 hown hE.1 hP hS hM.m (hM.A0) rfl 0 (by decide) (ht _ kw_690) (fun _ h9 => h9) rfl (by decide +kernel) rfl rfl (Nat.le_of_ble_eq_true rfl) dX10_at_43 (fun H locs hP hz hS => ?_)
      obtain ⟨h_1, eh_1⟩ : ∃ z, z = fh_up h ma (.inr (10, [.int (nI 1), .int (nI no), .ref (b 12), .int (nI nv), .ref (b 13), .ref (b 14), .int (nI ns), .ref (b 15), .ref (b 16), .ref (b 17), .ref (b 18), .ref (b 19), .ref (b 20), .ref (b 21), .ref (b 22), .ref (b 23), .ref (b 24), .int (nI J), .int (nI C.length), .ref (b 25), .int (nI LK.length), .ref (b 26), .ref (b 27), .int (nI RL.length), .ref (b 28), .ref (b 29), .ref (b 30), .ref (b 31)])) := ⟨_, rfl⟩
      have hP : fh_P G vwCl h_1 H := by rw [eh_1]; exact hP
      have hM_1 := MG.sc hM (th2 := (nI 1)) (no2 := no) (nv2 := nv) (ns2 := ns) (J2 := J) (nc2 := C.length) (nl2 := LK.length) (nr2 := RL.length) eh_1
      refine lv_aload_n hx hb dX10_at_46 rfl (lv_at hl 1 rfl) ?_
      refine fh_get (C := RX10) (T := TX10) (N := 28) hx hb ht inX10 hown hE.1 hP hM_1.m rfl 0 (by decide) (ht _ kw_690) (fun _ h9 => h9) (v := .int (nI 1)) rfl dX10_at_47 ?_
      refine lv_if_ne (tgt := 62) hx hb dX10_at_50 (by decide) (fun _ => ?_) (fun c9 => absurd c9 (by decide))
      refine lv_lconst (v := 0) hx hb dX10_at_62 (by decide) ?_
      have ep : oAt no nv V y z = (1, 0) := by simp [oAt, hyy, hz9]
      exact fh_lret hx hb hr hlocks (⟨_, rfl, (fun z => by rw [ep] at z; cases z), by rw [ep]; exact ⟨_, _, _, _, _, _, _, _, _, _, _, _, _, _, _, _, _, _, _, _, hM_1, hX⟩⟩) hP hS (Nat.le_of_ble_eq_true rfl) (Nat.le_of_ble_eq_true rfl) dX10_at_63
    | some f =>
      obtain ⟨ho, rfl⟩ := ix_of (by omega) hyy
      obtain ⟨hf, rfl⟩ := ix_of (by decide) hz9
      have hrel := (xV (nv - 1) (by omega)).1 o (by omega)
      refine lv_aload_n hx hb dX10_at_0 rfl (lv_at hl 0 rfl) ?_
      refine lv_iload_n hx hb dX10_at_1 rfl (lv_at hl 1 rfl) ?_
      refine fh_cV (q := (RX10, TX10, 28)) (As := [.int (nI o)]) (rest := []) (b := ma) ⟨hx, hb, hml, hown, ht⟩ (m_isObj l G A h _ hM.re hno (nI o)) (cwV 1 ht (gV kw_815 kw_817 kp_19 kw_5 kw_818) rfl rfl rfl yd_X10_isObject ⟨(Nat.le_of_ble_eq_true rfl), (Nat.le_of_ble_eq_true rfl)⟩) hP hE hS hM.m rfl rfl hl.1 rfl (Nat.le_of_ble_eq_true rfl) dX10_at_2 ⟨(Nat.le_of_ble_eq_true rfl), (Nat.le_of_ble_eq_true rfl)⟩ (fun v u H locs hp hP hz hS => ?_)
      obtain ⟨rfl, eu⟩ := hp
      rw [eu] at hP
      refine W.eq (g2 := F0 m 5 ls [.int (bI (ix (nI o) no).isSome)]) rfl ?_
      refine lv_if_eq (tgt := 19) hx hb dX10_at_5 (by decide) (fun c9 => absurd c9 (by rw [hyy]; show ¬ bI true = 0; decide)) (fun _ => ?_)
      refine lv_iload_n hx hb dX10_at_8 rfl (lv_at hl 2 rfl) ?_
      refine fh_cS (As := [.int (nI f)]) (rest := []) ⟨hx, hb, hml, hown, ht⟩ (m_isField l G A h _ (nI f)) (va_cwS 1 ht (gS kw_819 kw_820 kw_5 kw_821) rfl rfl rfl yd_X10_isField.2 ⟨(Nat.le_of_ble_eq_true rfl), (Nat.le_of_ble_eq_true rfl)⟩) hP hE hS rfl hl.1 rfl (Nat.le_of_ble_eq_true rfl) dX10_at_9 ⟨(Nat.le_of_ble_eq_true rfl), (Nat.le_of_ble_eq_true rfl)⟩ (fun v u H locs hp hP hz hS => ?_)
      obtain ⟨rfl, eu⟩ := hp
      rw [eu] at hP
      refine W.eq (g2 := F0 m 12 ls [.int (bI (ix (nI f) 6).isSome)]) rfl ?_
      refine lv_if_eq (tgt := 19) hx hb dX10_at_12 (by decide) (fun c9 => absurd c9 (by rw [hz9]; show ¬ bI true = 0; decide)) (fun _ => ?_)
      refine lv_iconst (v := (nI 1)) hx hb dX10_at_15 (by decide) ?_
      refine lv_goto (tgt := 20) hx hb dX10_at_16 (by decide) ?_
      refine lv_istore_n (lv' := [(3, .int (nI 1)), (0, .ref ma), (1, .int (nI o)), (2, .int (nI f))]) hx hb dX10_at_20 rfl hl (by decide) rfl (fun ls hl => ?_)
      refine lv_aload_n hx hb dX10_at_21 rfl (lv_at hl 1 rfl) ?_
      refine lv_iload_n hx hb dX10_at_22 rfl (lv_at hl 0 rfl) ?_
      refine lv_if_ne (tgt := 30) hx hb dX10_at_23 (by decide) (fun _ => ?_) (fun c9 => absurd c9 (by decide))
      refine lv_aload_n hx hb dX10_at_30 rfl (lv_at hl 1 rfl) ?_
      refine lv_iload_n hx hb dX10_at_31 rfl (lv_at hl 2 rfl) ?_
      refine fh_cV (q := (RX10, TX10, 28)) (As := [.int (nI o)]) (rest := [.ref ma]) (b := ma) ⟨hx, hb, hml, hown, ht⟩ (m_headHas l G A h _ hM.re hnv0 hnv o (by omega) zH) (cwV 1 ht (gV kw_874 kw_876 kp_29 kw_5 kw_877) rfl rfl rfl yd_X10_headHas ⟨(Nat.le_of_ble_eq_true rfl), (Nat.le_of_ble_eq_true rfl)⟩) hP hE hS hM.m rfl rfl hl.1 rfl (Nat.le_of_ble_eq_true rfl) dX10_at_32 ⟨(Nat.le_of_ble_eq_true rfl), (Nat.le_of_ble_eq_true rfl)⟩ (fun v u H locs hp hP hz hS => ?_)
      rw [show fH (60 * (nv - 1) + o) = bI (V (nv - 1) o).isSome from hrel.1] at hp
      obtain ⟨rfl, eu⟩ := hp
      rw [eu] at hP
      refine W.eq (g2 := F0 m 35 ls [.int (bI (V (nv - 1) o).isSome), .ref ma]) rfl ?_
      refine lv_if_eq (tgt := 42) hx hb dX10_at_35 (by decide) (fun d1 => ?_) (fun d1 => ?_)
      · have e2 : V (nv - 1) o = none := by have z := bI_eq.mp d1; revert z; cases V (nv - 1) o <;> simp
        refine lv_iconst (v := (nI 2)) hx hb dX10_at_42 (by decide) ?_
        refine fh_put (C := RX10) (T := TX10) (N := 28) (t := .int) hx hb ht inX10 tyX10 tyX10_ok nmX10 hown hE.1 hP hS hM.m (hM.A0) rfl 0 (by decide) (ht _ kw_690) (fun _ h9 => h9) rfl (by decide +kernel) rfl rfl (Nat.le_of_ble_eq_true rfl) dX10_at_43 (fun H locs hP hz hS => ?_)
        obtain ⟨h_1, eh_1⟩ : ∃ z, z = fh_up h ma (.inr (10, [.int (nI 2), .int (nI no), .ref (b 12), .int (nI nv), .ref (b 13), .ref (b 14), .int (nI ns), .ref (b 15), .ref (b 16), .ref (b 17), .ref (b 18), .ref (b 19), .ref (b 20), .ref (b 21), .ref (b 22), .ref (b 23), .ref (b 24), .int (nI J), .int (nI C.length), .ref (b 25), .int (nI LK.length), .ref (b 26), .ref (b 27), .int (nI RL.length), .ref (b 28), .ref (b 29), .ref (b 30), .ref (b 31)])) := ⟨_, rfl⟩
        have hP : fh_P G vwCl h_1 H := by rw [eh_1]; exact hP
        have hM_1 := MG.sc hM (th2 := (nI 2)) (no2 := no) (nv2 := nv) (ns2 := ns) (J2 := J) (nc2 := C.length) (nl2 := LK.length) (nr2 := RL.length) eh_1
        refine lv_aload_n hx hb dX10_at_46 rfl (lv_at hl 1 rfl) ?_
        refine fh_get (C := RX10) (T := TX10) (N := 28) hx hb ht inX10 hown hE.1 hP hM_1.m rfl 0 (by decide) (ht _ kw_690) (fun _ h9 => h9) (v := .int (nI 2)) rfl dX10_at_47 ?_
        refine lv_if_ne (tgt := 62) hx hb dX10_at_50 (by decide) (fun _ => ?_) (fun c9 => absurd c9 (by decide))
        refine lv_lconst (v := 0) hx hb dX10_at_62 (by decide) ?_
        have ep : oAt no nv V (nI o) (nI f) = (2, 0) := by simp [oAt, hyy, hz9, e2]
        exact fh_lret hx hb hr hlocks (⟨_, rfl, (fun z => by rw [ep] at z; cases z), by rw [ep]; exact ⟨_, _, _, _, _, _, _, _, _, _, _, _, _, _, _, _, _, _, _, _, hM_1, hX⟩⟩) hP hS (Nat.le_of_ble_eq_true rfl) (Nat.le_of_ble_eq_true rfl) dX10_at_63
      · obtain ⟨r, e2⟩ : ∃ r, V (nv - 1) o = some r := Option.isSome_iff_exists.mp (bI_nz d1)
        refine lv_iconst (v := (nI 0)) hx hb dX10_at_38 (by decide) ?_
        refine lv_goto (tgt := 43) hx hb dX10_at_39 (by decide) ?_
        refine fh_put (C := RX10) (T := TX10) (N := 28) (t := .int) hx hb ht inX10 tyX10 tyX10_ok nmX10 hown hE.1 hP hS hM.m (hM.A0) rfl 0 (by decide) (ht _ kw_690) (fun _ h9 => h9) rfl (by decide +kernel) rfl rfl (Nat.le_of_ble_eq_true rfl) dX10_at_43 (fun H locs hP hz hS => ?_)
        obtain ⟨h_1, eh_1⟩ : ∃ z, z = fh_up h ma (.inr (10, [.int (nI 0), .int (nI no), .ref (b 12), .int (nI nv), .ref (b 13), .ref (b 14), .int (nI ns), .ref (b 15), .ref (b 16), .ref (b 17), .ref (b 18), .ref (b 19), .ref (b 20), .ref (b 21), .ref (b 22), .ref (b 23), .ref (b 24), .int (nI J), .int (nI C.length), .ref (b 25), .int (nI LK.length), .ref (b 26), .ref (b 27), .int (nI RL.length), .ref (b 28), .ref (b 29), .ref (b 30), .ref (b 31)])) := ⟨_, rfl⟩
        have hP : fh_P G vwCl h_1 H := by rw [eh_1]; exact hP
        have hM_1 := MG.sc hM (th2 := (nI 0)) (no2 := no) (nv2 := nv) (ns2 := ns) (J2 := J) (nc2 := C.length) (nl2 := LK.length) (nr2 := RL.length) eh_1
        refine lv_aload_n hx hb dX10_at_46 rfl (lv_at hl 1 rfl) ?_
        refine fh_get (C := RX10) (T := TX10) (N := 28) hx hb ht inX10 hown hE.1 hP hM_1.m rfl 0 (by decide) (ht _ kw_690) (fun _ h9 => h9) (v := .int (nI 0)) rfl dX10_at_47 ?_
        refine lv_if_ne (tgt := 62) hx hb dX10_at_50 (by decide) (fun c9 => absurd (rfl) c9) (fun _ => ?_)
        refine lv_aload_n hx hb dX10_at_53 rfl (lv_at hl 1 rfl) ?_
        refine lv_iload_n hx hb dX10_at_54 rfl (lv_at hl 2 rfl) ?_
        refine lv_iload_n hx hb dX10_at_55 rfl (lv_at hl 3 rfl) ?_
        refine fh_cV (q := (RX10, TX10, 28)) (As := [.int (nI o), .int (nI f)]) (rest := []) (b := ma) ⟨hx, hb, hml, hown, ht⟩ (m_headVal l G A h_1 _ hM_1.re hnv0 hnv o f (by omega) hf) (cwV 2 ht (gV kw_882 kw_884 kp_31 kw_5 kw_885) rfl rfl rfl yd_X10_headValue ⟨(Nat.le_of_ble_eq_true rfl), (Nat.le_of_ble_eq_true rfl)⟩) hP hE hS hM_1.m rfl rfl hl.1 rfl (Nat.le_of_ble_eq_true rfl) dX10_at_56 ⟨(Nat.le_of_ble_eq_true rfl), (Nat.le_of_ble_eq_true rfl)⟩ (fun v u H locs hp hP hz hS => ?_)
        rw [show fF (360 * (nv - 1) + 6 * o + f) = r f by rw [Nat.add_assoc]; exact hrel.2 r e2 f hf] at hp
        obtain ⟨rfl, eu⟩ := hp
        rw [eu] at hP
        refine W.eq (g2 := F0 m 59 ls [.long (r f)]) rfl ?_
        refine lv_goto (tgt := 63) hx hb dX10_at_59 (by decide) ?_
        have ep : oAt no nv V (nI o) (nI f) = (0, r f) := by simp [oAt, hyy, hz9, e2]
        exact fh_lret hx hb hr hlocks (⟨_, rfl, fun _ => (by rw [ep] <;> rfl), by rw [ep]; exact ⟨_, _, _, _, _, _, _, _, _, _, _, _, _, _, _, _, _, _, _, _, hM_1, hX⟩⟩) hP hS (by first | exact (Nat.le_of_ble_eq_true rfl) | omega) (by first | exact (Nat.le_of_ble_eq_true rfl) | omega) dX10_at_63

set_option maxRecDepth 100000 in
set_option maxHeartbeats 4000000 in
theorem q_mark (l : Launch) (G : fG) (A : Nat → Prop) (h : FH) (sz : Nat) (ma : Nat) (b : Nat → Nat) (th : Int32) (no nv ns : Nat) (V : Vs) (S : Ss) (LK : List Ar) (RL : Rl) (J : Nat) (C : CL) (M : Nat → Int32) (hp0 : RepM A h h ma b th no nv ns V S LK RL J C M) (hB9 : Bd no nv ns S RL J C) (hLk : LK.length ≤ 10) (y pp : Int32) : Met l yX10_mark wsX10_mark { frames := 2, cells := 0, slots := 0, locals := 65 } (va_Pc [.ref ma, .int y, .int pp] (fh_Pre G A h sz)) (fh_Q G (fun v u => ∃ ans : Int32, v = some (.int ans) ∧ ((oMark no nv V M y pp).1 = 0 → ans = (oMark no nv V M y pp).2.1) ∧ RepM A h u ma b (nI (oMark no nv V M y pp).1) no nv ns V S LK RL J C ((oMark no nv V M y pp).2.2)) A) 0 0 A := by
  refine fh_Met [.ref ma, .int y, .int pp] (by decide) rfl (Nat.le_of_ble_eq_true rfl) ?_
  intro p e s m below meth c hx hb hr hlocks hml hown hnm hts hsz hP hE hS ls hl
  have ht : ∀ w ∈ wB, w.before _ s = true := fun w h9 => hts w (List.mem_cons_of_mem _ h9)
  have hl : lv_has ls 5 [(0, .ref ma), (1, .int y), (2, .int pp)] := hl
  obtain ⟨fK, fH, fF, fB, fO, fW, fV, fN, cO, cF, cH, cV, fS, fC, lO, lA, rA, rB, rD, fM, hM, hX⟩ := hp0
  obtain ⟨hno, hnv, hnv0, hns, hbs, hCl, hCb, hJ, hRn, hRb⟩ := id hB9
  obtain ⟨⟨zH, zO, zW, zcH⟩, xV, xS, xN, xL, xR, xC, xM⟩ := id hX
  cases hyy : ix y no with
  | none =>
    refine lv_aload_n hx hb dX10_mark_0 rfl (lv_at hl 0 rfl) ?_
    refine lv_aload_n hx hb dX10_mark_1 rfl (lv_at hl 0 rfl) ?_
    refine lv_iload_n hx hb dX10_mark_2 rfl (lv_at hl 1 rfl) ?_
    refine fh_cV (q := (RX10, TX10, 28)) (As := [.int y]) (rest := [.ref ma]) (b := ma) ⟨hx, hb, hml, hown, ht⟩ (m_isObj l G A h _ hM.re hno y) (cwV 1 ht (gV kw_815 kw_817 kp_19 kw_5 kw_818) rfl rfl rfl yd_X10_isObject ⟨(Nat.le_of_ble_eq_true rfl), (Nat.le_of_ble_eq_true rfl)⟩) hP hE hS hM.m rfl rfl hl.1 rfl (Nat.le_of_ble_eq_true rfl) dX10_mark_3 ⟨(Nat.le_of_ble_eq_true rfl), (Nat.le_of_ble_eq_true rfl)⟩ (fun v u H locs hp hP hz hS => ?_)
    obtain ⟨rfl, eu⟩ := hp
    rw [eu] at hP
    refine W.eq (g2 := F0 m 6 ls [.int (bI (ix y no).isSome), .ref ma]) rfl ?_
    refine lv_if_eq (tgt := 17) hx hb dX10_mark_6 (by decide) (fun _ => ?_) (fun c9 => absurd (by rw [hyy]; rfl) c9)
    refine lv_iconst (v := (nI 1)) hx hb dX10_mark_17 (by decide) ?_
    refine lv_goto (tgt := 36) hx hb dX10_mark_18 (by decide) ?_
    refine fh_put (C := RX10) (T := TX10) (N := 28) (t := .int) hx hb ht inX10 tyX10 tyX10_ok nmX10 hown hE.1 hP hS hM.m (hM.A0) rfl 0 (by decide) (ht _ kw_690) (fun _ h9 => h9) rfl (by decide +kernel) rfl rfl (Nat.le_of_ble_eq_true rfl) dX10_mark_36 (fun H locs hP hz hS => ?_)
    obtain ⟨h_1, eh_1⟩ : ∃ z, z = fh_up h ma (.inr (10, [.int (nI 1), .int (nI no), .ref (b 12), .int (nI nv), .ref (b 13), .ref (b 14), .int (nI ns), .ref (b 15), .ref (b 16), .ref (b 17), .ref (b 18), .ref (b 19), .ref (b 20), .ref (b 21), .ref (b 22), .ref (b 23), .ref (b 24), .int (nI J), .int (nI C.length), .ref (b 25), .int (nI LK.length), .ref (b 26), .ref (b 27), .int (nI RL.length), .ref (b 28), .ref (b 29), .ref (b 30), .ref (b 31)])) := ⟨_, rfl⟩
    have hP : fh_P G vwCl h_1 H := by rw [eh_1]; exact hP
    have hM_1 := MG.sc hM (th2 := (nI 1)) (no2 := no) (nv2 := nv) (ns2 := ns) (J2 := J) (nc2 := C.length) (nl2 := LK.length) (nr2 := RL.length) eh_1
    refine lv_aload_n hx hb dX10_mark_39 rfl (lv_at hl 0 rfl) ?_
    refine fh_get (C := RX10) (T := TX10) (N := 28) hx hb ht inX10 hown hE.1 hP hM_1.m rfl 0 (by decide) (ht _ kw_690) (fun _ h9 => h9) (v := .int (nI 1)) rfl dX10_mark_40 ?_
    refine lv_if_eq (tgt := 48) hx hb dX10_mark_43 (by decide) (fun c9 => absurd c9 (by decide)) (fun _ => ?_)
    refine lv_iconst (v := (nI 0)) hx hb dX10_mark_46 (by decide) ?_
    have ep : oMark no nv V M y pp = (1, 0, M) := by simp [oMark, hyy]
    exact fh_iret hx hb hr hlocks (⟨_, rfl, (fun z => by rw [ep] at z; cases z), by rw [ep]; exact ⟨_, _, _, _, _, _, _, _, _, _, _, _, _, _, _, _, _, _, _, _, hM_1, hX⟩⟩) hP hS (Nat.le_of_ble_eq_true rfl) (Nat.le_of_ble_eq_true rfl) dX10_mark_47
  | some o =>
    obtain ⟨ho, rfl⟩ := ix_of (by omega) hyy
    have hrel := (xV (nv - 1) (by omega)).1 o (by omega)
    have ho60 : o < 60 := by omega
    refine lv_aload_n hx hb dX10_mark_0 rfl (lv_at hl 0 rfl) ?_
    refine lv_aload_n hx hb dX10_mark_1 rfl (lv_at hl 0 rfl) ?_
    refine lv_iload_n hx hb dX10_mark_2 rfl (lv_at hl 1 rfl) ?_
    refine fh_cV (q := (RX10, TX10, 28)) (As := [.int (nI o)]) (rest := [.ref ma]) (b := ma) ⟨hx, hb, hml, hown, ht⟩ (m_isObj l G A h _ hM.re hno (nI o)) (cwV 1 ht (gV kw_815 kw_817 kp_19 kw_5 kw_818) rfl rfl rfl yd_X10_isObject ⟨(Nat.le_of_ble_eq_true rfl), (Nat.le_of_ble_eq_true rfl)⟩) hP hE hS hM.m rfl rfl hl.1 rfl (Nat.le_of_ble_eq_true rfl) dX10_mark_3 ⟨(Nat.le_of_ble_eq_true rfl), (Nat.le_of_ble_eq_true rfl)⟩ (fun v u H locs hp hP hz hS => ?_)
    obtain ⟨rfl, eu⟩ := hp
    rw [eu] at hP
    refine W.eq (g2 := F0 m 6 ls [.int (bI (ix (nI o) no).isSome), .ref ma]) rfl ?_
    refine lv_if_eq (tgt := 17) hx hb dX10_mark_6 (by decide) (fun c9 => absurd c9 (by rw [hyy]; show ¬ bI true = 0; decide)) (fun _ => ?_)
    refine lv_aload_n hx hb dX10_mark_9 rfl (lv_at hl 0 rfl) ?_
    refine lv_iload_n hx hb dX10_mark_10 rfl (lv_at hl 1 rfl) ?_
    refine fh_cV (q := (RX10, TX10, 28)) (As := [.int (nI o)]) (rest := [.ref ma]) (b := ma) ⟨hx, hb, hml, hown, ht⟩ (m_headHas l G A h _ hM.re hnv0 hnv o (by omega) zH) (cwV 1 ht (gV kw_874 kw_876 kp_29 kw_5 kw_877) rfl rfl rfl yd_X10_headHas ⟨(Nat.le_of_ble_eq_true rfl), (Nat.le_of_ble_eq_true rfl)⟩) hP hE hS hM.m rfl rfl hl.1 rfl (Nat.le_of_ble_eq_true rfl) dX10_mark_11 ⟨(Nat.le_of_ble_eq_true rfl), (Nat.le_of_ble_eq_true rfl)⟩ (fun v u H locs hp hP hz hS => ?_)
    rw [show fH (60 * (nv - 1) + o) = bI (V (nv - 1) o).isSome from hrel.1] at hp
    obtain ⟨rfl, eu⟩ := hp
    rw [eu] at hP
    refine W.eq (g2 := F0 m 14 ls [.int (bI (V (nv - 1) o).isSome), .ref ma]) rfl ?_
    refine lv_if_ne (tgt := 21) hx hb dX10_mark_14 (by decide) (fun d1 => ?_) (fun d1 => ?_)
    · have e2 := bI_nz d1
      rcases pk_ix pp (n := 32) (by decide) with z | z | ⟨j9, hj9, rfl⟩
      · refine lv_iload_n hx hb dX10_mark_21 rfl (lv_at hl 2 rfl) ?_
        refine lv_if_lt (tgt := 35) hx hb dX10_mark_22 (by decide) (fun _ => ?_) (fun c9 => absurd (z) c9)
        refine lv_iconst (v := (nI 2)) hx hb dX10_mark_35 (by decide) ?_
        refine fh_put (C := RX10) (T := TX10) (N := 28) (t := .int) hx hb ht inX10 tyX10 tyX10_ok nmX10 hown hE.1 hP hS hM.m (hM.A0) rfl 0 (by decide) (ht _ kw_690) (fun _ h9 => h9) rfl (by decide +kernel) rfl rfl (Nat.le_of_ble_eq_true rfl) dX10_mark_36 (fun H locs hP hz hS => ?_)
        obtain ⟨h_1, eh_1⟩ : ∃ z, z = fh_up h ma (.inr (10, [.int (nI 2), .int (nI no), .ref (b 12), .int (nI nv), .ref (b 13), .ref (b 14), .int (nI ns), .ref (b 15), .ref (b 16), .ref (b 17), .ref (b 18), .ref (b 19), .ref (b 20), .ref (b 21), .ref (b 22), .ref (b 23), .ref (b 24), .int (nI J), .int (nI C.length), .ref (b 25), .int (nI LK.length), .ref (b 26), .ref (b 27), .int (nI RL.length), .ref (b 28), .ref (b 29), .ref (b 30), .ref (b 31)])) := ⟨_, rfl⟩
        have hP : fh_P G vwCl h_1 H := by rw [eh_1]; exact hP
        have hM_1 := MG.sc hM (th2 := (nI 2)) (no2 := no) (nv2 := nv) (ns2 := ns) (J2 := J) (nc2 := C.length) (nl2 := LK.length) (nr2 := RL.length) eh_1
        refine lv_aload_n hx hb dX10_mark_39 rfl (lv_at hl 0 rfl) ?_
        refine fh_get (C := RX10) (T := TX10) (N := 28) hx hb ht inX10 hown hE.1 hP hM_1.m rfl 0 (by decide) (ht _ kw_690) (fun _ h9 => h9) (v := .int (nI 2)) rfl dX10_mark_40 ?_
        refine lv_if_eq (tgt := 48) hx hb dX10_mark_43 (by decide) (fun c9 => absurd c9 (by decide)) (fun _ => ?_)
        refine lv_iconst (v := (nI 0)) hx hb dX10_mark_46 (by decide) ?_
        have ep : oMark no nv V M (nI o) pp = (2, 0, M) := by simp [oMark, hyy, e2, ix_none (Or.inl z)]
        exact fh_iret hx hb hr hlocks (⟨_, rfl, (fun z => by rw [ep] at z; cases z), by rw [ep]; exact ⟨_, _, _, _, _, _, _, _, _, _, _, _, _, _, _, _, _, _, _, _, hM_1, hX⟩⟩) hP hS (Nat.le_of_ble_eq_true rfl) (Nat.le_of_ble_eq_true rfl) dX10_mark_47
      · refine lv_iload_n hx hb dX10_mark_21 rfl (lv_at hl 2 rfl) ?_
        refine lv_if_lt (tgt := 35) hx hb dX10_mark_22 (by decide) (fun c9 => absurd c9 (fun q => by rw [Int32.lt_iff_toInt_lt] at q; rw [Int32.le_iff_toInt_le, nI_toInt (by omega)] at z; have : (0 : Int32).toInt = 0 := rfl; omega)) (fun _ => ?_)
        refine lv_iload_n hx hb dX10_mark_25 rfl (lv_at hl 2 rfl) ?_
        refine lv_bipush (v := (nI 32)) hx hb dX10_mark_26 (by decide) ?_
        refine lv_icmp_ge (tgt := 35) hx hb dX10_mark_28 (by decide) (fun _ => ?_) (fun c9 => absurd (z) c9)
        refine lv_iconst (v := (nI 2)) hx hb dX10_mark_35 (by decide) ?_
        refine fh_put (C := RX10) (T := TX10) (N := 28) (t := .int) hx hb ht inX10 tyX10 tyX10_ok nmX10 hown hE.1 hP hS hM.m (hM.A0) rfl 0 (by decide) (ht _ kw_690) (fun _ h9 => h9) rfl (by decide +kernel) rfl rfl (Nat.le_of_ble_eq_true rfl) dX10_mark_36 (fun H locs hP hz hS => ?_)
        obtain ⟨h_1, eh_1⟩ : ∃ z, z = fh_up h ma (.inr (10, [.int (nI 2), .int (nI no), .ref (b 12), .int (nI nv), .ref (b 13), .ref (b 14), .int (nI ns), .ref (b 15), .ref (b 16), .ref (b 17), .ref (b 18), .ref (b 19), .ref (b 20), .ref (b 21), .ref (b 22), .ref (b 23), .ref (b 24), .int (nI J), .int (nI C.length), .ref (b 25), .int (nI LK.length), .ref (b 26), .ref (b 27), .int (nI RL.length), .ref (b 28), .ref (b 29), .ref (b 30), .ref (b 31)])) := ⟨_, rfl⟩
        have hP : fh_P G vwCl h_1 H := by rw [eh_1]; exact hP
        have hM_1 := MG.sc hM (th2 := (nI 2)) (no2 := no) (nv2 := nv) (ns2 := ns) (J2 := J) (nc2 := C.length) (nl2 := LK.length) (nr2 := RL.length) eh_1
        refine lv_aload_n hx hb dX10_mark_39 rfl (lv_at hl 0 rfl) ?_
        refine fh_get (C := RX10) (T := TX10) (N := 28) hx hb ht inX10 hown hE.1 hP hM_1.m rfl 0 (by decide) (ht _ kw_690) (fun _ h9 => h9) (v := .int (nI 2)) rfl dX10_mark_40 ?_
        refine lv_if_eq (tgt := 48) hx hb dX10_mark_43 (by decide) (fun c9 => absurd c9 (by decide)) (fun _ => ?_)
        refine lv_iconst (v := (nI 0)) hx hb dX10_mark_46 (by decide) ?_
        have ep : oMark no nv V M (nI o) pp = (2, 0, M) := by simp [oMark, hyy, e2, ix_none (Or.inr z)]
        exact fh_iret hx hb hr hlocks (⟨_, rfl, (fun z => by rw [ep] at z; cases z), by rw [ep]; exact ⟨_, _, _, _, _, _, _, _, _, _, _, _, _, _, _, _, _, _, _, _, hM_1, hX⟩⟩) hP hS (Nat.le_of_ble_eq_true rfl) (Nat.le_of_ble_eq_true rfl) dX10_mark_47
      · refine lv_iload_n hx hb dX10_mark_21 rfl (lv_at hl 2 rfl) ?_
        refine lv_if_lt (tgt := 35) hx hb dX10_mark_22 (by decide) (fun c9 => absurd c9 (nI_pos (by omega))) (fun _ => ?_)
        refine lv_iload_n hx hb dX10_mark_25 rfl (lv_at hl 2 rfl) ?_
        refine lv_bipush (v := (nI 32)) hx hb dX10_mark_26 (by decide) ?_
        refine lv_icmp_ge (tgt := 35) hx hb dX10_mark_28 (by decide) (fun c9 => absurd c9 (nI_ge hj9 (by decide))) (fun _ => ?_)
        refine lv_iconst (v := (nI 0)) hx hb dX10_mark_31 (by decide) ?_
        refine lv_goto (tgt := 36) hx hb dX10_mark_32 (by decide) ?_
        refine fh_put (C := RX10) (T := TX10) (N := 28) (t := .int) hx hb ht inX10 tyX10 tyX10_ok nmX10 hown hE.1 hP hS hM.m (hM.A0) rfl 0 (by decide) (ht _ kw_690) (fun _ h9 => h9) rfl (by decide +kernel) rfl rfl (Nat.le_of_ble_eq_true rfl) dX10_mark_36 (fun H locs hP hz hS => ?_)
        obtain ⟨h_1, eh_1⟩ : ∃ z, z = fh_up h ma (.inr (10, [.int (nI 0), .int (nI no), .ref (b 12), .int (nI nv), .ref (b 13), .ref (b 14), .int (nI ns), .ref (b 15), .ref (b 16), .ref (b 17), .ref (b 18), .ref (b 19), .ref (b 20), .ref (b 21), .ref (b 22), .ref (b 23), .ref (b 24), .int (nI J), .int (nI C.length), .ref (b 25), .int (nI LK.length), .ref (b 26), .ref (b 27), .int (nI RL.length), .ref (b 28), .ref (b 29), .ref (b 30), .ref (b 31)])) := ⟨_, rfl⟩
        have hP : fh_P G vwCl h_1 H := by rw [eh_1]; exact hP
        have hM_1 := MG.sc hM (th2 := (nI 0)) (no2 := no) (nv2 := nv) (ns2 := ns) (J2 := J) (nc2 := C.length) (nl2 := LK.length) (nr2 := RL.length) eh_1
        refine lv_aload_n hx hb dX10_mark_39 rfl (lv_at hl 0 rfl) ?_
        refine fh_get (C := RX10) (T := TX10) (N := 28) hx hb ht inX10 hown hE.1 hP hM_1.m rfl 0 (by decide) (ht _ kw_690) (fun _ h9 => h9) (v := .int (nI 0)) rfl dX10_mark_40 ?_
        refine lv_if_eq (tgt := 48) hx hb dX10_mark_43 (by decide) (fun _ => ?_) (fun c9 => absurd (rfl) c9)
        refine lv_aload_n hx hb dX10_mark_48 rfl (lv_at hl 0 rfl) ?_
        refine fh_get (C := RX10) (T := TX10) (N := 28) hx hb ht inX10 hown hE.1 hP hM_1.m rfl 27 (by decide) (ht _ kw_717) (fun _ h9 => h9) (v := .ref (b 31)) rfl dX10_mark_49 ?_
        refine lv_iload_n hx hb dX10_mark_52 rfl (lv_at hl 1 rfl) ?_
        refine lv_aload_n hx hb dX10_mark_53 rfl (lv_at hl 0 rfl) ?_
        refine fh_get (C := RX10) (T := TX10) (N := 28) hx hb ht inX10 hown hE.1 hP hM_1.m rfl 27 (by decide) (ht _ kw_717) (fun _ h9 => h9) (v := .ref (b 31)) rfl dX10_mark_54 ?_
        refine lv_iload_n hx hb dX10_mark_57 rfl (lv_at hl 1 rfl) ?_
        refine fh_iald (k := o) hx hb hE.1 hP hM_1.a31 rfl (ho60) (by decide) dX10_mark_58 ?_
        refine lv_iconst (v := (nI 1)) hx hb dX10_mark_59 (by decide) ?_
        refine lv_iload_n hx hb dX10_mark_60 rfl (lv_at hl 2 rfl) ?_
        refine lv_ishl hx hb dX10_mark_61 ?_
        refine lv_ior hx hb dX10_mark_62 ?_
        refine lv_topi (fun z9 ez9 => ?_)
        rw [show z9 = M o ||| (1 <<< nI j9) from ez9.trans (by rw [xM o ho60]; exact congrArg _ (sh31 j9 hj9))]
        refine fh_iast (k := o) hx hb hE.1 hP hS hM_1.a31 (hM_1.A31) rfl (ho60) (by decide) dX10_mark_63 (fun H locs hP hz hS => ?_)
        obtain ⟨h_2, eh_2⟩ : ∃ z, z = fh_up h_1 (b 31) (.inl (31, 60, .inl (upd fM o (M o ||| (1 <<< nI j9))))) := ⟨_, rfl⟩
        have hP : fh_P G vwCl h_2 H := by rw [eh_2]; exact hP
        have hM_2 := MG.w31 hM_1 (f2 := upd fM o (M o ||| (1 <<< nI j9))) eh_2
        obtain ⟨nn, hnn, enn⟩ := wb_of32' (M o ||| 1 <<< nI j9)
        have eb : bitN (M o ||| 1 <<< nI j9) = bitS nn 32 := by unfold bitN; rw [enn, nI_bv hnn]
        have ep : oMark no nv V M (nI o) (nI j9) = (0, nI (bitS nn 32), upN M o (M o ||| 1 <<< nI j9)) := by simp only [oMark, hyy, e2, if_true, ix_some hj9 (by decide), eb]
        refine lv_iconst (v := (nI 0)) hx hb dX10_mark_64 (by decide) ?_
        refine lv_istore_n (lv' := [(3, .int (nI 0)), (0, .ref ma), (1, .int (nI o)), (2, .int (nI j9))]) hx hb dX10_mark_65 rfl hl (by decide) rfl (fun ls hl => ?_)
        refine lv_iconst (v := (nI 0)) hx hb dX10_mark_66 (by decide) ?_
        refine lv_istore (lv' := [(4, .int (nI 0)), (3, .int (nI 0)), (0, .ref ma), (1, .int (nI o)), (2, .int (nI j9))]) hx hb dX10_mark_67 hl (by decide) rfl (fun ls hl => ?_)
        have loop : ∀ (n k : Nat), k + n = 32 →  ∀ (H : Heap) (locs : List Loc) (ls : Array Slot), fh_P G vwCl h_2 H → va_S A s.heap H locs → lv_has ls 5 [(4, .int (nI k)), (3, .int (nI (bitS nn k))), (0, .ref ma), (1, .int (nI o)), (2, .int (nI j9))] → W p l e (headSpec wsX10_mark { frames := 2, cells := 0, slots := 0, locals := 65 }).room s m [.ref ma, .int (nI o), .int (nI j9)].toArray below meth c H locs 0 0 (MQ below (fh_Q G (fun v u => ∃ ans : Int32, v = some (.int ans) ∧ ((oMark no nv V M (nI o) (nI j9)).1 = 0 → ans = (oMark no nv V M (nI o) (nI j9)).2.1) ∧ RepM A h u ma b (nI (oMark no nv V M (nI o) (nI j9)).1) no nv ns V S LK RL J C ((oMark no nv V M (nI o) (nI j9)).2.2)) A) [.ref ma, .int (nI o), .int (nI j9)].toArray s 0 0 A) (F0 m 69 ls []) := by
          intro n
          induction n with
          | zero =>
            intro k hin  H locs ls hP hS hl
            have k32 : k = 32 := by omega
            refine lv_iload hx hb dX10_mark_69 (lv_at hl 0 rfl) ?_
            refine lv_bipush (v := (nI 32)) hx hb dX10_mark_71 (by decide) ?_
            refine lv_icmp_ge (tgt := 96) hx hb dX10_mark_73 (by decide) (fun _ => ?_) (fun c9 => absurd (nI_le (by omega) (by omega)) c9)
            refine lv_iload_n hx hb dX10_mark_96 rfl (lv_at hl 1 rfl) ?_
            exact fh_iret hx hb hr hlocks (⟨_, rfl, fun _ => by rw [ep, k32], by rw [ep]; exact ⟨_, _, _, _, _, _, _, _, _, _, _, _, _, _, _, _, _, _, _, _, hM_2, ⟨hX.1, hX.2.1, hX.2.2.1, hX.2.2.2.1, xL, xR, xC, fun q hq => by
              show upd fM o (M o ||| 1 <<< nI j9) q = upN M o (M o ||| 1 <<< nI j9) q
              by_cases z : q = o
              · subst z; rw [upN_s]; simp [upd]
              · rw [upN_n _ _ z, ← xM q hq]; simp [upd, z]⟩⟩⟩) hP hS (Nat.le_of_ble_eq_true rfl) (Nat.le_of_ble_eq_true rfl) dX10_mark_97
          | succ n ih =>
            intro k hin  H locs ls hP hS hl
            refine lv_iload hx hb dX10_mark_69 (lv_at hl 0 rfl) ?_
            refine lv_bipush (v := (nI 32)) hx hb dX10_mark_71 (by decide) ?_
            refine lv_icmp_ge (tgt := 96) hx hb dX10_mark_73 (by decide) (fun c9 => absurd c9 (nI_ge (by omega) (by decide))) (fun _ => ?_)
            refine lv_iload_n hx hb dX10_mark_76 rfl (lv_at hl 1 rfl) ?_
            refine lv_aload_n hx hb dX10_mark_77 rfl (lv_at hl 2 rfl) ?_
            refine fh_get (C := RX10) (T := TX10) (N := 28) hx hb ht inX10 hown hE.1 hP hM_2.m rfl 27 (by decide) (ht _ kw_717) (fun _ h9 => h9) (v := .ref (b 31)) rfl dX10_mark_78 ?_
            refine lv_iload_n hx hb dX10_mark_81 rfl (lv_at hl 3 rfl) ?_
            refine fh_iald (k := o) hx hb hE.1 hP hM_2.a31 rfl (ho60) (by decide) dX10_mark_82 ?_
            refine lv_topi (fun z9 ez9 => ?_)
            rw [show z9 = nI nn from ez9.trans ((show upd fM o (M o ||| 1 <<< nI j9) o = (M o ||| 1 <<< nI j9) by simp [upd]).trans enn)]
            refine lv_iload hx hb dX10_mark_83 (lv_at hl 0 rfl) ?_
            refine lv_ishr hx hb dX10_mark_85 ?_
            refine lv_iconst (v := (nI 1)) hx hb dX10_mark_86 (by decide) ?_
            refine lv_iand hx hb dX10_mark_87 ?_
            refine lv_topi (fun z9 ez9 => ?_)
            rw [show z9 = nI (nn / 2 ^ k % 2) from ez9.trans (sshr_bit (by omega))]
            refine lv_iadd hx hb dX10_mark_88 ?_
            refine lv_topi (fun z9 ez9 => ?_)
            rw [show z9 = nI ((bitS nn k) + (nn / 2 ^ k % 2)) from ez9.trans (nI_add _ _)]
            refine lv_istore_n (lv' := [(3, .int (nI ((bitS nn k) + (nn / 2 ^ k % 2)))), (4, .int (nI k)), (0, .ref ma), (1, .int (nI o)), (2, .int (nI j9))]) hx hb dX10_mark_89 rfl hl (by decide) rfl (fun ls hl => ?_)
            refine lv_iinc (v := nI (k + 1)) (lv' := [(4, .int (nI (k + 1))), (3, .int (nI ((bitS nn k) + (nn / 2 ^ k % 2)))), (0, .ref ma), (1, .int (nI o)), (2, .int (nI j9))]) hx hb dX10_mark_90 hl (k := 1) rfl (nI_1 _) (by decide) rfl (fun ls hl => ?_)
            refine lv_goto (tgt := 69) hx hb dX10_mark_93 (by decide) ?_
            exact ih (k + 1) (by omega) H locs ls hP hS (lv_sub hl [0, 1, 2, 3, 4] rfl)
        exact loop 32 0 (by omega) _ _ _ hP hS hl
    · have e2 : V (nv - 1) o = none := by have z := bI_eq.mp d1; revert z; cases V (nv - 1) o <;> simp
      refine lv_iconst (v := (nI 1)) hx hb dX10_mark_17 (by decide) ?_
      refine lv_goto (tgt := 36) hx hb dX10_mark_18 (by decide) ?_
      refine fh_put (C := RX10) (T := TX10) (N := 28) (t := .int) hx hb ht inX10 tyX10 tyX10_ok nmX10 hown hE.1 hP hS hM.m (hM.A0) rfl 0 (by decide) (ht _ kw_690) (fun _ h9 => h9) rfl (by decide +kernel) rfl rfl (Nat.le_of_ble_eq_true rfl) dX10_mark_36 (fun H locs hP hz hS => ?_)
      obtain ⟨h_1, eh_1⟩ : ∃ z, z = fh_up h ma (.inr (10, [.int (nI 1), .int (nI no), .ref (b 12), .int (nI nv), .ref (b 13), .ref (b 14), .int (nI ns), .ref (b 15), .ref (b 16), .ref (b 17), .ref (b 18), .ref (b 19), .ref (b 20), .ref (b 21), .ref (b 22), .ref (b 23), .ref (b 24), .int (nI J), .int (nI C.length), .ref (b 25), .int (nI LK.length), .ref (b 26), .ref (b 27), .int (nI RL.length), .ref (b 28), .ref (b 29), .ref (b 30), .ref (b 31)])) := ⟨_, rfl⟩
      have hP : fh_P G vwCl h_1 H := by rw [eh_1]; exact hP
      have hM_1 := MG.sc hM (th2 := (nI 1)) (no2 := no) (nv2 := nv) (ns2 := ns) (J2 := J) (nc2 := C.length) (nl2 := LK.length) (nr2 := RL.length) eh_1
      refine lv_aload_n hx hb dX10_mark_39 rfl (lv_at hl 0 rfl) ?_
      refine fh_get (C := RX10) (T := TX10) (N := 28) hx hb ht inX10 hown hE.1 hP hM_1.m rfl 0 (by decide) (ht _ kw_690) (fun _ h9 => h9) (v := .int (nI 1)) rfl dX10_mark_40 ?_
      refine lv_if_eq (tgt := 48) hx hb dX10_mark_43 (by decide) (fun c9 => absurd c9 (by decide)) (fun _ => ?_)
      refine lv_iconst (v := (nI 0)) hx hb dX10_mark_46 (by decide) ?_
      have ep : oMark no nv V M (nI o) pp = (1, 0, M) := by simp [oMark, hyy, e2]
      exact fh_iret hx hb hr hlocks (⟨_, rfl, (fun z => by rw [ep] at z; cases z), by rw [ep]; exact ⟨_, _, _, _, _, _, _, _, _, _, _, _, _, _, _, _, _, _, _, _, hM_1, hX⟩⟩) hP hS (Nat.le_of_ble_eq_true rfl) (Nat.le_of_ble_eq_true rfl) dX10_mark_47
