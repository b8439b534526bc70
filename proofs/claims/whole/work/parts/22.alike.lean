set_option maxRecDepth 100000 in
set_option maxHeartbeats 4000000 in
/-- Row.alike -/
theorem c_Row_alike (l : Launch) (G : fG) (A : Nat → Prop) (h : FH) (sz : Nat) (ra rb : Option Nat) (oa ob : Ro) (ha : pRo h ra oa) (hb0 : pRo h rb ob) : Met l yX5_alike wsX5_alike { frames := 0, cells := 0, slots := 0, locals := 0 } (va_Pc [va_rf ra, va_rf rb] (fh_Pre G A h sz)) (fh_Q G (fun v u => v = some (.int (bI (alikeO oa ob))) ∧ u = h) A) 0 0 A := by
  refine fh_Met [va_rf ra, va_rf rb] (by decide) rfl (by cases ra <;> cases rb <;> exact (Nat.le_of_ble_eq_true rfl)) ?_
  intro p e s m below meth c hx hb hr hlocks hml hown hnm hts hsz hP hE hS ls hl
  have ht : ∀ w ∈ wB, w.before _ s = true := fun w h9 => hts w (List.mem_cons_of_mem _ h9)
  have e9 : lv_args 0 [va_rf ra, va_rf rb] = [(0, va_rf ra), (1, va_rf rb)] := by cases ra <;> cases rb <;> rfl
  rw [e9] at hl
  cases ra with
  | none =>
    have hl : lv_has ls 3 [(0, .null), (1, va_rf rb)] := hl
    obtain rfl := pRo_none ha
    cases rb with
    | none =>
      have hl : lv_has ls 3 [(0, .null), (1, .null)] := hl
      obtain rfl := pRo_none hb0
      refine lv_aload_nN hx hb dX5_alike_0 rfl (lv_at hl 0 rfl) ?_
      refine lv_aload_nN hx hb dX5_alike_1 rfl (lv_at hl 1 rfl) ?_
      refine lv_acmp_ne (rx := none) (ry := none) (tgt := 7) hx hb dX5_alike_2 (by decide) (fun c9 => absurd (rfl) c9) (fun _ => ?_)
      refine lv_iconst (v := (nI 1)) hx hb dX5_alike_5 (by decide) ?_
      exact fh_zret hx hb hr hlocks rfl (⟨rfl, rfl⟩) hP hS (Nat.le_of_ble_eq_true rfl) (Nat.le_of_ble_eq_true rfl) dX5_alike_6
    | some b =>
      have hl : lv_has ls 3 [(0, .null), (1, .ref b)] := hl
      obtain ⟨fb, rfl, hb1⟩ := pRo_some hb0
      refine lv_aload_nN hx hb dX5_alike_0 rfl (lv_at hl 0 rfl) ?_
      refine lv_aload_n hx hb dX5_alike_1 rfl (lv_at hl 1 rfl) ?_
      refine lv_acmp_ne (rx := none) (ry := some b) (tgt := 7) hx hb dX5_alike_2 (by decide) (fun _ => ?_) (fun c9 => absurd c9 (fun z => nomatch z))
      refine lv_aload_nN hx hb dX5_alike_7 rfl (lv_at hl 0 rfl) ?_
      refine lv_ifnullN (tgt := 15) hx hb dX5_alike_8 (by decide) ?_
      refine lv_iconst (v := (nI 0)) hx hb dX5_alike_15 (by decide) ?_
      exact fh_zret hx hb hr hlocks rfl (⟨rfl, rfl⟩) hP hS (Nat.le_of_ble_eq_true rfl) (Nat.le_of_ble_eq_true rfl) dX5_alike_16
  | some a =>
    have hl : lv_has ls 3 [(0, .ref a), (1, va_rf rb)] := hl
    obtain ⟨fa, rfl, ba, ga, ha1, ha2, ha3⟩ := pRo_some ha
    cases rb with
    | none =>
      have hl : lv_has ls 3 [(0, .ref a), (1, .null)] := hl
      obtain rfl := pRo_none hb0
      refine lv_aload_n hx hb dX5_alike_0 rfl (lv_at hl 0 rfl) ?_
      refine lv_aload_nN hx hb dX5_alike_1 rfl (lv_at hl 1 rfl) ?_
      refine lv_acmp_ne (rx := some a) (ry := none) (tgt := 7) hx hb dX5_alike_2 (by decide) (fun _ => ?_) (fun c9 => absurd c9 (fun z => nomatch z))
      refine lv_aload_n hx hb dX5_alike_7 rfl (lv_at hl 0 rfl) ?_
      refine lv_ifnull hx hb dX5_alike_8 ?_
      refine lv_aload_nN hx hb dX5_alike_11 rfl (lv_at hl 1 rfl) ?_
      refine lv_ifnonnullN hx hb dX5_alike_12 ?_
      refine lv_iconst (v := (nI 0)) hx hb dX5_alike_15 (by decide) ?_
      exact fh_zret hx hb hr hlocks rfl (⟨rfl, rfl⟩) hP hS (Nat.le_of_ble_eq_true rfl) (Nat.le_of_ble_eq_true rfl) dX5_alike_16
    | some b =>
      have hl : lv_has ls 3 [(0, .ref a), (1, .ref b)] := hl
      obtain ⟨fb, rfl, bb, gb, hb1, hb2, hb3⟩ := pRo_some hb0
      refine lv_aload_n hx hb dX5_alike_0 rfl (lv_at hl 0 rfl) ?_
      refine lv_aload_n hx hb dX5_alike_1 rfl (lv_at hl 1 rfl) ?_
      refine lv_acmp_ne (rx := some a) (ry := some b) (tgt := 7) hx hb dX5_alike_2 (by decide) (fun c1 => ?_) (fun c1 => ?_)
      · refine lv_aload_n hx hb dX5_alike_7 rfl (lv_at hl 0 rfl) ?_
        refine lv_ifnull hx hb dX5_alike_8 ?_
        refine lv_aload_n hx hb dX5_alike_11 rfl (lv_at hl 1 rfl) ?_
        refine lv_ifnonnull (tgt := 17) hx hb dX5_alike_12 (by decide) ?_
        refine lv_iconst (v := (nI 0)) hx hb dX5_alike_17 (by decide) ?_
        refine lv_istore_n (lv' := [(2, .int (nI 0)), (0, .ref a), (1, .ref b)]) hx hb dX5_alike_18 rfl hl (by decide) rfl (fun ls hl => ?_)
        have loop : ∀ (n i : Nat), i + n = 6 → ∀ (_ : ∀ j, j < i → ga j = gb j), ∀ (H : Heap) (locs : List Loc) (ls : Array Slot), fh_P G vwCl h H → va_S A s.heap H locs → lv_has ls 3 [(2, .int (nI i)), (0, .ref a), (1, .ref b)] → W p l e (headSpec wsX5_alike { frames := 0, cells := 0, slots := 0, locals := 0 }).room s m [.ref a, .ref b].toArray below meth c H locs 0 0 (MQ below (fh_Q G (fun v u => v = some (.int (bI (alikeO (some fa) (some fb)))) ∧ u = h) A) [.ref a, .ref b].toArray s 0 0 A) (F0 m 19 ls []) := by
          intro n
          induction n with
          | zero =>
            intro i hin hij H locs ls hP hS hl
            refine lv_iload_n hx hb dX5_alike_19 rfl (lv_at hl 0 rfl) ?_
            refine lv_bipush (v := (nI 6)) hx hb dX5_alike_20 (by decide) ?_
            refine lv_icmp_ge (tgt := 49) hx hb dX5_alike_22 (by decide) (fun _ => ?_) (fun c9 => absurd (nI_le (by omega) (by omega)) c9)
            refine lv_iconst (v := (nI 1)) hx hb dX5_alike_49 (by decide) ?_
            exact fh_zret hx hb hr hlocks rfl (⟨congrArg (fun z => some (Value.int z)) (bI_1 (rwEq_iff.mpr (fun j hj => (ha3 j hj).symm.trans ((hij j (by omega)).trans (hb3 j hj))))), rfl⟩) hP hS (Nat.le_of_ble_eq_true rfl) (Nat.le_of_ble_eq_true rfl) dX5_alike_50
          | succ n ih =>
            intro i hin hij H locs ls hP hS hl
            refine lv_iload_n hx hb dX5_alike_19 rfl (lv_at hl 0 rfl) ?_
            refine lv_bipush (v := (nI 6)) hx hb dX5_alike_20 (by decide) ?_
            refine lv_icmp_ge (tgt := 49) hx hb dX5_alike_22 (by decide) (fun c9 => absurd c9 (nI_ge (by omega) (by decide))) (fun _ => ?_)
            refine lv_aload_n hx hb dX5_alike_25 rfl (lv_at hl 1 rfl) ?_
            refine fh_get (C := RX5) (T := TX5) (N := 1) hx hb ht inX5 hown hE.1 hP ha1 rfl 0 (by decide) (ht _ kw_264) (fun _ h9 => h9) (v := .ref ba) rfl dX5_alike_26 ?_
            refine lv_iload_n hx hb dX5_alike_29 rfl (lv_at hl 0 rfl) ?_
            refine fh_lald (k := i) hx hb hE.1 hP ha2 rfl (by omega) (by decide) dX5_alike_30 ?_
            refine lv_aload_n hx hb dX5_alike_31 rfl (lv_at hl 2 rfl) ?_
            refine fh_get (C := RX5) (T := TX5) (N := 1) hx hb ht inX5 hown hE.1 hP hb1 rfl 0 (by decide) (ht _ kw_264) (fun _ h9 => h9) (v := .ref bb) rfl dX5_alike_32 ?_
            refine lv_iload_n hx hb dX5_alike_35 rfl (lv_at hl 0 rfl) ?_
            refine fh_lald (k := i) hx hb hE.1 hP hb2 rfl (by omega) (by decide) dX5_alike_36 ?_
            refine W.lcmp hx hb dX5_alike_37 ?_
            refine lv_if_eq (tgt := 43) hx hb dX5_alike_38 (by decide) (fun c2 => ?_) (fun c2 => ?_)
            · refine lv_iinc (v := nI (i + 1)) (lv' := [(2, .int (nI (i + 1))), (0, .ref a), (1, .ref b)]) hx hb dX5_alike_43 hl (k := 0) rfl (nI_1 _) (by decide) rfl (fun ls hl => ?_)
              refine lv_goto (tgt := 19) hx hb dX5_alike_46 (by decide) ?_
              exact ih (i + 1) (by omega) (lt_s hij ((lg_cmp_eq _ _).mp c2)) H locs ls hP hS hl
            · refine lv_iconst (v := (nI 0)) hx hb dX5_alike_41 (by decide) ?_
              exact fh_zret hx hb hr hlocks rfl (⟨congrArg (fun z => some (Value.int z)) (bI_0 (fun q => c2 ((lg_cmp_eq _ _).mpr ((ha3 i (by omega)).trans ((rwEq_iff.mp q i (by omega)).trans (hb3 i (by omega)).symm))))), rfl⟩) hP hS (Nat.le_of_ble_eq_true rfl) (Nat.le_of_ble_eq_true rfl) dX5_alike_42
        exact loop 6 0 (by omega) (fun j hj => absurd hj (Nat.not_lt_zero j)) _ _ _ hP hS hl
      · cases c1
        rw [hb1] at ha1; cases ha1; rw [hb2] at ha2; cases ha2
        refine lv_iconst (v := (nI 1)) hx hb dX5_alike_5 (by decide) ?_
        exact fh_zret hx hb hr hlocks rfl (⟨congrArg (fun z => some (Value.int z)) (bI_1 (rwEq_iff.mpr (fun j hj => (ha3 j hj).symm.trans (hb3 j hj)))), rfl⟩) hP hS (Nat.le_of_ble_eq_true rfl) (Nat.le_of_ble_eq_true rfl) dX5_alike_6

set_option maxRecDepth 100000 in
set_option maxHeartbeats 4000000 in
/-- Row.differ -/
theorem c_Row_differ (l : Launch) (G : fG) (A : Nat → Prop) (h : FH) (sz : Nat) (ra rb : Option Nat) (oa ob : Ro) (k : Nat) (hk : k < 2 ^ 31) (ha : pRo h ra oa) (hb0 : pRo h rb ob) : Met l yX5_differ wsX5_differ { frames := 0, cells := 0, slots := 0, locals := 0 } (va_Pc [va_rf ra, va_rf rb, .int (nI k)] (fh_Pre G A h sz)) (fh_Q G (fun v u => v = some (.int (bI (differO oa ob k))) ∧ u = h) A) 0 0 A := by
  refine fh_Met [va_rf ra, va_rf rb, .int (nI k)] (by decide) rfl (by cases ra <;> cases rb <;> exact (Nat.le_of_ble_eq_true rfl)) ?_
  intro p e s m below meth c hx hb hr hlocks hml hown hnm hts hsz hP hE hS ls hl
  have ht : ∀ w ∈ wB, w.before _ s = true := fun w h9 => hts w (List.mem_cons_of_mem _ h9)
  have e9 : lv_args 0 [va_rf ra, va_rf rb, .int (nI k)] = [(0, va_rf ra), (1, va_rf rb), (2, .int (nI k))] := by cases ra <;> cases rb <;> rfl
  rw [e9] at hl
  cases ra with
  | none =>
    have hl : lv_has ls 3 [(0, .null), (1, va_rf rb), (2, .int (nI k))] := hl
    obtain rfl := pRo_none ha
    cases rb with
    | none =>
      have hl : lv_has ls 3 [(0, .null), (1, .null), (2, .int (nI k))] := hl
      obtain rfl := pRo_none hb0
      refine lv_aload_nN hx hb dX5_differ_0 rfl (lv_at hl 0 rfl) ?_
      refine lv_ifnullN (tgt := 8) hx hb dX5_differ_1 (by decide) ?_
      refine lv_iload_n hx hb dX5_differ_8 rfl (lv_at hl 2 rfl) ?_
      refine lv_bipush (v := (nI 6)) hx hb dX5_differ_9 (by decide) ?_
      refine lv_icmp_ne (tgt := 23) hx hb dX5_differ_11 (by decide) (fun c1 => ?_) (fun c1 => ?_)
      · refine lv_iconst (v := (nI 0)) hx hb dX5_differ_23 (by decide) ?_
        exact fh_zret hx hb hr hlocks rfl (⟨rfl, rfl⟩) hP hS (Nat.le_of_ble_eq_true rfl) (Nat.le_of_ble_eq_true rfl) dX5_differ_24
      · refine lv_aload_nN hx hb dX5_differ_14 rfl (lv_at hl 0 rfl) ?_
        refine lv_aload_nN hx hb dX5_differ_15 rfl (lv_at hl 1 rfl) ?_
        refine lv_acmp_eq (rx := none) (ry := none) (tgt := 23) hx hb dX5_differ_16 (by decide) (fun _ => ?_) (fun c9 => absurd (rfl) c9)
        refine lv_iconst (v := (nI 0)) hx hb dX5_differ_23 (by decide) ?_
        exact fh_zret hx hb hr hlocks rfl (⟨rfl, rfl⟩) hP hS (Nat.le_of_ble_eq_true rfl) (Nat.le_of_ble_eq_true rfl) dX5_differ_24
    | some b =>
      have hl : lv_has ls 3 [(0, .null), (1, .ref b), (2, .int (nI k))] := hl
      obtain ⟨fb, rfl, hb1⟩ := pRo_some hb0
      refine lv_aload_nN hx hb dX5_differ_0 rfl (lv_at hl 0 rfl) ?_
      refine lv_ifnullN (tgt := 8) hx hb dX5_differ_1 (by decide) ?_
      refine lv_iload_n hx hb dX5_differ_8 rfl (lv_at hl 2 rfl) ?_
      refine lv_bipush (v := (nI 6)) hx hb dX5_differ_9 (by decide) ?_
      refine lv_icmp_ne (tgt := 23) hx hb dX5_differ_11 (by decide) (fun c1 => ?_) (fun c1 => ?_)
      · refine lv_iconst (v := (nI 0)) hx hb dX5_differ_23 (by decide) ?_
        exact fh_zret hx hb hr hlocks rfl (⟨congrArg (fun z => some (Value.int z)) (bI_0 (fun q => c1 (by rw [of_decide_eq_true q]))), rfl⟩) hP hS (Nat.le_of_ble_eq_true rfl) (Nat.le_of_ble_eq_true rfl) dX5_differ_24
      · refine lv_aload_nN hx hb dX5_differ_14 rfl (lv_at hl 0 rfl) ?_
        refine lv_aload_n hx hb dX5_differ_15 rfl (lv_at hl 1 rfl) ?_
        refine lv_acmp_eq (rx := none) (ry := some b) (tgt := 23) hx hb dX5_differ_16 (by decide) (fun c9 => absurd c9 (fun z => nomatch z)) (fun _ => ?_)
        refine lv_iconst (v := (nI 1)) hx hb dX5_differ_19 (by decide) ?_
        refine lv_goto (tgt := 24) hx hb dX5_differ_20 (by decide) ?_
        exact fh_zret hx hb hr hlocks rfl (⟨congrArg (fun z => some (Value.int z)) (bI_1 (decide_eq_true ((nI_eq hk (by decide)).mp c1))), rfl⟩) hP hS (Nat.le_of_ble_eq_true rfl) (Nat.le_of_ble_eq_true rfl) dX5_differ_24
  | some a =>
    have hl : lv_has ls 3 [(0, .ref a), (1, va_rf rb), (2, .int (nI k))] := hl
    obtain ⟨fa, rfl, ba, ga, ha1, ha2, ha3⟩ := pRo_some ha
    cases rb with
    | none =>
      have hl : lv_has ls 3 [(0, .ref a), (1, .null), (2, .int (nI k))] := hl
      obtain rfl := pRo_none hb0
      refine lv_aload_n hx hb dX5_differ_0 rfl (lv_at hl 0 rfl) ?_
      refine lv_ifnull hx hb dX5_differ_1 ?_
      refine lv_aload_nN hx hb dX5_differ_4 rfl (lv_at hl 1 rfl) ?_
      refine lv_ifnonnullN hx hb dX5_differ_5 ?_
      refine lv_iload_n hx hb dX5_differ_8 rfl (lv_at hl 2 rfl) ?_
      refine lv_bipush (v := (nI 6)) hx hb dX5_differ_9 (by decide) ?_
      refine lv_icmp_ne (tgt := 23) hx hb dX5_differ_11 (by decide) (fun c1 => ?_) (fun c1 => ?_)
      · refine lv_iconst (v := (nI 0)) hx hb dX5_differ_23 (by decide) ?_
        exact fh_zret hx hb hr hlocks rfl (⟨congrArg (fun z => some (Value.int z)) (bI_0 (fun q => c1 (by rw [of_decide_eq_true q]))), rfl⟩) hP hS (Nat.le_of_ble_eq_true rfl) (Nat.le_of_ble_eq_true rfl) dX5_differ_24
      · refine lv_aload_n hx hb dX5_differ_14 rfl (lv_at hl 0 rfl) ?_
        refine lv_aload_nN hx hb dX5_differ_15 rfl (lv_at hl 1 rfl) ?_
        refine lv_acmp_eq (rx := some a) (ry := none) (tgt := 23) hx hb dX5_differ_16 (by decide) (fun c9 => absurd c9 (fun z => nomatch z)) (fun _ => ?_)
        refine lv_iconst (v := (nI 1)) hx hb dX5_differ_19 (by decide) ?_
        refine lv_goto (tgt := 24) hx hb dX5_differ_20 (by decide) ?_
        exact fh_zret hx hb hr hlocks rfl (⟨congrArg (fun z => some (Value.int z)) (bI_1 (decide_eq_true ((nI_eq hk (by decide)).mp c1))), rfl⟩) hP hS (Nat.le_of_ble_eq_true rfl) (Nat.le_of_ble_eq_true rfl) dX5_differ_24
    | some b =>
      have hl : lv_has ls 3 [(0, .ref a), (1, .ref b), (2, .int (nI k))] := hl
      obtain ⟨fb, rfl, bb, gb, hb1, hb2, hb3⟩ := pRo_some hb0
      refine lv_aload_n hx hb dX5_differ_0 rfl (lv_at hl 0 rfl) ?_
      refine lv_ifnull hx hb dX5_differ_1 ?_
      refine lv_aload_n hx hb dX5_differ_4 rfl (lv_at hl 1 rfl) ?_
      refine lv_ifnonnull (tgt := 25) hx hb dX5_differ_5 (by decide) ?_
      refine lv_iload_n hx hb dX5_differ_25 rfl (lv_at hl 2 rfl) ?_
      refine lv_if_lt (tgt := 55) hx hb dX5_differ_26 (by decide) (fun c9 => absurd c9 (nI_pos hk)) (fun _ => ?_)
      refine lv_iload_n hx hb dX5_differ_29 rfl (lv_at hl 2 rfl) ?_
      refine lv_bipush (v := (nI 6)) hx hb dX5_differ_30 (by decide) ?_
      refine lv_icmp_ge (tgt := 55) hx hb dX5_differ_32 (by decide) (fun c1 => ?_) (fun c1 => ?_)
      · refine lv_iconst (v := (nI 0)) hx hb dX5_differ_55 (by decide) ?_
        exact fh_zret hx hb hr hlocks rfl (⟨congrArg (fun z => some (Value.int z)) (bI_0 (fun q => by have q2 := (Bool.and_eq_true _ _ ▸ q : _ ∧ _).1; exact absurd c1 (nI_ge (of_decide_eq_true q2) (by decide)))), rfl⟩) hP hS (Nat.le_of_ble_eq_true rfl) (Nat.le_of_ble_eq_true rfl) dX5_differ_56
      · have hk6 : k < 6 := by
          rcases Nat.lt_or_ge k 6 with z | z
          · exact z
          · exact absurd (nI_le z hk) c1
        refine lv_aload_n hx hb dX5_differ_35 rfl (lv_at hl 0 rfl) ?_
        refine fh_get (C := RX5) (T := TX5) (N := 1) hx hb ht inX5 hown hE.1 hP ha1 rfl 0 (by decide) (ht _ kw_264) (fun _ h9 => h9) (v := .ref ba) rfl dX5_differ_36 ?_
        refine lv_iload_n hx hb dX5_differ_39 rfl (lv_at hl 2 rfl) ?_
        refine fh_lald (k := k) hx hb hE.1 hP ha2 rfl (hk6) (by decide) dX5_differ_40 ?_
        refine lv_aload_n hx hb dX5_differ_41 rfl (lv_at hl 1 rfl) ?_
        refine fh_get (C := RX5) (T := TX5) (N := 1) hx hb ht inX5 hown hE.1 hP hb1 rfl 0 (by decide) (ht _ kw_264) (fun _ h9 => h9) (v := .ref bb) rfl dX5_differ_42 ?_
        refine lv_iload_n hx hb dX5_differ_45 rfl (lv_at hl 2 rfl) ?_
        refine fh_lald (k := k) hx hb hE.1 hP hb2 rfl (hk6) (by decide) dX5_differ_46 ?_
        refine W.lcmp hx hb dX5_differ_47 ?_
        refine lv_if_eq (tgt := 55) hx hb dX5_differ_48 (by decide) (fun c2 => ?_) (fun c2 => ?_)
        · refine lv_iconst (v := (nI 0)) hx hb dX5_differ_55 (by decide) ?_
          exact fh_zret hx hb hr hlocks rfl (⟨congrArg (fun z => some (Value.int z)) (bI_0 (fun q => by have q2 := (Bool.and_eq_true _ _ ▸ q : _ ∧ _).2; exact absurd ((ha3 k hk6).symm.trans (((lg_cmp_eq _ _).mp c2).trans (hb3 k hk6))) (of_decide_eq_true q2))), rfl⟩) hP hS (Nat.le_of_ble_eq_true rfl) (Nat.le_of_ble_eq_true rfl) dX5_differ_56
        · refine lv_iconst (v := (nI 1)) hx hb dX5_differ_51 (by decide) ?_
          refine lv_goto (tgt := 56) hx hb dX5_differ_52 (by decide) ?_
          exact fh_zret hx hb hr hlocks rfl (⟨congrArg (fun z => some (Value.int z)) (bI_1 (by show (decide (k < 6) && decide (fa k ≠ fb k)) = true; rw [decide_eq_true hk6, decide_eq_true (show fa k ≠ fb k from fun q => c2 ((lg_cmp_eq _ _).mpr ((ha3 k hk6).trans (q.trans (hb3 k hk6).symm))))]; rfl)), rfl⟩) hP hS (Nat.le_of_ble_eq_true rfl) (Nat.le_of_ble_eq_true rfl) dX5_differ_56
