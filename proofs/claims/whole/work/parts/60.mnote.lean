set_option maxRecDepth 100000 in
set_option maxHeartbeats 4000000 in
theorem m_isBarred (l : Launch) (G : fG) (A : Nat → Prop) (h : FH) (sz : Nat) {ma : Nat} {b : Nat → Nat} {th : Int32} {no nv ns J nc nl nr : Nat} {fK : Nat → Int32} {fH : Nat → Int32} {fF : Nat → Int64} {fB : Nat → Int32} {fO : Nat → Int32} {fW : Nat → Int32} {fV : Nat → Int64} {fN : Nat → Int32} {cO : Nat → Int32} {cF : Nat → Int32} {cH : Nat → Int32} {cV : Nat → Int64} {fS : Nat → Int32} {fC : Nat → Int32} {lO : Nat → Int32} {lA : Nat → Int64} {rA : Nat → Int32} {rB : Nat → Int32} {rD : Nat → Int64} {fM : Nat → Int32} (hM : MG A h h ma b th no nv ns J nc nl nr fK fH fF fB fO fW fV fN cO cF cH cV fS fC lO lA rA rB rD fM) (i o : Nat) (hi : i < 20) (ho : o < 60) (LK : List Ar) (hnl : nl = LK.length) (hnl2 : nl ≤ 10) (hL : mL lO lA LK) : Met l yX10_isBarred wsX10_isBarred { frames := 0, cells := 0, slots := 0, locals := 0 } (va_Pc [.ref ma, .int (nI i), .int (nI o)] (fh_Pre G A h sz)) (fh_Q G (fun v u => v = some (.int (bI (barred LK i (fV (360 * i + 6 * o)) (fV (360 * i + 6 * o + 1))))) ∧ u = h) A) 0 0 A := by
  refine fh_Met [.ref ma, .int (nI i), .int (nI o)] (by decide) rfl (Nat.le_of_ble_eq_true rfl) ?_
  intro p e s m below meth c hx hb hr hlocks hml hown hnm hts hsz hP hE hS ls hl
  have ht : ∀ w ∈ wB, w.before _ s = true := fun w h9 => hts w (List.mem_cons_of_mem _ h9)
  have hl : lv_has ls 9 [(0, .ref ma), (1, .int (nI i)), (2, .int (nI o))] := hl
  refine lv_aload_n hx hb dX10_isBarred_0 rfl (lv_at hl 0 rfl) ?_
  refine fh_get (C := RX10) (T := TX10) (N := 28) hx hb ht inX10 hown hE.1 hP hM.m rfl 10 (by decide) (ht _ kw_700) (fun _ h9 => h9) (v := .ref (b 18)) rfl dX10_isBarred_1 ?_
  refine lv_sipush (v := (nI 360)) hx hb dX10_isBarred_4 (by decide) ?_
  refine lv_iload_n hx hb dX10_isBarred_7 rfl (lv_at hl 1 rfl) ?_
  refine lv_imul hx hb dX10_isBarred_8 ?_
  refine lv_topi (fun z9 ez9 => ?_)
  rw [show z9 = nI (360 * i) from ez9.trans (pk_mul _ _)]
  refine lv_bipush (v := (nI 6)) hx hb dX10_isBarred_9 (by decide) ?_
  refine lv_iload_n hx hb dX10_isBarred_11 rfl (lv_at hl 2 rfl) ?_
  refine lv_imul hx hb dX10_isBarred_12 ?_
  refine lv_topi (fun z9 ez9 => ?_)
  rw [show z9 = nI (6 * o) from ez9.trans (pk_mul _ _)]
  refine lv_iadd hx hb dX10_isBarred_13 ?_
  refine lv_topi (fun z9 ez9 => ?_)
  rw [show z9 = nI ((360 * i) + (6 * o)) from ez9.trans (nI_add _ _)]
  refine fh_lald (k := ((360 * i) + (6 * o))) hx hb hE.1 hP hM.a18 rfl (by omega) (by decide) dX10_isBarred_14 ?_
  refine lv_lstore_n (lv' := [(3, .long (fV ((360 * i) + (6 * o)))), (0, .ref ma), (1, .int (nI i)), (2, .int (nI o))]) hx hb dX10_isBarred_15 rfl hl (by decide) rfl (fun ls hl => ?_)
  refine lv_aload_n hx hb dX10_isBarred_16 rfl (lv_at hl 1 rfl) ?_
  refine fh_get (C := RX10) (T := TX10) (N := 28) hx hb ht inX10 hown hE.1 hP hM.m rfl 10 (by decide) (ht _ kw_700) (fun _ h9 => h9) (v := .ref (b 18)) rfl dX10_isBarred_17 ?_
  refine lv_sipush (v := (nI 360)) hx hb dX10_isBarred_20 (by decide) ?_
  refine lv_iload_n hx hb dX10_isBarred_23 rfl (lv_at hl 2 rfl) ?_
  refine lv_imul hx hb dX10_isBarred_24 ?_
  refine lv_topi (fun z9 ez9 => ?_)
  rw [show z9 = nI (360 * i) from ez9.trans (pk_mul _ _)]
  refine lv_bipush (v := (nI 6)) hx hb dX10_isBarred_25 (by decide) ?_
  refine lv_iload_n hx hb dX10_isBarred_27 rfl (lv_at hl 3 rfl) ?_
  refine lv_imul hx hb dX10_isBarred_28 ?_
  refine lv_topi (fun z9 ez9 => ?_)
  rw [show z9 = nI (6 * o) from ez9.trans (pk_mul _ _)]
  refine lv_iadd hx hb dX10_isBarred_29 ?_
  refine lv_topi (fun z9 ez9 => ?_)
  rw [show z9 = nI ((360 * i) + (6 * o)) from ez9.trans (nI_add _ _)]
  refine lv_iconst (v := (nI 1)) hx hb dX10_isBarred_30 (by decide) ?_
  refine lv_iadd hx hb dX10_isBarred_31 ?_
  refine lv_topi (fun z9 ez9 => ?_)
  rw [show z9 = nI (((360 * i) + (6 * o)) + 1) from ez9.trans (nI_add _ _)]
  refine fh_lald (k := (((360 * i) + (6 * o)) + 1)) hx hb hE.1 hP hM.a18 rfl (by omega) (by decide) dX10_isBarred_32 ?_
  refine lv_lstore (lv' := [(5, .long (fV (((360 * i) + (6 * o)) + 1))), (3, .long (fV ((360 * i) + (6 * o)))), (0, .ref ma), (1, .int (nI i)), (2, .int (nI o))]) hx hb dX10_isBarred_33 hl (by decide) rfl (fun ls hl => ?_)
  refine lv_iconst (v := (nI 0)) hx hb dX10_isBarred_35 (by decide) ?_
  refine lv_istore (lv' := [(7, .int (nI 0)), (5, .long (fV (((360 * i) + (6 * o)) + 1))), (3, .long (fV ((360 * i) + (6 * o)))), (0, .ref ma), (1, .int (nI i)), (2, .int (nI o))]) hx hb dX10_isBarred_36 hl (by decide) rfl (fun ls hl => ?_)
  have loop : ∀ (n k : Nat), k + n = nl → ∀ (_ : (LK.take k).any (fun a : Ar => decide (a.1 ≠ nI i) && arHolds a.2.1 a.2.2.1 a.2.2.2.1 a.2.2.2.2 (fV (360 * i + 6 * o)) (fV (360 * i + 6 * o + 1))) = false), ∀ (H : Heap) (locs : List Loc) (ls : Array Slot), fh_P G vwCl h H → va_S A s.heap H locs → lv_has ls 9 [(7, .int (nI k)), (5, .long (fV (((360 * i) + (6 * o)) + 1))), (3, .long (fV ((360 * i) + (6 * o)))), (0, .ref ma), (1, .int (nI i)), (2, .int (nI o))] → W p l e (headSpec wsX10_isBarred { frames := 0, cells := 0, slots := 0, locals := 0 }).room s m [.ref ma, .int (nI i), .int (nI o)].toArray below meth c H locs 0 0 (MQ below (fh_Q G (fun v u => v = some (.int (bI (barred LK i (fV (360 * i + 6 * o)) (fV (360 * i + 6 * o + 1))))) ∧ u = h) A) [.ref ma, .int (nI i), .int (nI o)].toArray s 0 0 A) (F0 m 38 ls []) := by
    intro n
    induction n with
    | zero =>
      intro k hin hno H locs ls hP hS hl
      refine lv_iload hx hb dX10_isBarred_38 (lv_at hl 0 rfl) ?_
      refine lv_aload_n hx hb dX10_isBarred_40 rfl (lv_at hl 3 rfl) ?_
      refine fh_get (C := RX10) (T := TX10) (N := 28) hx hb ht inX10 hown hE.1 hP hM.m rfl 20 (by decide) (ht _ kw_710) (fun _ h9 => h9) (v := .int (nI nl)) rfl dX10_isBarred_41 ?_
      refine lv_icmp_ge (tgt := 142) hx hb dX10_isBarred_44 (by decide) (fun _ => ?_) (fun c9 => absurd (nI_le (by omega) (by omega)) c9)
      refine lv_iconst (v := (nI 0)) hx hb dX10_isBarred_142 (by decide) ?_
      exact fh_zret hx hb hr hlocks rfl (⟨congrArg (fun z => some (Value.int z)) (bI_0 (by unfold barred; rw [← List.take_of_length_le (show LK.length ≤ k by omega), hno]; decide)), rfl⟩) hP hS (Nat.le_of_ble_eq_true rfl) (Nat.le_of_ble_eq_true rfl) dX10_isBarred_143
    | succ n ih =>
      intro k hin hno H locs ls hP hS hl
      have hk : k < nl := by omega
      obtain ⟨a, ha⟩ : ∃ a, LK[k]? = some a := ⟨_, List.getElem?_eq_getElem (by omega)⟩
      obtain ⟨g1, g2, g3, g4, g5⟩ := hL k a ha
      have hst : (LK.take (k + 1)).any (fun a : Ar => decide (a.1 ≠ nI i) && arHolds a.2.1 a.2.2.1 a.2.2.2.1 a.2.2.2.2 (fV (360 * i + 6 * o)) (fV (360 * i + 6 * o + 1))) = ((fun a : Ar => decide (a.1 ≠ nI i) && arHolds a.2.1 a.2.2.1 a.2.2.2.1 a.2.2.2.2 (fV (360 * i + 6 * o)) (fV (360 * i + 6 * o + 1))) a) := by rw [List.take_add_one, ha, List.any_append, hno]; simp
      refine lv_iload hx hb dX10_isBarred_38 (lv_at hl 0 rfl) ?_
      refine lv_aload_n hx hb dX10_isBarred_40 rfl (lv_at hl 3 rfl) ?_
      refine fh_get (C := RX10) (T := TX10) (N := 28) hx hb ht inX10 hown hE.1 hP hM.m rfl 20 (by decide) (ht _ kw_710) (fun _ h9 => h9) (v := .int (nI nl)) rfl dX10_isBarred_41 ?_
      refine lv_icmp_ge (tgt := 142) hx hb dX10_isBarred_44 (by decide) (fun c9 => absurd c9 (nI_ge hk (by omega))) (fun _ => ?_)
      have tl : ∀ (c9 : Bool) (_ : c9 = arHolds a.2.1 a.2.2.1 a.2.2.2.1 a.2.2.2.2 (fV (360 * i + 6 * o)) (fV (360 * i + 6 * o + 1))) (H : Heap) (locs : List Loc) (ls : Array Slot), fh_P G vwCl h H → va_S A s.heap H locs → lv_has ls 9 [(7, .int (nI k)), (5, .long (fV (((360 * i) + (6 * o)) + 1))), (3, .long (fV ((360 * i) + (6 * o)))), (0, .ref ma), (1, .int (nI i)), (2, .int (nI o))] → W p l e (headSpec wsX10_isBarred { frames := 0, cells := 0, slots := 0, locals := 0 }).room s m [.ref ma, .int (nI i), .int (nI o)].toArray below meth c H locs 0 0 (MQ below (fh_Q G (fun v u => v = some (.int (bI (barred LK i (fV (360 * i + 6 * o)) (fV (360 * i + 6 * o + 1))))) ∧ u = h) A) [.ref ma, .int (nI i), .int (nI o)].toArray s 0 0 A) (F0 m 116 ls [.int (bI c9)]) := by
        intro c9 hc9 H locs ls hP hS hl
        refine lv_istore (lv' := [(8, .int (bI c9)), (7, .int (nI k)), (5, .long (fV (((360 * i) + (6 * o)) + 1))), (3, .long (fV ((360 * i) + (6 * o)))), (0, .ref ma), (1, .int (nI i)), (2, .int (nI o))]) hx hb dX10_isBarred_116 hl (by decide) rfl (fun ls hl => ?_)
        refine lv_aload_n hx hb dX10_isBarred_118 rfl (lv_at hl 4 rfl) ?_
        refine fh_get (C := RX10) (T := TX10) (N := 28) hx hb ht inX10 hown hE.1 hP hM.m rfl 21 (by decide) (ht _ kw_711) (fun _ h9 => h9) (v := .ref (b 26)) rfl dX10_isBarred_119 ?_
        refine lv_iload hx hb dX10_isBarred_122 (lv_at hl 1 rfl) ?_
        refine fh_iald (k := k) hx hb hE.1 hP hM.a26 rfl (by omega) (by decide) dX10_isBarred_124 ?_
        rw [g1]
        refine lv_iload_n hx hb dX10_isBarred_125 rfl (lv_at hl 5 rfl) ?_
        refine lv_icmp_eq (tgt := 136) hx hb dX10_isBarred_126 (by decide) (fun d1 => ?_) (fun d1 => ?_)
        · refine lv_iinc (v := nI (k + 1)) (lv' := [(7, .int (nI (k + 1))), (8, .int (bI c9)), (5, .long (fV (((360 * i) + (6 * o)) + 1))), (3, .long (fV ((360 * i) + (6 * o)))), (0, .ref ma), (1, .int (nI i)), (2, .int (nI o))]) hx hb dX10_isBarred_136 hl (k := 1) rfl (nI_1 _) (by decide) rfl (fun ls hl => ?_)
          refine lv_goto (tgt := 38) hx hb dX10_isBarred_139 (by decide) ?_
          exact ih (k + 1) (by omega) (by rw [hst]; simp [d1]) H locs ls hP hS (lv_sub hl [0, 2, 3, 4, 5, 6] rfl)
        · refine lv_iload hx hb dX10_isBarred_129 (lv_at hl 0 rfl) ?_
          refine lv_if_eq (tgt := 136) hx hb dX10_isBarred_131 (by decide) (fun d2 => ?_) (fun d2 => ?_)
          · refine lv_iinc (v := nI (k + 1)) (lv' := [(7, .int (nI (k + 1))), (8, .int (bI c9)), (5, .long (fV (((360 * i) + (6 * o)) + 1))), (3, .long (fV ((360 * i) + (6 * o)))), (0, .ref ma), (1, .int (nI i)), (2, .int (nI o))]) hx hb dX10_isBarred_136 hl (k := 1) rfl (nI_1 _) (by decide) rfl (fun ls hl => ?_)
            refine lv_goto (tgt := 38) hx hb dX10_isBarred_139 (by decide) ?_
            exact ih (k + 1) (by omega) (by rw [hst]; simp [← hc9, bI_eq.mp d2]) H locs ls hP hS (lv_sub hl [0, 2, 3, 4, 5, 6] rfl)
          · refine lv_iconst (v := (nI 1)) hx hb dX10_isBarred_134 (by decide) ?_
            exact fh_zret hx hb hr hlocks rfl (⟨congrArg (fun z => some (Value.int z)) (bI_1 (by unfold barred; rw [List.any_eq_true]; exact ⟨a, List.mem_of_getElem? ha, by simp [← hc9, bI_nz d2, d1]⟩)), rfl⟩) hP hS (Nat.le_of_ble_eq_true rfl) (Nat.le_of_ble_eq_true rfl) dX10_isBarred_135
      refine lv_lload_n hx hb dX10_isBarred_47 rfl (lv_at hl 2 rfl) ?_
      refine lv_aload_n hx hb dX10_isBarred_48 rfl (lv_at hl 3 rfl) ?_
      refine fh_get (C := RX10) (T := TX10) (N := 28) hx hb ht inX10 hown hE.1 hP hM.m rfl 22 (by decide) (ht _ kw_712) (fun _ h9 => h9) (v := .ref (b 27)) rfl dX10_isBarred_49 ?_
      refine lv_iconst (v := (nI 4)) hx hb dX10_isBarred_52 (by decide) ?_
      refine lv_iload hx hb dX10_isBarred_53 (lv_at hl 0 rfl) ?_
      refine lv_imul hx hb dX10_isBarred_55 ?_
      refine lv_topi (fun z9 ez9 => ?_)
      rw [show z9 = nI (4 * k) from ez9.trans (pk_mul _ _)]
      refine fh_lald (k := (4 * k)) hx hb hE.1 hP hM.a27 rfl (by omega) (by decide) dX10_isBarred_56 ?_
      rw [g2]
      refine W.lcmp hx hb dX10_isBarred_57 ?_
      refine lv_if_lt (tgt := 115) hx hb dX10_isBarred_58 (by decide) (fun e0 => ?_) (fun e0 => ?_)
      · refine lv_iconst (v := (nI 0)) hx hb dX10_isBarred_115 (by decide) ?_
        refine W.eq (g2 := F0 m 116 ls [.int (nI 0)]) rfl ?_
        exact tl false (by have z := (lg_cmp_lt _ _).mp e0; symm; simp only [arHolds, Bool.and_eq_false_iff, decide_eq_false_iff_not]; rw [Int64.lt_iff_toInt_lt] at z; simp only [Int64.le_iff_toInt_le]; omega) _ _ _ hP hS (lv_sub hl [0, 1, 2, 3, 4, 5] rfl)
      · refine lv_lload_n hx hb dX10_isBarred_61 rfl (lv_at hl 2 rfl) ?_
        refine lv_aload_n hx hb dX10_isBarred_62 rfl (lv_at hl 3 rfl) ?_
        refine fh_get (C := RX10) (T := TX10) (N := 28) hx hb ht inX10 hown hE.1 hP hM.m rfl 22 (by decide) (ht _ kw_712) (fun _ h9 => h9) (v := .ref (b 27)) rfl dX10_isBarred_63 ?_
        refine lv_iconst (v := (nI 4)) hx hb dX10_isBarred_66 (by decide) ?_
        refine lv_iload hx hb dX10_isBarred_67 (lv_at hl 0 rfl) ?_
        refine lv_imul hx hb dX10_isBarred_69 ?_
        refine lv_topi (fun z9 ez9 => ?_)
        rw [show z9 = nI (4 * k) from ez9.trans (pk_mul _ _)]
        refine lv_iconst (v := (nI 2)) hx hb dX10_isBarred_70 (by decide) ?_
        refine lv_iadd hx hb dX10_isBarred_71 ?_
        refine lv_topi (fun z9 ez9 => ?_)
        rw [show z9 = nI ((4 * k) + 2) from ez9.trans (nI_add _ _)]
        refine fh_lald (k := ((4 * k) + 2)) hx hb hE.1 hP hM.a27 rfl (by omega) (by decide) dX10_isBarred_72 ?_
        rw [g4]
        refine W.lcmp hx hb dX10_isBarred_73 ?_
        refine lv_if_gt (tgt := 115) hx hb dX10_isBarred_74 (by decide) (fun e1 => ?_) (fun e1 => ?_)
        · refine lv_iconst (v := (nI 0)) hx hb dX10_isBarred_115 (by decide) ?_
          refine W.eq (g2 := F0 m 116 ls [.int (nI 0)]) rfl ?_
          exact tl false (by have z := (lg_cmp_gt _ _).mp e1; symm; simp only [arHolds, Bool.and_eq_false_iff, decide_eq_false_iff_not]; rw [Int64.lt_iff_toInt_lt] at z; simp only [Int64.le_iff_toInt_le]; omega) _ _ _ hP hS (lv_sub hl [0, 1, 2, 3, 4, 5] rfl)
        · refine lv_lload hx hb dX10_isBarred_77 (lv_at hl 1 rfl) ?_
          refine lv_aload_n hx hb dX10_isBarred_79 rfl (lv_at hl 3 rfl) ?_
          refine fh_get (C := RX10) (T := TX10) (N := 28) hx hb ht inX10 hown hE.1 hP hM.m rfl 22 (by decide) (ht _ kw_712) (fun _ h9 => h9) (v := .ref (b 27)) rfl dX10_isBarred_80 ?_
          refine lv_iconst (v := (nI 4)) hx hb dX10_isBarred_83 (by decide) ?_
          refine lv_iload hx hb dX10_isBarred_84 (lv_at hl 0 rfl) ?_
          refine lv_imul hx hb dX10_isBarred_86 ?_
          refine lv_topi (fun z9 ez9 => ?_)
          rw [show z9 = nI (4 * k) from ez9.trans (pk_mul _ _)]
          refine lv_iconst (v := (nI 1)) hx hb dX10_isBarred_87 (by decide) ?_
          refine lv_iadd hx hb dX10_isBarred_88 ?_
          refine lv_topi (fun z9 ez9 => ?_)
          rw [show z9 = nI ((4 * k) + 1) from ez9.trans (nI_add _ _)]
          refine fh_lald (k := ((4 * k) + 1)) hx hb hE.1 hP hM.a27 rfl (by omega) (by decide) dX10_isBarred_89 ?_
          rw [g3]
          refine W.lcmp hx hb dX10_isBarred_90 ?_
          refine lv_if_lt (tgt := 115) hx hb dX10_isBarred_91 (by decide) (fun e2 => ?_) (fun e2 => ?_)
          · refine lv_iconst (v := (nI 0)) hx hb dX10_isBarred_115 (by decide) ?_
            refine W.eq (g2 := F0 m 116 ls [.int (nI 0)]) rfl ?_
            exact tl false (by have z := (lg_cmp_lt _ _).mp e2; symm; simp only [arHolds, Bool.and_eq_false_iff, decide_eq_false_iff_not]; rw [Int64.lt_iff_toInt_lt] at z; simp only [Int64.le_iff_toInt_le]; omega) _ _ _ hP hS (lv_sub hl [0, 1, 2, 3, 4, 5] rfl)
          · refine lv_lload hx hb dX10_isBarred_94 (lv_at hl 1 rfl) ?_
            refine lv_aload_n hx hb dX10_isBarred_96 rfl (lv_at hl 3 rfl) ?_
            refine fh_get (C := RX10) (T := TX10) (N := 28) hx hb ht inX10 hown hE.1 hP hM.m rfl 22 (by decide) (ht _ kw_712) (fun _ h9 => h9) (v := .ref (b 27)) rfl dX10_isBarred_97 ?_
            refine lv_iconst (v := (nI 4)) hx hb dX10_isBarred_100 (by decide) ?_
            refine lv_iload hx hb dX10_isBarred_101 (lv_at hl 0 rfl) ?_
            refine lv_imul hx hb dX10_isBarred_103 ?_
            refine lv_topi (fun z9 ez9 => ?_)
            rw [show z9 = nI (4 * k) from ez9.trans (pk_mul _ _)]
            refine lv_iconst (v := (nI 3)) hx hb dX10_isBarred_104 (by decide) ?_
            refine lv_iadd hx hb dX10_isBarred_105 ?_
            refine lv_topi (fun z9 ez9 => ?_)
            rw [show z9 = nI ((4 * k) + 3) from ez9.trans (nI_add _ _)]
            refine fh_lald (k := ((4 * k) + 3)) hx hb hE.1 hP hM.a27 rfl (by omega) (by decide) dX10_isBarred_106 ?_
            rw [g5]
            refine W.lcmp hx hb dX10_isBarred_107 ?_
            refine lv_if_gt (tgt := 115) hx hb dX10_isBarred_108 (by decide) (fun e3 => ?_) (fun e3 => ?_)
            · refine lv_iconst (v := (nI 0)) hx hb dX10_isBarred_115 (by decide) ?_
              refine W.eq (g2 := F0 m 116 ls [.int (nI 0)]) rfl ?_
              exact tl false (by have z := (lg_cmp_gt _ _).mp e3; symm; simp only [arHolds, Bool.and_eq_false_iff, decide_eq_false_iff_not]; rw [Int64.lt_iff_toInt_lt] at z; simp only [Int64.le_iff_toInt_le]; omega) _ _ _ hP hS (lv_sub hl [0, 1, 2, 3, 4, 5] rfl)
            · refine lv_iconst (v := (nI 1)) hx hb dX10_isBarred_111 (by decide) ?_
              refine lv_goto (tgt := 116) hx hb dX10_isBarred_112 (by decide) ?_
              refine W.eq (g2 := F0 m 116 ls [.int (nI 1)]) rfl ?_
              exact tl true (by symm; have z0 := mt (lg_cmp_lt _ _).mpr e0; have z1 := mt (lg_cmp_gt _ _).mpr e1; have z2 := mt (lg_cmp_lt _ _).mpr e2; have z3 := mt (lg_cmp_gt _ _).mpr e3; simp only [arHolds, Bool.and_eq_true, decide_eq_true_eq]; simp only [Int64.lt_iff_toInt_lt, Int64.le_iff_toInt_le] at *; omega) _ _ _ hP hS (lv_sub hl [0, 1, 2, 3, 4, 5] rfl)
  exact loop nl 0 (by omega) (by simp) _ _ _ hP hS hl

set_option maxRecDepth 100000 in
set_option maxHeartbeats 4000000 in
theorem m_note (l : Launch) (G : fG) (A : Nat → Prop) (h : FH) (sz : Nat) {ma : Nat} {b : Nat → Nat} {th : Int32} {no nv ns J nc nl nr : Nat} {fK : Nat → Int32} {fH : Nat → Int32} {fF : Nat → Int64} {fB : Nat → Int32} {fO : Nat → Int32} {fW : Nat → Int32} {fV : Nat → Int64} {fN : Nat → Int32} {cO : Nat → Int32} {cF : Nat → Int32} {cH : Nat → Int32} {cV : Nat → Int64} {fS : Nat → Int32} {fC : Nat → Int32} {lO : Nat → Int32} {lA : Nat → Int64} {rA : Nat → Int32} {rB : Nat → Int32} {rD : Nat → Int64} {fM : Nat → Int32} (hM : MG A h h ma b th no nv ns J nc nl nr fK fH fF fB fO fW fV fN cO cF cH cV fS fC lO lA rA rB rD fM) (i o f n0 : Nat) (hi : i < 20) (ho : o < 60) (hf : f < 7) (hn : fN i = nI n0) (hn4 : n0 ≤ 40) (hzW : bz fW) (hzH : bz cH) : Met l yX10_note wsX10_note { frames := 0, cells := 0, slots := 0, locals := 0 } (va_Pc [.ref ma, .int (nI i), .int (nI o), .int (nI f)] (fh_Pre G A h sz)) (fh_Q G (fun v u => ∃ fN2 cO2 cF2 cH2 cV2, v = none ∧ MG A h u ma b th no nv ns J nc nl nr fK fH fF fB fO fW fV fN2 cO2 cF2 cH2 cV2 fS fC lO lA rA rB rD fM ∧ NP i n0 o f fW fV fN cO cF cH cV fN2 cO2 cF2 cH2 cV2) A) 0 0 A := by
  refine fh_Met [.ref ma, .int (nI i), .int (nI o), .int (nI f)] (by decide) rfl (Nat.le_of_ble_eq_true rfl) ?_
  intro p e s m below meth c hx hb hr hlocks hml hown hnm hts hsz hP hE hS ls hl
  have ht : ∀ w ∈ wB, w.before _ s = true := fun w h9 => hts w (List.mem_cons_of_mem _ h9)
  have hl : lv_has ls 6 [(0, .ref ma), (1, .int (nI i)), (2, .int (nI o)), (3, .int (nI f))] := hl
  refine lv_bipush (v := (nI 40)) hx hb dX10_note_0 (by decide) ?_
  refine lv_iload_n hx hb dX10_note_2 rfl (lv_at hl 1 rfl) ?_
  refine lv_imul hx hb dX10_note_3 ?_
  refine lv_topi (fun z9 ez9 => ?_)
  rw [show z9 = nI (40 * i) from ez9.trans (pk_mul _ _)]
  refine lv_istore (lv' := [(4, .int (nI (40 * i))), (0, .ref ma), (1, .int (nI i)), (2, .int (nI o)), (3, .int (nI f))]) hx hb dX10_note_4 hl (by decide) rfl (fun ls hl => ?_)
  have tl : ∀ (hh : FH) (fN1 dO dF dH : Nat → Int32) (dV : Nat → Int64) (n1 : Nat) (_ : MG A h hh ma b th no nv ns J nc nl nr fK fH fF fB fO fW fV fN1 dO dF dH dV fS fC lO lA rA rB rD fM) (_ : n1 = nxt40 n0) (_ : n1 < 40) (_ : fN1 i = nI n1) (_ : ∀ j, j ≠ i → fN1 j = fN j) (_ : dO = shN i n0 cO) (_ : dF = shN i n0 cF) (_ : dH = shN i n0 cH) (_ : dV = shN i n0 cV) (_ : bz dH) (H : Heap) (locs : List Loc) (ls : Array Slot), fh_P G vwCl hh H → va_S A s.heap H locs → lv_has ls 6 [(4, .int (nI (40 * i))), (0, .ref ma), (1, .int (nI i)), (2, .int (nI o)), (3, .int (nI f))] → W p l e (headSpec wsX10_note { frames := 0, cells := 0, slots := 0, locals := 0 }).room s m [.ref ma, .int (nI i), .int (nI o), .int (nI f)].toArray below meth c H locs 0 0 (MQ below (fh_Q G (fun v u => ∃ fN2 cO2 cF2 cH2 cV2, v = none ∧ MG A h u ma b th no nv ns J nc nl nr fK fH fF fB fO fW fV fN2 cO2 cF2 cH2 cV2 fS fC lO lA rA rB rD fM ∧ NP i n0 o f fW fV fN cO cF cH cV fN2 cO2 cF2 cH2 cV2) A) [.ref ma, .int (nI i), .int (nI o), .int (nI f)].toArray s 0 0 A) (F0 m 113 ls []) := by
    intro hh fN1 dO dF dH dV n1 hM9 en1 hn1 hN1 hN2 eO eF eH eV hzd H locs ls hP hS hl
    refine lv_iload hx hb dX10_note_113 (lv_at hl 0 rfl) ?_
    refine lv_aload_n hx hb dX10_note_115 rfl (lv_at hl 1 rfl) ?_
    refine fh_get (C := RX10) (T := TX10) (N := 28) hx hb ht inX10 hown hE.1 hP hM9.m rfl 11 (by decide) (ht _ kw_701) (fun _ h9 => h9) (v := .ref (b 19)) rfl dX10_note_116 ?_
    refine lv_iload_n hx hb dX10_note_119 rfl (lv_at hl 2 rfl) ?_
    refine fh_iald (k := i) hx hb hE.1 hP hM9.a19 rfl (hi) (by decide) dX10_note_120 ?_
    rw [hN1]
    refine lv_iadd hx hb dX10_note_121 ?_
    refine lv_topi (fun z9 ez9 => ?_)
    rw [show z9 = nI ((40 * i) + n1) from ez9.trans (nI_add _ _)]
    refine lv_istore (lv' := [(5, .int (nI ((40 * i) + n1))), (4, .int (nI (40 * i))), (0, .ref ma), (1, .int (nI i)), (2, .int (nI o)), (3, .int (nI f))]) hx hb dX10_note_122 hl (by decide) rfl (fun ls hl => ?_)
    refine lv_aload_n hx hb dX10_note_124 rfl (lv_at hl 2 rfl) ?_
    refine fh_get (C := RX10) (T := TX10) (N := 28) hx hb ht inX10 hown hE.1 hP hM9.m rfl 12 (by decide) (ht _ kw_702) (fun _ h9 => h9) (v := .ref (b 20)) rfl dX10_note_125 ?_
    refine lv_iload hx hb dX10_note_128 (lv_at hl 0 rfl) ?_
    refine lv_iload_n hx hb dX10_note_130 rfl (lv_at hl 4 rfl) ?_
    refine fh_iast (k := ((40 * i) + n1)) hx hb hE.1 hP hS hM9.a20 (hM9.A20) rfl (by omega) (by decide) dX10_note_131 (fun H locs hP hz hS => ?_)
    obtain ⟨h_1, eh_1⟩ : ∃ z, z = fh_up hh (b 20) (.inl (20, 800, .inl (upd dO ((40 * i) + n1) (nI o)))) := ⟨_, rfl⟩
    have hP : fh_P G vwCl h_1 H := by rw [eh_1]; exact hP
    have hM_1 := MG.w20 hM9 (f2 := upd dO ((40 * i) + n1) (nI o)) eh_1
    refine lv_aload_n hx hb dX10_note_132 rfl (lv_at hl 2 rfl) ?_
    refine fh_get (C := RX10) (T := TX10) (N := 28) hx hb ht inX10 hown hE.1 hP hM_1.m rfl 13 (by decide) (ht _ kw_703) (fun _ h9 => h9) (v := .ref (b 21)) rfl dX10_note_133 ?_
    refine lv_iload hx hb dX10_note_136 (lv_at hl 0 rfl) ?_
    refine lv_iload_n hx hb dX10_note_138 rfl (lv_at hl 5 rfl) ?_
    refine fh_iast (k := ((40 * i) + n1)) hx hb hE.1 hP hS hM_1.a21 (hM_1.A21) rfl (by omega) (by decide) dX10_note_139 (fun H locs hP hz hS => ?_)
    obtain ⟨h_2, eh_2⟩ : ∃ z, z = fh_up h_1 (b 21) (.inl (21, 800, .inl (upd dF ((40 * i) + n1) (nI f)))) := ⟨_, rfl⟩
    have hP : fh_P G vwCl h_2 H := by rw [eh_2]; exact hP
    have hM_2 := MG.w21 hM_1 (f2 := upd dF ((40 * i) + n1) (nI f)) eh_2
    refine lv_aload_n hx hb dX10_note_140 rfl (lv_at hl 2 rfl) ?_
    refine fh_get (C := RX10) (T := TX10) (N := 28) hx hb ht inX10 hown hE.1 hP hM_2.m rfl 14 (by decide) (ht _ kw_704) (fun _ h9 => h9) (v := .ref (b 22)) rfl dX10_note_141 ?_
    refine lv_iload hx hb dX10_note_144 (lv_at hl 0 rfl) ?_
    refine lv_aload_n hx hb dX10_note_146 rfl (lv_at hl 2 rfl) ?_
    refine fh_get (C := RX10) (T := TX10) (N := 28) hx hb ht inX10 hown hE.1 hP hM_2.m rfl 9 (by decide) (ht _ kw_699) (fun _ h9 => h9) (v := .ref (b 17)) rfl dX10_note_147 ?_
    refine lv_bipush (v := (nI 60)) hx hb dX10_note_150 (by decide) ?_
    refine lv_iload_n hx hb dX10_note_152 rfl (lv_at hl 3 rfl) ?_
    refine lv_imul hx hb dX10_note_153 ?_
    refine lv_topi (fun z9 ez9 => ?_)
    rw [show z9 = nI (60 * i) from ez9.trans (pk_mul _ _)]
    refine lv_iload_n hx hb dX10_note_154 rfl (lv_at hl 4 rfl) ?_
    refine lv_iadd hx hb dX10_note_155 ?_
    refine lv_topi (fun z9 ez9 => ?_)
    rw [show z9 = nI ((60 * i) + o) from ez9.trans (nI_add _ _)]
    refine fh_zald (k := ((60 * i) + o)) hx hb hE.1 hP hM_2.a17 rfl (by omega) (by decide) dX10_note_156 ?_
    refine fh_zast (k := ((40 * i) + n1)) hx hb hE.1 hP hS hM_2.a22 (hM_2.A22) rfl (by omega) (by decide) dX10_note_157 (fun H locs hP hz hS => ?_)
    obtain ⟨h_3, eh_3⟩ : ∃ z, z = fh_up h_2 (b 22) (.inl (22, 800, .inl (upd dH ((40 * i) + n1) (vp_nar .boolean (fW ((60 * i) + o)))))) := ⟨_, rfl⟩
    have hP : fh_P G vwCl h_3 H := by rw [eh_3]; exact hP
    have hM_3 := MG.w22 hM_2 (f2 := upd dH ((40 * i) + n1) (vp_nar .boolean (fW ((60 * i) + o)))) eh_3
    refine lv_aload_n hx hb dX10_note_158 rfl (lv_at hl 2 rfl) ?_
    refine fh_get (C := RX10) (T := TX10) (N := 28) hx hb ht inX10 hown hE.1 hP hM_3.m rfl 15 (by decide) (ht _ kw_705) (fun _ h9 => h9) (v := .ref (b 23)) rfl dX10_note_159 ?_
    refine lv_iload hx hb dX10_note_162 (lv_at hl 0 rfl) ?_
    refine lv_iload_n hx hb dX10_note_164 rfl (lv_at hl 5 rfl) ?_
    refine lv_bipush (v := (nI 6)) hx hb dX10_note_165 (by decide) ?_
    refine lv_icmp_ne (tgt := 174) hx hb dX10_note_167 (by decide) (fun d1 => ?_) (fun d1 => ?_)
    · have d2 : ¬ f = 6 := fun z => d1 (by rw [z])
      refine lv_aload_n hx hb dX10_note_174 rfl (lv_at hl 2 rfl) ?_
      refine fh_get (C := RX10) (T := TX10) (N := 28) hx hb ht inX10 hown hE.1 hP hM_3.m rfl 10 (by decide) (ht _ kw_700) (fun _ h9 => h9) (v := .ref (b 18)) rfl dX10_note_175 ?_
      refine lv_sipush (v := (nI 360)) hx hb dX10_note_178 (by decide) ?_
      refine lv_iload_n hx hb dX10_note_181 rfl (lv_at hl 3 rfl) ?_
      refine lv_imul hx hb dX10_note_182 ?_
      refine lv_topi (fun z9 ez9 => ?_)
      rw [show z9 = nI (360 * i) from ez9.trans (pk_mul _ _)]
      refine lv_bipush (v := (nI 6)) hx hb dX10_note_183 (by decide) ?_
      refine lv_iload_n hx hb dX10_note_185 rfl (lv_at hl 4 rfl) ?_
      refine lv_imul hx hb dX10_note_186 ?_
      refine lv_topi (fun z9 ez9 => ?_)
      rw [show z9 = nI (6 * o) from ez9.trans (pk_mul _ _)]
      refine lv_iadd hx hb dX10_note_187 ?_
      refine lv_topi (fun z9 ez9 => ?_)
      rw [show z9 = nI ((360 * i) + (6 * o)) from ez9.trans (nI_add _ _)]
      refine lv_iload_n hx hb dX10_note_188 rfl (lv_at hl 5 rfl) ?_
      refine lv_iadd hx hb dX10_note_189 ?_
      refine lv_topi (fun z9 ez9 => ?_)
      rw [show z9 = nI (((360 * i) + (6 * o)) + f) from ez9.trans (nI_add _ _)]
      refine fh_lald (k := (((360 * i) + (6 * o)) + f)) hx hb hE.1 hP hM_3.a18 rfl (by omega) (by decide) dX10_note_190 ?_
      refine fh_last (k := ((40 * i) + n1)) hx hb hE.1 hP hS hM_3.a23 (hM_3.A23) rfl (by omega) (by decide) dX10_note_191 (fun H locs hP hz hS => ?_)
      obtain ⟨h_4, eh_4⟩ : ∃ z, z = fh_up h_3 (b 23) (.inl (23, 800, .inr (.inl (vp_updL dV ((40 * i) + n1) (fV (((360 * i) + (6 * o)) + f)))))) := ⟨_, rfl⟩
      have hP : fh_P G vwCl h_4 H := by rw [eh_4]; exact hP
      have hM_4 := MG.w23 hM_3 (f2 := vp_updL dV ((40 * i) + n1) (fV (((360 * i) + (6 * o)) + f))) eh_4
      refine lv_aload_n hx hb dX10_note_192 rfl (lv_at hl 2 rfl) ?_
      refine fh_get (C := RX10) (T := TX10) (N := 28) hx hb ht inX10 hown hE.1 hP hM_4.m rfl 11 (by decide) (ht _ kw_701) (fun _ h9 => h9) (v := .ref (b 19)) rfl dX10_note_193 ?_
      refine lv_iload_n hx hb dX10_note_196 rfl (lv_at hl 3 rfl) ?_
      refine lv_dup2_11 hx hb dX10_note_197 rfl rfl ?_
      refine fh_iald (k := i) hx hb hE.1 hP hM_4.a19 rfl (hi) (by decide) dX10_note_198 ?_
      rw [hN1]
      refine lv_iconst (v := (nI 1)) hx hb dX10_note_199 (by decide) ?_
      refine lv_iadd hx hb dX10_note_200 ?_
      refine lv_topi (fun z9 ez9 => ?_)
      rw [show z9 = nI (n1 + 1) from ez9.trans (nI_add _ _)]
      refine fh_iast (k := i) hx hb hE.1 hP hS hM_4.a19 (hM_4.A19) rfl (hi) (by decide) dX10_note_201 (fun H locs hP hz hS => ?_)
      obtain ⟨h_5, eh_5⟩ : ∃ z, z = fh_up h_4 (b 19) (.inl (19, 20, .inl (upd fN1 i (nI (n1 + 1))))) := ⟨_, rfl⟩
      have hP : fh_P G vwCl h_5 H := by rw [eh_5]; exact hP
      have hM_5 := MG.w19 hM_4 (f2 := upd fN1 i (nI (n1 + 1))) eh_5
      exact fh_vret hx hb hr hlocks (⟨_, _, _, _, _, rfl, hM_5, bz_u hzd _ _, fun j hj => by rw [← hN2 j hj]; simp [upd, hj], by rw [← en1]; simp [upd], NT_u en1 eO, NT_u en1 eF, by rw [hzW]; exact NT_u en1 eH, by rw [if_neg d2]; exact NT_l en1 eV⟩) hP hS (Nat.le_of_ble_eq_true rfl) (Nat.le_of_ble_eq_true rfl) dX10_note_202
    · have d2 : f = 6 := (nI_eq (by omega) (by decide)).mp d1
      refine lv_lconst (v := 0) hx hb dX10_note_170 (by decide) ?_
      refine lv_goto (tgt := 191) hx hb dX10_note_171 (by decide) ?_
      refine fh_last (k := ((40 * i) + n1)) hx hb hE.1 hP hS hM_3.a23 (hM_3.A23) rfl (by omega) (by decide) dX10_note_191 (fun H locs hP hz hS => ?_)
      obtain ⟨h_4, eh_4⟩ : ∃ z, z = fh_up h_3 (b 23) (.inl (23, 800, .inr (.inl (vp_updL dV ((40 * i) + n1) 0)))) := ⟨_, rfl⟩
      have hP : fh_P G vwCl h_4 H := by rw [eh_4]; exact hP
      have hM_4 := MG.w23 hM_3 (f2 := vp_updL dV ((40 * i) + n1) 0) eh_4
      refine lv_aload_n hx hb dX10_note_192 rfl (lv_at hl 2 rfl) ?_
      refine fh_get (C := RX10) (T := TX10) (N := 28) hx hb ht inX10 hown hE.1 hP hM_4.m rfl 11 (by decide) (ht _ kw_701) (fun _ h9 => h9) (v := .ref (b 19)) rfl dX10_note_193 ?_
      refine lv_iload_n hx hb dX10_note_196 rfl (lv_at hl 3 rfl) ?_
      refine lv_dup2_11 hx hb dX10_note_197 rfl rfl ?_
      refine fh_iald (k := i) hx hb hE.1 hP hM_4.a19 rfl (hi) (by decide) dX10_note_198 ?_
      rw [hN1]
      refine lv_iconst (v := (nI 1)) hx hb dX10_note_199 (by decide) ?_
      refine lv_iadd hx hb dX10_note_200 ?_
      refine lv_topi (fun z9 ez9 => ?_)
      rw [show z9 = nI (n1 + 1) from ez9.trans (nI_add _ _)]
      refine fh_iast (k := i) hx hb hE.1 hP hS hM_4.a19 (hM_4.A19) rfl (hi) (by decide) dX10_note_201 (fun H locs hP hz hS => ?_)
      obtain ⟨h_5, eh_5⟩ : ∃ z, z = fh_up h_4 (b 19) (.inl (19, 20, .inl (upd fN1 i (nI (n1 + 1))))) := ⟨_, rfl⟩
      have hP : fh_P G vwCl h_5 H := by rw [eh_5]; exact hP
      have hM_5 := MG.w19 hM_4 (f2 := upd fN1 i (nI (n1 + 1))) eh_5
      exact fh_vret hx hb hr hlocks (⟨_, _, _, _, _, rfl, hM_5, bz_u hzd _ _, fun j hj => by rw [← hN2 j hj]; simp [upd, hj], by rw [← en1]; simp [upd], NT_u en1 eO, NT_u en1 eF, by rw [hzW]; exact NT_u en1 eH, by rw [if_pos d2]; exact NT_l en1 eV⟩) hP hS (Nat.le_of_ble_eq_true rfl) (Nat.le_of_ble_eq_true rfl) dX10_note_202
  refine lv_aload_n hx hb dX10_note_6 rfl (lv_at hl 1 rfl) ?_
  refine fh_get (C := RX10) (T := TX10) (N := 28) hx hb ht inX10 hown hE.1 hP hM.m rfl 11 (by decide) (ht _ kw_701) (fun _ h9 => h9) (v := .ref (b 19)) rfl dX10_note_7 ?_
  refine lv_iload_n hx hb dX10_note_10 rfl (lv_at hl 2 rfl) ?_
  refine fh_iald (k := i) hx hb hE.1 hP hM.a19 rfl (hi) (by decide) dX10_note_11 ?_
  rw [hn]
  refine lv_bipush (v := (nI 40)) hx hb dX10_note_12 (by decide) ?_
  refine lv_icmp_ne (tgt := 113) hx hb dX10_note_14 (by decide) (fun c1 => ?_) (fun c1 => ?_)
  · have c2 : n0 ≠ 40 := fun z => c1 (by rw [z])
    refine W.eq (g2 := F0 m 113 ls []) rfl ?_
    exact tl h fN cO cF cH cV n0 hM (by unfold nxt40; rw [if_neg c2]) (by omega) hn (fun _ _ => rfl) (shN_n i c2 cO).symm (shN_n i c2 cF).symm (shN_n i c2 cH).symm (shN_n i c2 cV).symm hzH _ _ _ hP hS (lv_sub hl [0, 1, 2, 3, 4] rfl)
  · have c2 : n0 = 40 := (nI_eq (by omega) (by decide)).mp c1
    refine lv_iload hx hb dX10_note_17 (lv_at hl 0 rfl) ?_
    refine lv_iconst (v := (nI 1)) hx hb dX10_note_19 (by decide) ?_
    refine lv_iadd hx hb dX10_note_20 ?_
    refine lv_topi (fun z9 ez9 => ?_)
    rw [show z9 = nI ((40 * i) + 1) from ez9.trans (nI_add _ _)]
    refine lv_istore (lv' := [(5, .int (nI ((40 * i) + 1))), (4, .int (nI (40 * i))), (0, .ref ma), (1, .int (nI i)), (2, .int (nI o)), (3, .int (nI f))]) hx hb dX10_note_21 hl (by decide) rfl (fun ls hl => ?_)
    have loop : ∀ (n j : Nat), j + n = 39 → ∀ (hh : FH) (_ : MG A h hh ma b th no nv ns J nc nl nr fK fH fF fB fO fW fV fN (shJ i j cO) (shJ i j cF) (shJ i j cH) (shJ i j cV) fS fC lO lA rA rB rD fM), ∀ (H : Heap) (locs : List Loc) (ls : Array Slot), fh_P G vwCl hh H → va_S A s.heap H locs → lv_has ls 6 [(5, .int (nI (40 * i + 1 + j))), (4, .int (nI (40 * i))), (0, .ref ma), (1, .int (nI i)), (2, .int (nI o)), (3, .int (nI f))] → W p l e (headSpec wsX10_note { frames := 0, cells := 0, slots := 0, locals := 0 }).room s m [.ref ma, .int (nI i), .int (nI o), .int (nI f)].toArray below meth c H locs 0 0 (MQ below (fh_Q G (fun v u => ∃ fN2 cO2 cF2 cH2 cV2, v = none ∧ MG A h u ma b th no nv ns J nc nl nr fK fH fF fB fO fW fV fN2 cO2 cF2 cH2 cV2 fS fC lO lA rA rB rD fM ∧ NP i n0 o f fW fV fN cO cF cH cV fN2 cO2 cF2 cH2 cV2) A) [.ref ma, .int (nI i), .int (nI o), .int (nI f)].toArray s 0 0 A) (F0 m 23 ls []) := by
      intro n
      induction n with
      | zero =>
        intro j hin hh hM9 H locs ls hP hS hl
        have j39 : j = 39 := by omega
        refine lv_iload hx hb dX10_note_23 (lv_at hl 0 rfl) ?_
        refine lv_iload hx hb dX10_note_25 (lv_at hl 1 rfl) ?_
        refine lv_bipush (v := (nI 40)) hx hb dX10_note_27 (by decide) ?_
        refine lv_iadd hx hb dX10_note_29 ?_
        refine lv_topi (fun z9 ez9 => ?_)
        rw [show z9 = nI ((40 * i) + 40) from ez9.trans (nI_add _ _)]
        refine lv_icmp_ge (tgt := 103) hx hb dX10_note_30 (by decide) (fun _ => ?_) (fun c9 => absurd (nI_le (by omega) (by omega)) c9)
        refine lv_aload_n hx hb dX10_note_103 rfl (lv_at hl 2 rfl) ?_
        refine fh_get (C := RX10) (T := TX10) (N := 28) hx hb ht inX10 hown hE.1 hP hM9.m rfl 11 (by decide) (ht _ kw_701) (fun _ h9 => h9) (v := .ref (b 19)) rfl dX10_note_104 ?_
        refine lv_iload_n hx hb dX10_note_107 rfl (lv_at hl 3 rfl) ?_
        refine lv_dup2_11 hx hb dX10_note_108 rfl rfl ?_
        refine fh_iald (k := i) hx hb hE.1 hP hM9.a19 rfl (hi) (by decide) dX10_note_109 ?_
        rw [hn]
        refine lv_iconst (v := (nI 1)) hx hb dX10_note_110 (by decide) ?_
        refine lv_isub hx hb dX10_note_111 ?_
        refine lv_topi (fun z9 ez9 => ?_)
        rw [show z9 = nI 39 from ez9.trans (by rw [c2]; decide)]
        refine fh_iast (k := i) hx hb hE.1 hP hS hM9.a19 (hM9.A19) rfl (hi) (by decide) dX10_note_112 (fun H locs hP hz hS => ?_)
        obtain ⟨h_6, eh_6⟩ : ∃ z, z = fh_up hh (b 19) (.inl (19, 20, .inl (upd fN i (nI 39)))) := ⟨_, rfl⟩
        have hP : fh_P G vwCl h_6 H := by rw [eh_6]; exact hP
        have hM_6 := MG.w19 hM9 (f2 := upd fN i (nI 39)) eh_6
        refine W.eq (g2 := F0 m 113 ls []) rfl ?_
        exact tl h_6 (upd fN i (nI 39)) (shJ i j cO) (shJ i j cF) (shJ i j cH) (shJ i j cV) 39 hM_6 (by unfold nxt40; rw [if_pos c2]) (by decide) (by simp [upd]) (fun q hq => by simp [upd, hq]) (by rw [j39]; exact shJ_N i c2 cO) (by rw [j39]; exact shJ_N i c2 cF) (by rw [j39]; exact shJ_N i c2 cH) (by rw [j39]; exact shJ_N i c2 cV) (shJ_bz hzH) _ _ _ hP hS (lv_sub hl [1, 2, 3, 4, 5] rfl)
      | succ n ih =>
        intro j hin hh hM9 H locs ls hP hS hl
        refine lv_iload hx hb dX10_note_23 (lv_at hl 0 rfl) ?_
        refine lv_iload hx hb dX10_note_25 (lv_at hl 1 rfl) ?_
        refine lv_bipush (v := (nI 40)) hx hb dX10_note_27 (by decide) ?_
        refine lv_iadd hx hb dX10_note_29 ?_
        refine lv_topi (fun z9 ez9 => ?_)
        rw [show z9 = nI ((40 * i) + 40) from ez9.trans (nI_add _ _)]
        refine lv_icmp_ge (tgt := 103) hx hb dX10_note_30 (by decide) (fun c9 => absurd c9 (nI_ge (by omega) (by omega))) (fun _ => ?_)
        refine lv_aload_n hx hb dX10_note_33 rfl (lv_at hl 2 rfl) ?_
        refine fh_get (C := RX10) (T := TX10) (N := 28) hx hb ht inX10 hown hE.1 hP hM9.m rfl 12 (by decide) (ht _ kw_702) (fun _ h9 => h9) (v := .ref (b 20)) rfl dX10_note_34 ?_
        refine lv_iload hx hb dX10_note_37 (lv_at hl 0 rfl) ?_
        refine lv_iconst (v := (nI 1)) hx hb dX10_note_39 (by decide) ?_
        refine lv_isub hx hb dX10_note_40 ?_
        refine lv_topi (fun z9 ez9 => ?_)
        rw [show z9 = nI (40 * i + j) from ez9.trans ((pk_sub (by omega)).trans (congrArg nI (by omega)))]
        refine lv_aload_n hx hb dX10_note_41 rfl (lv_at hl 2 rfl) ?_
        refine fh_get (C := RX10) (T := TX10) (N := 28) hx hb ht inX10 hown hE.1 hP hM9.m rfl 12 (by decide) (ht _ kw_702) (fun _ h9 => h9) (v := .ref (b 20)) rfl dX10_note_42 ?_
        refine lv_iload hx hb dX10_note_45 (lv_at hl 0 rfl) ?_
        refine fh_iald (k := (40 * i + 1 + j)) hx hb hE.1 hP hM9.a20 rfl (by omega) (by decide) dX10_note_47 ?_
        refine fh_iast (k := (40 * i + j)) hx hb hE.1 hP hS hM9.a20 (hM9.A20) rfl (by omega) (by decide) dX10_note_48 (fun H locs hP hz hS => ?_)
        obtain ⟨h_6, eh_6⟩ : ∃ z, z = fh_up hh (b 20) (.inl (20, 800, .inl (upd (shJ i j cO) (40 * i + j) ((shJ i j cO) (40 * i + 1 + j))))) := ⟨_, rfl⟩
        have hP : fh_P G vwCl h_6 H := by rw [eh_6]; exact hP
        have hM_6 := MG.w20 hM9 (f2 := upd (shJ i j cO) (40 * i + j) ((shJ i j cO) (40 * i + 1 + j))) eh_6
        refine lv_aload_n hx hb dX10_note_49 rfl (lv_at hl 2 rfl) ?_
        refine fh_get (C := RX10) (T := TX10) (N := 28) hx hb ht inX10 hown hE.1 hP hM_6.m rfl 13 (by decide) (ht _ kw_703) (fun _ h9 => h9) (v := .ref (b 21)) rfl dX10_note_50 ?_
        refine lv_iload hx hb dX10_note_53 (lv_at hl 0 rfl) ?_
        refine lv_iconst (v := (nI 1)) hx hb dX10_note_55 (by decide) ?_
        refine lv_isub hx hb dX10_note_56 ?_
        refine lv_topi (fun z9 ez9 => ?_)
        rw [show z9 = nI (40 * i + j) from ez9.trans ((pk_sub (by omega)).trans (congrArg nI (by omega)))]
        refine lv_aload_n hx hb dX10_note_57 rfl (lv_at hl 2 rfl) ?_
        refine fh_get (C := RX10) (T := TX10) (N := 28) hx hb ht inX10 hown hE.1 hP hM_6.m rfl 13 (by decide) (ht _ kw_703) (fun _ h9 => h9) (v := .ref (b 21)) rfl dX10_note_58 ?_
        refine lv_iload hx hb dX10_note_61 (lv_at hl 0 rfl) ?_
        refine fh_iald (k := (40 * i + 1 + j)) hx hb hE.1 hP hM_6.a21 rfl (by omega) (by decide) dX10_note_63 ?_
        refine fh_iast (k := (40 * i + j)) hx hb hE.1 hP hS hM_6.a21 (hM_6.A21) rfl (by omega) (by decide) dX10_note_64 (fun H locs hP hz hS => ?_)
        obtain ⟨h_7, eh_7⟩ : ∃ z, z = fh_up h_6 (b 21) (.inl (21, 800, .inl (upd (shJ i j cF) (40 * i + j) ((shJ i j cF) (40 * i + 1 + j))))) := ⟨_, rfl⟩
        have hP : fh_P G vwCl h_7 H := by rw [eh_7]; exact hP
        have hM_7 := MG.w21 hM_6 (f2 := upd (shJ i j cF) (40 * i + j) ((shJ i j cF) (40 * i + 1 + j))) eh_7
        refine lv_aload_n hx hb dX10_note_65 rfl (lv_at hl 2 rfl) ?_
        refine fh_get (C := RX10) (T := TX10) (N := 28) hx hb ht inX10 hown hE.1 hP hM_7.m rfl 14 (by decide) (ht _ kw_704) (fun _ h9 => h9) (v := .ref (b 22)) rfl dX10_note_66 ?_
        refine lv_iload hx hb dX10_note_69 (lv_at hl 0 rfl) ?_
        refine lv_iconst (v := (nI 1)) hx hb dX10_note_71 (by decide) ?_
        refine lv_isub hx hb dX10_note_72 ?_
        refine lv_topi (fun z9 ez9 => ?_)
        rw [show z9 = nI (40 * i + j) from ez9.trans ((pk_sub (by omega)).trans (congrArg nI (by omega)))]
        refine lv_aload_n hx hb dX10_note_73 rfl (lv_at hl 2 rfl) ?_
        refine fh_get (C := RX10) (T := TX10) (N := 28) hx hb ht inX10 hown hE.1 hP hM_7.m rfl 14 (by decide) (ht _ kw_704) (fun _ h9 => h9) (v := .ref (b 22)) rfl dX10_note_74 ?_
        refine lv_iload hx hb dX10_note_77 (lv_at hl 0 rfl) ?_
        refine fh_zald (k := (40 * i + 1 + j)) hx hb hE.1 hP hM_7.a22 rfl (by omega) (by decide) dX10_note_79 ?_
        refine fh_zast (k := (40 * i + j)) hx hb hE.1 hP hS hM_7.a22 (hM_7.A22) rfl (by omega) (by decide) dX10_note_80 (fun H locs hP hz hS => ?_)
        obtain ⟨h_8, eh_8⟩ : ∃ z, z = fh_up h_7 (b 22) (.inl (22, 800, .inl (upd (shJ i j cH) (40 * i + j) (vp_nar .boolean ((shJ i j cH) (40 * i + 1 + j)))))) := ⟨_, rfl⟩
        have hP : fh_P G vwCl h_8 H := by rw [eh_8]; exact hP
        have hM_8 := MG.w22 hM_7 (f2 := upd (shJ i j cH) (40 * i + j) (vp_nar .boolean ((shJ i j cH) (40 * i + 1 + j)))) eh_8
        refine lv_aload_n hx hb dX10_note_81 rfl (lv_at hl 2 rfl) ?_
        refine fh_get (C := RX10) (T := TX10) (N := 28) hx hb ht inX10 hown hE.1 hP hM_8.m rfl 15 (by decide) (ht _ kw_705) (fun _ h9 => h9) (v := .ref (b 23)) rfl dX10_note_82 ?_
        refine lv_iload hx hb dX10_note_85 (lv_at hl 0 rfl) ?_
        refine lv_iconst (v := (nI 1)) hx hb dX10_note_87 (by decide) ?_
        refine lv_isub hx hb dX10_note_88 ?_
        refine lv_topi (fun z9 ez9 => ?_)
        rw [show z9 = nI (40 * i + j) from ez9.trans ((pk_sub (by omega)).trans (congrArg nI (by omega)))]
        refine lv_aload_n hx hb dX10_note_89 rfl (lv_at hl 2 rfl) ?_
        refine fh_get (C := RX10) (T := TX10) (N := 28) hx hb ht inX10 hown hE.1 hP hM_8.m rfl 15 (by decide) (ht _ kw_705) (fun _ h9 => h9) (v := .ref (b 23)) rfl dX10_note_90 ?_
        refine lv_iload hx hb dX10_note_93 (lv_at hl 0 rfl) ?_
        refine fh_lald (k := (40 * i + 1 + j)) hx hb hE.1 hP hM_8.a23 rfl (by omega) (by decide) dX10_note_95 ?_
        refine fh_last (k := (40 * i + j)) hx hb hE.1 hP hS hM_8.a23 (hM_8.A23) rfl (by omega) (by decide) dX10_note_96 (fun H locs hP hz hS => ?_)
        obtain ⟨h_9, eh_9⟩ : ∃ z, z = fh_up h_8 (b 23) (.inl (23, 800, .inr (.inl (vp_updL (shJ i j cV) (40 * i + j) ((shJ i j cV) (40 * i + 1 + j)))))) := ⟨_, rfl⟩
        have hP : fh_P G vwCl h_9 H := by rw [eh_9]; exact hP
        have hM_9 := MG.w23 hM_8 (f2 := vp_updL (shJ i j cV) (40 * i + j) ((shJ i j cV) (40 * i + 1 + j))) eh_9
        have hM10 : MG A h h_9 ma b th no nv ns J nc nl nr fK fH fF fB fO fW fV fN (shJ i (j + 1) cO) (shJ i (j + 1) cF) (shJ i (j + 1) cH) (shJ i (j + 1) cV) fS fC lO lA rA rB rD fM := by have z9 := hM_9; rw [shJ_u, shJ_u, shJ_b i j hzH, shJ_l] at z9; exact z9
        refine lv_iinc (v := nI ((40 * i + 1 + j) + 1)) (lv' := [(5, .int (nI ((40 * i + 1 + j) + 1))), (4, .int (nI (40 * i))), (0, .ref ma), (1, .int (nI i)), (2, .int (nI o)), (3, .int (nI f))]) hx hb dX10_note_97 hl (k := 0) rfl (nI_1 _) (by decide) rfl (fun ls hl => ?_)
        refine lv_goto (tgt := 23) hx hb dX10_note_100 (by decide) ?_
        exact ih (j + 1) (by omega) h_9 hM10 H locs ls hP hS (lv_sub hl [0, 1, 2, 3, 4, 5] rfl)
    exact loop 39 0 (by omega) h (by rw [shJ_0, shJ_0, shJ_0, shJ_0]; exact hM) _ _ _ hP hS hl

set_option maxRecDepth 100000 in
set_option maxHeartbeats 4000000 in
theorem m_setsField (l : Launch) (G : fG) (A : Nat → Prop) (h : FH) (sz : Nat) {ma : Nat} {b : Nat → Nat} {th : Int32} {no nv ns J nc nl nr : Nat} {fK : Nat → Int32} {fH : Nat → Int32} {fF : Nat → Int64} {fB : Nat → Int32} {fO : Nat → Int32} {fW : Nat → Int32} {fV : Nat → Int64} {fN : Nat → Int32} {cO : Nat → Int32} {cF : Nat → Int32} {cH : Nat → Int32} {cV : Nat → Int64} {fS : Nat → Int32} {fC : Nat → Int32} {lO : Nat → Int32} {lA : Nat → Int64} {rA : Nat → Int32} {rB : Nat → Int32} {rD : Nat → Int64} {fM : Nat → Int32} (hM : MG A h h ma b th no nv ns J nc nl nr fK fH fF fB fO fW fV fN cO cF cH cV fS fC lO lA rA rB rD fM) (i o f n : Nat) (x : Int64) (hi : i < 20) (ho : o < 60) (hf : f < 6) (hn : fN i = nI n) (hn4 : n ≤ 40) (hzW : bz fW) (hzH : bz cH) (LK : List Ar) (hnl : nl = LK.length) (hnl2 : nl ≤ 10) (hL : mL lO lA LK) : Met l yX10_setsField wsX10_setsField { frames := 1, cells := 0, slots := 0, locals := 35 } (va_Pc [.ref ma, .int (nI i), .int (nI o), .int (nI f), .long x] (fh_Pre G A h sz)) (fh_Q G (fun v u => ((fV (360 * i + 6 * o + f) = x ∨ barred LK i (fV (360 * i + 6 * o)) (fV (360 * i + 6 * o + 1)) = true) ∧ v = some (.int 0) ∧ u = h) ∨ (¬ (fV (360 * i + 6 * o + f) = x ∨ barred LK i (fV (360 * i + 6 * o)) (fV (360 * i + 6 * o + 1)) = true) ∧ v = some (.int 1) ∧ ∃ fN2 cO2 cF2 cH2 cV2, MG A h u ma b th no nv ns J nc nl nr fK fH fF fB fO fW (vp_updL fV (360 * i + 6 * o + f) x) fN2 cO2 cF2 cH2 cV2 fS fC lO lA rA rB rD fM ∧ NP i n o f fW fV fN cO cF cH cV fN2 cO2 cF2 cH2 cV2)) A) 0 0 A := by
  refine fh_Met [.ref ma, .int (nI i), .int (nI o), .int (nI f), .long x] (by decide) rfl (Nat.le_of_ble_eq_true rfl) ?_
  intro p e s m below meth c hx hb hr hlocks hml hown hnm hts hsz hP hE hS ls hl
  have ht : ∀ w ∈ wB, w.before _ s = true := fun w h9 => hts w (List.mem_cons_of_mem _ h9)
  have hl : lv_has ls 7 [(0, .ref ma), (1, .int (nI i)), (2, .int (nI o)), (3, .int (nI f)), (4, .long x)] := hl
  refine lv_sipush (v := (nI 360)) hx hb dX10_setsField_0 (by decide) ?_
  refine lv_iload_n hx hb dX10_setsField_3 rfl (lv_at hl 1 rfl) ?_
  refine lv_imul hx hb dX10_setsField_4 ?_
  refine lv_topi (fun z9 ez9 => ?_)
  rw [show z9 = nI (360 * i) from ez9.trans (pk_mul _ _)]
  refine lv_bipush (v := (nI 6)) hx hb dX10_setsField_5 (by decide) ?_
  refine lv_iload_n hx hb dX10_setsField_7 rfl (lv_at hl 2 rfl) ?_
  refine lv_imul hx hb dX10_setsField_8 ?_
  refine lv_topi (fun z9 ez9 => ?_)
  rw [show z9 = nI (6 * o) from ez9.trans (pk_mul _ _)]
  refine lv_iadd hx hb dX10_setsField_9 ?_
  refine lv_topi (fun z9 ez9 => ?_)
  rw [show z9 = nI ((360 * i) + (6 * o)) from ez9.trans (nI_add _ _)]
  refine lv_iload_n hx hb dX10_setsField_10 rfl (lv_at hl 3 rfl) ?_
  refine lv_iadd hx hb dX10_setsField_11 ?_
  refine lv_topi (fun z9 ez9 => ?_)
  rw [show z9 = nI (((360 * i) + (6 * o)) + f) from ez9.trans (nI_add _ _)]
  refine lv_istore (lv' := [(6, .int (nI (((360 * i) + (6 * o)) + f))), (0, .ref ma), (1, .int (nI i)), (2, .int (nI o)), (3, .int (nI f)), (4, .long x)]) hx hb dX10_setsField_12 hl (by decide) rfl (fun ls hl => ?_)
  refine lv_aload_n hx hb dX10_setsField_14 rfl (lv_at hl 1 rfl) ?_
  refine fh_get (C := RX10) (T := TX10) (N := 28) hx hb ht inX10 hown hE.1 hP hM.m rfl 10 (by decide) (ht _ kw_700) (fun _ h9 => h9) (v := .ref (b 18)) rfl dX10_setsField_15 ?_
  refine lv_iload hx hb dX10_setsField_18 (lv_at hl 0 rfl) ?_
  refine fh_lald (k := (((360 * i) + (6 * o)) + f)) hx hb hE.1 hP hM.a18 rfl (by omega) (by decide) dX10_setsField_20 ?_
  refine lv_lload hx hb dX10_setsField_21 (lv_at hl 5 rfl) ?_
  refine W.lcmp hx hb dX10_setsField_23 ?_
  refine lv_if_eq (tgt := 36) hx hb dX10_setsField_24 (by decide) (fun c1 => ?_) (fun c1 => ?_)
  · have e1 := (lg_cmp_eq _ _).mp c1
    refine lv_iconst (v := (nI 0)) hx hb dX10_setsField_36 (by decide) ?_
    exact fh_zret hx hb hr hlocks rfl (Or.inl ⟨Or.inl e1, rfl, rfl⟩) hP hS (Nat.le_of_ble_eq_true rfl) (Nat.le_of_ble_eq_true rfl) dX10_setsField_37
  · have e1 := mt (lg_cmp_eq _ _).mpr c1
    refine lv_aload_n hx hb dX10_setsField_27 rfl (lv_at hl 1 rfl) ?_
    refine lv_iload_n hx hb dX10_setsField_28 rfl (lv_at hl 2 rfl) ?_
    refine lv_iload_n hx hb dX10_setsField_29 rfl (lv_at hl 3 rfl) ?_
    refine fh_cV (q := (RX10, TX10, 28)) (As := [.int (nI i), .int (nI o)]) (rest := []) (b := ma) ⟨hx, hb, hml, hown, ht⟩ (m_isBarred l G A h _ hM i o hi ho LK hnl hnl2 hL) (cwV 2 ht (gV kw_826 kw_828 kp_21 kw_5 kw_829) rfl rfl rfl yd_X10_isBarred ⟨(Nat.le_of_ble_eq_true rfl), (Nat.le_of_ble_eq_true rfl)⟩) hP hE hS hM.m rfl rfl hl.1 rfl (Nat.le_of_ble_eq_true rfl) dX10_setsField_30 ⟨(Nat.le_of_ble_eq_true rfl), (Nat.le_of_ble_eq_true rfl)⟩ (fun v u H locs hp hP hz hS => ?_)
    obtain ⟨rfl, eu⟩ := hp
    rw [eu] at hP
    refine W.eq (g2 := F0 m 33 ls [.int (bI (barred LK i (fV (360 * i + 6 * o)) (fV (360 * i + 6 * o + 1))))]) rfl ?_
    refine lv_if_eq (tgt := 38) hx hb dX10_setsField_33 (by decide) (fun c2 => ?_) (fun c2 => ?_)
    · have e2 : ¬ (fV (360 * i + 6 * o + f) = x ∨ barred LK i (fV (360 * i + 6 * o)) (fV (360 * i + 6 * o + 1)) = true) := fun q => q.elim e1 (fun z => by rw [bI_eq.mp c2] at z; cases z)
      refine lv_aload_n hx hb dX10_setsField_38 rfl (lv_at hl 1 rfl) ?_
      refine lv_iload_n hx hb dX10_setsField_39 rfl (lv_at hl 2 rfl) ?_
      refine lv_iload_n hx hb dX10_setsField_40 rfl (lv_at hl 3 rfl) ?_
      refine lv_iload_n hx hb dX10_setsField_41 rfl (lv_at hl 4 rfl) ?_
      refine fh_cV (q := (RX10, TX10, 28)) (As := [.int (nI i), .int (nI o), .int (nI f)]) (rest := []) (b := ma) ⟨hx, hb, hml, hown, ht⟩ (m_note l G A h _ hM i o f n hi ho (by omega) hn hn4 hzW hzH) (cwV 3 ht (gV kw_830 kw_832 kp_22 kw_5 kw_833) rfl rfl rfl yd_X10_note ⟨(Nat.le_of_ble_eq_true rfl), (Nat.le_of_ble_eq_true rfl)⟩) hP hE hS hM.m rfl rfl hl.1 rfl (Nat.le_of_ble_eq_true rfl) dX10_setsField_42 ⟨(Nat.le_of_ble_eq_true rfl), (Nat.le_of_ble_eq_true rfl)⟩ (fun v u H locs hp hP hz hS => ?_)
      obtain ⟨fN2, cO2, cF2, cH2, cV2, rfl, hM2, hNP⟩ := hp
      refine W.eq (g2 := F0 m 45 ls []) rfl ?_
      refine lv_aload_n hx hb dX10_setsField_45 rfl (lv_at hl 1 rfl) ?_
      refine fh_get (C := RX10) (T := TX10) (N := 28) hx hb ht inX10 hown hE.1 hP hM2.m rfl 10 (by decide) (ht _ kw_700) (fun _ h9 => h9) (v := .ref (b 18)) rfl dX10_setsField_46 ?_
      refine lv_iload hx hb dX10_setsField_49 (lv_at hl 0 rfl) ?_
      refine lv_lload hx hb dX10_setsField_51 (lv_at hl 5 rfl) ?_
      refine fh_last (k := (((360 * i) + (6 * o)) + f)) hx hb hE.1 hP hS hM2.a18 (hM2.A18) rfl (by omega) (by decide) dX10_setsField_53 (fun H locs hP hz hS => ?_)
      obtain ⟨h_1, eh_1⟩ : ∃ z, z = fh_up u (b 18) (.inl (18, 7200, .inr (.inl (vp_updL fV (((360 * i) + (6 * o)) + f) x)))) := ⟨_, rfl⟩
      have hP : fh_P G vwCl h_1 H := by rw [eh_1]; exact hP
      have hM_1 := MG.w18 hM2 (f2 := vp_updL fV (((360 * i) + (6 * o)) + f) x) eh_1
      refine lv_iconst (v := (nI 1)) hx hb dX10_setsField_54 (by decide) ?_
      exact fh_zret hx hb hr hlocks rfl (Or.inr ⟨e2, rfl, fN2, cO2, cF2, cH2, cV2, hM_1, hNP⟩) hP hS (Nat.le_of_ble_eq_true rfl) (Nat.le_of_ble_eq_true rfl) dX10_setsField_55
    · refine lv_iconst (v := (nI 0)) hx hb dX10_setsField_36 (by decide) ?_
      exact fh_zret hx hb hr hlocks rfl (Or.inl ⟨Or.inr (bI_nz c2), rfl, rfl⟩) hP hS (Nat.le_of_ble_eq_true rfl) (Nat.le_of_ble_eq_true rfl) dX10_setsField_37
