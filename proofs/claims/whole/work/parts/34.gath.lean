set_option maxRecDepth 100000 in
set_option maxHeartbeats 4000000 in
theorem c_Con_gatherOf (l : Launch) (G : fG) (A : Nat → Prop) (h : FH) (sz : Nat) (a ba na ch sd bb nb : Nat) (num opn : Int32) (B N : St) (ha : h a = some (oSes num ba na opn ch sd)) (hB : pSt h ba bb B) (hN : pSt h na nb N) (ta tb : Nat) (T : St) (hT : pSt h ta tb T) (cn cd : Nat) (L : CL) (fc : Nat → Int32) (hc : h cn = some (oCon (some a) cd (nI L.length))) (hcd : h cd = some (aI 5 360 fc)) (hA1 : A cn) (hA2 : A cd) (hL : conL fc L) (i : Nat) (hi : i < 60) (hn : L.length ≤ 6 * i) : Met l yX2_gatherOf wsX2_gatherOf { frames := 2, cells := 0, slots := 0, locals := 52 } (va_Pc [.ref cn, .int (nI i), .ref ta] (fh_Pre G A h sz)) (fh_Q G (fun v u => ∃ fc2, v = none ∧ u = fh_up (fh_up h cd (aI 5 360 fc2)) cn (oCon (some a) cd (nI (L ++ gathO (B i) (N i) (T i) i 7).length)) ∧ conL fc2 (L ++ gathO (B i) (N i) (T i) i 7)) A) 0 0 A := by
  refine fh_Met [.ref cn, .int (nI i), .ref ta] (by decide) rfl (Nat.le_of_ble_eq_true rfl) ?_
  intro p e s m below meth c hx hb hr hlocks hml hown hnm hts hsz hP hE hS ls hl
  have ht : ∀ w ∈ wB, w.before _ s = true := fun w h9 => hts w (List.mem_cons_of_mem _ h9)
  have hl : lv_has ls 4 [(0, .ref cn), (1, .int (nI i)), (2, .ref ta)] := hl
  refine lv_iconst (v := (nI 0)) hx hb dX2_gatherOf_0 (by decide) ?_
  refine lv_istore_n (lv' := [(3, .int (nI 0)), (0, .ref cn), (1, .int (nI i)), (2, .ref ta)]) hx hb dX2_gatherOf_1 rfl hl (by decide) rfl (fun ls hl => ?_)
  have loop : ∀ (n j : Nat), j + n = 7 → ∀ (hh : FH) (f2 : Nat → Int32) (_ : hh = fh_up (fh_up h cd (aI 5 360 f2)) cn (oCon (some a) cd (nI (L ++ gathO (B i) (N i) (T i) i j).length))) (_ : conL f2 (L ++ gathO (B i) (N i) (T i) i j)), ∀ (H : Heap) (locs : List Loc) (ls : Array Slot), fh_P G vwCl hh H → va_S A s.heap H locs → lv_has ls 4 [(3, .int (nI j)), (0, .ref cn), (1, .int (nI i)), (2, .ref ta)] → W p l e (headSpec wsX2_gatherOf { frames := 2, cells := 0, slots := 0, locals := 52 }).room s m [.ref cn, .int (nI i), .ref ta].toArray below meth c H locs 0 0 (MQ below (fh_Q G (fun v u => ∃ fc2, v = none ∧ u = fh_up (fh_up h cd (aI 5 360 fc2)) cn (oCon (some a) cd (nI (L ++ gathO (B i) (N i) (T i) i 7).length)) ∧ conL fc2 (L ++ gathO (B i) (N i) (T i) i 7)) A) [.ref cn, .int (nI i), .ref ta].toArray s 0 0 A) (F0 m 2 ls []) := by
    intro n
    induction n with
    | zero =>
      intro j hin hh f2 eh hL2 H locs ls hP hS hl
      refine lv_iload_n hx hb dX2_gatherOf_2 rfl (lv_at hl 0 rfl) ?_
      refine lv_bipush (v := (nI 7)) hx hb dX2_gatherOf_3 (by decide) ?_
      refine lv_icmp_ge (tgt := 71) hx hb dX2_gatherOf_5 (by decide) (fun _ => ?_) (fun c9 => absurd (nI_le (by omega) (by omega)) c9)
      have j7 : j = 7 := by omega
      subst j7
      exact fh_vret hx hb hr hlocks (⟨f2, rfl, eh, hL2⟩) hP hS (Nat.le_of_ble_eq_true rfl) (Nat.le_of_ble_eq_true rfl) dX2_gatherOf_71
    | succ n ih =>
      intro j hin hh f2 eh hL2 H locs ls hP hS hl
      have k1 : kp [4, 11] h hh := by rw [eh]; exact (kp.rf.up hcd rfl).up hc rfl
      have ha2 := k1 _ _ ha rfl
      have hc2 : hh cn = some (oCon (some a) cd (nI (L ++ gathO (B i) (N i) (T i) i j).length)) := by rw [eh]; exact fh_up_self _ _ _
      have hcd2 : hh cd = some (aI 5 360 f2) := by rw [eh, fh_up_ne _ _ (fh_ne hcd hc rfl)]; exact fh_up_self _ _ _
      refine lv_iload_n hx hb dX2_gatherOf_2 rfl (lv_at hl 0 rfl) ?_
      refine lv_bipush (v := (nI 7)) hx hb dX2_gatherOf_3 (by decide) ?_
      refine lv_icmp_ge (tgt := 71) hx hb dX2_gatherOf_5 (by decide) (fun c9 => absurd c9 (nI_ge (by omega) (by decide))) (fun _ => ?_)
      refine lv_aload_n hx hb dX2_gatherOf_8 rfl (lv_at hl 1 rfl) ?_
      refine fh_get (C := RX2) (T := TX2) (N := 3) hx hb ht inX2 hown hE.1 hP hc2 rfl 0 (by decide) (ht _ kw_63) (fun _ h9 => h9) (v := .ref a) rfl dX2_gatherOf_9 ?_
      refine lv_ifnull hx hb dX2_gatherOf_12 ?_
      refine lv_aload_n hx hb dX2_gatherOf_15 rfl (lv_at hl 1 rfl) ?_
      refine fh_get (C := RX2) (T := TX2) (N := 3) hx hb ht inX2 hown hE.1 hP hc2 rfl 0 (by decide) (ht _ kw_63) (fun _ h9 => h9) (v := .ref a) rfl dX2_gatherOf_16 ?_
      refine lv_iload_n hx hb dX2_gatherOf_19 rfl (lv_at hl 2 rfl) ?_
      refine lv_iload_n hx hb dX2_gatherOf_20 rfl (lv_at hl 0 rfl) ?_
      refine lv_aload_n hx hb dX2_gatherOf_21 rfl (lv_at hl 3 rfl) ?_
      refine fh_cV (q := (RX7, TX7, 6)) (As := [.int (nI i), .int (nI j), .ref ta]) (rest := []) (b := a) ⟨hx, hb, hml, hown, ht⟩ (c_Ses_clashes l G A hh _ a ba na ch sd bb nb num opn B N ha2 (pSt_kp k1 rfl hB) (pSt_kp k1 rfl hN) ta tb T (pSt_kp k1 rfl hT) i j hi (by omega)) (cwV 3 ht (gV kw_425 kw_426 kw_427 kw_11 kw_428) rfl rfl rfl yd_X7_clashes ⟨(Nat.le_of_ble_eq_true rfl), (Nat.le_of_ble_eq_true rfl)⟩) hP hE hS ha2 rfl rfl hl.1 rfl (Nat.le_of_ble_eq_true rfl) dX2_gatherOf_22 ⟨(Nat.le_of_ble_eq_true rfl), (Nat.le_of_ble_eq_true rfl)⟩ (fun v u H locs hp hP hz hS => ?_)
      obtain ⟨rfl, eu⟩ := hp
      rw [eu] at hP
      refine W.eq (g2 := F0 m 25 ls [.int (bI (seClash (B i) (N i) (T i) j))]) rfl ?_
      refine lv_if_eq (tgt := 65) hx hb dX2_gatherOf_25 (by decide) (fun c1 => ?_) (fun c1 => ?_)
      · have e1 := bI_eq.mp c1
        refine lv_iinc (v := nI (j + 1)) (lv' := [(3, .int (nI (j + 1))), (0, .ref cn), (1, .int (nI i)), (2, .ref ta)]) hx hb dX2_gatherOf_65 hl (k := 0) rfl (nI_1 _) (by decide) rfl (fun ls hl => ?_)
        refine lv_goto (tgt := 2) hx hb dX2_gatherOf_68 (by decide) ?_
        have es : gathO (B i) (N i) (T i) i (j + 1) = gathO (B i) (N i) (T i) i j := by rw [gathO_s, e1]; simp
        exact ih (j + 1) (by omega) hh f2 (by rw [es]; exact eh) (by rw [es]; exact hL2) H locs ls hP hS (lv_sub hl [0, 1, 2, 3] rfl)
      · have e1 := bI_nz c1
        have hlt := gathO_lt (i := i) (show j < 7 by omega) e1
        have hle : (L ++ gathO (B i) (N i) (T i) i j).length < 360 := by rw [List.length_append]; omega
        refine lv_aload_n hx hb dX2_gatherOf_28 rfl (lv_at hl 1 rfl) ?_
        refine fh_get (C := RX2) (T := TX2) (N := 3) hx hb ht inX2 hown hE.1 hP hc2 rfl 2 (by decide) (ht _ kw_66) (fun _ h9 => h9) (v := .int (nI (L ++ gathO (B i) (N i) (T i) i j).length)) rfl dX2_gatherOf_29 ?_
        refine lv_aload_n hx hb dX2_gatherOf_32 rfl (lv_at hl 1 rfl) ?_
        refine fh_get (C := RX2) (T := TX2) (N := 3) hx hb ht inX2 hown hE.1 hP hc2 rfl 1 (by decide) (ht _ kw_65) (fun _ h9 => h9) (v := .ref cd) rfl dX2_gatherOf_33 ?_
        refine fh_alen hx hb hE.1 hP hcd2 rfl dX2_gatherOf_36 ?_
        refine lv_icmp_ge (tgt := 65) hx hb dX2_gatherOf_37 (by decide) (fun c9 => absurd c9 (nI_ge (by omega) (by decide))) (fun _ => ?_)
        refine lv_aload_n hx hb dX2_gatherOf_40 rfl (lv_at hl 1 rfl) ?_
        refine fh_get (C := RX2) (T := TX2) (N := 3) hx hb ht inX2 hown hE.1 hP hc2 rfl 1 (by decide) (ht _ kw_65) (fun _ h9 => h9) (v := .ref cd) rfl dX2_gatherOf_41 ?_
        refine lv_aload_n hx hb dX2_gatherOf_44 rfl (lv_at hl 1 rfl) ?_
        refine fh_get (C := RX2) (T := TX2) (N := 3) hx hb ht inX2 hown hE.1 hP hc2 rfl 2 (by decide) (ht _ kw_66) (fun _ h9 => h9) (v := .int (nI (L ++ gathO (B i) (N i) (T i) i j).length)) rfl dX2_gatherOf_45 ?_
        refine lv_bipush (v := (nI 8)) hx hb dX2_gatherOf_48 (by decide) ?_
        refine lv_iload_n hx hb dX2_gatherOf_50 rfl (lv_at hl 2 rfl) ?_
        refine lv_imul hx hb dX2_gatherOf_51 ?_
        refine lv_topi (fun z9 ez9 => ?_)
        rw [show z9 = nI (8 * i) from ez9.trans (pk_mul _ _)]
        refine lv_iload_n hx hb dX2_gatherOf_52 rfl (lv_at hl 0 rfl) ?_
        refine lv_iadd hx hb dX2_gatherOf_53 ?_
        refine lv_topi (fun z9 ez9 => ?_)
        rw [show z9 = nI ((8 * i) + j) from ez9.trans (nI_add _ _)]
        refine fh_iast (k := (L ++ gathO (B i) (N i) (T i) i j).length) hx hb hE.1 hP hS hcd2 (hA2) rfl (hle) (by decide) dX2_gatherOf_54 (fun H locs hP hz hS => ?_)
        obtain ⟨h_1, eh_1⟩ : ∃ z, z = fh_up hh cd (.inl (5, 360, .inl (upd f2 ((L ++ gathO (B i) (N i) (T i) i j).length) (nI ((8 * i) + j))))) := ⟨_, rfl⟩
        have hP : fh_P G vwCl h_1 H := by rw [eh_1]; exact hP
        have f_1 : h_1 cd = some (.inl (5, 360, .inl (upd f2 ((L ++ gathO (B i) (N i) (T i) i j).length) (nI ((8 * i) + j))))) := by rw [eh_1]; exact fh_up_self _ _ _
        have g_1_0 := (congrFun eh_1 a).trans (fh_keep hcd2 ha2 rfl)
        have g_1_1 := (congrFun eh_1 cn).trans (fh_keep hcd2 hc2 rfl)
        refine lv_aload_n hx hb dX2_gatherOf_55 rfl (lv_at hl 1 rfl) ?_
        refine lv_dup hx hb dX2_gatherOf_56 rfl ?_
        refine fh_get (C := RX2) (T := TX2) (N := 3) hx hb ht inX2 hown hE.1 hP g_1_1 rfl 2 (by decide) (ht _ kw_66) (fun _ h9 => h9) (v := .int (nI (L ++ gathO (B i) (N i) (T i) i j).length)) rfl dX2_gatherOf_57 ?_
        refine lv_iconst (v := (nI 1)) hx hb dX2_gatherOf_60 (by decide) ?_
        refine lv_iadd hx hb dX2_gatherOf_61 ?_
        refine lv_topi (fun z9 ez9 => ?_)
        rw [show z9 = nI ((L ++ gathO (B i) (N i) (T i) i j).length + 1) from ez9.trans (nI_add _ _)]
        refine fh_put (C := RX2) (T := TX2) (N := 3) (t := .int) hx hb ht inX2 tyX2 tyX2_ok nmX2 hown hE.1 hP hS g_1_1 (hA1) rfl 2 (by decide) (ht _ kw_66) (fun _ h9 => h9) rfl (by decide +kernel) rfl rfl (Nat.le_of_ble_eq_true rfl) dX2_gatherOf_62 (fun H locs hP hz hS => ?_)
        obtain ⟨h_2, eh_2⟩ : ∃ z, z = fh_up h_1 cn (.inr (2, [.ref a, .ref cd, .int (nI ((L ++ gathO (B i) (N i) (T i) i j).length + 1))])) := ⟨_, rfl⟩
        have hP : fh_P G vwCl h_2 H := by rw [eh_2]; exact hP
        have f_2 : h_2 cn = some (.inr (2, [.ref a, .ref cd, .int (nI ((L ++ gathO (B i) (N i) (T i) i j).length + 1))])) := by rw [eh_2]; exact fh_up_self _ _ _
        have g_2_0 := (congrFun eh_2 a).trans (fh_keep g_1_1 g_1_0 rfl)
        have g_2_2 := (congrFun eh_2 cd).trans (fh_keep g_1_1 f_1 rfl)
        refine lv_iinc (v := nI (j + 1)) (lv' := [(3, .int (nI (j + 1))), (0, .ref cn), (1, .int (nI i)), (2, .ref ta)]) hx hb dX2_gatherOf_65 hl (k := 0) rfl (nI_1 _) (by decide) rfl (fun ls hl => ?_)
        refine lv_goto (tgt := 2) hx hb dX2_gatherOf_68 (by decide) ?_
        have es : L ++ gathO (B i) (N i) (T i) i (j + 1) = (L ++ gathO (B i) (N i) (T i) i j) ++ [(i, j)] := by rw [gathO_s, if_pos e1, List.append_assoc]
        have el : (L ++ gathO (B i) (N i) (T i) i (j + 1)).length = (L ++ gathO (B i) (N i) (T i) i j).length + 1 := by rw [es, List.length_append]; rfl
        exact ih (j + 1) (by omega) h_2 (upd f2 (L ++ gathO (B i) (N i) (T i) i j).length (nI (8 * i + j))) (by rw [el, eh_2, eh_1, eh, fh_upcomm _ _ _ (fh_ne hc hcd rfl).symm, fh_upup, fh_upcomm _ _ _ (fh_ne hc hcd rfl), fh_upup]; rfl) (by rw [es]; exact conL_app hL2 (i, j)) H locs ls hP hS (lv_sub hl [0, 1, 2, 3] rfl)
  exact loop 7 0 (by omega) h fc (by rw [show gathO (B i) (N i) (T i) i 0 = [] from rfl, List.append_nil, fh_up_same hcd, fh_up_same hc]) (by rw [show gathO (B i) (N i) (T i) i 0 = [] from rfl, List.append_nil]; exact hL) _ _ _ hP hS hl

set_option maxRecDepth 100000 in
set_option maxHeartbeats 4000000 in
theorem c_Con_gather (l : Launch) (G : fG) (A : Nat → Prop) (h : FH) (sz : Nat) (a ba na ch sd bb nb : Nat) (num opn : Int32) (B N : St) (ha : h a = some (oSes num ba na opn ch sd)) (hB : pSt h ba bb B) (hN : pSt h na nb N) (ta tb : Nat) (T : St) (hT : pSt h ta tb T) (cn cd : Nat) (ow : Option Nat) (n0 : Int32) (fc : Nat → Int32) (hc : h cn = some (oCon ow cd n0)) (hcd : h cd = some (aI 5 360 fc)) (hA1 : A cn) (hA2 : A cd) : Met l yX2_gather wsX2_gather { frames := 3, cells := 0, slots := 0, locals := 75 } (va_Pc [.ref cn, .ref a, .ref ta] (fh_Pre G A h sz)) (fh_Q G (fun v u => ∃ fc2, v = none ∧ u = fh_up (fh_up h cd (aI 5 360 fc2)) cn (oCon (some a) cd (nI (gathL B N T 60).length)) ∧ conL fc2 (gathL B N T 60)) A) 0 0 A := by
  refine fh_Met [.ref cn, .ref a, .ref ta] (by decide) rfl (Nat.le_of_ble_eq_true rfl) ?_
  intro p e s m below meth c hx hb hr hlocks hml hown hnm hts hsz hP hE hS ls hl
  have ht : ∀ w ∈ wB, w.before _ s = true := fun w h9 => hts w (List.mem_cons_of_mem _ h9)
  have hl : lv_has ls 4 [(0, .ref cn), (1, .ref a), (2, .ref ta)] := hl
  refine lv_aload_n hx hb dX2_gather_0 rfl (lv_at hl 0 rfl) ?_
  refine lv_aload_n hx hb dX2_gather_1 rfl (lv_at hl 1 rfl) ?_
  refine fh_put (C := RX2) (T := TX2) (N := 3) (t := (.object "ObjectMerge$Session")) hx hb ht inX2 tyX2 tyX2_ok nmX2 hown hE.1 hP hS hc (hA1) rfl 0 (by decide) (ht _ kw_63) (fun _ h9 => h9) rfl (by decide +kernel) rfl rfl (Nat.le_of_ble_eq_true rfl) dX2_gather_2 (fun H locs hP hz hS => ?_)
  obtain ⟨h_1, eh_1⟩ : ∃ z, z = fh_up h cn (.inr (2, [.ref a, .ref cd, .int n0])) := ⟨_, rfl⟩
  have hP : fh_P G vwCl h_1 H := by rw [eh_1]; exact hP
  have f_1 : h_1 cn = some (.inr (2, [.ref a, .ref cd, .int n0])) := by rw [eh_1]; exact fh_up_self _ _ _
  have g_1_1 := (congrFun eh_1 cd).trans (fh_keep hc hcd rfl)
  have g_1_2 := (congrFun eh_1 a).trans (fh_keep hc ha rfl)
  refine lv_aload_n hx hb dX2_gather_5 rfl (lv_at hl 0 rfl) ?_
  refine lv_iconst (v := (nI 0)) hx hb dX2_gather_6 (by decide) ?_
  refine fh_put (C := RX2) (T := TX2) (N := 3) (t := .int) hx hb ht inX2 tyX2 tyX2_ok nmX2 hown hE.1 hP hS f_1 (hA1) rfl 2 (by decide) (ht _ kw_66) (fun _ h9 => h9) rfl (by decide +kernel) rfl rfl (Nat.le_of_ble_eq_true rfl) dX2_gather_7 (fun H locs hP hz hS => ?_)
  obtain ⟨h_2, eh_2⟩ : ∃ z, z = fh_up h_1 cn (.inr (2, [.ref a, .ref cd, .int (nI 0)])) := ⟨_, rfl⟩
  have hP : fh_P G vwCl h_2 H := by rw [eh_2]; exact hP
  have f_2 : h_2 cn = some (.inr (2, [.ref a, .ref cd, .int (nI 0)])) := by rw [eh_2]; exact fh_up_self _ _ _
  have g_2_0 := (congrFun eh_2 cd).trans (fh_keep f_1 g_1_1 rfl)
  have g_2_1 := (congrFun eh_2 a).trans (fh_keep f_1 g_1_2 rfl)
  refine lv_iconst (v := (nI 0)) hx hb dX2_gather_10 (by decide) ?_
  refine lv_istore_n (lv' := [(3, .int (nI 0)), (0, .ref cn), (1, .ref a), (2, .ref ta)]) hx hb dX2_gather_11 rfl hl (by decide) rfl (fun ls hl => ?_)
  have loop : ∀ (n i : Nat), i + n = 60 → ∀ (hh : FH) (f2 : Nat → Int32) (_ : hh = fh_up (fh_up h cd (aI 5 360 f2)) cn (oCon (some a) cd (nI (gathL B N T i).length))) (_ : conL f2 (gathL B N T i)), ∀ (H : Heap) (locs : List Loc) (ls : Array Slot), fh_P G vwCl hh H → va_S A s.heap H locs → lv_has ls 4 [(3, .int (nI i)), (0, .ref cn), (1, .ref a), (2, .ref ta)] → W p l e (headSpec wsX2_gather { frames := 3, cells := 0, slots := 0, locals := 75 }).room s m [.ref cn, .ref a, .ref ta].toArray below meth c H locs 0 0 (MQ below (fh_Q G (fun v u => ∃ fc2, v = none ∧ u = fh_up (fh_up h cd (aI 5 360 fc2)) cn (oCon (some a) cd (nI (gathL B N T 60).length)) ∧ conL fc2 (gathL B N T 60)) A) [.ref cn, .ref a, .ref ta].toArray s 0 0 A) (F0 m 12 ls []) := by
    intro n
    induction n with
    | zero =>
      intro i hin hh f2 eh hL2 H locs ls hP hS hl
      refine lv_iload_n hx hb dX2_gather_12 rfl (lv_at hl 0 rfl) ?_
      refine lv_bipush (v := (nI 60)) hx hb dX2_gather_13 (by decide) ?_
      refine lv_icmp_ge (tgt := 38) hx hb dX2_gather_15 (by decide) (fun _ => ?_) (fun c9 => absurd (nI_le (by omega) (by omega)) c9)
      have j7 : i = 60 := by omega
      subst j7
      exact fh_vret hx hb hr hlocks (⟨f2, rfl, eh, hL2⟩) hP hS (Nat.le_of_ble_eq_true rfl) (Nat.le_of_ble_eq_true rfl) dX2_gather_38
    | succ n ih =>
      intro i hin hh f2 eh hL2 H locs ls hP hS hl
      have k1 : kp [4, 11] h hh := by rw [eh]; exact (kp.rf.up hcd rfl).up hc rfl
      have ha2 := k1 _ _ ha rfl
      have hc2 : hh cn = some (oCon (some a) cd (nI (gathL B N T i).length)) := by rw [eh]; exact fh_up_self _ _ _
      have hcd2 : hh cd = some (aI 5 360 f2) := by rw [eh, fh_up_ne _ _ (fh_ne hcd hc rfl)]; exact fh_up_self _ _ _
      refine lv_iload_n hx hb dX2_gather_12 rfl (lv_at hl 0 rfl) ?_
      refine lv_bipush (v := (nI 60)) hx hb dX2_gather_13 (by decide) ?_
      refine lv_icmp_ge (tgt := 38) hx hb dX2_gather_15 (by decide) (fun c9 => absurd c9 (nI_ge (by omega) (by decide))) (fun _ => ?_)
      refine lv_aload_n hx hb dX2_gather_18 rfl (lv_at hl 2 rfl) ?_
      refine lv_iload_n hx hb dX2_gather_19 rfl (lv_at hl 0 rfl) ?_
      refine fh_cV (q := (RX7, TX7, 6)) (As := [.int (nI i)]) (rest := []) (b := a) ⟨hx, hb, hml, hown, ht⟩ (c_Ses_changed l G A hh _ a ba na ch sd bb nb num opn B N ha2 (pSt_kp k1 rfl hB) (pSt_kp k1 rfl hN) i (by omega)) (cwV 1 ht (gV kw_414 kw_415 kw_416 kw_11 kw_417) rfl rfl rfl yd_X7_changed ⟨(Nat.le_of_ble_eq_true rfl), (Nat.le_of_ble_eq_true rfl)⟩) hP hE hS ha2 rfl rfl hl.1 rfl (Nat.le_of_ble_eq_true rfl) dX2_gather_20 ⟨(Nat.le_of_ble_eq_true rfl), (Nat.le_of_ble_eq_true rfl)⟩ (fun v u H locs hp hP hz hS => ?_)
      obtain ⟨rfl, eu⟩ := hp
      rw [eu] at hP
      refine W.eq (g2 := F0 m 23 ls [.int (bI (!alikeO (B i) (N i)))]) rfl ?_
      refine lv_if_eq (tgt := 32) hx hb dX2_gather_23 (by decide) (fun c1 => ?_) (fun c1 => ?_)
      · have e1 : alikeO (B i) (N i) = true := by have z := bI_eq.mp c1; revert z; cases alikeO (B i) (N i) <;> decide
        refine lv_iinc (v := nI (i + 1)) (lv' := [(3, .int (nI (i + 1))), (0, .ref cn), (1, .ref a), (2, .ref ta)]) hx hb dX2_gather_32 hl (k := 0) rfl (nI_1 _) (by decide) rfl (fun ls hl => ?_)
        refine lv_goto (tgt := 12) hx hb dX2_gather_35 (by decide) ?_
        have es : gathL B N T (i + 1) = gathL B N T i := by rw [gathL, if_pos e1, List.append_nil]
        exact ih (i + 1) (by omega) hh f2 (by rw [es]; exact eh) (by rw [es]; exact hL2) H locs ls hP hS (lv_sub hl [0, 1, 2, 3] rfl)
      · have e1 : ¬ alikeO (B i) (N i) = true := by have z := bI_nz c1; revert z; cases alikeO (B i) (N i) <;> decide
        have es : gathL B N T (i + 1) = gathL B N T i ++ gathO (B i) (N i) (T i) i 7 := by rw [gathL, if_neg e1]
        refine lv_aload_n hx hb dX2_gather_26 rfl (lv_at hl 1 rfl) ?_
        refine lv_iload_n hx hb dX2_gather_27 rfl (lv_at hl 0 rfl) ?_
        refine lv_aload_n hx hb dX2_gather_28 rfl (lv_at hl 3 rfl) ?_
        refine fh_cV (q := (RX2, TX2, 3)) (As := [.int (nI i), .ref ta]) (rest := []) (b := cn) ⟨hx, hb, hml, hown, ht⟩ (c_Con_gatherOf l G A hh _ a ba na ch sd bb nb num opn B N ha2 (pSt_kp k1 rfl hB) (pSt_kp k1 rfl hN) ta tb T (pSt_kp k1 rfl hT) cn cd (gathL B N T i) f2 hc2 hcd2 hA1 hA2 hL2 i (by omega) (gathL_len B N T i)) (cwV 2 ht (gV kw_421 kw_423 kp_9 kw_4 kw_424) rfl rfl rfl yd_X2_gatherOf ⟨(Nat.le_of_ble_eq_true rfl), (Nat.le_of_ble_eq_true rfl)⟩) hP hE hS hc2 rfl rfl hl.1 rfl (Nat.le_of_ble_eq_true rfl) dX2_gather_29 ⟨(Nat.le_of_ble_eq_true rfl), (Nat.le_of_ble_eq_true rfl)⟩ (fun v u H locs hp hP hz hS => ?_)
        obtain ⟨f3, rfl, eu, hL3⟩ := hp
        refine W.eq (g2 := F0 m 32 ls []) rfl ?_
        refine lv_iinc (v := nI (i + 1)) (lv' := [(3, .int (nI (i + 1))), (0, .ref cn), (1, .ref a), (2, .ref ta)]) hx hb dX2_gather_32 hl (k := 0) rfl (nI_1 _) (by decide) rfl (fun ls hl => ?_)
        refine lv_goto (tgt := 12) hx hb dX2_gather_35 (by decide) ?_
        exact ih (i + 1) (by omega) u f3 (by rw [es, eu, eh, fh_upcomm _ _ _ (fh_ne hc hcd rfl).symm, fh_upup, fh_upcomm _ _ _ (fh_ne hc hcd rfl), fh_upup]) (by rw [es]; exact hL3) H locs ls hP hS (lv_sub hl [0, 1, 2, 3] rfl)
  exact loop 60 0 (by omega) h_2 fc (by rw [eh_2, eh_1, fh_upup, fh_up_same hcd]; rfl) (fun k p9 h9 => by cases h9) _ _ _ hP hS hl

set_option maxRecDepth 100000 in
set_option maxHeartbeats 4000000 in
theorem c_Con_unsettled (l : Launch) (G : fG) (A : Nat → Prop) (h : FH) (sz : Nat) (a ba na ch sd : Nat) (num opn : Int32) (sf : Nat → Int32) (ha : h a = some (oSes num ba na opn ch sd)) (hs : h sd = some (aI 4 420 sf)) (cn cd : Nat) (L : CL) (fc : Nat → Int32) (hc : h cn = some (oCon (some a) cd (nI L.length))) (hcd : h cd = some (aI 5 360 fc)) (hL : conL fc L) (hb1 : L.length ≤ 360) (hb2 : ∀ q ∈ L, q.1 < 60 ∧ q.2 < 7) : Met l yX2_unsettled wsX2_unsettled { frames := 2, cells := 0, slots := 0, locals := 45 } (va_Pc [.ref cn] (fh_Pre G A h sz)) (fh_Q G (fun v u => v = some (.int (nI (unsN sf L))) ∧ u = h) A) 0 0 A := by
  refine fh_Met [.ref cn] (by decide) rfl (Nat.le_of_ble_eq_true rfl) ?_
  intro p e s m below meth c hx hb hr hlocks hml hown hnm hts hsz hP hE hS ls hl
  have ht : ∀ w ∈ wB, w.before _ s = true := fun w h9 => hts w (List.mem_cons_of_mem _ h9)
  have hl : lv_has ls 3 [(0, .ref cn)] := hl
  refine lv_iconst (v := (nI 0)) hx hb dX2_unsettled_0 (by decide) ?_
  refine lv_istore_n (lv' := [(1, .int (nI 0)), (0, .ref cn)]) hx hb dX2_unsettled_1 rfl hl (by decide) rfl (fun ls hl => ?_)
  refine lv_iconst (v := (nI 0)) hx hb dX2_unsettled_2 (by decide) ?_
  refine lv_istore_n (lv' := [(2, .int (nI 0)), (1, .int (nI 0)), (0, .ref cn)]) hx hb dX2_unsettled_3 rfl hl (by decide) rfl (fun ls hl => ?_)
  have loop : ∀ (n k : Nat), k + n = L.length → ∀ (n1 : Nat) (_ : n1 = unsN sf (L.take k)), ∀ (H : Heap) (locs : List Loc) (ls : Array Slot), fh_P G vwCl h H → va_S A s.heap H locs → lv_has ls 3 [(2, .int (nI k)), (1, .int (nI n1)), (0, .ref cn)] → W p l e (headSpec wsX2_unsettled { frames := 2, cells := 0, slots := 0, locals := 45 }).room s m [.ref cn].toArray below meth c H locs 0 0 (MQ below (fh_Q G (fun v u => v = some (.int (nI (unsN sf L))) ∧ u = h) A) [.ref cn].toArray s 0 0 A) (F0 m 4 ls []) := by
    intro n
    induction n with
    | zero =>
      intro k hin n1 e1 H locs ls hP hS hl
      refine lv_iload_n hx hb dX2_unsettled_4 rfl (lv_at hl 0 rfl) ?_
      refine lv_aload_n hx hb dX2_unsettled_5 rfl (lv_at hl 2 rfl) ?_
      refine fh_get (C := RX2) (T := TX2) (N := 3) hx hb ht inX2 hown hE.1 hP hc rfl 2 (by decide) (ht _ kw_66) (fun _ h9 => h9) (v := .int (nI L.length)) rfl dX2_unsettled_6 ?_
      refine lv_icmp_ge (tgt := 49) hx hb dX2_unsettled_9 (by decide) (fun _ => ?_) (fun c9 => absurd (nI_le (by omega) (by omega)) c9)
      refine lv_iload_n hx hb dX2_unsettled_49 rfl (lv_at hl 1 rfl) ?_
      exact fh_iret hx hb hr hlocks (⟨by rw [e1, List.take_of_length_le (by omega)], rfl⟩) hP hS (Nat.le_of_ble_eq_true rfl) (Nat.le_of_ble_eq_true rfl) dX2_unsettled_50
    | succ n ih =>
      intro k hin n1 e1 H locs ls hP hS hl
      refine lv_iload_n hx hb dX2_unsettled_4 rfl (lv_at hl 0 rfl) ?_
      refine lv_aload_n hx hb dX2_unsettled_5 rfl (lv_at hl 2 rfl) ?_
      refine fh_get (C := RX2) (T := TX2) (N := 3) hx hb ht inX2 hown hE.1 hP hc rfl 2 (by decide) (ht _ kw_66) (fun _ h9 => h9) (v := .int (nI L.length)) rfl dX2_unsettled_6 ?_
      refine lv_icmp_ge (tgt := 49) hx hb dX2_unsettled_9 (by decide) (fun c9 => absurd c9 (nI_ge (by omega) (by omega))) (fun _ => ?_)
      refine lv_aload_n hx hb dX2_unsettled_12 rfl (lv_at hl 2 rfl) ?_
      refine fh_get (C := RX2) (T := TX2) (N := 3) hx hb ht inX2 hown hE.1 hP hc rfl 0 (by decide) (ht _ kw_63) (fun _ h9 => h9) (v := .ref a) rfl dX2_unsettled_13 ?_
      refine lv_ifnull hx hb dX2_unsettled_16 ?_
      refine lv_aload_n hx hb dX2_unsettled_19 rfl (lv_at hl 2 rfl) ?_
      refine fh_get (C := RX2) (T := TX2) (N := 3) hx hb ht inX2 hown hE.1 hP hc rfl 0 (by decide) (ht _ kw_63) (fun _ h9 => h9) (v := .ref a) rfl dX2_unsettled_20 ?_
      refine lv_aload_n hx hb dX2_unsettled_23 rfl (lv_at hl 2 rfl) ?_
      refine lv_iload_n hx hb dX2_unsettled_24 rfl (lv_at hl 0 rfl) ?_
      obtain ⟨o9, f9, hq⟩ : ∃ o9 f9, L[k]? = some (o9, f9) := ⟨_, _, List.getElem?_eq_getElem (show k < L.length by omega)⟩
      have hq2 := hb2 _ (List.mem_of_getElem? hq)
      have efc := hL k _ hq
      refine fh_cV (q := (RX2, TX2, 3)) (As := [.int (nI k)]) (rest := [.ref a]) (b := cn) ⟨hx, hb, hml, hown, ht⟩ (c_Con_obj l G A h _ cn cd (some a) L.length fc hc hcd hb1 k (by omega)) (cwV 1 ht (gV kw_436 kw_437 kw_438 kw_4 kw_439) rfl rfl rfl yd_X2_objectOf ⟨(Nat.le_of_ble_eq_true rfl), (Nat.le_of_ble_eq_true rfl)⟩) hP hE hS hc rfl rfl hl.1 rfl (Nat.le_of_ble_eq_true rfl) dX2_unsettled_25 ⟨(Nat.le_of_ble_eq_true rfl), (Nat.le_of_ble_eq_true rfl)⟩ (fun v u H locs hp hP hz hS => ?_)
      obtain ⟨rfl, eu⟩ := hp
      rw [eu] at hP
      refine W.eq (g2 := F0 m 28 ls [.int (fc k / nI 8), .ref a]) rfl ?_
      refine lv_topi (fun z9 ez9 => ?_)
      rw [show z9 = nI o9 from ez9.trans (by rw [efc]; exact code_d hq2.1 hq2.2)]
      refine lv_aload_n hx hb dX2_unsettled_28 rfl (lv_at hl 2 rfl) ?_
      refine lv_iload_n hx hb dX2_unsettled_29 rfl (lv_at hl 0 rfl) ?_
      refine fh_cV (q := (RX2, TX2, 3)) (As := [.int (nI k)]) (rest := [.int (nI o9), .ref a]) (b := cn) ⟨hx, hb, hml, hown, ht⟩ (c_Con_fld l G A h _ cn cd (some a) L.length fc hc hcd hb1 k (by omega)) (cwV 1 ht (gV kw_444 kw_445 kw_446 kw_4 kw_447) rfl rfl rfl yd_X2_fieldOf ⟨(Nat.le_of_ble_eq_true rfl), (Nat.le_of_ble_eq_true rfl)⟩) hP hE hS hc rfl rfl hl.1 rfl (Nat.le_of_ble_eq_true rfl) dX2_unsettled_30 ⟨(Nat.le_of_ble_eq_true rfl), (Nat.le_of_ble_eq_true rfl)⟩ (fun v u H locs hp hP hz hS => ?_)
      obtain ⟨rfl, eu⟩ := hp
      rw [eu] at hP
      refine W.eq (g2 := F0 m 33 ls [.int (fc k - fc k / nI 8 * nI 8), .int (nI o9), .ref a]) rfl ?_
      refine lv_topi (fun z9 ez9 => ?_)
      rw [show z9 = nI f9 from ez9.trans (by rw [efc]; exact code_r hq2.1 hq2.2)]
      refine fh_cV (q := (RX7, TX7, 6)) (As := [.int (nI o9), .int (nI f9)]) (rest := []) (b := a) ⟨hx, hb, hml, hown, ht⟩ (c_Ses_side l G A h _ a ba na ch sd num opn sf ha hs o9 f9 hq2.1 hq2.2) (cwV 2 ht (gV kw_448 kw_449 kw_450 kw_11 kw_451) rfl rfl rfl yd_X7_sideOf ⟨(Nat.le_of_ble_eq_true rfl), (Nat.le_of_ble_eq_true rfl)⟩) hP hE hS ha rfl rfl hl.1 rfl (Nat.le_of_ble_eq_true rfl) dX2_unsettled_33 ⟨(Nat.le_of_ble_eq_true rfl), (Nat.le_of_ble_eq_true rfl)⟩ (fun v u H locs hp hP hz hS => ?_)
      obtain ⟨rfl, eu⟩ := hp
      rw [eu] at hP
      refine W.eq (g2 := F0 m 36 ls [.int (sf (o9 * 7 + f9) - nI 1)]) rfl ?_
      refine lv_iconst (v := (-1)) hx hb dX2_unsettled_36 (by decide) ?_
      refine lv_icmp_ne (tgt := 43) hx hb dX2_unsettled_37 (by decide) (fun c1 => ?_) (fun c1 => ?_)
      · refine lv_iinc (v := nI (k + 1)) (lv' := [(2, .int (nI (k + 1))), (1, .int (nI n1)), (0, .ref cn)]) hx hb dX2_unsettled_43 hl (k := 0) rfl (nI_1 _) (by decide) rfl (fun ls hl => ?_)
        refine lv_goto (tgt := 4) hx hb dX2_unsettled_46 (by decide) ?_
        exact ih (k + 1) (by omega) n1 (by rw [e1, unsN_s hq, if_neg (fun q => c1 ((sub1_0 _).mpr q)), Nat.add_zero]) H locs ls hP hS (lv_sub hl [0, 1, 2] rfl)
      · refine lv_iinc (v := nI (n1 + 1)) (lv' := [(1, .int (nI (n1 + 1))), (2, .int (nI k)), (0, .ref cn)]) hx hb dX2_unsettled_40 hl (k := 1) rfl (nI_1 _) (by decide) rfl (fun ls hl => ?_)
        refine lv_iinc (v := nI (k + 1)) (lv' := [(2, .int (nI (k + 1))), (1, .int (nI (n1 + 1))), (0, .ref cn)]) hx hb dX2_unsettled_43 hl (k := 1) rfl (nI_1 _) (by decide) rfl (fun ls hl => ?_)
        refine lv_goto (tgt := 4) hx hb dX2_unsettled_46 (by decide) ?_
        exact ih (k + 1) (by omega) (n1 + 1) (by rw [e1, unsN_s hq, if_pos ((sub1_0 _).mp c1)]) H locs ls hP hS (lv_sub hl [0, 1, 2] rfl)
  exact loop L.length 0 (by omega) 0 (by simp [unsN]) _ _ _ hP hS hl
