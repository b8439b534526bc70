set_option maxRecDepth 100000 in
set_option maxHeartbeats 4000000 in
/-- Row.with(j, x): a new row -/
theorem c_Row_with (l : Launch) (G : fG) (A : Nat → Prop) (h : FH) (sz : Nat) (hA : ∀ q, sz ≤ q → A q) (a j : Nat) (x : Int64) (f : Rw) (ha : pRow h a f) (hj : j < 6) : Met l yX5_with wsX5_with { frames := 2, cells := 2, slots := 7, locals := 32 } (va_Pc [.ref a, .int (nI j), .long x] (fh_Pre G A h sz)) (fh_Q G (fun v u => ∃ r, sz ≤ r ∧ v = some (.ref r) ∧ fh_ext sz h u ∧ pRow u r (rwSet f j x)) A) 2 7 A := by
  refine fh_Met [.ref a, .int (nI j), .long x] (by decide) rfl (Nat.le_of_ble_eq_true rfl) ?_
  intro p e s m below meth c hx hb hr hlocks hml hown hnm hts hsz hP hE hS ls hl
  have ht : ∀ w ∈ wB, w.before _ s = true := fun w h9 => hts w (List.mem_cons_of_mem _ h9)
  have hl : lv_has ls 6 [(0, .ref a), (1, .int (nI j)), (2, .long x)] := hl
  have hA0 : ∀ q, s.heap.size ≤ q → A q := fun q hq => hA q (by rw [← hsz]; exact hq)
  obtain ⟨b, g0, ha1, ha2, ha3⟩ := ha
  have hge1 := hS.1
  have hlt1 := fun (a9 : Nat) (e9 : fe) (q9 : h a9 = some e9) => hP.lt q9
  refine fh_new (ci := 5) (C := RX5) (T := TX5) (N := 1) (fs := [.null]) hx hb ht inX5 tyX5 tyX5_ok hown (ht _ kw_363) (ht _ kw_259) (ht _ kw_10) hE.1 hP hS hA0 rfl (fun j hj => by rcases (show j = 0 by omega) with rfl <;> rfl) (Nat.le_of_ble_eq_true rfl) (Nat.le_of_ble_eq_true rfl) dX5_with_0 (fun r H er hAr hP hz_r hS => ?_)
  obtain ⟨h_2, eh_2⟩ : ∃ z, z = fh_up h r (.inr (5, [.null])) := ⟨_, rfl⟩
  have g_2_0 := (congrFun eh_2 a).trans (fh_keepN ha1 (Nat.ne_of_lt (by rw [er]; exact hlt1 _ _ ha1)))
  have g_2_1 := (congrFun eh_2 b).trans (fh_keepN ha2 (Nat.ne_of_lt (by rw [er]; exact hlt1 _ _ ha2)))
  have hP : fh_P G vwCl h_2 H := by rw [eh_2]; exact hP
  have f_2 : h_2 r = some (.inr (5, [.null])) := by rw [eh_2]; exact fh_up_self _ _ _
  have hsz_r : sz ≤ r := by rw [er, ← hsz]; exact hge1
  have la := hlt1 _ _ ha1
  have lb := hlt1 _ _ ha2
  refine lv_dup hx hb dX5_with_3 rfl ?_
  refine fh_cI (As := []) (rest := [.ref r]) (b := r) ⟨hx, hb, hml, hown, ht⟩ (c_Row_init l G A _ _ (fun q hq => hA0 q (Nat.le_trans hS.1 hq)) r hAr f_2) (cwI 0 ht (gB kw_262) rfl rfl rfl (ht _ kw_10) (ht _ kw_364) (ht _ kw_261) rfl yd_X5_init.2 ⟨(Nat.le_of_ble_eq_true rfl), (Nat.le_of_ble_eq_true rfl)⟩) hP hE hS rfl hl.1 rfl (Nat.le_of_ble_eq_true rfl) dX5_with_4 ⟨(Nat.le_of_ble_eq_true rfl), (Nat.le_of_ble_eq_true rfl)⟩ (fun v u H locs hp hP hz hS => ?_)
  obtain ⟨q, hq, rfl, eu⟩ := hp
  refine W.eq (g2 := F0 m 7 ls [.ref r]) rfl ?_
  have nqr : q ≠ r := by omega
  have nar : a ≠ r := by omega
  have nbr : b ≠ r := by omega
  have naq : a ≠ q := by omega
  have nbq : b ≠ q := by omega
  have fr : u r = some (oRow q) := by rw [eu]; exact fh_up_self _ _ _
  have fq : u q = some (aL 0 6 (fun _ => 0)) := by rw [eu, fh_up_ne _ _ nqr]; exact fh_up_self _ _ _
  have fa : u a = some (oRow b) := by rw [eu, fh_up_ne _ _ nar, fh_up_ne _ _ naq]; exact g_2_0
  have fb : u b = some (aL 0 6 g0) := by rw [eu, fh_up_ne _ _ nbr, fh_up_ne _ _ nbq]; exact g_2_1
  have hsq : sz ≤ q := by omega
  have he : fh_ext sz h u := by rw [eu, eh_2]; exact ((fh_ext.rf.up hsz_r).up hsq).up hsz_r
  refine W.widen (k := 2) (n := 7) (by omega) (by omega) ?_
  refine lv_astore (lv' := [(4, .ref r), (0, .ref a), (1, .int (nI j)), (2, .long x)]) hx hb dX5_with_7 hl (by decide) rfl (fun ls hl => ?_)
  refine lv_iconst (v := (nI 0)) hx hb dX5_with_9 (by decide) ?_
  refine lv_istore (lv' := [(5, .int (nI 0)), (4, .ref r), (0, .ref a), (1, .int (nI j)), (2, .long x)]) hx hb dX5_with_10 hl (by decide) rfl (fun ls hl => ?_)
  have loop : ∀ (n i : Nat), i + n = 6 → ∀ (hh : FH) (gg : Nat → Int64) (_ : fh_ext sz h hh) (_ : hh r = some (oRow q)) (_ : hh q = some (aL 0 6 gg)) (_ : hh a = some (oRow b)) (_ : hh b = some (aL 0 6 g0)) (_ : ∀ k, k < i → gg k = rwSet f j x k), ∀ (H : Heap) (locs : List Loc) (ls : Array Slot), fh_P G vwCl hh H → va_S A s.heap H locs → lv_has ls 6 [(5, .int (nI i)), (4, .ref r), (0, .ref a), (1, .int (nI j)), (2, .long x)] → W p l e (headSpec wsX5_with { frames := 2, cells := 2, slots := 7, locals := 32 }).room s m [.ref a, .int (nI j), .long x].toArray below meth c H locs 2 7 (MQ below (fh_Q G (fun v u => ∃ r, sz ≤ r ∧ v = some (.ref r) ∧ fh_ext sz h u ∧ pRow u r (rwSet f j x)) A) [.ref a, .int (nI j), .long x].toArray s 2 7 A) (F0 m 12 ls []) := by
    intro n
    induction n with
    | zero =>
      intro i hin hh gg he fr fq fa fb hgg H locs ls hP hS hl
      refine lv_iload hx hb dX5_with_12 (lv_at hl 0 rfl) ?_
      refine lv_bipush (v := (nI 6)) hx hb dX5_with_14 (by decide) ?_
      refine lv_icmp_ge (tgt := 50) hx hb dX5_with_16 (by decide) (fun _ => ?_) (fun c9 => absurd (nI_le (by omega) (by omega)) c9)
      refine lv_aload hx hb dX5_with_50 (lv_at hl 1 rfl) ?_
      exact fh_aret (o := some r) hx hb hr hlocks (⟨r, hsz_r, rfl, he, q, gg, fr, fq, fun k hk => hgg k (by omega)⟩) hP hS (Nat.le_of_ble_eq_true rfl) (Nat.le_of_ble_eq_true rfl) dX5_with_52
    | succ n ih =>
      intro i hin hh gg he fr fq fa fb hgg H locs ls hP hS hl
      refine lv_iload hx hb dX5_with_12 (lv_at hl 0 rfl) ?_
      refine lv_bipush (v := (nI 6)) hx hb dX5_with_14 (by decide) ?_
      refine lv_icmp_ge (tgt := 50) hx hb dX5_with_16 (by decide) (fun c9 => absurd c9 (nI_ge (by omega) (by decide))) (fun _ => ?_)
      refine lv_aload hx hb dX5_with_19 (lv_at hl 1 rfl) ?_
      refine fh_get (C := RX5) (T := TX5) (N := 1) hx hb ht inX5 hown hE.1 hP fr rfl 0 (by decide) (ht _ kw_264) (fun _ h9 => h9) (v := .ref q) rfl dX5_with_21 ?_
      refine lv_iload hx hb dX5_with_24 (lv_at hl 0 rfl) ?_
      refine lv_iload hx hb dX5_with_26 (lv_at hl 0 rfl) ?_
      refine lv_iload_n hx hb dX5_with_28 rfl (lv_at hl 3 rfl) ?_
      refine lv_icmp_ne (tgt := 36) hx hb dX5_with_29 (by decide) (fun c1 => ?_) (fun c1 => ?_)
      · have nij : i ≠ j := fun z => c1 (by rw [z])
        refine lv_aload_n hx hb dX5_with_36 rfl (lv_at hl 2 rfl) ?_
        refine fh_get (C := RX5) (T := TX5) (N := 1) hx hb ht inX5 hown hE.1 hP fa rfl 0 (by decide) (ht _ kw_264) (fun _ h9 => h9) (v := .ref b) rfl dX5_with_37 ?_
        refine lv_iload hx hb dX5_with_40 (lv_at hl 0 rfl) ?_
        refine fh_lald (k := i) hx hb hE.1 hP fb rfl (by omega) (by decide) dX5_with_42 ?_
        refine fh_last (k := i) hx hb hE.1 hP hS fq (hA _ hsq) rfl (by omega) (by decide) dX5_with_43 (fun H locs hP hz hS => ?_)
        obtain ⟨h_3, eh_3⟩ : ∃ z, z = fh_up hh q (.inl (0, 6, .inr (.inl (vp_updL gg i (g0 i))))) := ⟨_, rfl⟩
        have hP : fh_P G vwCl h_3 H := by rw [eh_3]; exact hP
        have f_3 : h_3 q = some (.inl (0, 6, .inr (.inl (vp_updL gg i (g0 i))))) := by rw [eh_3]; exact fh_up_self _ _ _
        have g_3_0 := (congrFun eh_3 r).trans (fh_keep fq fr rfl)
        have g_3_2 := (congrFun eh_3 a).trans (fh_keep fq fa rfl)
        have g_3_3 := (congrFun eh_3 b).trans (fh_keepN fb (nbq))
        refine lv_iinc (v := nI (i + 1)) (lv' := [(5, .int (nI (i + 1))), (4, .ref r), (0, .ref a), (1, .int (nI j)), (2, .long x)]) hx hb dX5_with_44 hl (k := 0) rfl (nI_1 _) (by decide) rfl (fun ls hl => ?_)
        refine lv_goto (tgt := 12) hx hb dX5_with_47 (by decide) ?_
        exact ih (i + 1) (by omega) h_3 _ (by rw [eh_3]; exact he.up hsq) g_3_0 f_3 g_3_2 g_3_3 (lt_s (fun k hk => (pk_uLn (by omega)).trans (hgg k hk)) (pk_uLs.trans ((ha3 i (by omega)).trans (rwSet_n nij).symm))) H locs ls hP hS hl
      · have eij : i = j := (nI_eq (by omega) (by omega)).mp c1
        refine lv_lload_n hx hb dX5_with_32 rfl (lv_at hl 4 rfl) ?_
        refine lv_goto (tgt := 43) hx hb dX5_with_33 (by decide) ?_
        refine fh_last (k := i) hx hb hE.1 hP hS fq (hA _ hsq) rfl (by omega) (by decide) dX5_with_43 (fun H locs hP hz hS => ?_)
        obtain ⟨h_3, eh_3⟩ : ∃ z, z = fh_up hh q (.inl (0, 6, .inr (.inl (vp_updL gg i x)))) := ⟨_, rfl⟩
        have hP : fh_P G vwCl h_3 H := by rw [eh_3]; exact hP
        have f_3 : h_3 q = some (.inl (0, 6, .inr (.inl (vp_updL gg i x)))) := by rw [eh_3]; exact fh_up_self _ _ _
        have g_3_0 := (congrFun eh_3 r).trans (fh_keep fq fr rfl)
        have g_3_2 := (congrFun eh_3 a).trans (fh_keep fq fa rfl)
        have g_3_3 := (congrFun eh_3 b).trans (fh_keepN fb (nbq))
        refine lv_iinc (v := nI (i + 1)) (lv' := [(5, .int (nI (i + 1))), (4, .ref r), (0, .ref a), (1, .int (nI j)), (2, .long x)]) hx hb dX5_with_44 hl (k := 0) rfl (nI_1 _) (by decide) rfl (fun ls hl => ?_)
        refine lv_goto (tgt := 12) hx hb dX5_with_47 (by decide) ?_
        exact ih (i + 1) (by omega) h_3 _ (by rw [eh_3]; exact he.up hsq) g_3_0 f_3 g_3_2 g_3_3 (lt_s (fun k hk => (pk_uLn (by omega)).trans (hgg k hk)) (pk_uLs.trans (by rw [eij]; exact rwSet_s.symm))) H locs ls hP hS hl
  exact loop 6 0 (by omega) u _ he fr fq fa fb (fun k hk => absurd hk (Nat.not_lt_zero k)) _ _ _ hP hS hl
