set_option maxRecDepth 100000 in
set_option maxHeartbeats 4000000 in
/-- State.copy() -/
theorem c_St_copy (l : Launch) (G : fG) (A : Nat → Prop) (h : FH) (sz : Nat) (hA : ∀ q, sz ≤ q → A q) (a b : Nat) (f : Nat → Option Nat) (ha1 : h a = some (oSt b)) (ha2 : h b = some (aQ 1 60 f)) (hf : ∀ i, i < 60 → ∀ r, f i = some r → ∃ vs, h r = some (.inr (5, vs))) : Met l yX8_copy wsX8_copy { frames := 2, cells := 2, slots := 61, locals := 32 } (va_Pc [.ref a] (fh_Pre G A h sz)) (fh_Q G (fun v u => ∃ r q g, sz ≤ r ∧ sz ≤ q ∧ v = some (.ref r) ∧ fh_ext sz h u ∧ u r = some (oSt q) ∧ u q = some (aQ 1 60 g) ∧ ∀ k, k < 60 → g k = f k) A) 2 61 A := by
  refine fh_Met [.ref a] (by decide) rfl (Nat.le_of_ble_eq_true rfl) ?_
  intro p e s m below meth c hx hb hr hlocks hml hown hnm hts hsz hP hE hS ls hl
  have ht : ∀ w ∈ wB, w.before _ s = true := fun w h9 => hts w (List.mem_cons_of_mem _ h9)
  have hl : lv_has ls 3 [(0, .ref a)] := hl
  have hA0 : ∀ q, s.heap.size ≤ q → A q := fun q hq => hA q (by rw [← hsz]; exact hq)
  have hl0 : ∀ i, i < 60 → ∀ r, f i = some r → ∃ vs, h r = some (.inr (5, vs)) ∧ r < sz := fun i hi r e9 => by obtain ⟨vs, h9⟩ := hf i hi r e9; exact ⟨vs, h9, by rw [← hsz]; exact hP.lt h9⟩
  have hge1 := hS.1
  have hlt1 := fun (a9 : Nat) (e9 : fe) (q9 : h a9 = some e9) => hP.lt q9
  refine fh_new (ci := 8) (C := RX8) (T := TX8) (N := 1) (fs := [.null]) hx hb ht inX8 tyX8 tyX8_ok hown (ht _ kw_146) (ht _ kw_30) (ht _ kw_2) hE.1 hP hS hA0 rfl (fun j hj => by rcases (show j = 0 by omega) with rfl <;> rfl) (Nat.le_of_ble_eq_true rfl) (Nat.le_of_ble_eq_true rfl) dX8_copy_0 (fun r H er hAr hP hz_r hS => ?_)
  obtain ⟨h_2, eh_2⟩ : ∃ z, z = fh_up h r (.inr (8, [.null])) := ⟨_, rfl⟩
  have g_2_0 := (congrFun eh_2 a).trans (fh_keepN ha1 (Nat.ne_of_lt (by rw [er]; exact hlt1 _ _ ha1)))
  have g_2_1 := (congrFun eh_2 b).trans (fh_keepN ha2 (Nat.ne_of_lt (by rw [er]; exact hlt1 _ _ ha2)))
  have hP : fh_P G vwCl h_2 H := by rw [eh_2]; exact hP
  have f_2 : h_2 r = some (.inr (8, [.null])) := by rw [eh_2]; exact fh_up_self _ _ _
  have hsz_r : sz ≤ r := by rw [er, ← hsz]; exact hge1
  have la := hlt1 _ _ ha1
  have lb := hlt1 _ _ ha2
  refine lv_dup hx hb dX8_copy_3 rfl ?_
  refine fh_cI (As := []) (rest := [.ref r]) (b := r) ⟨hx, hb, hml, hown, ht⟩ (c_St_init l G A _ _ (fun q hq => hA0 q (Nat.le_trans hS.1 hq)) r hAr f_2) (cwI 0 ht (gB kw_33) rfl rfl rfl (ht _ kw_2) (ht _ kw_147) (ht _ kw_32) rfl yd_X8_init.2 ⟨(Nat.le_of_ble_eq_true rfl), (Nat.le_of_ble_eq_true rfl)⟩) hP hE hS rfl hl.1 rfl (Nat.le_of_ble_eq_true rfl) dX8_copy_4 ⟨(Nat.le_of_ble_eq_true rfl), (Nat.le_of_ble_eq_true rfl)⟩ (fun v u H locs hp hP hz hS => ?_)
  obtain ⟨q, hq, rfl, eu⟩ := hp
  refine W.eq (g2 := F0 m 7 ls [.ref r]) rfl ?_
  have nqr : q ≠ r := by omega
  have nar : a ≠ r := by omega
  have nbr : b ≠ r := by omega
  have naq : a ≠ q := by omega
  have nbq : b ≠ q := by omega
  have fr : u r = some (oSt q) := by rw [eu]; exact fh_up_self _ _ _
  have fq : u q = some (aQ 1 60 (fun _ => none)) := by rw [eu, fh_up_ne _ _ nqr]; exact fh_up_self _ _ _
  have fa : u a = some (oSt b) := by rw [eu, fh_up_ne _ _ nar, fh_up_ne _ _ naq]; exact g_2_0
  have fb : u b = some (aQ 1 60 f) := by rw [eu, fh_up_ne _ _ nbr, fh_up_ne _ _ nbq]; exact g_2_1
  have hsq : sz ≤ q := by omega
  have he : fh_ext sz h u := by rw [eu, eh_2]; exact ((fh_ext.rf.up hsz_r).up hsq).up hsz_r
  refine W.widen (k := 2) (n := 61) (by omega) (by omega) ?_
  refine lv_astore_n (lv' := [(1, .ref r), (0, .ref a)]) hx hb dX8_copy_7 rfl hl (by decide) rfl (fun ls hl => ?_)
  refine lv_iconst (v := (nI 0)) hx hb dX8_copy_8 (by decide) ?_
  refine lv_istore_n (lv' := [(2, .int (nI 0)), (1, .ref r), (0, .ref a)]) hx hb dX8_copy_9 rfl hl (by decide) rfl (fun ls hl => ?_)
  have loop : ∀ (n i : Nat), i + n = 60 → ∀ (hh : FH) (gg : Nat → Option Nat) (_ : fh_ext sz h hh) (_ : hh r = some (oSt q)) (_ : hh q = some (aQ 1 60 gg)) (_ : hh a = some (oSt b)) (_ : hh b = some (aQ 1 60 f)) (_ : ∀ k, k < i → gg k = f k), ∀ (H : Heap) (locs : List Loc) (ls : Array Slot), fh_P G vwCl hh H → va_S A s.heap H locs → lv_has ls 3 [(2, .int (nI i)), (1, .ref r), (0, .ref a)] → W p l e (headSpec wsX8_copy { frames := 2, cells := 2, slots := 61, locals := 32 }).room s m [.ref a].toArray below meth c H locs 2 61 (MQ below (fh_Q G (fun v u => ∃ r q g, sz ≤ r ∧ sz ≤ q ∧ v = some (.ref r) ∧ fh_ext sz h u ∧ u r = some (oSt q) ∧ u q = some (aQ 1 60 g) ∧ ∀ k, k < 60 → g k = f k) A) [.ref a].toArray s 2 61 A) (F0 m 10 ls []) := by
    intro n
    induction n with
    | zero =>
      intro i hin hh gg he fr fq fa fb hgg H locs ls hP hS hl
      refine lv_iload_n hx hb dX8_copy_10 rfl (lv_at hl 0 rfl) ?_
      refine lv_bipush (v := (nI 60)) hx hb dX8_copy_11 (by decide) ?_
      refine lv_icmp_ge (tgt := 34) hx hb dX8_copy_13 (by decide) (fun _ => ?_) (fun c9 => absurd (nI_le (by omega) (by omega)) c9)
      refine lv_aload_n hx hb dX8_copy_34 rfl (lv_at hl 1 rfl) ?_
      exact fh_aret (o := some r) hx hb hr hlocks (⟨r, q, gg, hsz_r, hsq, rfl, he, fr, fq, fun k hk => hgg k (by omega)⟩) hP hS (Nat.le_of_ble_eq_true rfl) (Nat.le_of_ble_eq_true rfl) dX8_copy_35
    | succ n ih =>
      intro i hin hh gg he fr fq fa fb hgg H locs ls hP hS hl
      refine lv_iload_n hx hb dX8_copy_10 rfl (lv_at hl 0 rfl) ?_
      refine lv_bipush (v := (nI 60)) hx hb dX8_copy_11 (by decide) ?_
      refine lv_icmp_ge (tgt := 34) hx hb dX8_copy_13 (by decide) (fun c9 => absurd c9 (nI_ge (by omega) (by decide))) (fun _ => ?_)
      refine lv_aload_n hx hb dX8_copy_16 rfl (lv_at hl 1 rfl) ?_
      refine fh_get (C := RX8) (T := TX8) (N := 1) hx hb ht inX8 hown hE.1 hP fr rfl 0 (by decide) (ht _ kw_37) (fun _ h9 => h9) (v := .ref q) rfl dX8_copy_17 ?_
      refine lv_iload_n hx hb dX8_copy_20 rfl (lv_at hl 0 rfl) ?_
      refine lv_aload_n hx hb dX8_copy_21 rfl (lv_at hl 2 rfl) ?_
      refine fh_get (C := RX8) (T := TX8) (N := 1) hx hb ht inX8 hown hE.1 hP fa rfl 0 (by decide) (ht _ kw_37) (fun _ h9 => h9) (v := .ref b) rfl dX8_copy_22 ?_
      refine lv_iload_n hx hb dX8_copy_25 rfl (lv_at hl 0 rfl) ?_
      refine fh_aald (k := i) hx hb hE.1 hP fb rfl (by omega) (by decide) dX8_copy_26 ?_
      have ho : ∀ z, f i = some z → ∃ vs, hh z = some (.inr (5, vs)) := fun z ez => by obtain ⟨vs, h8, h9⟩ := hl0 i (by omega) z ez; exact ⟨vs, he.at h8 h9⟩
      refine fh_aastO (k := i) hx hb hE.1 hP hS fq (hA _ hsq) rfl (ho) rfl (by omega) (by decide) dX8_copy_27 (fun H locs hP hz hS => ?_)
      obtain ⟨h_3, eh_3⟩ : ∃ z, z = fh_up hh q (.inl (1, 60, .inr (.inr (.inr (.inr (va_up gg i (f i))))))) := ⟨_, rfl⟩
      have hP : fh_P G vwCl h_3 H := by rw [eh_3]; exact hP
      have f_3 : h_3 q = some (.inl (1, 60, .inr (.inr (.inr (.inr (va_up gg i (f i))))))) := by rw [eh_3]; exact fh_up_self _ _ _
      have g_3_0 := (congrFun eh_3 r).trans (fh_keep fq fr rfl)
      have g_3_2 := (congrFun eh_3 a).trans (fh_keep fq fa rfl)
      have g_3_3 := (congrFun eh_3 b).trans (fh_keepN fb (nbq))
      refine lv_iinc (v := nI (i + 1)) (lv' := [(2, .int (nI (i + 1))), (1, .ref r), (0, .ref a)]) hx hb dX8_copy_28 hl (k := 0) rfl (nI_1 _) (by decide) rfl (fun ls hl => ?_)
      refine lv_goto (tgt := 10) hx hb dX8_copy_31 (by decide) ?_
      exact ih (i + 1) (by omega) h_3 _ (by rw [eh_3]; exact he.up hsq) g_3_0 f_3 g_3_2 g_3_3 (lt_s (fun k hk => (va_up_ne _ _ (by omega)).trans (hgg k hk)) (va_up_self _ _ _)) H locs ls hP hS hl
  exact loop 60 0 (by omega) u _ he fr fq fa fb (fun k hk => absurd hk (Nat.not_lt_zero k)) _ _ _ hP hS hl
