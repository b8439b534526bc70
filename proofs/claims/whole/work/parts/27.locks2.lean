set_option maxRecDepth 100000 in
set_option maxHeartbeats 4000000 in
theorem c_Lk_release (l : Launch) (G : fG) (A : Nat → Prop) (h : FH) (sz : Nat) (a b : Nat) (fa : Nat → Option Nat) (ar : Nat → Option Ar) (ha : h a = some (oLocks b)) (hb0 : h b = some (aQ 6 10 fa)) (hAb : A b) (har : ∀ i, i < 10 → pAr h (fa i) (ar i)) (sn : Int32) : Met l yX4_release wsX4_release { frames := 0, cells := 0, slots := 0, locals := 0 } (va_Pc [.ref a, .int sn] (fh_Pre G A h sz)) (fh_Q G (fun v u => ∃ gg, v = none ∧ u = fh_up h b (aQ 6 10 gg) ∧ ∀ i, i < 10 → gg i = if lkOwn (ar i) sn = true then none else fa i) A) 0 0 A := by
  refine fh_Met [.ref a, .int sn] (by decide) rfl (Nat.le_of_ble_eq_true rfl) ?_
  intro p e s m below meth c hx hb hr hlocks hml hown hnm hts hsz hP hE hS ls hl
  have ht : ∀ w ∈ wB, w.before _ s = true := fun w h9 => hts w (List.mem_cons_of_mem _ h9)
  have hl : lv_has ls 4 [(0, .ref a), (1, .int sn)] := hl
  refine lv_iconst (v := (nI 0)) hx hb dX4_release_0 (by decide) ?_
  refine lv_istore_n (lv' := [(2, .int (nI 0)), (0, .ref a), (1, .int sn)]) hx hb dX4_release_1 rfl hl (by decide) rfl (fun ls hl => ?_)
  have loop : ∀ (n i : Nat), i + n = 10 → ∀ (gg : Nat → Option Nat) (_ : ∀ k, k < i → gg k = if lkOwn (ar k) sn = true then none else fa k) (_ : ∀ k, i ≤ k → gg k = fa k), ∀ (H : Heap) (locs : List Loc) (ls : Array Slot), fh_P G vwCl (fh_up h b (aQ 6 10 gg)) H → va_S A s.heap H locs → lv_has ls 4 [(2, .int (nI i)), (0, .ref a), (1, .int sn)] → W p l e (headSpec wsX4_release { frames := 0, cells := 0, slots := 0, locals := 0 }).room s m [.ref a, .int sn].toArray below meth c H locs 0 0 (MQ below (fh_Q G (fun v u => ∃ gg, v = none ∧ u = fh_up h b (aQ 6 10 gg) ∧ ∀ i, i < 10 → gg i = if lkOwn (ar i) sn = true then none else fa i) A) [.ref a, .int sn].toArray s 0 0 A) (F0 m 2 ls []) := by
    intro n
    induction n with
    | zero =>
      intro i hin gg h1 h2 H locs ls hP hS hl
      refine lv_iload_n hx hb dX4_release_2 rfl (lv_at hl 0 rfl) ?_
      refine lv_bipush (v := (nI 10)) hx hb dX4_release_3 (by decide) ?_
      refine lv_icmp_ge (tgt := 40) hx hb dX4_release_5 (by decide) (fun _ => ?_) (fun c9 => absurd (nI_le (by omega) (by omega)) c9)
      exact fh_vret hx hb hr hlocks (⟨gg, rfl, rfl, fun k hk => h1 k (by omega)⟩) hP hS (Nat.le_of_ble_eq_true rfl) (Nat.le_of_ble_eq_true rfl) dX4_release_40
    | succ n ih =>
      intro i hin gg h1 h2 H locs ls hP hS hl
      refine lv_iload_n hx hb dX4_release_2 rfl (lv_at hl 0 rfl) ?_
      refine lv_bipush (v := (nI 10)) hx hb dX4_release_3 (by decide) ?_
      refine lv_icmp_ge (tgt := 40) hx hb dX4_release_5 (by decide) (fun c9 => absurd c9 (nI_ge (by omega) (by decide))) (fun _ => ?_)
      refine lv_aload_n hx hb dX4_release_8 rfl (lv_at hl 1 rfl) ?_
      refine fh_get (C := RX4) (T := TX4) (N := 1) hx hb ht inX4 hown hE.1 hP (fh_keep hb0 ha rfl) rfl 0 (by decide) (ht _ kw_51) (fun _ h9 => h9) (v := .ref b) rfl dX4_release_9 ?_
      refine lv_iload_n hx hb dX4_release_12 rfl (lv_at hl 0 rfl) ?_
      refine fh_aald (k := i) hx hb hE.1 hP (fh_up_self h b (aQ 6 10 gg)) rfl (by omega) (by decide) dX4_release_13 ?_
      rw [h2 i (Nat.le_refl i)]
      have hi := har i (by omega)
      generalize efi : fa i = o at hi ⊢
      refine fh_astore_n (lv' := [(3, va_rf o), (2, .int (nI i)), (0, .ref a), (1, .int sn)]) hx hb dX4_release_14 rfl hl (by decide) rfl (fun ls hl => ?_)
      refine fh_aload_n hx hb dX4_release_15 rfl (lv_at hl 0 rfl) ?_
      refine fh_ifnull (tgt := 34) hx hb dX4_release_16 (by decide) (fun eo => ?_) (fun x eo => ?_)
      · subst eo; have e8 := pAr_none hi
        have hl : lv_has ls 4 [(3, .null), (2, .int (nI i)), (0, .ref a), (1, .int sn)] := hl
        refine lv_iinc (v := nI (i + 1)) (lv' := [(2, .int (nI (i + 1))), (3, .null), (0, .ref a), (1, .int sn)]) hx hb dX4_release_34 hl (k := 1) rfl (nI_1 _) (by decide) rfl (fun ls hl => ?_)
        refine lv_goto (tgt := 2) hx hb dX4_release_37 (by decide) ?_
        exact ih (i + 1) (by omega) gg (lt_s h1 (by rw [h2 i (Nat.le_refl i), e8, efi]; simp [lkOwn])) (fun k hk => h2 k (by omega)) H locs ls hP hS (lv_sub hl [0, 2, 3] rfl)
      · subst eo; obtain ⟨x1, e8, hx1⟩ := pAr_some hi
        have hl : lv_has ls 4 [(3, .ref x), (2, .int (nI i)), (0, .ref a), (1, .int sn)] := hl
        have hx2 : fh_up h b (aQ 6 10 gg) x = some (oAr x1) := fh_keep hb0 hx1 rfl
        refine lv_aload_n hx hb dX4_release_19 rfl (lv_at hl 0 rfl) ?_
        refine fh_get (C := RX0) (T := TX0) (N := 5) hx hb ht inX0 hown hE.1 hP hx2 rfl 0 (by decide) (ht _ kw_524) (fun _ h9 => h9) (v := .int x1.1) rfl dX4_release_20 ?_
        refine lv_iload_n hx hb dX4_release_23 rfl (lv_at hl 3 rfl) ?_
        refine lv_icmp_ne (tgt := 34) hx hb dX4_release_24 (by decide) (fun c1 => ?_) (fun c1 => ?_)
        · refine lv_iinc (v := nI (i + 1)) (lv' := [(2, .int (nI (i + 1))), (3, .ref x), (0, .ref a), (1, .int sn)]) hx hb dX4_release_34 hl (k := 1) rfl (nI_1 _) (by decide) rfl (fun ls hl => ?_)
          refine lv_goto (tgt := 2) hx hb dX4_release_37 (by decide) ?_
          exact ih (i + 1) (by omega) gg (lt_s h1 (by rw [h2 i (Nat.le_refl i), e8, efi]; simp [lkOwn, c1])) (fun k hk => h2 k (by omega)) H locs ls hP hS (lv_sub hl [0, 2, 3] rfl)
        · refine lv_aload_n hx hb dX4_release_27 rfl (lv_at hl 2 rfl) ?_
          refine fh_get (C := RX4) (T := TX4) (N := 1) hx hb ht inX4 hown hE.1 hP (fh_keep hb0 ha rfl) rfl 0 (by decide) (ht _ kw_51) (fun _ h9 => h9) (v := .ref b) rfl dX4_release_28 ?_
          refine lv_iload_n hx hb dX4_release_31 rfl (lv_at hl 1 rfl) ?_
          refine lv_null hx hb dX4_release_32 ?_
          refine fh_aastN (k := i) hx hb hE.1 hP hS (fh_up_self h b (aQ 6 10 gg)) (hAb) rfl (by omega) (by decide) dX4_release_33 (fun H locs hP hz hS => ?_)
          obtain ⟨h_1, eh_1⟩ : ∃ z, z = fh_up (fh_up h b (aQ 6 10 gg)) b (.inl (6, 10, .inr (.inr (.inr (.inr (va_up gg i none)))))) := ⟨_, rfl⟩
          have hP : fh_P G vwCl h_1 H := by rw [eh_1]; exact hP
          have f_1 : h_1 b = some (.inl (6, 10, .inr (.inr (.inr (.inr (va_up gg i none)))))) := by rw [eh_1]; exact fh_up_self _ _ _
          have g_1_0 := (congrFun eh_1 a).trans (fh_keep (fh_up_self h b (aQ 6 10 gg)) (fh_keep hb0 ha rfl) rfl)
          have g_1_2 := (congrFun eh_1 x).trans (fh_keep (fh_up_self h b (aQ 6 10 gg)) hx2 rfl)
          have hP : fh_P G vwCl (fh_up h b (aQ 6 10 (va_up gg i none))) H := by rw [eh_1, fh_upup] at hP; exact hP
          refine lv_iinc (v := nI (i + 1)) (lv' := [(2, .int (nI (i + 1))), (3, .ref x), (0, .ref a), (1, .int sn)]) hx hb dX4_release_34 hl (k := 1) rfl (nI_1 _) (by decide) rfl (fun ls hl => ?_)
          refine lv_goto (tgt := 2) hx hb dX4_release_37 (by decide) ?_
          exact ih (i + 1) (by omega) (va_up gg i none) (lt_s (fun k hk => (va_up_ne _ _ (by omega)).trans (h1 k hk)) ((va_up_self _ _ _).trans (by rw [e8]; simp [lkOwn, c1]))) (fun k hk => (va_up_ne _ _ (by omega)).trans (h2 k (by omega))) H locs ls hP hS (lv_sub hl [0, 2, 3] rfl)
  exact loop 10 0 (by omega) fa (fun k hk => absurd hk (Nat.not_lt_zero k)) (fun _ _ => rfl) _ _ _ (by rw [fh_up_same hb0]; exact hP) hS hl

set_option maxRecDepth 100000 in
set_option maxHeartbeats 4000000 in
theorem c_Lk_add (l : Launch) (G : fG) (A : Nat → Prop) (h : FH) (sz : Nat) (a b : Nat) (fa : Nat → Option Nat) (ar : Nat → Option Ar) (ha : h a = some (oLocks b)) (hb0 : h b = some (aQ 6 10 fa)) (hAb : A b) (har : ∀ i, i < 10 → pAr h (fa i) (ar i)) (d : Nat) (dv : Ar) (hd : h d = some (oAr dv)) : Met l yX4_add wsX4_add { frames := 1, cells := 0, slots := 0, locals := 24 } (va_Pc [.ref a, .ref d] (fh_Pre G A h sz)) (fh_Q G (fun v u => (v = some (.int 0) ∧ u = h ∧ (lkClash ar dv = true ∨ ∀ i, i < 10 → ar i ≠ none)) ∨ (v = some (.int 1) ∧ lkClash ar dv = false ∧ ∃ k, k < 10 ∧ ar k = none ∧ u = fh_up h b (aQ 6 10 (va_up fa k (some d))))) A) 0 0 A := by
  refine fh_Met [.ref a, .ref d] (by decide) rfl (Nat.le_of_ble_eq_true rfl) ?_
  intro p e s m below meth c hx hb hr hlocks hml hown hnm hts hsz hP hE hS ls hl
  have ht : ∀ w ∈ wB, w.before _ s = true := fun w h9 => hts w (List.mem_cons_of_mem _ h9)
  have hl : lv_has ls 5 [(0, .ref a), (1, .ref d)] := hl
  refine lv_iconst (v := (-1)) hx hb dX4_add_0 (by decide) ?_
  refine lv_istore_n (lv' := [(2, .int (-1)), (0, .ref a), (1, .ref d)]) hx hb dX4_add_1 rfl hl (by decide) rfl (fun ls hl => ?_)
  refine lv_iconst (v := (nI 0)) hx hb dX4_add_2 (by decide) ?_
  refine lv_istore_n (lv' := [(3, .int (nI 0)), (2, .int (-1)), (0, .ref a), (1, .ref d)]) hx hb dX4_add_3 rfl hl (by decide) rfl (fun ls hl => ?_)
  have loop : ∀ (n i : Nat), i + n = 10 → ∀ (fr : Int32) (_ : (fr = -1 ∧ ∀ k, k < i → ar k ≠ none) ∨ ∃ k, k < 10 ∧ fr = nI k ∧ ar k = none) (_ : ∀ k, k < i → lkMeet (ar k) dv = false), ∀ (H : Heap) (locs : List Loc) (ls : Array Slot), fh_P G vwCl h H → va_S A s.heap H locs → lv_has ls 5 [(3, .int (nI i)), (2, .int fr), (0, .ref a), (1, .ref d)] → W p l e (headSpec wsX4_add { frames := 1, cells := 0, slots := 0, locals := 24 }).room s m [.ref a, .ref d].toArray below meth c H locs 0 0 (MQ below (fh_Q G (fun v u => (v = some (.int 0) ∧ u = h ∧ (lkClash ar dv = true ∨ ∀ i, i < 10 → ar i ≠ none)) ∨ (v = some (.int 1) ∧ lkClash ar dv = false ∧ ∃ k, k < 10 ∧ ar k = none ∧ u = fh_up h b (aQ 6 10 (va_up fa k (some d))))) A) [.ref a, .ref d].toArray s 0 0 A) (F0 m 4 ls []) := by
    intro n
    induction n with
    | zero =>
      intro i hin fr h1 h2 H locs ls hP hS hl
      have hcl : lkClash ar dv = false := by cases hq : lkClash ar dv with
        | false => rfl
        | true => exact absurd hq (any10_f (fun k hk => h2 k (by omega)))
      refine lv_iload_n hx hb dX4_add_4 rfl (lv_at hl 0 rfl) ?_
      refine lv_bipush (v := (nI 10)) hx hb dX4_add_5 (by decide) ?_
      refine lv_icmp_ge (tgt := 57) hx hb dX4_add_7 (by decide) (fun _ => ?_) (fun c9 => absurd (nI_le (by omega) (by omega)) c9)
      refine lv_iload_n hx hb dX4_add_57 rfl (lv_at hl 1 rfl) ?_
      rcases h1 with ⟨rfl, hf⟩ | ⟨k, hk, rfl, hn⟩
      · refine lv_if_ge (tgt := 63) hx hb dX4_add_58 (by decide) (fun c9 => absurd c9 (by decide)) (fun _ => ?_)
        refine lv_iconst (v := (nI 0)) hx hb dX4_add_61 (by decide) ?_
        exact fh_zret hx hb hr hlocks rfl (Or.inl ⟨rfl, rfl, Or.inr (fun k hk => hf k (by omega))⟩) hP hS (Nat.le_of_ble_eq_true rfl) (Nat.le_of_ble_eq_true rfl) dX4_add_62
      · refine lv_if_ge (tgt := 63) hx hb dX4_add_58 (by decide) (fun _ => ?_) (fun c9 => absurd (nI_pos' (by omega)) c9)
        refine lv_aload_n hx hb dX4_add_63 rfl (lv_at hl 2 rfl) ?_
        refine fh_get (C := RX4) (T := TX4) (N := 1) hx hb ht inX4 hown hE.1 hP ha rfl 0 (by decide) (ht _ kw_51) (fun _ h9 => h9) (v := .ref b) rfl dX4_add_64 ?_
        refine lv_iload_n hx hb dX4_add_67 rfl (lv_at hl 1 rfl) ?_
        refine lv_aload_n hx hb dX4_add_68 rfl (lv_at hl 3 rfl) ?_
        refine fh_aast (k := k) hx hb hE.1 hP hS hb0 (hAb) rfl hd rfl (hk) (by decide) dX4_add_69 (fun H locs hP hz hS => ?_)
        obtain ⟨h_1, eh_1⟩ : ∃ z, z = fh_up h b (.inl (6, 10, .inr (.inr (.inr (.inr (va_up fa k (some d))))))) := ⟨_, rfl⟩
        have hP : fh_P G vwCl h_1 H := by rw [eh_1]; exact hP
        have f_1 : h_1 b = some (.inl (6, 10, .inr (.inr (.inr (.inr (va_up fa k (some d))))))) := by rw [eh_1]; exact fh_up_self _ _ _
        have g_1_0 := (congrFun eh_1 a).trans (fh_keep hb0 ha rfl)
        have g_1_2 := (congrFun eh_1 d).trans (fh_keep hb0 hd rfl)
        refine lv_iconst (v := (nI 1)) hx hb dX4_add_70 (by decide) ?_
        exact fh_zret hx hb hr hlocks rfl (Or.inr ⟨rfl, hcl, k, hk, hn, by rw [eh_1]⟩) hP hS (Nat.le_of_ble_eq_true rfl) (Nat.le_of_ble_eq_true rfl) dX4_add_71
    | succ n ih =>
      intro i hin fr h1 h2 H locs ls hP hS hl
      refine lv_iload_n hx hb dX4_add_4 rfl (lv_at hl 0 rfl) ?_
      refine lv_bipush (v := (nI 10)) hx hb dX4_add_5 (by decide) ?_
      refine lv_icmp_ge (tgt := 57) hx hb dX4_add_7 (by decide) (fun c9 => absurd c9 (nI_ge (by omega) (by decide))) (fun _ => ?_)
      refine lv_aload_n hx hb dX4_add_10 rfl (lv_at hl 2 rfl) ?_
      refine fh_get (C := RX4) (T := TX4) (N := 1) hx hb ht inX4 hown hE.1 hP ha rfl 0 (by decide) (ht _ kw_51) (fun _ h9 => h9) (v := .ref b) rfl dX4_add_11 ?_
      refine lv_iload_n hx hb dX4_add_14 rfl (lv_at hl 0 rfl) ?_
      refine fh_aald (k := i) hx hb hE.1 hP hb0 rfl (by omega) (by decide) dX4_add_15 ?_
      have hi := har i (by omega)
      generalize efi : fa i = o at hi ⊢
      refine fh_astore (lv' := [(4, va_rf o), (3, .int (nI i)), (2, .int fr), (0, .ref a), (1, .ref d)]) hx hb dX4_add_16 hl (by decide) rfl (fun ls hl => ?_)
      refine fh_aload hx hb dX4_add_18 (lv_at hl 0 rfl) ?_
      refine fh_ifnonnull (tgt := 28) hx hb dX4_add_20 (by decide) (fun eo => ?_) (fun x eo => ?_)
      · subst eo; have e8 := pAr_none hi
        have hl : lv_has ls 5 [(4, .null), (3, .int (nI i)), (2, .int fr), (0, .ref a), (1, .ref d)] := hl
        refine lv_iload_n hx hb dX4_add_23 rfl (lv_at hl 1 rfl) ?_
        refine lv_istore_n (lv' := [(2, .int (nI i)), (4, .null), (3, .int (nI i)), (0, .ref a), (1, .ref d)]) hx hb dX4_add_24 rfl hl (by decide) rfl (fun ls hl => ?_)
        refine lv_goto (tgt := 51) hx hb dX4_add_25 (by decide) ?_
        refine lv_iinc (v := nI (i + 1)) (lv' := [(3, .int (nI (i + 1))), (2, .int (nI i)), (4, .null), (0, .ref a), (1, .ref d)]) hx hb dX4_add_51 hl (k := 2) rfl (nI_1 _) (by decide) rfl (fun ls hl => ?_)
        refine lv_goto (tgt := 4) hx hb dX4_add_54 (by decide) ?_
        exact ih (i + 1) (by omega) (nI i) (Or.inr ⟨i, by omega, rfl, e8⟩) (lt_s h2 (by rw [e8]; rfl)) H locs ls hP hS (lv_sub hl [0, 1, 3, 4] rfl)
      · subst eo; obtain ⟨x1, e8, hx1⟩ := pAr_some hi
        have hl : lv_has ls 5 [(4, .ref x), (3, .int (nI i)), (2, .int fr), (0, .ref a), (1, .ref d)] := hl
        have h3 : (fr = -1 ∧ ∀ k, k < i + 1 → ar k ≠ none) ∨ ∃ k, k < 10 ∧ fr = nI k ∧ ar k = none := h1.imp (fun z => ⟨z.1, lt_s z.2 (by rw [e8]; exact fun q => nomatch q)⟩) id
        refine lv_aload hx hb dX4_add_28 (lv_at hl 0 rfl) ?_
        refine fh_get (C := RX0) (T := TX0) (N := 5) hx hb ht inX0 hown hE.1 hP hx1 rfl 0 (by decide) (ht _ kw_524) (fun _ h9 => h9) (v := .int x1.1) rfl dX4_add_30 ?_
        refine lv_aload_n hx hb dX4_add_33 rfl (lv_at hl 4 rfl) ?_
        refine fh_get (C := RX0) (T := TX0) (N := 5) hx hb ht inX0 hown hE.1 hP hd rfl 0 (by decide) (ht _ kw_524) (fun _ h9 => h9) (v := .int dv.1) rfl dX4_add_34 ?_
        refine lv_icmp_eq (tgt := 51) hx hb dX4_add_37 (by decide) (fun c1 => ?_) (fun c1 => ?_)
        · refine lv_iinc (v := nI (i + 1)) (lv' := [(3, .int (nI (i + 1))), (4, .ref x), (2, .int fr), (0, .ref a), (1, .ref d)]) hx hb dX4_add_51 hl (k := 1) rfl (nI_1 _) (by decide) rfl (fun ls hl => ?_)
          refine lv_goto (tgt := 4) hx hb dX4_add_54 (by decide) ?_
          exact ih (i + 1) (by omega) fr (h3) (lt_s h2 (by rw [e8]; simp [lkMeet, c1])) H locs ls hP hS (lv_sub hl [0, 2, 3, 4] rfl)
        · refine lv_aload hx hb dX4_add_40 (lv_at hl 0 rfl) ?_
          refine lv_aload_n hx hb dX4_add_42 rfl (lv_at hl 4 rfl) ?_
          refine fh_cV (q := (RX0, TX0, 5)) (As := [.ref d]) (rest := []) (b := x) ⟨hx, hb, hml, hown, ht⟩ (c_Area_meets l G A h _ x d x1.1 x1.2.1 x1.2.2.1 x1.2.2.2.1 x1.2.2.2.2 dv.1 dv.2.1 dv.2.2.1 dv.2.2.2.1 dv.2.2.2.2 hx1 hd) (cwV 1 ht (gV kw_544 kw_545 kw_546 kw_16 kw_547) rfl rfl rfl yd_X0_meets ⟨(Nat.le_of_ble_eq_true rfl), (Nat.le_of_ble_eq_true rfl)⟩) hP hE hS hx1 rfl rfl hl.1 rfl (Nat.le_of_ble_eq_true rfl) dX4_add_43 ⟨(Nat.le_of_ble_eq_true rfl), (Nat.le_of_ble_eq_true rfl)⟩ (fun v u H locs hp hP hz hS => ?_)
          obtain ⟨rfl, eu⟩ := hp
          rw [eu] at hP
          refine W.eq (g2 := F0 m 46 ls [.int (bI (arMeets x1.2.1 x1.2.2.1 x1.2.2.2.1 x1.2.2.2.2 dv.2.1 dv.2.2.1 dv.2.2.2.1 dv.2.2.2.2))]) rfl ?_
          refine lv_if_eq (tgt := 51) hx hb dX4_add_46 (by decide) (fun c2 => ?_) (fun c2 => ?_)
          · refine lv_iinc (v := nI (i + 1)) (lv' := [(3, .int (nI (i + 1))), (4, .ref x), (2, .int fr), (0, .ref a), (1, .ref d)]) hx hb dX4_add_51 hl (k := 1) rfl (nI_1 _) (by decide) rfl (fun ls hl => ?_)
            refine lv_goto (tgt := 4) hx hb dX4_add_54 (by decide) ?_
            exact ih (i + 1) (by omega) fr (h3) (lt_s h2 (by rw [e8]; simp [lkMeet, bI_eq.mp c2])) H locs ls hP hS (lv_sub hl [0, 2, 3, 4] rfl)
          · refine lv_iconst (v := (nI 0)) hx hb dX4_add_49 (by decide) ?_
            exact fh_zret hx hb hr hlocks rfl (Or.inl ⟨rfl, rfl, Or.inl (any10_t (i := i) (by omega) (by rw [e8]; simp [lkMeet, c1, bI_nz c2]))⟩) hP hS (Nat.le_of_ble_eq_true rfl) (Nat.le_of_ble_eq_true rfl) dX4_add_50
  exact loop 10 0 (by omega) (-1) (Or.inl ⟨rfl, fun k hk => absurd hk (Nat.not_lt_zero k)⟩) (fun k hk => absurd hk (Nat.not_lt_zero k)) _ _ _ hP hS hl
