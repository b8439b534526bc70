set_option maxRecDepth 100000 in
set_option maxHeartbeats 4000000 in
theorem c_X_takeIn (l : Launch) (G : fG) (A : Nat → Prop) (h : FH) (sz : Nat) (hA : ∀ q, sz ≤ q → A q) (hAh : fh_A A h) {Kq : Nat} (xa : Nat) (ad : Ad) (no nv ns : Nat) (V : Nat → St) (S : Nat → Ses) (LK : List Ar) (RL : List (Nat × Nat × Int64)) (J : Nat) (C : CL) (M : Nat → Int32) (hR : RepC Kq h xa ad no nv ns V S LK RL J C M) (i : Nat) (hi : i < ns) (hnv : nv < 40) (hnv0 : 0 < nv) (hbs : ∀ i, i < ns → (S i).1 < nv) : Met l yX9_takeIn wsX9_takeIn { frames := 4, cells := 722, slots := 2581, locals := 110 } (va_Pc [.ref xa, .ref (ad (3 + i) 0)] (fh_Pre G A h sz)) (fh_Q G (fun v u => ∃ ad2 : Ad, v = none ∧ fh_A A u ∧ kp kC h u ∧ RepC Kq u xa ad2 no (nv + 1) ns (upN V nv (mrg (V (S i).1) (S i) (V (nv - 1)))) (upN S i (sClose (S i))) (LK.filter (fun a => decide (a.1 ≠ nI i))) RL J C (mkM (mrg (V (S i).1) (S i) (V (nv - 1))) (V (nv - 1)) M)) A) 722 2581 A := by
  refine fh_Met [.ref xa, .ref (ad (3 + i) 0)] (by decide) rfl (Nat.le_of_ble_eq_true rfl) ?_
  intro p e s m below meth c hx hb hr hlocks hml hown hnm hts hsz hP hE hS ls hl
  have ht : ∀ w ∈ wB, w.before _ s = true := fun w h9 => hts w (List.mem_cons_of_mem _ h9)
  have hl : lv_has ls 5 [(0, .ref xa), (1, .ref (ad (3 + i) 0))] := hl
  have hA0 : ∀ q, s.heap.size ≤ q → A q := fun q hq => hA q (by rw [← hsz]; exact hq)
  have hlt0 : ∀ a e, h a = some e → a < sz := fun a9 e9 q9 => by rw [← hsz]; exact hP.lt q9
  obtain ⟨hX, hV, hSs, hL, hRl, hC, hM, hI⟩ := id hR
  obtain ⟨q0, ⟨q1, fn, q2, q2b⟩, q6, nx, fo, fr, q3, q4, q5, q7, q8, q9⟩ := hSs.2 i hi
  obtain ⟨fm0, m1, m2⟩ := id hM
  obtain ⟨⟨fv, v1, v2⟩, v3⟩ := id hV
  obtain ⟨fa, ar, l1, l2, l3, l4⟩ := id hL
  have hBs : pSt h (ad 1 (S i).1) (ad 2 (S i).1) (V (S i).1) := v3 _ (hbs i hi)
  have hNs : pSt h (ad (3 + i) 1) (ad (3 + i) 2) (S i).2.1 := ⟨q1, fn, q2, q2b⟩
  have hTs : pSt h (ad 1 (nv - 1)) (ad 2 (nv - 1)) (V (nv - 1)) := v3 _ (by omega)
  have hge1 := hS.1
  have hlt1 := fun (a9 : Nat) (e9 : fe) (q9 : h a9 = some e9) => hP.lt q9
  refine fh_new (ci := 8) (C := RX8) (T := TX8) (N := 1) (fs := [.null]) hx hb ht inX8 tyX8 tyX8_ok hown (ht _ kw_28) (ht _ kw_30) (ht _ kw_2) hE.1 hP hS hA0 rfl (fun j hj => by rcases (show j = 0 by omega) with rfl <;> rfl) (Nat.le_of_ble_eq_true rfl) (Nat.le_of_ble_eq_true rfl) dX9_takeIn_0 (fun ta H eta hAta hP hz_ta hS => ?_)
  obtain ⟨h_2, eh_2⟩ : ∃ z, z = fh_up h ta (.inr (8, [.null])) := ⟨_, rfl⟩
  have g_2_0 := (congrFun eh_2 xa).trans (fh_keepN hX (Nat.ne_of_lt (by rw [eta]; exact hlt1 _ _ hX)))
  have hP : fh_P G vwCl h_2 H := by rw [eh_2]; exact hP
  have f_2 : h_2 ta = some (.inr (8, [.null])) := by rw [eh_2]; exact fh_up_self _ _ _
  have hsz_ta : sz ≤ ta := by rw [eta, ← hsz]; exact hge1
  refine lv_dup hx hb dX9_takeIn_3 rfl ?_
  refine fh_cIN (As := []) (rest := [.ref ta]) (b := ta) ⟨hx, hb, hml, hown, ht⟩ (c_St_init l G A h_2 _ (fun q hq => hA0 q (Nat.le_trans hS.1 hq)) ta hAta f_2) (⟨va_cnB (host := "ObjectMerge") 0 ht (gB kw_33) rfl rfl rfl (hE.2.2.2.2.2.1 ("ObjectMerge", 15, ⟨"ObjectMerge$State", "<init>", "()V"⟩, "ObjectMerge") (by decide)) (ht _ kw_2) yd_X8_init.2 ⟨(Nat.le_of_ble_eq_true rfl), (Nat.le_of_ble_eq_true rfl)⟩, rfl, (ht _ kw_32)⟩) hP hE hS rfl hl.1 rfl (Nat.le_of_ble_eq_true rfl) dX9_takeIn_4 ⟨(Nat.le_of_ble_eq_true rfl), (Nat.le_of_ble_eq_true rfl)⟩ (fun v u H locs hp hP hz hS => ?_)
  obtain ⟨tb, htb9, rfl, eu⟩ := hp
  refine W.eq (g2 := F0 m 7 ls [.ref ta]) rfl ?_
  have hztb : sz ≤ tb := by omega
  have hx0 : ∀ q, q < sz → q ≠ ad 0 7 → u q = h q := fun q hq _ => by rw [eu, eh_2, fh_up_ne _ _ (by omega), fh_up_ne _ _ (by omega), fh_up_ne _ _ (by omega)]
  have t10 : u ta = some (oSt tb) := by rw [eu]; exact fh_up_self _ _ _
  have t20 : u tb = some (aQ 1 60 (fun _ => none)) := by rw [eu, fh_up_ne _ _ (by omega)]; exact fh_up_self _ _ _
  have lmk := hlt0 _ _ m1
  have m10 : u (ad 0 7) = some (aI 10 60 fm0) := by rw [eu, eh_2, fh_up_ne _ _ (by omega), fh_up_ne _ _ (by omega), fh_up_ne _ _ (by omega)]; exact m1
  refine W.widen (k := 2) (n := 61) (by omega) (by omega) ?_
  refine lv_astore_n (lv' := [(2, .ref ta), (0, .ref xa), (1, .ref (ad (3 + i) 0))]) hx hb dX9_takeIn_7 rfl hl (by decide) rfl (fun ls hl => ?_)
  refine lv_iconst (v := (nI 0)) hx hb dX9_takeIn_8 (by decide) ?_
  refine lv_istore_n (lv' := [(3, .int (nI 0)), (2, .ref ta), (0, .ref xa), (1, .ref (ad (3 + i) 0))]) hx hb dX9_takeIn_9 rfl hl (by decide) rfl (fun ls hl => ?_)
  have loop : ∀ (n o : Nat), o + n = 60 → ∀ (hh : FH) (fg : Nat → Option Nat) (fm : Nat → Int32) (_ : ∀ q, q < sz → q ≠ ad 0 7 → hh q = h q) (_ : hh ta = some (oSt tb)) (_ : hh tb = some (aQ 1 60 fg)) (_ : hh (ad 0 7) = some (aI 10 60 fm)) (_ : ∀ k, k < o → pRo hh (fg k) ((mrg (V (S i).1) (S i) (V (nv - 1))) k)) (_ : ∀ k, k < o → fm k = (mkM (mrg (V (S i).1) (S i) (V (nv - 1))) (V (nv - 1)) M) k) (_ : ∀ k, o ≤ k → k < 60 → fm k = M k), ∀ (H : Heap) (locs : List Loc) (ls : Array Slot), fh_P G vwCl hh H → va_S A s.heap H locs → lv_has ls 5 [(3, .int (nI o)), (2, .ref ta), (0, .ref xa), (1, .ref (ad (3 + i) 0))] → W p l e (headSpec wsX9_takeIn { frames := 4, cells := 722, slots := 2581, locals := 110 }).room s m [.ref xa, .ref (ad (3 + i) 0)].toArray below meth c H locs (2 + 12 * o) (61 + 42 * o) (MQ below (fh_Q G (fun v u => ∃ ad2 : Ad, v = none ∧ fh_A A u ∧ kp kC h u ∧ RepC Kq u xa ad2 no (nv + 1) ns (upN V nv (mrg (V (S i).1) (S i) (V (nv - 1)))) (upN S i (sClose (S i))) (LK.filter (fun a => decide (a.1 ≠ nI i))) RL J C (mkM (mrg (V (S i).1) (S i) (V (nv - 1))) (V (nv - 1)) M)) A) [.ref xa, .ref (ad (3 + i) 0)].toArray s 722 2581 A) (F0 m 10 ls []) := by
    intro n
    induction n with
    | zero =>
      intro o hin hh fg fm hx1 t1 t2 mm pp1 pp2 pp3 H locs ls hP hS hl
      have o60 : o = 60 := by omega
      subst o60
      have k1 : kp [21] h hh := fun a9 e9 q9 hk9 => (hx1 a9 (hlt0 _ _ q9) (fun z => by rw [z, m1] at q9; cases q9; cases hk9)).trans q9
      have hR1 : RepC Kq hh xa ad no nv ns V S LK RL J C (mkM (mrg (V (S i).1) (S i) (V (nv - 1))) (V (nv - 1)) M) := hR.marks k1 ⟨fm, mm, fun k hk => pp2 k hk⟩
      have hX1 := k1 _ _ hX rfl
      have v11 := k1 _ _ v1 rfl
      have q01 := k1 _ _ q0 rfl
      have hA1 : fh_A A hh := fun q e9 he9 => by
        rcases Nat.lt_or_ge q sz with z | z
        · by_cases zx : q = ad 0 7
          · rw [zx]; exact hAh _ _ m1
          · exact hAh q e9 ((hx1 q z zx).symm.trans he9)
        · exact hA q z
      refine lv_iload_n hx hb dX9_takeIn_10 rfl (lv_at hl 0 rfl) ?_
      refine lv_bipush (v := (nI 60)) hx hb dX9_takeIn_11 (by decide) ?_
      refine lv_icmp_ge (tgt := 63) hx hb dX9_takeIn_13 (by decide) (fun _ => ?_) (fun c9 => absurd (nI_le (by omega) (by omega)) c9)
      refine lv_aload_n hx hb dX9_takeIn_63 rfl (lv_at hl 2 rfl) ?_
      refine lv_aload_n hx hb dX9_takeIn_64 rfl (lv_at hl 1 rfl) ?_
      refine fh_cV (q := (RX9, TX9, 11)) (As := [.ref ta]) (rest := []) (b := xa) ⟨hx, hb, hml, hown, ht⟩ (c_X_addV l G A hh _ xa ad no nv ns RL.length hX1 (hAh _ _ hX) fv v11 (hAh _ _ v1) hnv ta tb t1) (cwV 1 ht (gV kw_273 kw_275 kp_3 kw_1 kw_276) rfl rfl rfl yd_X9_addVersion ⟨(Nat.le_of_ble_eq_true rfl), (Nat.le_of_ble_eq_true rfl)⟩) hP hE hS hX1 rfl rfl hl.1 rfl (Nat.le_of_ble_eq_true rfl) dX9_takeIn_65 ⟨(Nat.le_of_ble_eq_true rfl), (Nat.le_of_ble_eq_true rfl)⟩ (fun v u H locs hp hP hz hS => ?_)
      obtain ⟨rfl, eu⟩ := hp
      refine W.eq (g2 := F0 m 68 ls []) rfl ?_
      have k2 : kp [15, 18] hh u := by rw [eu]; exact (kp.rf.up v11 rfl).up hX1 rfl
      have hR2 : RepC Kq u xa (adV ad nv ta tb) no (nv + 1) ns (upN V nv (mrg (V (S i).1) (S i) (V (nv - 1)))) S LK RL J C (mkM (mrg (V (S i).1) (S i) (V (nv - 1))) (V (nv - 1)) M) := hR1.addV v11 v2 ⟨t1, fg, t2, fun k hk => pp1 k hk⟩ (fun j hj k hk => Nat.ne_of_lt (Nat.lt_of_lt_of_le (hSs.lt hlt0 j hj k hk) hztb)) hbs eu
      have hA2 : fh_A A u := by rw [eu]; exact (hA1.up (hAh _ _ v1)).up (hAh _ _ hX)
      have hX2 : u xa = some (oXh ad ta no (nv + 1) ns RL.length) := by rw [eu]; exact fh_up_self _ _ _
      have q02 := k2 _ _ q01 rfl
      have l12 := k2 _ _ (k1 _ _ l1 rfl) rfl
      have l22 := k2 _ _ (k1 _ _ l2 rfl) rfl
      refine lv_aload_n hx hb dX9_takeIn_68 rfl (lv_at hl 3 rfl) ?_
      refine lv_iconst (v := (nI 0)) hx hb dX9_takeIn_69 (by decide) ?_
      refine fh_put (C := RX7) (T := TX7) (N := 6) (t := .boolean) hx hb ht inX7 tyX7 tyX7_ok nmX7 hown hE.1 hP hS q02 (hAh _ _ q0) rfl 3 (by decide) (ht _ kw_154) (fun _ h9 => h9) rfl (by decide +kernel) rfl rfl (Nat.le_of_ble_eq_true rfl) dX9_takeIn_70 (fun H locs hP hz hS => ?_)
      obtain ⟨h_3, eh_3⟩ : ∃ z, z = fh_up u (ad (3 + i) 0) (.inr (7, [.int (nI i), .ref (ad 1 (S i).1), .ref (ad (3 + i) 1), .int (nI 0), .ref (ad (3 + i) 3), .ref (ad (3 + i) 6)])) := ⟨_, rfl⟩
      have hP : fh_P G vwCl h_3 H := by rw [eh_3]; exact hP
      have f_3 : h_3 (ad (3 + i) 0) = some (.inr (7, [.int (nI i), .ref (ad 1 (S i).1), .ref (ad (3 + i) 1), .int (nI 0), .ref (ad (3 + i) 3), .ref (ad (3 + i) 6)])) := by rw [eh_3]; exact fh_up_self _ _ _
      have g_3_0 := (congrFun eh_3 xa).trans (fh_keep q02 hX2 rfl)
      have g_3_2 := (congrFun eh_3 (ad 0 2)).trans (fh_keep q02 l12 rfl)
      have g_3_3 := (congrFun eh_3 (ad 0 3)).trans (fh_keep q02 l22 rfl)
      obtain ⟨hR3, k3⟩ := hR2.close (u := h_3) hi (by rw [adV_3, adV_3, adV_3, adV_3, adV_1 ad (hbs i hi)]; exact eh_3)
      have hA3 : fh_A A h_3 := by rw [eh_3]; exact hA2.up (hAh _ _ q0)
      have l33 : ∀ j, j < 10 → pAr h_3 (fa j) (ar j) := fun j hj => pAr_kp k3 rfl (pAr_kp k2 rfl (pAr_kp k1 rfl (l3 j hj)))
      refine lv_aload_n hx hb dX9_takeIn_73 rfl (lv_at hl 2 rfl) ?_
      refine fh_get (C := RX9) (T := TX9) (N := 11) hx hb ht inX9 hown hE.1 hP g_3_0 rfl 6 (by decide) (ht _ kw_81) (fun _ h9 => h9) (v := .ref (ad 0 2)) rfl dX9_takeIn_74 ?_
      refine lv_aload_n hx hb dX9_takeIn_77 rfl (lv_at hl 3 rfl) ?_
      refine fh_get (C := RX7) (T := TX7) (N := 6) hx hb ht inX7 hown hE.1 hP f_3 rfl 0 (by decide) (ht _ kw_149) (fun _ h9 => h9) (v := .int (nI i)) rfl dX9_takeIn_78 ?_
      refine fh_cV (q := (RX4, TX4, 1)) (As := [.int (nI i)]) (rest := []) (b := (ad 0 2)) ⟨hx, hb, hml, hown, ht⟩ (c_Lk_release l G A h_3 _ (ad 0 2) (ad 0 3) fa ar g_3_2 g_3_3 (hAh _ _ l2) l33 (nI i)) (cwV 1 ht (gV kw_470 kw_471 kw_472 kw_3 kw_473) rfl rfl rfl yd_X4_release ⟨(Nat.le_of_ble_eq_true rfl), (Nat.le_of_ble_eq_true rfl)⟩) hP hE hS g_3_2 rfl rfl hl.1 rfl (Nat.le_of_ble_eq_true rfl) dX9_takeIn_81 ⟨(Nat.le_of_ble_eq_true rfl), (Nat.le_of_ble_eq_true rfl)⟩ (fun v u3 H locs hp hP hz hS => ?_)
      obtain ⟨gg, rfl, eu3, hgg⟩ := hp
      refine W.eq (g2 := F0 m 84 ls []) rfl ?_
      obtain ⟨hL4, k4⟩ := pcL_rel (ad := adV ad nv ta tb) (u := u3) (i := i) (by rw [adV_0, adV_0]; exact g_3_2) (by rw [adV_0]; exact g_3_3) l33 l4 (by rw [adV_0]; exact eu3) hgg
      exact fh_vret hx hb hr hlocks (⟨adV ad nv ta tb, rfl, by rw [eu3]; exact hA3.up (hAh _ _ l2), (((k1.C rfl).trans (k2.C rfl)).trans (k3.C rfl)).trans (k4.C rfl), hR3.locks k4 hL4⟩) hP hS (by omega) (by omega) dX9_takeIn_84
    | succ n ih =>
      intro o hin hh fg fm hx1 t1 t2 mm pp1 pp2 pp3 H locs ls hP hS hl
      have k1 : kp [21] h hh := fun a9 e9 q9 hk9 => (hx1 a9 (hlt0 _ _ q9) (fun z => by rw [z, m1] at q9; cases q9; cases hk9)).trans q9
      have hbnd := fun (a9 : Nat) (e9 : fe) (q9 : hh a9 = some e9) => hP.lt q9
      have hS9 := hS.1
      have hX1 := k1 _ _ hX rfl
      have q01 := k1 _ _ q0 rfl
      have q61 := k1 _ _ q6 rfl
      have hTs1 := pSt_kp k1 rfl hTs
      obtain ⟨d1, fd, d2, d3⟩ := id hTs1
      refine lv_iload_n hx hb dX9_takeIn_10 rfl (lv_at hl 0 rfl) ?_
      refine lv_bipush (v := (nI 60)) hx hb dX9_takeIn_11 (by decide) ?_
      refine lv_icmp_ge (tgt := 63) hx hb dX9_takeIn_13 (by decide) (fun c9 => absurd c9 (nI_ge (by omega) (by decide))) (fun _ => ?_)
      refine lv_aload_n hx hb dX9_takeIn_16 rfl (lv_at hl 3 rfl) ?_
      refine lv_iload_n hx hb dX9_takeIn_17 rfl (lv_at hl 0 rfl) ?_
      refine lv_aload_n hx hb dX9_takeIn_18 rfl (lv_at hl 2 rfl) ?_
      refine fh_get (C := RX9) (T := TX9) (N := 11) hx hb ht inX9 hown hE.1 hP hX1 rfl 2 (by decide) (ht _ kw_77) (fun _ h9 => h9) (v := .ref (ad 1 (nv - 1))) rfl dX9_takeIn_19 ?_
      refine fh_cV (q := (RX7, TX7, 6)) (As := [.int (nI o), .ref (ad 1 (nv - 1))]) (rest := []) (b := (ad (3 + i) 0)) ⟨hx, hb, hml, hown, ht⟩ (c_Ses_merged l G A hh _ (fun q hq => hA0 q (Nat.le_trans hS.1 hq)) (ad (3 + i) 0) (ad 1 (S i).1) (ad (3 + i) 1) (ad (3 + i) 3) (ad (3 + i) 6) (ad 2 (S i).1) (ad (3 + i) 2) (nI i) (bI (S i).2.2.1) (V (S i).1) (S i).2.1 q01 (pSt_kp k1 rfl hBs) (pSt_kp k1 rfl hNs) (S i).2.2.2.2 q61 (ad 1 (nv - 1)) (ad 2 (nv - 1)) (V (nv - 1)) hTs1 o (by omega)) (cwV 2 ht (gV kw_456 kw_457 kw_458 kw_11 kw_459) rfl rfl rfl yd_X7_merged ⟨(Nat.le_of_ble_eq_true rfl), (Nat.le_of_ble_eq_true rfl)⟩) hP hE hS q01 rfl rfl hl.1 rfl (Nat.le_of_ble_eq_true rfl) dX9_takeIn_22 ⟨(by show _ ≤ 722; omega), (by show _ ≤ 2581; omega)⟩ (fun v u H locs hp hP hz hS => ?_)
      obtain ⟨ro, rfl, he9, hro⟩ := hp
      refine W.eq (g2 := F0 m 25 ls [va_rf ro]) rfl ?_
      have k2 : kp [] hh u := kp.ext he9 hbnd
      have hX2 := k2 _ _ hX1 rfl
      have q02 := k2 _ _ q01 rfl
      have d12 := k2 _ _ d1 rfl
      have t12 := k2 _ _ t1 rfl
      have t22 := k2 _ _ t2 rfl
      have mm2 := k2 _ _ mm rfl
      have d22 := k2 _ _ d2 rfl
      refine fh_astore (lv' := [(4, va_rf ro), (3, .int (nI o)), (2, .ref ta), (0, .ref xa), (1, .ref (ad (3 + i) 0))]) hx hb dX9_takeIn_25 hl (by decide) rfl (fun ls hl => ?_)
      refine lv_aload_n hx hb dX9_takeIn_27 rfl (lv_at hl 2 rfl) ?_
      refine lv_iload_n hx hb dX9_takeIn_28 rfl (lv_at hl 1 rfl) ?_
      refine fh_aload hx hb dX9_takeIn_29 (lv_at hl 0 rfl) ?_
      refine fh_cV (q := (RX8, TX8, 1)) (As := [.int (nI o), va_rf ro]) (rest := []) (b := ta) ⟨hx, hb, hml, hown, ht⟩ (c_St_put l G A u _ ta tb o fg ro t12 t22 (hA _ hztb) (by omega) (pRo_cell' hro)) (cwV 2 ht (gV kw_269 kw_270 kw_271 kw_2 kw_272) rfl rfl rfl yd_X8_put ⟨(Nat.le_of_ble_eq_true rfl), (Nat.le_of_ble_eq_true rfl)⟩) hP hE hS t12 rfl rfl hl.1 rfl (Nat.le_of_ble_eq_true rfl) dX9_takeIn_31 ⟨(by show _ ≤ 722; omega), (by show _ ≤ 2581; omega)⟩ (fun v u2 H locs hp hP hz hS => ?_)
      obtain ⟨rfl, eu2⟩ := hp
      refine W.eq (g2 := F0 m 34 ls []) rfl ?_
      have k3 : kp [3] u u2 := by rw [eu2]; exact kp.rf.up t22 rfl
      have hX3 := k3 _ _ hX2 rfl
      have d13 := k3 _ _ d12 rfl
      have t13 := k3 _ _ t12 rfl
      have mm3 := k3 _ _ mm2 rfl
      have t23 : u2 tb = some (aQ 1 60 (va_up fg o ro)) := by rw [eu2]; exact fh_up_self _ _ _
      have ld2 := hlt0 _ _ hTs.2.choose_spec.1
      have d23 : u2 (ad 2 (nv - 1)) = some (aQ 1 60 fd) := by rw [eu2, fh_up_ne _ _ (by omega)]; exact d22
      have hro3 : pRo u2 ro ((mrg (V (S i).1) (S i) (V (nv - 1))) o) := pRo_kp k3 rfl hro
      have hx3 : ∀ q, q < sz → q ≠ ad 0 7 → u2 q = h q := fun q hq hn => by rw [eu2, fh_up_ne _ _ (by omega), he9 q (by omega)]; exact hx1 q hq hn
      have pp13 : ∀ k, k < o + 1 → pRo u2 (va_up fg o ro k) ((mrg (V (S i).1) (S i) (V (nv - 1))) k) := fun k hk => by
        by_cases z : k = o
        · subst z; rw [show va_up fg k ro k = ro by simp [va_up]]; exact hro3
        · rw [show va_up fg o ro k = fg k by simp [va_up, z]]; exact pRo_kp k3 rfl (pRo_kp k2 rfl (pp1 k (by omega)))
      refine fh_aload hx hb dX9_takeIn_34 (lv_at hl 0 rfl) ?_
      refine lv_aload_n hx hb dX9_takeIn_36 rfl (lv_at hl 3 rfl) ?_
      refine fh_get (C := RX9) (T := TX9) (N := 11) hx hb ht inX9 hown hE.1 hP hX3 rfl 2 (by decide) (ht _ kw_77) (fun _ h9 => h9) (v := .ref (ad 1 (nv - 1))) rfl dX9_takeIn_37 ?_
      refine lv_iload_n hx hb dX9_takeIn_40 rfl (lv_at hl 1 rfl) ?_
      refine fh_cV (q := (RX8, TX8, 1)) (As := [.int (nI o)]) (rest := [va_rf ro]) (b := (ad 1 (nv - 1))) ⟨hx, hb, hml, hown, ht⟩ (c_St_row l G A u2 _ (ad 1 (nv - 1)) (ad 2 (nv - 1)) o fd d13 d23 (by omega)) (cwV 1 ht (gV kw_337 kw_338 kw_339 kw_2 kw_340) rfl rfl rfl yd_X8_row ⟨(Nat.le_of_ble_eq_true rfl), (Nat.le_of_ble_eq_true rfl)⟩) hP hE hS d13 rfl rfl hl.1 rfl (Nat.le_trans (catsum _) (Nat.le_of_ble_eq_true rfl)) dX9_takeIn_41 ⟨(by show _ ≤ 722; omega), (by show _ ≤ 2581; omega)⟩ (fun v u9 H locs hp hP hz hS => ?_)
      obtain ⟨rfl, eu9⟩ := hp
      rw [eu9] at hP
      refine W.eq (g2 := F0 m 44 ls [va_rf (fd o), va_rf ro]) rfl ?_
      refine fh_cS (As := [va_rf ro, va_rf (fd o)]) (rest := []) ⟨hx, hb, hml, hown, ht⟩ (c_Row_alike l G A u2 _ ro (fd o) ((mrg (V (S i).1) (S i) (V (nv - 1))) o) ((V (nv - 1)) o) hro3 (pRo_kp k3 rfl (pRo_kp k2 rfl (d3 o (by omega))))) (va_cwS 2 ht (gS kw_469 kw_419 kw_10 kw_420) rfl rfl rfl yd_X5_alike.2 ⟨(Nat.le_of_ble_eq_true rfl), (Nat.le_of_ble_eq_true rfl)⟩) hP hE hS rfl hl.1 rfl (Nat.le_of_ble_eq_true rfl) dX9_takeIn_44 ⟨(by show _ ≤ 722; omega), (by show _ ≤ 2581; omega)⟩ (fun v u9 H locs hp hP hz hS => ?_)
      obtain ⟨rfl, eu9⟩ := hp
      rw [eu9] at hP
      refine W.eq (g2 := F0 m 47 ls [.int (bI (alikeO ((mrg (V (S i).1) (S i) (V (nv - 1))) o) ((V (nv - 1)) o)))]) rfl ?_
      refine lv_if_ne (tgt := 57) hx hb dX9_takeIn_47 (by decide) (fun c1 => ?_) (fun c1 => ?_)
      · have e1 := bI_nz c1
        refine lv_iinc (v := nI (o + 1)) (lv' := [(3, .int (nI (o + 1))), (4, va_rf ro), (2, .ref ta), (0, .ref xa), (1, .ref (ad (3 + i) 0))]) hx hb dX9_takeIn_57 hl (k := 1) rfl (nI_1 _) (by decide) rfl (fun ls hl => ?_)
        refine lv_goto (tgt := 10) hx hb dX9_takeIn_60 (by decide) ?_
        refine W.widen (k := 2 + 12 * (o + 1)) (n := 61 + 42 * (o + 1)) (by omega) (by omega) ?_
        exact ih (o + 1) (by omega) u2 (va_up fg o ro) fm hx3 t13 t23 mm3 pp13 (lt_s pp2 (by show fm o = if _ then _ else _; rw [if_pos e1]; exact pp3 o (Nat.le_refl o) (by omega))) (fun k hk h6 => pp3 k (by omega) h6) H locs ls hP hS (lv_sub hl [0, 2, 3, 4] rfl)
      · have e1 : ¬ alikeO ((mrg (V (S i).1) (S i) (V (nv - 1))) o) ((V (nv - 1)) o) = true := by rw [bI_eq.mp c1]; decide
        refine lv_aload_n hx hb dX9_takeIn_50 rfl (lv_at hl 3 rfl) ?_
        refine fh_get (C := RX9) (T := TX9) (N := 11) hx hb ht inX9 hown hE.1 hP hX3 rfl 10 (by decide) (ht _ kw_85) (fun _ h9 => h9) (v := .ref (ad 0 7)) rfl dX9_takeIn_51 ?_
        refine lv_iload_n hx hb dX9_takeIn_54 rfl (lv_at hl 1 rfl) ?_
        refine lv_iconst (v := (nI 0)) hx hb dX9_takeIn_55 (by decide) ?_
        refine fh_iast (k := o) hx hb hE.1 hP hS mm3 (hAh _ _ m1) rfl (by omega) (by decide) dX9_takeIn_56 (fun H locs hP hz hS => ?_)
        obtain ⟨h_3, eh_3⟩ : ∃ z, z = fh_up u2 (ad 0 7) (.inl (10, 60, .inl (upd fm o (nI 0)))) := ⟨_, rfl⟩
        have hP : fh_P G vwCl h_3 H := by rw [eh_3]; exact hP
        have f_3 : h_3 (ad 0 7) = some (.inl (10, 60, .inl (upd fm o (nI 0)))) := by rw [eh_3]; exact fh_up_self _ _ _
        have g_3_0 := (congrFun eh_3 xa).trans (fh_keep mm3 hX3 rfl)
        have g_3_1 := (congrFun eh_3 (ad 1 (nv - 1))).trans (fh_keep mm3 d13 rfl)
        have g_3_3 := (congrFun eh_3 ta).trans (fh_keep mm3 t13 rfl)
        have g_3_4 := (congrFun eh_3 tb).trans (fh_keep mm3 t23 rfl)
        have k4 : kp [21] u2 h_3 := by rw [eh_3]; exact kp.rf.up mm3 rfl
        refine lv_iinc (v := nI (o + 1)) (lv' := [(3, .int (nI (o + 1))), (4, va_rf ro), (2, .ref ta), (0, .ref xa), (1, .ref (ad (3 + i) 0))]) hx hb dX9_takeIn_57 hl (k := 1) rfl (nI_1 _) (by decide) rfl (fun ls hl => ?_)
        refine lv_goto (tgt := 10) hx hb dX9_takeIn_60 (by decide) ?_
        refine W.widen (k := 2 + 12 * (o + 1)) (n := 61 + 42 * (o + 1)) (by omega) (by omega) ?_
        exact ih (o + 1) (by omega) h_3 (va_up fg o ro) (upd fm o (nI 0)) (fun q hq hn => by rw [eh_3, fh_up_ne _ _ hn]; exact hx3 q hq hn) g_3_3 g_3_4 f_3 (fun k hk => pRo_kp k4 rfl (pp13 k hk)) (lt_s (fun k hk => by rw [show upd fm o (nI 0) k = fm k by simp [upd, Nat.ne_of_lt hk]]; exact pp2 k hk) (by show upd fm o (nI 0) o = if _ then _ else _; rw [if_neg e1]; simp [upd, nI_0])) (fun k hk h6 => by rw [show upd fm o (nI 0) k = fm k by simp [upd, show k ≠ o by omega]]; exact pp3 k (by omega) h6) H locs ls hP hS (lv_sub hl [0, 2, 3, 4] rfl)
  exact loop 60 0 (by omega) u (fun _ => none) fm0 hx0 t10 t20 m10 (fun k hk => absurd hk (Nat.not_lt_zero k)) (fun k hk => absurd hk (Nat.not_lt_zero k)) (fun k _ h6 => m2 k h6) _ _ _ hP hS hl
