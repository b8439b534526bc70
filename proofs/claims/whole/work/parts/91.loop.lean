theorem lw_gt {L i : Nat} (hL : L ≤ 5120) (hi : i ≤ 6000) : (Int32.ofNat L - nI 10 < nI i) ↔ L < i + 10 := by
  have h1 : (Int32.ofNat L - nI 10).toInt = (L : Int) - 10 := by
    have e1 : (Int32.ofNat L).toInt = (L : Int) := nI_toInt (n := L) (by omega)
    have e2 : (nI 10).toInt = (10 : Int) := nI_toInt (n := 10) (by decide)
    rw [Int32.toInt_sub, e1, e2]
    unfold Int.bmod
    dsimp only
    split <;> omega
  rw [Int32.lt_iff_toInt_lt, h1, nI_toInt (by omega)]
  omega
set_option maxRecDepth 100000 in
set_option maxHeartbeats 4000000 in
theorem lw_loop {p : Program} {l : Launch} {e : Env} {s : State} {m : MethodId} {below : List Frame} {meth : Method} {c : Code} {b L : Nat} {xs : Nat → Int32} {G : fG} {A : Nat → Prop} (hst : l.stackTraces = false) (hA : ∀ q, s.heap.size ≤ q → A q) (hx : p.tables.exec = Jvm.exec) (hb : c.code = code) (hml : c.maxLocals = 8) (hown : s.vm.findClass "ObjectMergeLaw" = some m.cls) (ht : ∀ w ∈ wB, w.before #[Value.ref b] s = true) (hE : fh_Env G A s s.heap) (hXs : va_X b L xs s s.heap) (hbl : b < s.heap.size) (hbA : ¬ A b) (hL : L ≤ 5120) {xa ma oa : Nat} {bb : Nat → Nat} (hr : meth.sig.returnType = ret) (hlocks : meth.locks = false) (hAA : ∀ q, A q → s.heap.size ≤ q) : ∀ (n t : Nat), L ≤ 10 * (t + n) → 10 * t ≤ L → ∀ (h : FH) (H : Heap) (locs : List Loc) (ls : Array Slot), LawSt (100 * t) A h xa ma oa bb → fh_P G vwCl h H → va_S A s.heap H locs → lv_has ls 8 [(4, .int (nI (10 * t))), (3, .ref oa), (2, .ref ma), (1, .ref xa), (0, .ref b)] → W p l e room_1 s m #[Value.ref b] below meth c H locs (40 + 940 * t) (38200 + 3900 * t) (lw_Z below #[Value.ref b] s) (F0 m 23 ls []) := by
  have ex : ∀ (t : Nat), L < 10 * t + 10 → 10 * t ≤ L → ∀ (h : FH) (H : Heap) (locs : List Loc) (ls : Array Slot), LawSt (100 * t) A h xa ma oa bb → fh_P G vwCl h H → va_S A s.heap H locs → lv_has ls 8 [(4, .int (nI (10 * t))), (3, .ref oa), (2, .ref ma), (1, .ref xa), (0, .ref b)] → W p l e room_1 s m #[Value.ref b] below meth c H locs (40 + 940 * t) (38200 + 3900 * t) (lw_Z below #[Value.ref b] s) (F0 m 23 ls []) := by
    intro t h1 h2 h H locs ls hs hP hS hl
    refine lv_iload hx hb dL_law_23 (lv_at hl 0 rfl) ?_
    refine lv_aload_n hx hb dL_law_25 rfl (lv_at hl 4 rfl) ?_
    refine va_slen hx hb hXs hbl hbA hS dL_law_26 ?_
    refine lv_bipush (v := (nI 10)) hx hb dL_law_27 (by decide) ?_
    refine lv_isub hx hb dL_law_29 ?_
    refine lv_icmp_gt (tgt := 1557) hx hb dL_law_30 (by decide) (fun _ => ?_) (fun c9 => absurd ((lw_gt hL (by omega)).mpr h1) c9)
    refine lv_iconst (v := (nI 1)) hx hb dL_law_1557 (by decide) ?_
    refine W.widen (k := 601024) (n := 7293034) (by omega) (by omega) ?_
    refine va_forget (fun q hq => hAA _ (hS.2.2 q hq)) ?_
    exact lw_ret hx hb hr hlocks dL_law_1558
  intro n
  induction n with
  | zero => exact fun t h1 h2 => ex t (by omega) h2
  | succ n ih =>
    intro t h1 h2 h H locs ls hs hP hS hl
    by_cases hge : L < 10 * t + 10
    · exact ex t hge h2 h H locs ls hs hP hS hl
    have tail : ∀ (u : FH) (H : Heap) (locs : List Loc) (ls : Array Slot), LawSt (100 * t + 100) A u xa ma oa bb → fh_P G vwCl u H → va_S A s.heap H locs → lv_has ls 8 [(4, .int (nI (10 * t))), (3, .ref oa), (2, .ref ma), (1, .ref xa), (0, .ref b)] → W p l e room_1 s m #[Value.ref b] below meth c H locs (40 + 940 * t + 940) (38200 + 3900 * t + 3900) (lw_Z below #[Value.ref b] s) (F0 m 1551 ls []) := by
      intro u H locs ls hs hP hS hl
      rw [show 100 * t + 100 = 100 * (t + 1) by omega] at hs
      refine lv_iinc (v := nI (10 * (t + 1))) (lv' := [(4, .int (nI (10 * (t + 1)))), (3, .ref oa), (2, .ref ma), (1, .ref xa), (0, .ref b)]) hx hb dL_law_1551 hl (k := 0) rfl (by show nI (10 * t) + nI 10 = _; rw [nI_add]; exact congrArg nI (by omega)) (by decide) rfl (fun ls hl => ?_)
      refine lv_goto (tgt := 23) hx hb dL_law_1554 (by decide) ?_
      refine W.widen (k := 40 + 940 * (t + 1)) (n := 38200 + 3900 * (t + 1)) (by omega) (by omega) ?_
      exact ih (t + 1) (by omega) (by omega) u H locs ls hs hP hS (lv_sub hl [0, 1, 2, 3, 4] rfl)
    refine lv_iload hx hb dL_law_23 (lv_at hl 0 rfl) ?_
    refine lv_aload_n hx hb dL_law_25 rfl (lv_at hl 4 rfl) ?_
    refine va_slen hx hb hXs hbl hbA hS dL_law_26 ?_
    refine lv_bipush (v := (nI 10)) hx hb dL_law_27 (by decide) ?_
    refine lv_isub hx hb dL_law_29 ?_
    refine lv_icmp_gt (tgt := 1557) hx hb dL_law_30 (by decide) (fun c9 => absurd c9 (fun q => hge ((lw_gt hL (by omega)).mp q))) (fun _ => ?_)
    refine lv_aload_n hx hb dL_law_33 rfl (lv_at hl 4 rfl) ?_
    refine lv_iload hx hb dL_law_34 (lv_at hl 0 rfl) ?_
    refine lw_sld (k := 10 * t) hx hb hXs hbl hbA hS (by omega) hL dL_law_36 ?_
    refine lv_bipush (v := (nI 31)) hx hb dL_law_37 (by decide) ?_
    refine lv_iand hx hb dL_law_39 ?_
    refine lv_topi (fun x8 ex8 => ?_)
    have hcase : (x8.toInt < 0 ∨ 17 < x8.toInt) ∨ x8.toInt = 0 ∨ x8.toInt = 1 ∨ x8.toInt = 2 ∨ x8.toInt = 3 ∨ x8.toInt = 4 ∨ x8.toInt = 5 ∨ x8.toInt = 6 ∨ x8.toInt = 7 ∨ x8.toInt = 8 ∨ x8.toInt = 9 ∨ x8.toInt = 10 ∨ x8.toInt = 11 ∨ x8.toInt = 12 ∨ x8.toInt = 13 ∨ x8.toInt = 14 ∨ x8.toInt = 15 ∨ x8.toInt = 16 ∨ x8.toInt = 17 := by omega
    rcases hcase with z | z | z | z | z | z | z | z | z | z | z | z | z | z | z | z | z | z | z
    · refine lv_tableOut (tgt := 1551) hx hb dL_law_40 z (by decide) ?_
      refine W.widen (k := 40 + 940 * t + 940) (n := 38200 + 3900 * t + 3900) (by omega) (by omega) ?_
      exact tail h H locs ls (hs.mono (by omega)) hP hS hl
    · refine lv_tableIn (off := 88) (tgt := 128) hx hb dL_law_40 (by omega) (by omega) (by rw [z]; rfl) (by decide) ?_
      exact lc_object hst hA hx hb hml hown ht hE hXs hbl hbA hL (10 * t) (by omega) (by omega) (by omega) (by omega) hs hP hS hl tail
    · refine lv_tableIn (off := 144) (tgt := 184) hx hb dL_law_40 (by omega) (by omega) (by rw [z]; rfl) (by decide) ?_
      exact lc_session hst hA hx hb hml hown ht hE hXs hbl hbA hL (10 * t) (by omega) (by omega) (by omega) (by omega) hs hP hS hl tail
    · refine lv_tableIn (off := 157) (tgt := 197) hx hb dL_law_40 (by omega) (by omega) (by rw [z]; rfl) (by decide) ?_
      exact lc_set hst hA hx hb hml hown ht hE hXs hbl hbA hL (10 * t) (by omega) (by omega) (by omega) (by omega) hs hP hS hl tail
    · refine lv_tableIn (off := 288) (tgt := 328) hx hb dL_law_40 (by omega) (by omega) (by rw [z]; rfl) (by decide) ?_
      exact lc_drop hst hA hx hb hml hown ht hE hXs hbl hbA hL (10 * t) (by omega) (by omega) (by omega) (by omega) hs hP hS hl tail
    · refine lv_tableIn (off := 363) (tgt := 403) hx hb dL_law_40 (by omega) (by omega) (by rw [z]; rfl) (by decide) ?_
      exact lc_make hst hA hx hb hml hown ht hE hXs hbl hbA hL (10 * t) (by omega) (by omega) (by omega) (by omega) hs hP hS hl tail
    · refine lv_tableIn (off := 431) (tgt := 471) hx hb dL_law_40 (by omega) (by omega) (by rw [z]; rfl) (by decide) ?_
      exact lc_join hst hA hx hb hml hown ht hE hXs hbl hbA hL (10 * t) (by omega) (by omega) (by omega) (by omega) hs hP hS hl tail
    · refine lv_tableIn (off := 487) (tgt := 527) hx hb dL_law_40 (by omega) (by omega) (by rw [z]; rfl) (by decide) ?_
      exact lc_conflict hst hA hx hb hml hown ht hE hXs hbl hbA hL (10 * t) (by omega) (by omega) (by omega) (by omega) hs hP hS hl tail
    · refine lv_tableIn (off := 555) (tgt := 595) hx hb dL_law_40 (by omega) (by omega) (by rw [z]; rfl) (by decide) ?_
      exact lc_settle hst hA hx hb hml hown ht hE hXs hbl hbA hL (10 * t) (by omega) (by omega) (by omega) (by omega) hs hP hS hl tail
    · refine lv_tableIn (off := 630) (tgt := 670) hx hb dL_law_40 (by omega) (by omega) (by rw [z]; rfl) (by decide) ?_
      exact lc_at hst hA hx hb hml hown ht hE hXs hbl hbA hL (10 * t) (by omega) (by omega) (by omega) (by omega) hs hP hS hl tail
    · refine lv_tableIn (off := 697) (tgt := 737) hx hb dL_law_40 (by omega) (by omega) (by rw [z]; rfl) (by decide) ?_
      exact lc_lock hst hA hx hb hml hown ht hE hXs hbl hbA hL (10 * t) (by omega) (by omega) (by omega) (by omega) hs hP hS hl tail
    · refine lv_tableIn (off := 944) (tgt := 984) hx hb dL_law_40 (by omega) (by omega) (by rw [z]; rfl) (by decide) ?_
      exact lc_apart hst hA hx hb hml hown ht hE hXs hbl hbA hL (10 * t) (by omega) (by omega) (by omega) (by omega) hs hP hS hl tail
    · refine lv_tableIn (off := 1063) (tgt := 1103) hx hb dL_law_40 (by omega) (by omega) (by rw [z]; rfl) (by decide) ?_
      exact lc_violation hst hA hx hb hml hown ht hE hXs hbl hbA hL (10 * t) (by omega) (by omega) (by omega) (by omega) hs hP hS hl tail
    · refine lv_tableIn (off := 1131) (tgt := 1171) hx hb dL_law_40 (by omega) (by omega) (by rw [z]; rfl) (by decide) ?_
      exact lc_version hst hA hx hb hml hown ht hE hXs hbl hbA hL (10 * t) (by omega) (by omega) (by omega) (by omega) hs hP hS hl tail
    · refine lv_tableIn (off := 1144) (tgt := 1184) hx hb dL_law_40 (by omega) (by omega) (by rw [z]; rfl) (by decide) ?_
      exact lc_difference hst hA hx hb hml hown ht hE hXs hbl hbA hL (10 * t) (by omega) (by omega) (by omega) (by omega) hs hP hS hl tail
    · refine lv_tableIn (off := 1224) (tgt := 1264) hx hb dL_law_40 (by omega) (by omega) (by rw [z]; rfl) (by decide) ?_
      exact lc_undo hst hA hx hb hml hown ht hE hXs hbl hbA hL (10 * t) (by omega) (by omega) (by omega) (by omega) hs hP hS hl tail
    · refine lv_tableIn (off := 1287) (tgt := 1327) hx hb dL_law_40 (by omega) (by omega) (by rw [z]; rfl) (by decide) ?_
      exact lc_branch hst hA hx hb hml hown ht hE hXs hbl hbA hL (10 * t) (by omega) (by omega) (by omega) (by omega) hs hP hS hl tail
    · refine lv_tableIn (off := 1343) (tgt := 1383) hx hb dL_law_40 (by omega) (by omega) (by rw [z]; rfl) (by decide) ?_
      exact lc_play hst hA hx hb hml hown ht hE hXs hbl hbA hL (10 * t) (by omega) (by omega) (by omega) (by omega) hs hP hS hl tail
    · refine lv_tableIn (off := 1443) (tgt := 1483) hx hb dL_law_40 (by omega) (by omega) (by rw [z]; rfl) (by decide) ?_
      exact lc_mark hst hA hx hb hml hown ht hE hXs hbl hbA hL (10 * t) (by omega) (by omega) (by omega) (by omega) hs hP hS hl tail
