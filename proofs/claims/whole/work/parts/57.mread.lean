theorem bzn {f : Nat → Int32} (h : bz f) (x : Nat) : narrow .boolean (.int (f x)) = .int (f x) := by
  have h1 := h x
  unfold vp_nar narrow at h1
  unfold narrow
  simpa using h1
set_option maxRecDepth 100000 in
set_option maxHeartbeats 4000000 in
theorem m_thrown (l : Launch) (G : fG) (A : Nat → Prop) (h : FH) (sz : Nat) {ma : Nat} {b : Nat → Nat} {th : Int32} {no nv ns J nc nl nr : Nat} {fK : Nat → Int32} {fH : Nat → Int32} {fF : Nat → Int64} {fB : Nat → Int32} {fO : Nat → Int32} {fW : Nat → Int32} {fV : Nat → Int64} {fN : Nat → Int32} {cO : Nat → Int32} {cF : Nat → Int32} {cH : Nat → Int32} {cV : Nat → Int64} {fS : Nat → Int32} {fC : Nat → Int32} {lO : Nat → Int32} {lA : Nat → Int64} {rA : Nat → Int32} {rB : Nat → Int32} {rD : Nat → Int64} {fM : Nat → Int32} (hM : MG A h h ma b th no nv ns J nc nl nr fK fH fF fB fO fW fV fN cO cF cH cV fS fC lO lA rA rB rD fM)  : Met l yX10_thrown wsX10_thrown { frames := 0, cells := 0, slots := 0, locals := 0 } (va_Pc [.ref ma] (fh_Pre G A h sz)) (fh_Q G (fun v u => v = some (.int th) ∧ u = h) A) 0 0 A := by
  refine fh_Met [.ref ma] (by decide) rfl (Nat.le_of_ble_eq_true rfl) ?_
  intro p e s m below meth c hx hb hr hlocks hml hown hnm hts hsz hP hE hS ls hl
  have ht : ∀ w ∈ wB, w.before _ s = true := fun w h9 => hts w (List.mem_cons_of_mem _ h9)
  have hl : lv_has ls 1 [(0, .ref ma)] := hl
  refine lv_aload_n hx hb dX10_thrown_0 rfl (lv_at hl 0 rfl) ?_
  refine fh_get (C := RX10) (T := TX10) (N := 28) hx hb ht inX10 hown hE.1 hP hM.m rfl 0 (by decide) (ht _ kw_690) (fun _ h9 => h9) (v := .int th) rfl dX10_thrown_1 ?_
  exact fh_iret hx hb hr hlocks (⟨rfl, rfl⟩) hP hS (Nat.le_of_ble_eq_true rfl) (Nat.le_of_ble_eq_true rfl) dX10_thrown_4

set_option maxRecDepth 100000 in
set_option maxHeartbeats 4000000 in
theorem m_head (l : Launch) (G : fG) (A : Nat → Prop) (h : FH) (sz : Nat) {ma : Nat} {b : Nat → Nat} {th : Int32} {no nv ns J nc nl nr : Nat} {fK : Nat → Int32} {fH : Nat → Int32} {fF : Nat → Int64} {fB : Nat → Int32} {fO : Nat → Int32} {fW : Nat → Int32} {fV : Nat → Int64} {fN : Nat → Int32} {cO : Nat → Int32} {cF : Nat → Int32} {cH : Nat → Int32} {cV : Nat → Int64} {fS : Nat → Int32} {fC : Nat → Int32} {lO : Nat → Int32} {lA : Nat → Int64} {rA : Nat → Int32} {rB : Nat → Int32} {rD : Nat → Int64} {fM : Nat → Int32} (hM : MG A h h ma b th no nv ns J nc nl nr fK fH fF fB fO fW fV fN cO cF cH cV fS fC lO lA rA rB rD fM) (hnv : 0 < nv) : Met l yX10_head wsX10_head { frames := 0, cells := 0, slots := 0, locals := 0 } (va_Pc [.ref ma] (fh_Pre G A h sz)) (fh_Q G (fun v u => v = some (.int (nI (nv - 1))) ∧ u = h) A) 0 0 A := by
  refine fh_Met [.ref ma] (by decide) rfl (Nat.le_of_ble_eq_true rfl) ?_
  intro p e s m below meth c hx hb hr hlocks hml hown hnm hts hsz hP hE hS ls hl
  have ht : ∀ w ∈ wB, w.before _ s = true := fun w h9 => hts w (List.mem_cons_of_mem _ h9)
  have hl : lv_has ls 1 [(0, .ref ma)] := hl
  refine lv_aload_n hx hb dX10_head_0 rfl (lv_at hl 0 rfl) ?_
  refine fh_get (C := RX10) (T := TX10) (N := 28) hx hb ht inX10 hown hE.1 hP hM.m rfl 3 (by decide) (ht _ kw_693) (fun _ h9 => h9) (v := .int (nI nv)) rfl dX10_head_1 ?_
  refine lv_iconst (v := (nI 1)) hx hb dX10_head_4 (by decide) ?_
  refine lv_isub hx hb dX10_head_5 ?_
  refine lv_topi (fun z9 ez9 => ?_)
  rw [show z9 = nI (nv - 1) from ez9.trans (pk_sub hnv)]
  exact fh_iret hx hb hr hlocks (⟨rfl, rfl⟩) hP hS (Nat.le_of_ble_eq_true rfl) (Nat.le_of_ble_eq_true rfl) dX10_head_6

set_option maxRecDepth 100000 in
set_option maxHeartbeats 4000000 in
theorem m_isKind (l : Launch) (G : fG) (A : Nat → Prop) (h : FH) (sz : Nat)  (x : Int32) : Met l yX10_isKind wsX10_isKind { frames := 0, cells := 0, slots := 0, locals := 0 } (va_Pc [.int x] (fh_Pre G A h sz)) (fh_Q G (fun v u => v = some (.int (bI (ix x 10).isSome)) ∧ u = h) A) 0 0 A := by
  refine fh_Met [.int x] (by decide) rfl (Nat.le_of_ble_eq_true rfl) ?_
  intro p e s m below meth c hx hb hr hlocks hml hown hnm hts hsz hP hE hS ls hl
  have ht : ∀ w ∈ wB, w.before _ s = true := fun w h9 => hts w (List.mem_cons_of_mem _ h9)
  have hl : lv_has ls 1 [(0, .int x)] := hl
  refine lv_iload_n hx hb dX10_isKind_0 rfl (lv_at hl 0 rfl) ?_
  refine lv_if_lt (tgt := 14) hx hb dX10_isKind_1 (by decide) (fun c1 => ?_) (fun c1 => ?_)
  · refine lv_iconst (v := (nI 0)) hx hb dX10_isKind_14 (by decide) ?_
    exact fh_zret hx hb hr hlocks rfl (⟨congrArg (fun z => some (Value.int z)) (bI_0 (by rw [ix_none (Or.inl c1)]; decide)), rfl⟩) hP hS (Nat.le_of_ble_eq_true rfl) (Nat.le_of_ble_eq_true rfl) dX10_isKind_15
  · refine lv_iload_n hx hb dX10_isKind_4 rfl (lv_at hl 0 rfl) ?_
    refine lv_bipush (v := (nI 10)) hx hb dX10_isKind_5 (by decide) ?_
    refine lv_icmp_ge (tgt := 14) hx hb dX10_isKind_7 (by decide) (fun c2 => ?_) (fun c2 => ?_)
    · refine lv_iconst (v := (nI 0)) hx hb dX10_isKind_14 (by decide) ?_
      exact fh_zret hx hb hr hlocks rfl (⟨congrArg (fun z => some (Value.int z)) (bI_0 (by rw [ix_none (Or.inr c2)]; decide)), rfl⟩) hP hS (Nat.le_of_ble_eq_true rfl) (Nat.le_of_ble_eq_true rfl) dX10_isKind_15
    · obtain ⟨j9, hj9, ej9⟩ : ∃ j9, j9 < 10 ∧ x = nI j9 := by
        rcases pk_ix x (n := 10) (by decide) with q | q | q
        · exact absurd q c1
        · exact absurd q c2
        · exact q
      refine lv_iconst (v := (nI 1)) hx hb dX10_isKind_10 (by decide) ?_
      refine lv_goto (tgt := 15) hx hb dX10_isKind_11 (by decide) ?_
      exact fh_zret hx hb hr hlocks rfl (⟨congrArg (fun z => some (Value.int z)) (bI_1 (by rw [ej9, ix_some hj9 (by decide)]; rfl)), rfl⟩) hP hS (Nat.le_of_ble_eq_true rfl) (Nat.le_of_ble_eq_true rfl) dX10_isKind_15

set_option maxRecDepth 100000 in
set_option maxHeartbeats 4000000 in
theorem m_isField (l : Launch) (G : fG) (A : Nat → Prop) (h : FH) (sz : Nat)  (x : Int32) : Met l yX10_isField wsX10_isField { frames := 0, cells := 0, slots := 0, locals := 0 } (va_Pc [.int x] (fh_Pre G A h sz)) (fh_Q G (fun v u => v = some (.int (bI (ix x 6).isSome)) ∧ u = h) A) 0 0 A := by
  refine fh_Met [.int x] (by decide) rfl (Nat.le_of_ble_eq_true rfl) ?_
  intro p e s m below meth c hx hb hr hlocks hml hown hnm hts hsz hP hE hS ls hl
  have ht : ∀ w ∈ wB, w.before _ s = true := fun w h9 => hts w (List.mem_cons_of_mem _ h9)
  have hl : lv_has ls 1 [(0, .int x)] := hl
  refine lv_iload_n hx hb dX10_isField_0 rfl (lv_at hl 0 rfl) ?_
  refine lv_if_lt (tgt := 14) hx hb dX10_isField_1 (by decide) (fun c1 => ?_) (fun c1 => ?_)
  · refine lv_iconst (v := (nI 0)) hx hb dX10_isField_14 (by decide) ?_
    exact fh_zret hx hb hr hlocks rfl (⟨congrArg (fun z => some (Value.int z)) (bI_0 (by rw [ix_none (Or.inl c1)]; decide)), rfl⟩) hP hS (Nat.le_of_ble_eq_true rfl) (Nat.le_of_ble_eq_true rfl) dX10_isField_15
  · refine lv_iload_n hx hb dX10_isField_4 rfl (lv_at hl 0 rfl) ?_
    refine lv_bipush (v := (nI 6)) hx hb dX10_isField_5 (by decide) ?_
    refine lv_icmp_ge (tgt := 14) hx hb dX10_isField_7 (by decide) (fun c2 => ?_) (fun c2 => ?_)
    · refine lv_iconst (v := (nI 0)) hx hb dX10_isField_14 (by decide) ?_
      exact fh_zret hx hb hr hlocks rfl (⟨congrArg (fun z => some (Value.int z)) (bI_0 (by rw [ix_none (Or.inr c2)]; decide)), rfl⟩) hP hS (Nat.le_of_ble_eq_true rfl) (Nat.le_of_ble_eq_true rfl) dX10_isField_15
    · obtain ⟨j9, hj9, ej9⟩ : ∃ j9, j9 < 6 ∧ x = nI j9 := by
        rcases pk_ix x (n := 6) (by decide) with q | q | q
        · exact absurd q c1
        · exact absurd q c2
        · exact q
      refine lv_iconst (v := (nI 1)) hx hb dX10_isField_10 (by decide) ?_
      refine lv_goto (tgt := 15) hx hb dX10_isField_11 (by decide) ?_
      exact fh_zret hx hb hr hlocks rfl (⟨congrArg (fun z => some (Value.int z)) (bI_1 (by rw [ej9, ix_some hj9 (by decide)]; rfl)), rfl⟩) hP hS (Nat.le_of_ble_eq_true rfl) (Nat.le_of_ble_eq_true rfl) dX10_isField_15

set_option maxRecDepth 100000 in
set_option maxHeartbeats 4000000 in
theorem m_isObj (l : Launch) (G : fG) (A : Nat → Prop) (h : FH) (sz : Nat) {ma : Nat} {b : Nat → Nat} {th : Int32} {no nv ns J nc nl nr : Nat} {fK : Nat → Int32} {fH : Nat → Int32} {fF : Nat → Int64} {fB : Nat → Int32} {fO : Nat → Int32} {fW : Nat → Int32} {fV : Nat → Int64} {fN : Nat → Int32} {cO : Nat → Int32} {cF : Nat → Int32} {cH : Nat → Int32} {cV : Nat → Int64} {fS : Nat → Int32} {fC : Nat → Int32} {lO : Nat → Int32} {lA : Nat → Int64} {rA : Nat → Int32} {rB : Nat → Int32} {rD : Nat → Int64} {fM : Nat → Int32} (hM : MG A h h ma b th no nv ns J nc nl nr fK fH fF fB fO fW fV fN cO cF cH cV fS fC lO lA rA rB rD fM) (hno : no ≤ 60) (x : Int32) : Met l yX10_isObject wsX10_isObject { frames := 0, cells := 0, slots := 0, locals := 0 } (va_Pc [.ref ma, .int x] (fh_Pre G A h sz)) (fh_Q G (fun v u => v = some (.int (bI (ix x no).isSome)) ∧ u = h) A) 0 0 A := by
  refine fh_Met [.ref ma, .int x] (by decide) rfl (Nat.le_of_ble_eq_true rfl) ?_
  intro p e s m below meth c hx hb hr hlocks hml hown hnm hts hsz hP hE hS ls hl
  have ht : ∀ w ∈ wB, w.before _ s = true := fun w h9 => hts w (List.mem_cons_of_mem _ h9)
  have hl : lv_has ls 2 [(0, .ref ma), (1, .int x)] := hl
  refine lv_iload_n hx hb dX10_isObject_0 rfl (lv_at hl 1 rfl) ?_
  refine lv_if_lt (tgt := 16) hx hb dX10_isObject_1 (by decide) (fun c1 => ?_) (fun c1 => ?_)
  · refine lv_iconst (v := (nI 0)) hx hb dX10_isObject_16 (by decide) ?_
    exact fh_zret hx hb hr hlocks rfl (⟨congrArg (fun z => some (Value.int z)) (bI_0 (by rw [ix_none (Or.inl c1)]; decide)), rfl⟩) hP hS (Nat.le_of_ble_eq_true rfl) (Nat.le_of_ble_eq_true rfl) dX10_isObject_17
  · refine lv_iload_n hx hb dX10_isObject_4 rfl (lv_at hl 1 rfl) ?_
    refine lv_aload_n hx hb dX10_isObject_5 rfl (lv_at hl 0 rfl) ?_
    refine fh_get (C := RX10) (T := TX10) (N := 28) hx hb ht inX10 hown hE.1 hP hM.m rfl 1 (by decide) (ht _ kw_691) (fun _ h9 => h9) (v := .int (nI no)) rfl dX10_isObject_6 ?_
    refine lv_icmp_ge (tgt := 16) hx hb dX10_isObject_9 (by decide) (fun c2 => ?_) (fun c2 => ?_)
    · refine lv_iconst (v := (nI 0)) hx hb dX10_isObject_16 (by decide) ?_
      exact fh_zret hx hb hr hlocks rfl (⟨congrArg (fun z => some (Value.int z)) (bI_0 (by rw [ix_none (Or.inr c2)]; decide)), rfl⟩) hP hS (Nat.le_of_ble_eq_true rfl) (Nat.le_of_ble_eq_true rfl) dX10_isObject_17
    · obtain ⟨j9, hj9, ej9⟩ : ∃ j9, j9 < no ∧ x = nI j9 := by
        rcases pk_ix x (n := no) (by omega) with q | q | q
        · exact absurd q c1
        · exact absurd q c2
        · exact q
      refine lv_iconst (v := (nI 1)) hx hb dX10_isObject_12 (by decide) ?_
      refine lv_goto (tgt := 17) hx hb dX10_isObject_13 (by decide) ?_
      exact fh_zret hx hb hr hlocks rfl (⟨congrArg (fun z => some (Value.int z)) (bI_1 (by rw [ej9, ix_some hj9 (by omega)]; rfl)), rfl⟩) hP hS (Nat.le_of_ble_eq_true rfl) (Nat.le_of_ble_eq_true rfl) dX10_isObject_17

set_option maxRecDepth 100000 in
set_option maxHeartbeats 4000000 in
theorem m_isSes (l : Launch) (G : fG) (A : Nat → Prop) (h : FH) (sz : Nat) {ma : Nat} {b : Nat → Nat} {th : Int32} {no nv ns J nc nl nr : Nat} {fK : Nat → Int32} {fH : Nat → Int32} {fF : Nat → Int64} {fB : Nat → Int32} {fO : Nat → Int32} {fW : Nat → Int32} {fV : Nat → Int64} {fN : Nat → Int32} {cO : Nat → Int32} {cF : Nat → Int32} {cH : Nat → Int32} {cV : Nat → Int64} {fS : Nat → Int32} {fC : Nat → Int32} {lO : Nat → Int32} {lA : Nat → Int64} {rA : Nat → Int32} {rB : Nat → Int32} {rD : Nat → Int64} {fM : Nat → Int32} (hM : MG A h h ma b th no nv ns J nc nl nr fK fH fF fB fO fW fV fN cO cF cH cV fS fC lO lA rA rB rD fM) (hns : ns ≤ 20) (x : Int32) : Met l yX10_isSession wsX10_isSession { frames := 0, cells := 0, slots := 0, locals := 0 } (va_Pc [.ref ma, .int x] (fh_Pre G A h sz)) (fh_Q G (fun v u => v = some (.int (bI (ix x ns).isSome)) ∧ u = h) A) 0 0 A := by
  refine fh_Met [.ref ma, .int x] (by decide) rfl (Nat.le_of_ble_eq_true rfl) ?_
  intro p e s m below meth c hx hb hr hlocks hml hown hnm hts hsz hP hE hS ls hl
  have ht : ∀ w ∈ wB, w.before _ s = true := fun w h9 => hts w (List.mem_cons_of_mem _ h9)
  have hl : lv_has ls 2 [(0, .ref ma), (1, .int x)] := hl
  refine lv_iload_n hx hb dX10_isSession_0 rfl (lv_at hl 1 rfl) ?_
  refine lv_if_lt (tgt := 16) hx hb dX10_isSession_1 (by decide) (fun c1 => ?_) (fun c1 => ?_)
  · refine lv_iconst (v := (nI 0)) hx hb dX10_isSession_16 (by decide) ?_
    exact fh_zret hx hb hr hlocks rfl (⟨congrArg (fun z => some (Value.int z)) (bI_0 (by rw [ix_none (Or.inl c1)]; decide)), rfl⟩) hP hS (Nat.le_of_ble_eq_true rfl) (Nat.le_of_ble_eq_true rfl) dX10_isSession_17
  · refine lv_iload_n hx hb dX10_isSession_4 rfl (lv_at hl 1 rfl) ?_
    refine lv_aload_n hx hb dX10_isSession_5 rfl (lv_at hl 0 rfl) ?_
    refine fh_get (C := RX10) (T := TX10) (N := 28) hx hb ht inX10 hown hE.1 hP hM.m rfl 6 (by decide) (ht _ kw_696) (fun _ h9 => h9) (v := .int (nI ns)) rfl dX10_isSession_6 ?_
    refine lv_icmp_ge (tgt := 16) hx hb dX10_isSession_9 (by decide) (fun c2 => ?_) (fun c2 => ?_)
    · refine lv_iconst (v := (nI 0)) hx hb dX10_isSession_16 (by decide) ?_
      exact fh_zret hx hb hr hlocks rfl (⟨congrArg (fun z => some (Value.int z)) (bI_0 (by rw [ix_none (Or.inr c2)]; decide)), rfl⟩) hP hS (Nat.le_of_ble_eq_true rfl) (Nat.le_of_ble_eq_true rfl) dX10_isSession_17
    · obtain ⟨j9, hj9, ej9⟩ : ∃ j9, j9 < ns ∧ x = nI j9 := by
        rcases pk_ix x (n := ns) (by omega) with q | q | q
        · exact absurd q c1
        · exact absurd q c2
        · exact q
      refine lv_iconst (v := (nI 1)) hx hb dX10_isSession_12 (by decide) ?_
      refine lv_goto (tgt := 17) hx hb dX10_isSession_13 (by decide) ?_
      exact fh_zret hx hb hr hlocks rfl (⟨congrArg (fun z => some (Value.int z)) (bI_1 (by rw [ej9, ix_some hj9 (by omega)]; rfl)), rfl⟩) hP hS (Nat.le_of_ble_eq_true rfl) (Nat.le_of_ble_eq_true rfl) dX10_isSession_17

set_option maxRecDepth 100000 in
set_option maxHeartbeats 4000000 in
theorem m_headHas (l : Launch) (G : fG) (A : Nat → Prop) (h : FH) (sz : Nat) {ma : Nat} {b : Nat → Nat} {th : Int32} {no nv ns J nc nl nr : Nat} {fK : Nat → Int32} {fH : Nat → Int32} {fF : Nat → Int64} {fB : Nat → Int32} {fO : Nat → Int32} {fW : Nat → Int32} {fV : Nat → Int64} {fN : Nat → Int32} {cO : Nat → Int32} {cF : Nat → Int32} {cH : Nat → Int32} {cV : Nat → Int64} {fS : Nat → Int32} {fC : Nat → Int32} {lO : Nat → Int32} {lA : Nat → Int64} {rA : Nat → Int32} {rB : Nat → Int32} {rD : Nat → Int64} {fM : Nat → Int32} (hM : MG A h h ma b th no nv ns J nc nl nr fK fH fF fB fO fW fV fN cO cF cH cV fS fC lO lA rA rB rD fM) (hnv : 0 < nv) (hnv2 : nv ≤ 40) (o : Nat) (ho : o < 60) (hbz : bz fH) : Met l yX10_headHas wsX10_headHas { frames := 1, cells := 0, slots := 0, locals := 25 } (va_Pc [.ref ma, .int (nI o)] (fh_Pre G A h sz)) (fh_Q G (fun v u => v = some (.int (fH (60 * (nv - 1) + o))) ∧ u = h) A) 0 0 A := by
  refine fh_Met [.ref ma, .int (nI o)] (by decide) rfl (Nat.le_of_ble_eq_true rfl) ?_
  intro p e s m below meth c hx hb hr hlocks hml hown hnm hts hsz hP hE hS ls hl
  have ht : ∀ w ∈ wB, w.before _ s = true := fun w h9 => hts w (List.mem_cons_of_mem _ h9)
  have hl : lv_has ls 2 [(0, .ref ma), (1, .int (nI o))] := hl
  refine lv_aload_n hx hb dX10_headHas_0 rfl (lv_at hl 0 rfl) ?_
  refine fh_get (C := RX10) (T := TX10) (N := 28) hx hb ht inX10 hown hE.1 hP hM.m rfl 4 (by decide) (ht _ kw_694) (fun _ h9 => h9) (v := .ref (b 13)) rfl dX10_headHas_1 ?_
  refine lv_bipush (v := (nI 60)) hx hb dX10_headHas_4 (by decide) ?_
  refine lv_aload_n hx hb dX10_headHas_6 rfl (lv_at hl 0 rfl) ?_
  refine fh_cV (q := (RX10, TX10, 28)) (As := []) (rest := [.int (nI 60), .ref (b 13)]) (b := ma) ⟨hx, hb, hml, hown, ht⟩ (m_head l G A h _ hM hnv) (cwV 0 ht (gV kw_791 kw_793 kp_16 kw_5 kw_794) rfl rfl rfl yd_X10_head ⟨(Nat.le_of_ble_eq_true rfl), (Nat.le_of_ble_eq_true rfl)⟩) hP hE hS hM.m rfl rfl hl.1 rfl (Nat.le_of_ble_eq_true rfl) dX10_headHas_7 ⟨(Nat.le_of_ble_eq_true rfl), (Nat.le_of_ble_eq_true rfl)⟩ (fun v u H locs hp hP hz hS => ?_)
  obtain ⟨rfl, eu⟩ := hp
  rw [eu] at hP
  refine W.eq (g2 := F0 m 10 ls [.int (nI (nv - 1)), .int (nI 60), .ref (b 13)]) rfl ?_
  refine lv_imul hx hb dX10_headHas_10 ?_
  refine lv_topi (fun z9 ez9 => ?_)
  rw [show z9 = nI (60 * (nv - 1)) from ez9.trans (pk_mul _ _)]
  refine lv_iload_n hx hb dX10_headHas_11 rfl (lv_at hl 1 rfl) ?_
  refine lv_iadd hx hb dX10_headHas_12 ?_
  refine lv_topi (fun z9 ez9 => ?_)
  rw [show z9 = nI ((60 * (nv - 1)) + o) from ez9.trans (nI_add _ _)]
  refine fh_zald (k := ((60 * (nv - 1)) + o)) hx hb hE.1 hP hM.a13 rfl (by omega) (by decide) dX10_headHas_13 ?_
  exact fh_zret hx hb hr hlocks (bzn hbz _) (⟨rfl, rfl⟩) hP hS (Nat.le_of_ble_eq_true rfl) (Nat.le_of_ble_eq_true rfl) dX10_headHas_14

set_option maxRecDepth 100000 in
set_option maxHeartbeats 4000000 in
theorem m_baseHas (l : Launch) (G : fG) (A : Nat → Prop) (h : FH) (sz : Nat) {ma : Nat} {b : Nat → Nat} {th : Int32} {no nv ns J nc nl nr : Nat} {fK : Nat → Int32} {fH : Nat → Int32} {fF : Nat → Int64} {fB : Nat → Int32} {fO : Nat → Int32} {fW : Nat → Int32} {fV : Nat → Int64} {fN : Nat → Int32} {cO : Nat → Int32} {cF : Nat → Int32} {cH : Nat → Int32} {cV : Nat → Int64} {fS : Nat → Int32} {fC : Nat → Int32} {lO : Nat → Int32} {lA : Nat → Int64} {rA : Nat → Int32} {rB : Nat → Int32} {rD : Nat → Int64} {fM : Nat → Int32} (hM : MG A h h ma b th no nv ns J nc nl nr fK fH fF fB fO fW fV fN cO cF cH cV fS fC lO lA rA rB rD fM) (i o vb : Nat) (hi : i < 20) (ho : o < 60) (hb9 : fB i = nI vb) (hvb : vb < 40) (hbz : bz fH) : Met l yX10_baseHas wsX10_baseHas { frames := 0, cells := 0, slots := 0, locals := 0 } (va_Pc [.ref ma, .int (nI i), .int (nI o)] (fh_Pre G A h sz)) (fh_Q G (fun v u => v = some (.int (fH (60 * vb + o))) ∧ u = h) A) 0 0 A := by
  refine fh_Met [.ref ma, .int (nI i), .int (nI o)] (by decide) rfl (Nat.le_of_ble_eq_true rfl) ?_
  intro p e s m below meth c hx hb hr hlocks hml hown hnm hts hsz hP hE hS ls hl
  have ht : ∀ w ∈ wB, w.before _ s = true := fun w h9 => hts w (List.mem_cons_of_mem _ h9)
  have hl : lv_has ls 3 [(0, .ref ma), (1, .int (nI i)), (2, .int (nI o))] := hl
  refine lv_aload_n hx hb dX10_baseHas_0 rfl (lv_at hl 0 rfl) ?_
  refine fh_get (C := RX10) (T := TX10) (N := 28) hx hb ht inX10 hown hE.1 hP hM.m rfl 4 (by decide) (ht _ kw_694) (fun _ h9 => h9) (v := .ref (b 13)) rfl dX10_baseHas_1 ?_
  refine lv_bipush (v := (nI 60)) hx hb dX10_baseHas_4 (by decide) ?_
  refine lv_aload_n hx hb dX10_baseHas_6 rfl (lv_at hl 0 rfl) ?_
  refine fh_get (C := RX10) (T := TX10) (N := 28) hx hb ht inX10 hown hE.1 hP hM.m rfl 7 (by decide) (ht _ kw_697) (fun _ h9 => h9) (v := .ref (b 15)) rfl dX10_baseHas_7 ?_
  refine lv_iload_n hx hb dX10_baseHas_10 rfl (lv_at hl 1 rfl) ?_
  refine fh_iald (k := i) hx hb hE.1 hP hM.a15 rfl (hi) (by decide) dX10_baseHas_11 ?_
  rw [hb9]
  refine lv_imul hx hb dX10_baseHas_12 ?_
  refine lv_topi (fun z9 ez9 => ?_)
  rw [show z9 = nI (60 * vb) from ez9.trans (pk_mul _ _)]
  refine lv_iload_n hx hb dX10_baseHas_13 rfl (lv_at hl 2 rfl) ?_
  refine lv_iadd hx hb dX10_baseHas_14 ?_
  refine lv_topi (fun z9 ez9 => ?_)
  rw [show z9 = nI ((60 * vb) + o) from ez9.trans (nI_add _ _)]
  refine fh_zald (k := ((60 * vb) + o)) hx hb hE.1 hP hM.a13 rfl (by omega) (by decide) dX10_baseHas_15 ?_
  exact fh_zret hx hb hr hlocks (bzn hbz _) (⟨rfl, rfl⟩) hP hS (Nat.le_of_ble_eq_true rfl) (Nat.le_of_ble_eq_true rfl) dX10_baseHas_16

set_option maxRecDepth 100000 in
set_option maxHeartbeats 4000000 in
theorem m_headVal (l : Launch) (G : fG) (A : Nat → Prop) (h : FH) (sz : Nat) {ma : Nat} {b : Nat → Nat} {th : Int32} {no nv ns J nc nl nr : Nat} {fK : Nat → Int32} {fH : Nat → Int32} {fF : Nat → Int64} {fB : Nat → Int32} {fO : Nat → Int32} {fW : Nat → Int32} {fV : Nat → Int64} {fN : Nat → Int32} {cO : Nat → Int32} {cF : Nat → Int32} {cH : Nat → Int32} {cV : Nat → Int64} {fS : Nat → Int32} {fC : Nat → Int32} {lO : Nat → Int32} {lA : Nat → Int64} {rA : Nat → Int32} {rB : Nat → Int32} {rD : Nat → Int64} {fM : Nat → Int32} (hM : MG A h h ma b th no nv ns J nc nl nr fK fH fF fB fO fW fV fN cO cF cH cV fS fC lO lA rA rB rD fM) (hnv : 0 < nv) (hnv2 : nv ≤ 40) (o k : Nat) (ho : o < 60) (hk : k < 6) : Met l yX10_headValue wsX10_headValue { frames := 1, cells := 0, slots := 0, locals := 25 } (va_Pc [.ref ma, .int (nI o), .int (nI k)] (fh_Pre G A h sz)) (fh_Q G (fun v u => v = some (.long (fF (360 * (nv - 1) + 6 * o + k))) ∧ u = h) A) 0 0 A := by
  refine fh_Met [.ref ma, .int (nI o), .int (nI k)] (by decide) rfl (Nat.le_of_ble_eq_true rfl) ?_
  intro p e s m below meth c hx hb hr hlocks hml hown hnm hts hsz hP hE hS ls hl
  have ht : ∀ w ∈ wB, w.before _ s = true := fun w h9 => hts w (List.mem_cons_of_mem _ h9)
  have hl : lv_has ls 3 [(0, .ref ma), (1, .int (nI o)), (2, .int (nI k))] := hl
  refine lv_aload_n hx hb dX10_headValue_0 rfl (lv_at hl 0 rfl) ?_
  refine fh_get (C := RX10) (T := TX10) (N := 28) hx hb ht inX10 hown hE.1 hP hM.m rfl 5 (by decide) (ht _ kw_695) (fun _ h9 => h9) (v := .ref (b 14)) rfl dX10_headValue_1 ?_
  refine lv_sipush (v := (nI 360)) hx hb dX10_headValue_4 (by decide) ?_
  refine lv_aload_n hx hb dX10_headValue_7 rfl (lv_at hl 0 rfl) ?_
  refine fh_cV (q := (RX10, TX10, 28)) (As := []) (rest := [.int (nI 360), .ref (b 14)]) (b := ma) ⟨hx, hb, hml, hown, ht⟩ (m_head l G A h _ hM hnv) (cwV 0 ht (gV kw_791 kw_793 kp_16 kw_5 kw_794) rfl rfl rfl yd_X10_head ⟨(Nat.le_of_ble_eq_true rfl), (Nat.le_of_ble_eq_true rfl)⟩) hP hE hS hM.m rfl rfl hl.1 rfl (Nat.le_of_ble_eq_true rfl) dX10_headValue_8 ⟨(Nat.le_of_ble_eq_true rfl), (Nat.le_of_ble_eq_true rfl)⟩ (fun v u H locs hp hP hz hS => ?_)
  obtain ⟨rfl, eu⟩ := hp
  rw [eu] at hP
  refine W.eq (g2 := F0 m 11 ls [.int (nI (nv - 1)), .int (nI 360), .ref (b 14)]) rfl ?_
  refine lv_imul hx hb dX10_headValue_11 ?_
  refine lv_topi (fun z9 ez9 => ?_)
  rw [show z9 = nI (360 * (nv - 1)) from ez9.trans (pk_mul _ _)]
  refine lv_bipush (v := (nI 6)) hx hb dX10_headValue_12 (by decide) ?_
  refine lv_iload_n hx hb dX10_headValue_14 rfl (lv_at hl 1 rfl) ?_
  refine lv_imul hx hb dX10_headValue_15 ?_
  refine lv_topi (fun z9 ez9 => ?_)
  rw [show z9 = nI (6 * o) from ez9.trans (pk_mul _ _)]
  refine lv_iadd hx hb dX10_headValue_16 ?_
  refine lv_topi (fun z9 ez9 => ?_)
  rw [show z9 = nI ((360 * (nv - 1)) + (6 * o)) from ez9.trans (nI_add _ _)]
  refine lv_iload_n hx hb dX10_headValue_17 rfl (lv_at hl 2 rfl) ?_
  refine lv_iadd hx hb dX10_headValue_18 ?_
  refine lv_topi (fun z9 ez9 => ?_)
  rw [show z9 = nI (((360 * (nv - 1)) + (6 * o)) + k) from ez9.trans (nI_add _ _)]
  refine fh_lald (k := (((360 * (nv - 1)) + (6 * o)) + k)) hx hb hE.1 hP hM.a14 rfl (by omega) (by decide) dX10_headValue_19 ?_
  exact fh_lret hx hb hr hlocks (⟨rfl, rfl⟩) hP hS (Nat.le_of_ble_eq_true rfl) (Nat.le_of_ble_eq_true rfl) dX10_headValue_20

set_option maxRecDepth 100000 in
set_option maxHeartbeats 4000000 in
theorem m_baseVal (l : Launch) (G : fG) (A : Nat → Prop) (h : FH) (sz : Nat) {ma : Nat} {b : Nat → Nat} {th : Int32} {no nv ns J nc nl nr : Nat} {fK : Nat → Int32} {fH : Nat → Int32} {fF : Nat → Int64} {fB : Nat → Int32} {fO : Nat → Int32} {fW : Nat → Int32} {fV : Nat → Int64} {fN : Nat → Int32} {cO : Nat → Int32} {cF : Nat → Int32} {cH : Nat → Int32} {cV : Nat → Int64} {fS : Nat → Int32} {fC : Nat → Int32} {lO : Nat → Int32} {lA : Nat → Int64} {rA : Nat → Int32} {rB : Nat → Int32} {rD : Nat → Int64} {fM : Nat → Int32} (hM : MG A h h ma b th no nv ns J nc nl nr fK fH fF fB fO fW fV fN cO cF cH cV fS fC lO lA rA rB rD fM) (i o k vb : Nat) (hi : i < 20) (ho : o < 60) (hk : k < 6) (hb9 : fB i = nI vb) (hvb : vb < 40) : Met l yX10_baseValue wsX10_baseValue { frames := 0, cells := 0, slots := 0, locals := 0 } (va_Pc [.ref ma, .int (nI i), .int (nI o), .int (nI k)] (fh_Pre G A h sz)) (fh_Q G (fun v u => v = some (.long (fF (360 * vb + 6 * o + k))) ∧ u = h) A) 0 0 A := by
  refine fh_Met [.ref ma, .int (nI i), .int (nI o), .int (nI k)] (by decide) rfl (Nat.le_of_ble_eq_true rfl) ?_
  intro p e s m below meth c hx hb hr hlocks hml hown hnm hts hsz hP hE hS ls hl
  have ht : ∀ w ∈ wB, w.before _ s = true := fun w h9 => hts w (List.mem_cons_of_mem _ h9)
  have hl : lv_has ls 4 [(0, .ref ma), (1, .int (nI i)), (2, .int (nI o)), (3, .int (nI k))] := hl
  refine lv_aload_n hx hb dX10_baseValue_0 rfl (lv_at hl 0 rfl) ?_
  refine fh_get (C := RX10) (T := TX10) (N := 28) hx hb ht inX10 hown hE.1 hP hM.m rfl 5 (by decide) (ht _ kw_695) (fun _ h9 => h9) (v := .ref (b 14)) rfl dX10_baseValue_1 ?_
  refine lv_sipush (v := (nI 360)) hx hb dX10_baseValue_4 (by decide) ?_
  refine lv_aload_n hx hb dX10_baseValue_7 rfl (lv_at hl 0 rfl) ?_
  refine fh_get (C := RX10) (T := TX10) (N := 28) hx hb ht inX10 hown hE.1 hP hM.m rfl 7 (by decide) (ht _ kw_697) (fun _ h9 => h9) (v := .ref (b 15)) rfl dX10_baseValue_8 ?_
  refine lv_iload_n hx hb dX10_baseValue_11 rfl (lv_at hl 1 rfl) ?_
  refine fh_iald (k := i) hx hb hE.1 hP hM.a15 rfl (hi) (by decide) dX10_baseValue_12 ?_
  rw [hb9]
  refine lv_imul hx hb dX10_baseValue_13 ?_
  refine lv_topi (fun z9 ez9 => ?_)
  rw [show z9 = nI (360 * vb) from ez9.trans (pk_mul _ _)]
  refine lv_bipush (v := (nI 6)) hx hb dX10_baseValue_14 (by decide) ?_
  refine lv_iload_n hx hb dX10_baseValue_16 rfl (lv_at hl 2 rfl) ?_
  refine lv_imul hx hb dX10_baseValue_17 ?_
  refine lv_topi (fun z9 ez9 => ?_)
  rw [show z9 = nI (6 * o) from ez9.trans (pk_mul _ _)]
  refine lv_iadd hx hb dX10_baseValue_18 ?_
  refine lv_topi (fun z9 ez9 => ?_)
  rw [show z9 = nI ((360 * vb) + (6 * o)) from ez9.trans (nI_add _ _)]
  refine lv_iload_n hx hb dX10_baseValue_19 rfl (lv_at hl 3 rfl) ?_
  refine lv_iadd hx hb dX10_baseValue_20 ?_
  refine lv_topi (fun z9 ez9 => ?_)
  rw [show z9 = nI (((360 * vb) + (6 * o)) + k) from ez9.trans (nI_add _ _)]
  refine fh_lald (k := (((360 * vb) + (6 * o)) + k)) hx hb hE.1 hP hM.a14 rfl (by omega) (by decide) dX10_baseValue_21 ?_
  exact fh_lret hx hb hr hlocks (⟨rfl, rfl⟩) hP hS (Nat.le_of_ble_eq_true rfl) (Nat.le_of_ble_eq_true rfl) dX10_baseValue_22

set_option maxRecDepth 100000 in
set_option maxHeartbeats 4000000 in
theorem m_ownVal (l : Launch) (G : fG) (A : Nat → Prop) (h : FH) (sz : Nat) {ma : Nat} {b : Nat → Nat} {th : Int32} {no nv ns J nc nl nr : Nat} {fK : Nat → Int32} {fH : Nat → Int32} {fF : Nat → Int64} {fB : Nat → Int32} {fO : Nat → Int32} {fW : Nat → Int32} {fV : Nat → Int64} {fN : Nat → Int32} {cO : Nat → Int32} {cF : Nat → Int32} {cH : Nat → Int32} {cV : Nat → Int64} {fS : Nat → Int32} {fC : Nat → Int32} {lO : Nat → Int32} {lA : Nat → Int64} {rA : Nat → Int32} {rB : Nat → Int32} {rD : Nat → Int64} {fM : Nat → Int32} (hM : MG A h h ma b th no nv ns J nc nl nr fK fH fF fB fO fW fV fN cO cF cH cV fS fC lO lA rA rB rD fM) (i o k : Nat) (hi : i < 20) (ho : o < 60) (hk : k < 6) : Met l yX10_ownValue wsX10_ownValue { frames := 0, cells := 0, slots := 0, locals := 0 } (va_Pc [.ref ma, .int (nI i), .int (nI o), .int (nI k)] (fh_Pre G A h sz)) (fh_Q G (fun v u => v = some (.long (fV (360 * i + 6 * o + k))) ∧ u = h) A) 0 0 A := by
  refine fh_Met [.ref ma, .int (nI i), .int (nI o), .int (nI k)] (by decide) rfl (Nat.le_of_ble_eq_true rfl) ?_
  intro p e s m below meth c hx hb hr hlocks hml hown hnm hts hsz hP hE hS ls hl
  have ht : ∀ w ∈ wB, w.before _ s = true := fun w h9 => hts w (List.mem_cons_of_mem _ h9)
  have hl : lv_has ls 4 [(0, .ref ma), (1, .int (nI i)), (2, .int (nI o)), (3, .int (nI k))] := hl
  refine lv_aload_n hx hb dX10_ownValue_0 rfl (lv_at hl 0 rfl) ?_
  refine fh_get (C := RX10) (T := TX10) (N := 28) hx hb ht inX10 hown hE.1 hP hM.m rfl 10 (by decide) (ht _ kw_700) (fun _ h9 => h9) (v := .ref (b 18)) rfl dX10_ownValue_1 ?_
  refine lv_sipush (v := (nI 360)) hx hb dX10_ownValue_4 (by decide) ?_
  refine lv_iload_n hx hb dX10_ownValue_7 rfl (lv_at hl 1 rfl) ?_
  refine lv_imul hx hb dX10_ownValue_8 ?_
  refine lv_topi (fun z9 ez9 => ?_)
  rw [show z9 = nI (360 * i) from ez9.trans (pk_mul _ _)]
  refine lv_bipush (v := (nI 6)) hx hb dX10_ownValue_9 (by decide) ?_
  refine lv_iload_n hx hb dX10_ownValue_11 rfl (lv_at hl 2 rfl) ?_
  refine lv_imul hx hb dX10_ownValue_12 ?_
  refine lv_topi (fun z9 ez9 => ?_)
  rw [show z9 = nI (6 * o) from ez9.trans (pk_mul _ _)]
  refine lv_iadd hx hb dX10_ownValue_13 ?_
  refine lv_topi (fun z9 ez9 => ?_)
  rw [show z9 = nI ((360 * i) + (6 * o)) from ez9.trans (nI_add _ _)]
  refine lv_iload_n hx hb dX10_ownValue_14 rfl (lv_at hl 3 rfl) ?_
  refine lv_iadd hx hb dX10_ownValue_15 ?_
  refine lv_topi (fun z9 ez9 => ?_)
  rw [show z9 = nI (((360 * i) + (6 * o)) + k) from ez9.trans (nI_add _ _)]
  refine fh_lald (k := (((360 * i) + (6 * o)) + k)) hx hb hE.1 hP hM.a18 rfl (by omega) (by decide) dX10_ownValue_16 ?_
  exact fh_lret hx hb hr hlocks (⟨rfl, rfl⟩) hP hS (Nat.le_of_ble_eq_true rfl) (Nat.le_of_ble_eq_true rfl) dX10_ownValue_17

set_option maxRecDepth 100000 in
set_option maxHeartbeats 4000000 in
theorem m_sideOf (l : Launch) (G : fG) (A : Nat → Prop) (h : FH) (sz : Nat) {ma : Nat} {b : Nat → Nat} {th : Int32} {no nv ns J nc nl nr : Nat} {fK : Nat → Int32} {fH : Nat → Int32} {fF : Nat → Int64} {fB : Nat → Int32} {fO : Nat → Int32} {fW : Nat → Int32} {fV : Nat → Int64} {fN : Nat → Int32} {cO : Nat → Int32} {cF : Nat → Int32} {cH : Nat → Int32} {cV : Nat → Int64} {fS : Nat → Int32} {fC : Nat → Int32} {lO : Nat → Int32} {lA : Nat → Int64} {rA : Nat → Int32} {rB : Nat → Int32} {rD : Nat → Int64} {fM : Nat → Int32} (hM : MG A h h ma b th no nv ns J nc nl nr fK fH fF fB fO fW fV fN cO cF cH cV fS fC lO lA rA rB rD fM) (i o k : Nat) (hi : i < 20) (ho : o < 60) (hk : k < 7) : Met l yX10_sideOf wsX10_sideOf { frames := 0, cells := 0, slots := 0, locals := 0 } (va_Pc [.ref ma, .int (nI i), .int (nI o), .int (nI k)] (fh_Pre G A h sz)) (fh_Q G (fun v u => v = some (.int (fS (420 * i + 7 * o + k) - nI 1)) ∧ u = h) A) 0 0 A := by
  refine fh_Met [.ref ma, .int (nI i), .int (nI o), .int (nI k)] (by decide) rfl (Nat.le_of_ble_eq_true rfl) ?_
  intro p e s m below meth c hx hb hr hlocks hml hown hnm hts hsz hP hE hS ls hl
  have ht : ∀ w ∈ wB, w.before _ s = true := fun w h9 => hts w (List.mem_cons_of_mem _ h9)
  have hl : lv_has ls 4 [(0, .ref ma), (1, .int (nI i)), (2, .int (nI o)), (3, .int (nI k))] := hl
  refine lv_aload_n hx hb dX10_sideOf_0 rfl (lv_at hl 0 rfl) ?_
  refine fh_get (C := RX10) (T := TX10) (N := 28) hx hb ht inX10 hown hE.1 hP hM.m rfl 16 (by decide) (ht _ kw_706) (fun _ h9 => h9) (v := .ref (b 24)) rfl dX10_sideOf_1 ?_
  refine lv_sipush (v := (nI 420)) hx hb dX10_sideOf_4 (by decide) ?_
  refine lv_iload_n hx hb dX10_sideOf_7 rfl (lv_at hl 1 rfl) ?_
  refine lv_imul hx hb dX10_sideOf_8 ?_
  refine lv_topi (fun z9 ez9 => ?_)
  rw [show z9 = nI (420 * i) from ez9.trans (pk_mul _ _)]
  refine lv_bipush (v := (nI 7)) hx hb dX10_sideOf_9 (by decide) ?_
  refine lv_iload_n hx hb dX10_sideOf_11 rfl (lv_at hl 2 rfl) ?_
  refine lv_imul hx hb dX10_sideOf_12 ?_
  refine lv_topi (fun z9 ez9 => ?_)
  rw [show z9 = nI (7 * o) from ez9.trans (pk_mul _ _)]
  refine lv_iadd hx hb dX10_sideOf_13 ?_
  refine lv_topi (fun z9 ez9 => ?_)
  rw [show z9 = nI ((420 * i) + (7 * o)) from ez9.trans (nI_add _ _)]
  refine lv_iload_n hx hb dX10_sideOf_14 rfl (lv_at hl 3 rfl) ?_
  refine lv_iadd hx hb dX10_sideOf_15 ?_
  refine lv_topi (fun z9 ez9 => ?_)
  rw [show z9 = nI (((420 * i) + (7 * o)) + k) from ez9.trans (nI_add _ _)]
  refine fh_iald (k := (((420 * i) + (7 * o)) + k)) hx hb hE.1 hP hM.a24 rfl (by omega) (by decide) dX10_sideOf_16 ?_
  refine lv_iconst (v := (nI 1)) hx hb dX10_sideOf_17 (by decide) ?_
  refine lv_isub hx hb dX10_sideOf_18 ?_
  exact fh_iret hx hb hr hlocks (⟨rfl, rfl⟩) hP hS (Nat.le_of_ble_eq_true rfl) (Nat.le_of_ble_eq_true rfl) dX10_sideOf_19

set_option maxRecDepth 100000 in
set_option maxHeartbeats 4000000 in
theorem m_headBase (l : Launch) (G : fG) (A : Nat → Prop) (h : FH) (sz : Nat) {ma : Nat} {b : Nat → Nat} {th : Int32} {no nv ns J nc nl nr : Nat} {fK : Nat → Int32} {fH : Nat → Int32} {fF : Nat → Int64} {fB : Nat → Int32} {fO : Nat → Int32} {fW : Nat → Int32} {fV : Nat → Int64} {fN : Nat → Int32} {cO : Nat → Int32} {cF : Nat → Int32} {cH : Nat → Int32} {cV : Nat → Int64} {fS : Nat → Int32} {fC : Nat → Int32} {lO : Nat → Int32} {lA : Nat → Int64} {rA : Nat → Int32} {rB : Nat → Int32} {rD : Nat → Int64} {fM : Nat → Int32} (hM : MG A h h ma b th no nv ns J nc nl nr fK fH fF fB fO fW fV fN cO cF cH cV fS fC lO lA rA rB rD fM) (i o vb : Nat) (hi : i < 20) (ho : o < 60) (hb9 : fB i = nI vb) (hvb : vb < 40) (hnv : 0 < nv) (hnv2 : nv ≤ 40) : Met l yX10_isHeadAsBase wsX10_isHeadAsBase { frames := 2, cells := 0, slots := 0, locals := 50 } (va_Pc [.ref ma, .int (nI i), .int (nI o)] (fh_Pre G A h sz)) (fh_Q G (fun v u => v = some (.int (bI (rwEq (fun k => fF (360 * (nv - 1) + 6 * o + k)) (fun k => fF (360 * vb + 6 * o + k))))) ∧ u = h) A) 0 0 A := by
  refine fh_Met [.ref ma, .int (nI i), .int (nI o)] (by decide) rfl (Nat.le_of_ble_eq_true rfl) ?_
  intro p e s m below meth c hx hb hr hlocks hml hown hnm hts hsz hP hE hS ls hl
  have ht : ∀ w ∈ wB, w.before _ s = true := fun w h9 => hts w (List.mem_cons_of_mem _ h9)
  have hl : lv_has ls 5 [(0, .ref ma), (1, .int (nI i)), (2, .int (nI o))] := hl
  refine lv_iconst (v := (nI 1)) hx hb dX10_isHeadAsBase_0 (by decide) ?_
  refine lv_istore_n (lv' := [(3, .int (nI 1)), (0, .ref ma), (1, .int (nI i)), (2, .int (nI o))]) hx hb dX10_isHeadAsBase_1 rfl hl (by decide) rfl (fun ls hl => ?_)
  refine lv_iconst (v := (nI 0)) hx hb dX10_isHeadAsBase_2 (by decide) ?_
  refine lv_istore (lv' := [(4, .int (nI 0)), (3, .int (nI 1)), (0, .ref ma), (1, .int (nI i)), (2, .int (nI o))]) hx hb dX10_isHeadAsBase_3 hl (by decide) rfl (fun ls hl => ?_)
  have loop : ∀ (n j : Nat), j + n = 6 → ∀ (c9 : Bool) (_ : c9 = true ↔ ∀ k, k < j → (fun k => fF (360 * (nv - 1) + 6 * o + k)) k = (fun k => fF (360 * vb + 6 * o + k)) k), ∀ (H : Heap) (locs : List Loc) (ls : Array Slot), fh_P G vwCl h H → va_S A s.heap H locs → lv_has ls 5 [(4, .int (nI j)), (3, .int (bI c9)), (0, .ref ma), (1, .int (nI i)), (2, .int (nI o))] → W p l e (headSpec wsX10_isHeadAsBase { frames := 2, cells := 0, slots := 0, locals := 50 }).room s m [.ref ma, .int (nI i), .int (nI o)].toArray below meth c H locs 0 0 (MQ below (fh_Q G (fun v u => v = some (.int (bI (rwEq (fun k => fF (360 * (nv - 1) + 6 * o + k)) (fun k => fF (360 * vb + 6 * o + k))))) ∧ u = h) A) [.ref ma, .int (nI i), .int (nI o)].toArray s 0 0 A) (F0 m 5 ls []) := by
    intro n
    induction n with
    | zero =>
      intro j hin c9 hc9 H locs ls hP hS hl
      refine lv_iload hx hb dX10_isHeadAsBase_5 (lv_at hl 0 rfl) ?_
      refine lv_bipush (v := (nI 6)) hx hb dX10_isHeadAsBase_7 (by decide) ?_
      refine lv_icmp_ge (tgt := 47) hx hb dX10_isHeadAsBase_9 (by decide) (fun _ => ?_) (fun c9 => absurd (nI_le (by omega) (by omega)) c9)
      refine lv_iload_n hx hb dX10_isHeadAsBase_47 rfl (lv_at hl 1 rfl) ?_
      exact fh_zret hx hb hr hlocks (bI_n _) (⟨congrArg (fun z => some (Value.int (bI z))) (by rw [Bool.eq_iff_iff, hc9, rwEq_iff]; constructor <;> intro q k hk <;> exact q k (by omega)), rfl⟩) hP hS (Nat.le_of_ble_eq_true rfl) (Nat.le_of_ble_eq_true rfl) dX10_isHeadAsBase_48
    | succ n ih =>
      intro j hin c9 hc9 H locs ls hP hS hl
      have hj6 : j < 6 := by omega
      refine lv_iload hx hb dX10_isHeadAsBase_5 (lv_at hl 0 rfl) ?_
      refine lv_bipush (v := (nI 6)) hx hb dX10_isHeadAsBase_7 (by decide) ?_
      refine lv_icmp_ge (tgt := 47) hx hb dX10_isHeadAsBase_9 (by decide) (fun c9 => absurd c9 (nI_ge (by omega) (by decide))) (fun _ => ?_)
      refine lv_iload_n hx hb dX10_isHeadAsBase_12 rfl (lv_at hl 1 rfl) ?_
      refine lv_if_eq (tgt := 39) hx hb dX10_isHeadAsBase_13 (by decide) (fun d1 => ?_) (fun d1 => ?_)
      · have e1 := bI_eq.mp d1
        refine lv_iconst (v := (nI 0)) hx hb dX10_isHeadAsBase_39 (by decide) ?_
        refine lv_istore_n (lv' := [(3, .int (nI 0)), (4, .int (nI j)), (0, .ref ma), (1, .int (nI i)), (2, .int (nI o))]) hx hb dX10_isHeadAsBase_40 rfl hl (by decide) rfl (fun ls hl => ?_)
        refine lv_iinc (v := nI (j + 1)) (lv' := [(4, .int (nI (j + 1))), (3, .int (nI 0)), (0, .ref ma), (1, .int (nI i)), (2, .int (nI o))]) hx hb dX10_isHeadAsBase_41 hl (k := 1) rfl (nI_1 _) (by decide) rfl (fun ls hl => ?_)
        refine lv_goto (tgt := 5) hx hb dX10_isHeadAsBase_44 (by decide) ?_
        exact ih (j + 1) (by omega) false ⟨fun q => (by cases q), fun q => by rw [e1] at hc9; exact absurd (hc9.mpr (fun k hk => q k (by omega))) (by decide)⟩ H locs ls hP hS (lv_sub hl [0, 1, 2, 3, 4] rfl)
      · have e1 := bI_nz d1
        refine lv_aload_n hx hb dX10_isHeadAsBase_16 rfl (lv_at hl 2 rfl) ?_
        refine lv_iload_n hx hb dX10_isHeadAsBase_17 rfl (lv_at hl 4 rfl) ?_
        refine lv_iload hx hb dX10_isHeadAsBase_18 (lv_at hl 0 rfl) ?_
        refine fh_cV (q := (RX10, TX10, 28)) (As := [.int (nI o), .int (nI j)]) (rest := []) (b := ma) ⟨hx, hb, hml, hown, ht⟩ (m_headVal l G A h _ hM hnv hnv2 o j ho hj6) (cwV 2 ht (gV kw_882 kw_884 kp_31 kw_5 kw_885) rfl rfl rfl yd_X10_headValue ⟨(Nat.le_of_ble_eq_true rfl), (Nat.le_of_ble_eq_true rfl)⟩) hP hE hS hM.m rfl rfl hl.1 rfl (Nat.le_of_ble_eq_true rfl) dX10_isHeadAsBase_20 ⟨(Nat.le_of_ble_eq_true rfl), (Nat.le_of_ble_eq_true rfl)⟩ (fun v u H locs hp hP hz hS => ?_)
        obtain ⟨rfl, eu⟩ := hp
        rw [eu] at hP
        refine W.eq (g2 := F0 m 23 ls [.long ((fun k => fF (360 * (nv - 1) + 6 * o + k)) j)]) rfl ?_
        refine lv_aload_n hx hb dX10_isHeadAsBase_23 rfl (lv_at hl 2 rfl) ?_
        refine lv_iload_n hx hb dX10_isHeadAsBase_24 rfl (lv_at hl 3 rfl) ?_
        refine lv_iload_n hx hb dX10_isHeadAsBase_25 rfl (lv_at hl 4 rfl) ?_
        refine lv_iload hx hb dX10_isHeadAsBase_26 (lv_at hl 0 rfl) ?_
        refine fh_cV (q := (RX10, TX10, 28)) (As := [.int (nI i), .int (nI o), .int (nI j)]) (rest := [.long ((fun k => fF (360 * (nv - 1) + 6 * o + k)) j)]) (b := ma) ⟨hx, hb, hml, hown, ht⟩ (m_baseVal l G A h _ hM i o j vb hi ho hj6 hb9 hvb) (cwV 3 ht (gV kw_870 kw_872 kp_28 kw_5 kw_873) rfl rfl rfl yd_X10_baseValue ⟨(Nat.le_of_ble_eq_true rfl), (Nat.le_of_ble_eq_true rfl)⟩) hP hE hS hM.m rfl rfl hl.1 rfl (Nat.le_of_ble_eq_true rfl) dX10_isHeadAsBase_28 ⟨(Nat.le_of_ble_eq_true rfl), (Nat.le_of_ble_eq_true rfl)⟩ (fun v u H locs hp hP hz hS => ?_)
        obtain ⟨rfl, eu⟩ := hp
        rw [eu] at hP
        refine W.eq (g2 := F0 m 31 ls [.long ((fun k => fF (360 * vb + 6 * o + k)) j), .long ((fun k => fF (360 * (nv - 1) + 6 * o + k)) j)]) rfl ?_
        refine W.lcmp hx hb dX10_isHeadAsBase_31 ?_
        refine lv_if_ne (tgt := 39) hx hb dX10_isHeadAsBase_32 (by decide) (fun d2 => ?_) (fun d2 => ?_)
        · refine lv_iconst (v := (nI 0)) hx hb dX10_isHeadAsBase_39 (by decide) ?_
          refine lv_istore_n (lv' := [(3, .int (nI 0)), (4, .int (nI j)), (0, .ref ma), (1, .int (nI i)), (2, .int (nI o))]) hx hb dX10_isHeadAsBase_40 rfl hl (by decide) rfl (fun ls hl => ?_)
          refine lv_iinc (v := nI (j + 1)) (lv' := [(4, .int (nI (j + 1))), (3, .int (nI 0)), (0, .ref ma), (1, .int (nI i)), (2, .int (nI o))]) hx hb dX10_isHeadAsBase_41 hl (k := 1) rfl (nI_1 _) (by decide) rfl (fun ls hl => ?_)
          refine lv_goto (tgt := 5) hx hb dX10_isHeadAsBase_44 (by decide) ?_
          exact ih (j + 1) (by omega) false ⟨fun q => (by cases q), fun q => absurd (q j (by omega)) (fun z => d2 ((lg_cmp_eq _ _).mpr z))⟩ H locs ls hP hS (lv_sub hl [0, 1, 2, 3, 4] rfl)
        · refine lv_iconst (v := (nI 1)) hx hb dX10_isHeadAsBase_35 (by decide) ?_
          refine lv_goto (tgt := 40) hx hb dX10_isHeadAsBase_36 (by decide) ?_
          refine lv_istore_n (lv' := [(3, .int (nI 1)), (4, .int (nI j)), (0, .ref ma), (1, .int (nI i)), (2, .int (nI o))]) hx hb dX10_isHeadAsBase_40 rfl hl (by decide) rfl (fun ls hl => ?_)
          refine lv_iinc (v := nI (j + 1)) (lv' := [(4, .int (nI (j + 1))), (3, .int (nI 1)), (0, .ref ma), (1, .int (nI i)), (2, .int (nI o))]) hx hb dX10_isHeadAsBase_41 hl (k := 1) rfl (nI_1 _) (by decide) rfl (fun ls hl => ?_)
          refine lv_goto (tgt := 5) hx hb dX10_isHeadAsBase_44 (by decide) ?_
          exact ih (j + 1) (by omega) true ⟨fun _ => lt_s (hc9.mp e1) ((lg_cmp_eq _ _).mp d2), fun _ => rfl⟩ H locs ls hP hS (lv_sub hl [0, 1, 2, 3, 4] rfl)
  exact loop 6 0 (by omega) true ⟨fun _ k hk => absurd hk (Nat.not_lt_zero k), fun _ => rfl⟩ _ _ _ hP hS hl

set_option maxRecDepth 100000 in
set_option maxHeartbeats 4000000 in
theorem m_ownBase (l : Launch) (G : fG) (A : Nat → Prop) (h : FH) (sz : Nat) {ma : Nat} {b : Nat → Nat} {th : Int32} {no nv ns J nc nl nr : Nat} {fK : Nat → Int32} {fH : Nat → Int32} {fF : Nat → Int64} {fB : Nat → Int32} {fO : Nat → Int32} {fW : Nat → Int32} {fV : Nat → Int64} {fN : Nat → Int32} {cO : Nat → Int32} {cF : Nat → Int32} {cH : Nat → Int32} {cV : Nat → Int64} {fS : Nat → Int32} {fC : Nat → Int32} {lO : Nat → Int32} {lA : Nat → Int64} {rA : Nat → Int32} {rB : Nat → Int32} {rD : Nat → Int64} {fM : Nat → Int32} (hM : MG A h h ma b th no nv ns J nc nl nr fK fH fF fB fO fW fV fN cO cF cH cV fS fC lO lA rA rB rD fM) (i o vb : Nat) (hi : i < 20) (ho : o < 60) (hb9 : fB i = nI vb) (hvb : vb < 40) : Met l yX10_isOwnAsBase wsX10_isOwnAsBase { frames := 2, cells := 0, slots := 0, locals := 50 } (va_Pc [.ref ma, .int (nI i), .int (nI o)] (fh_Pre G A h sz)) (fh_Q G (fun v u => v = some (.int (bI (rwEq (fun k => fV (360 * i + 6 * o + k)) (fun k => fF (360 * vb + 6 * o + k))))) ∧ u = h) A) 0 0 A := by
  refine fh_Met [.ref ma, .int (nI i), .int (nI o)] (by decide) rfl (Nat.le_of_ble_eq_true rfl) ?_
  intro p e s m below meth c hx hb hr hlocks hml hown hnm hts hsz hP hE hS ls hl
  have ht : ∀ w ∈ wB, w.before _ s = true := fun w h9 => hts w (List.mem_cons_of_mem _ h9)
  have hl : lv_has ls 5 [(0, .ref ma), (1, .int (nI i)), (2, .int (nI o))] := hl
  refine lv_iconst (v := (nI 1)) hx hb dX10_isOwnAsBase_0 (by decide) ?_
  refine lv_istore_n (lv' := [(3, .int (nI 1)), (0, .ref ma), (1, .int (nI i)), (2, .int (nI o))]) hx hb dX10_isOwnAsBase_1 rfl hl (by decide) rfl (fun ls hl => ?_)
  refine lv_iconst (v := (nI 0)) hx hb dX10_isOwnAsBase_2 (by decide) ?_
  refine lv_istore (lv' := [(4, .int (nI 0)), (3, .int (nI 1)), (0, .ref ma), (1, .int (nI i)), (2, .int (nI o))]) hx hb dX10_isOwnAsBase_3 hl (by decide) rfl (fun ls hl => ?_)
  have loop : ∀ (n j : Nat), j + n = 6 → ∀ (c9 : Bool) (_ : c9 = true ↔ ∀ k, k < j → (fun k => fV (360 * i + 6 * o + k)) k = (fun k => fF (360 * vb + 6 * o + k)) k), ∀ (H : Heap) (locs : List Loc) (ls : Array Slot), fh_P G vwCl h H → va_S A s.heap H locs → lv_has ls 5 [(4, .int (nI j)), (3, .int (bI c9)), (0, .ref ma), (1, .int (nI i)), (2, .int (nI o))] → W p l e (headSpec wsX10_isOwnAsBase { frames := 2, cells := 0, slots := 0, locals := 50 }).room s m [.ref ma, .int (nI i), .int (nI o)].toArray below meth c H locs 0 0 (MQ below (fh_Q G (fun v u => v = some (.int (bI (rwEq (fun k => fV (360 * i + 6 * o + k)) (fun k => fF (360 * vb + 6 * o + k))))) ∧ u = h) A) [.ref ma, .int (nI i), .int (nI o)].toArray s 0 0 A) (F0 m 5 ls []) := by
    intro n
    induction n with
    | zero =>
      intro j hin c9 hc9 H locs ls hP hS hl
      refine lv_iload hx hb dX10_isOwnAsBase_5 (lv_at hl 0 rfl) ?_
      refine lv_bipush (v := (nI 6)) hx hb dX10_isOwnAsBase_7 (by decide) ?_
      refine lv_icmp_ge (tgt := 48) hx hb dX10_isOwnAsBase_9 (by decide) (fun _ => ?_) (fun c9 => absurd (nI_le (by omega) (by omega)) c9)
      refine lv_iload_n hx hb dX10_isOwnAsBase_48 rfl (lv_at hl 1 rfl) ?_
      exact fh_zret hx hb hr hlocks (bI_n _) (⟨congrArg (fun z => some (Value.int (bI z))) (by rw [Bool.eq_iff_iff, hc9, rwEq_iff]; constructor <;> intro q k hk <;> exact q k (by omega)), rfl⟩) hP hS (Nat.le_of_ble_eq_true rfl) (Nat.le_of_ble_eq_true rfl) dX10_isOwnAsBase_49
    | succ n ih =>
      intro j hin c9 hc9 H locs ls hP hS hl
      have hj6 : j < 6 := by omega
      refine lv_iload hx hb dX10_isOwnAsBase_5 (lv_at hl 0 rfl) ?_
      refine lv_bipush (v := (nI 6)) hx hb dX10_isOwnAsBase_7 (by decide) ?_
      refine lv_icmp_ge (tgt := 48) hx hb dX10_isOwnAsBase_9 (by decide) (fun c9 => absurd c9 (nI_ge (by omega) (by decide))) (fun _ => ?_)
      refine lv_iload_n hx hb dX10_isOwnAsBase_12 rfl (lv_at hl 1 rfl) ?_
      refine lv_if_eq (tgt := 40) hx hb dX10_isOwnAsBase_13 (by decide) (fun d1 => ?_) (fun d1 => ?_)
      · have e1 := bI_eq.mp d1
        refine lv_iconst (v := (nI 0)) hx hb dX10_isOwnAsBase_40 (by decide) ?_
        refine lv_istore_n (lv' := [(3, .int (nI 0)), (4, .int (nI j)), (0, .ref ma), (1, .int (nI i)), (2, .int (nI o))]) hx hb dX10_isOwnAsBase_41 rfl hl (by decide) rfl (fun ls hl => ?_)
        refine lv_iinc (v := nI (j + 1)) (lv' := [(4, .int (nI (j + 1))), (3, .int (nI 0)), (0, .ref ma), (1, .int (nI i)), (2, .int (nI o))]) hx hb dX10_isOwnAsBase_42 hl (k := 1) rfl (nI_1 _) (by decide) rfl (fun ls hl => ?_)
        refine lv_goto (tgt := 5) hx hb dX10_isOwnAsBase_45 (by decide) ?_
        exact ih (j + 1) (by omega) false ⟨fun q => (by cases q), fun q => by rw [e1] at hc9; exact absurd (hc9.mpr (fun k hk => q k (by omega))) (by decide)⟩ H locs ls hP hS (lv_sub hl [0, 1, 2, 3, 4] rfl)
      · have e1 := bI_nz d1
        refine lv_aload_n hx hb dX10_isOwnAsBase_16 rfl (lv_at hl 2 rfl) ?_
        refine lv_iload_n hx hb dX10_isOwnAsBase_17 rfl (lv_at hl 3 rfl) ?_
        refine lv_iload_n hx hb dX10_isOwnAsBase_18 rfl (lv_at hl 4 rfl) ?_
        refine lv_iload hx hb dX10_isOwnAsBase_19 (lv_at hl 0 rfl) ?_
        refine fh_cV (q := (RX10, TX10, 28)) (As := [.int (nI i), .int (nI o), .int (nI j)]) (rest := []) (b := ma) ⟨hx, hb, hml, hown, ht⟩ (m_ownVal l G A h _ hM i o j hi ho hj6) (cwV 3 ht (gV kw_866 kw_868 kp_27 kw_5 kw_869) rfl rfl rfl yd_X10_ownValue ⟨(Nat.le_of_ble_eq_true rfl), (Nat.le_of_ble_eq_true rfl)⟩) hP hE hS hM.m rfl rfl hl.1 rfl (Nat.le_of_ble_eq_true rfl) dX10_isOwnAsBase_21 ⟨(Nat.le_of_ble_eq_true rfl), (Nat.le_of_ble_eq_true rfl)⟩ (fun v u H locs hp hP hz hS => ?_)
        obtain ⟨rfl, eu⟩ := hp
        rw [eu] at hP
        refine W.eq (g2 := F0 m 24 ls [.long ((fun k => fV (360 * i + 6 * o + k)) j)]) rfl ?_
        refine lv_aload_n hx hb dX10_isOwnAsBase_24 rfl (lv_at hl 2 rfl) ?_
        refine lv_iload_n hx hb dX10_isOwnAsBase_25 rfl (lv_at hl 3 rfl) ?_
        refine lv_iload_n hx hb dX10_isOwnAsBase_26 rfl (lv_at hl 4 rfl) ?_
        refine lv_iload hx hb dX10_isOwnAsBase_27 (lv_at hl 0 rfl) ?_
        refine fh_cV (q := (RX10, TX10, 28)) (As := [.int (nI i), .int (nI o), .int (nI j)]) (rest := [.long ((fun k => fV (360 * i + 6 * o + k)) j)]) (b := ma) ⟨hx, hb, hml, hown, ht⟩ (m_baseVal l G A h _ hM i o j vb hi ho hj6 hb9 hvb) (cwV 3 ht (gV kw_870 kw_872 kp_28 kw_5 kw_873) rfl rfl rfl yd_X10_baseValue ⟨(Nat.le_of_ble_eq_true rfl), (Nat.le_of_ble_eq_true rfl)⟩) hP hE hS hM.m rfl rfl hl.1 rfl (Nat.le_of_ble_eq_true rfl) dX10_isOwnAsBase_29 ⟨(Nat.le_of_ble_eq_true rfl), (Nat.le_of_ble_eq_true rfl)⟩ (fun v u H locs hp hP hz hS => ?_)
        obtain ⟨rfl, eu⟩ := hp
        rw [eu] at hP
        refine W.eq (g2 := F0 m 32 ls [.long ((fun k => fF (360 * vb + 6 * o + k)) j), .long ((fun k => fV (360 * i + 6 * o + k)) j)]) rfl ?_
        refine W.lcmp hx hb dX10_isOwnAsBase_32 ?_
        refine lv_if_ne (tgt := 40) hx hb dX10_isOwnAsBase_33 (by decide) (fun d2 => ?_) (fun d2 => ?_)
        · refine lv_iconst (v := (nI 0)) hx hb dX10_isOwnAsBase_40 (by decide) ?_
          refine lv_istore_n (lv' := [(3, .int (nI 0)), (4, .int (nI j)), (0, .ref ma), (1, .int (nI i)), (2, .int (nI o))]) hx hb dX10_isOwnAsBase_41 rfl hl (by decide) rfl (fun ls hl => ?_)
          refine lv_iinc (v := nI (j + 1)) (lv' := [(4, .int (nI (j + 1))), (3, .int (nI 0)), (0, .ref ma), (1, .int (nI i)), (2, .int (nI o))]) hx hb dX10_isOwnAsBase_42 hl (k := 1) rfl (nI_1 _) (by decide) rfl (fun ls hl => ?_)
          refine lv_goto (tgt := 5) hx hb dX10_isOwnAsBase_45 (by decide) ?_
          exact ih (j + 1) (by omega) false ⟨fun q => (by cases q), fun q => absurd (q j (by omega)) (fun z => d2 ((lg_cmp_eq _ _).mpr z))⟩ H locs ls hP hS (lv_sub hl [0, 1, 2, 3, 4] rfl)
        · refine lv_iconst (v := (nI 1)) hx hb dX10_isOwnAsBase_36 (by decide) ?_
          refine lv_goto (tgt := 41) hx hb dX10_isOwnAsBase_37 (by decide) ?_
          refine lv_istore_n (lv' := [(3, .int (nI 1)), (4, .int (nI j)), (0, .ref ma), (1, .int (nI i)), (2, .int (nI o))]) hx hb dX10_isOwnAsBase_41 rfl hl (by decide) rfl (fun ls hl => ?_)
          refine lv_iinc (v := nI (j + 1)) (lv' := [(4, .int (nI (j + 1))), (3, .int (nI 1)), (0, .ref ma), (1, .int (nI i)), (2, .int (nI o))]) hx hb dX10_isOwnAsBase_42 hl (k := 1) rfl (nI_1 _) (by decide) rfl (fun ls hl => ?_)
          refine lv_goto (tgt := 5) hx hb dX10_isOwnAsBase_45 (by decide) ?_
          exact ih (j + 1) (by omega) true ⟨fun _ => lt_s (hc9.mp e1) ((lg_cmp_eq _ _).mp d2), fun _ => rfl⟩ H locs ls hP hS (lv_sub hl [0, 1, 2, 3, 4] rfl)
  exact loop 6 0 (by omega) true ⟨fun _ k hk => absurd hk (Nat.not_lt_zero k), fun _ => rfl⟩ _ _ _ hP hS hl
