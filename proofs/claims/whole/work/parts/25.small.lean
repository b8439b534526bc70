abbrev cXM_floorMod : ByteArray := prog_18_method_50_code
def RXM : String := "java/lang/Math"
def yXM_floorMod : MethodName := ⟨RXM, "floorMod", "(II)I"⟩
abbrev wsXM_floorMod : List Cond := .code yXM_floorMod cXM_floorMod 3 (some .int) :: wB
theorem yd_XM_floorMod : yXM_floorMod.cls = RXM ∧ yXM_floorMod.cls ≠ "java/lang/invoke/MethodHandle" ∧ yXM_floorMod.cls ≠ "java/lang/invoke/VarHandle" ∧ (parseMethodDescriptor yXM_floorMod.desc).map (fun d => d.parameters.length) = some 2 := by decide +kernel
theorem dXM_floorMod_0 : decode cXM_floorMod 0 = .ok (.iload_n 0, 1) := by decide +kernel
theorem dXM_floorMod_1 : decode cXM_floorMod 1 = .ok (.iload_n 1, 1) := by decide +kernel
theorem dXM_floorMod_2 : decode cXM_floorMod 2 = .ok (.irem, 1) := by decide +kernel
theorem dXM_floorMod_3 : decode cXM_floorMod 3 = .ok (.istore_n 2, 1) := by decide +kernel
theorem dXM_floorMod_4 : decode cXM_floorMod 4 = .ok (.iload_n 0, 1) := by decide +kernel
theorem dXM_floorMod_5 : decode cXM_floorMod 5 = .ok (.iload_n 1, 1) := by decide +kernel
theorem dXM_floorMod_6 : decode cXM_floorMod 6 = .ok (.ixor, 1) := by decide +kernel
theorem dXM_floorMod_7 : decode cXM_floorMod 7 = .ok (.ifCond .ge 11, 3) := by decide +kernel
theorem dXM_floorMod_10 : decode cXM_floorMod 10 = .ok (.iload_n 2, 1) := by decide +kernel
theorem dXM_floorMod_11 : decode cXM_floorMod 11 = .ok (.ifCond .eq 7, 3) := by decide +kernel
theorem dXM_floorMod_14 : decode cXM_floorMod 14 = .ok (.iload_n 2, 1) := by decide +kernel
theorem dXM_floorMod_15 : decode cXM_floorMod 15 = .ok (.iload_n 1, 1) := by decide +kernel
theorem dXM_floorMod_16 : decode cXM_floorMod 16 = .ok (.iadd, 1) := by decide +kernel
theorem dXM_floorMod_17 : decode cXM_floorMod 17 = .ok (.ireturn, 1) := by decide +kernel
theorem dXM_floorMod_18 : decode cXM_floorMod 18 = .ok (.iload_n 2, 1) := by decide +kernel
theorem dXM_floorMod_19 : decode cXM_floorMod 19 = .ok (.ireturn, 1) := by decide +kernel
theorem fh_MetF {l : Launch} {y : MethodName} {ws ws' : List Cond} {rm : Room} {cc : ByteArray} {maxL : Nat} {ret : Option FieldType} {G : fG} {A : Nat → Prop} {h : FH} {sz mc ms : Nat} {Qc : Array Value → State → Outcome → State → Prop} (avs : List Value) (hy : plainFor y = true) (hw : ws = Cond.code y cc maxL ret :: ws') (hn : (lg_sl avs).length ≤ maxL)
    (body : ∀ p e s m below meth c, p.tables.exec = Jvm.exec → c.code = cc → meth.sig.returnType = ret → meth.locks = false → c.maxLocals = maxL → s.vm.findClass y.cls = some m.cls → meth.name = y.name → (∀ w ∈ ws, w.before avs.toArray s = true) → s.heap.size = sz → fh_P G vwCl h s.heap → fh_Env G A s s.heap → va_S A s.heap s.heap [] → ∀ ls, lv_has ls maxL (lv_args 0 avs) →
      W p l e (headSpec ws rm).room s m avs.toArray below meth c s.heap [] 0 0 (MQ below Qc avs.toArray s mc ms A) (F0 m 0 ls [])) : Met l y ws rm (va_Pc avs (fh_Pre G A h sz)) Qc mc ms A := by
  refine va_MetF (cc := cc) (maxL := maxL) (ret := ret) hy hw ?_
  intro p e s m args below meth c s₁ B hml hv
  obtain ⟨rfl, hsz, hP, hE⟩ := hv
  have hl := lv_entry avs (n := maxL) hn
  rw [lg_entry_eq]
  exact body p e s m below meth c B.exec B.bytes B.returns B.notSynchronized hml (findClass_of_methodNamed B.named) (name_of_methodNamed B.named B.method).1 (atoms_spec (ws := ws) B.pre) hsz hP hE va_S.rf _ hl
theorem fm_rem {n : Nat} (hn : n < 1000000) : nI n - nI n / nI 40 * nI 40 = nI (n % 40) := pk_rem (by omega) (by decide) (by decide)
theorem fm_xor (a b : Nat) : nI a ^^^ nI b = nI (a ^^^ b) := by
  apply Int32.toBitVec_inj.1
  show BitVec.ofNat 32 a ^^^ BitVec.ofNat 32 b = BitVec.ofNat 32 (a ^^^ b)
  apply BitVec.eq_of_getLsbD_eq
  intro i hi
  simp [hi]
theorem fm_ge {n : Nat} (hn : n < 1000000) : (0 : Int32) ≤ nI n ^^^ nI 40 := by
  have h1 : n ^^^ 40 < 2 ^ 20 := Nat.xor_lt_two_pow (by omega) (by decide)
  rw [fm_xor, Int32.le_iff_toInt_le, nI_toInt (by omega)]
  exact Int.natCast_nonneg _
set_option maxRecDepth 100000 in
set_option maxHeartbeats 4000000 in
theorem c_Area_init (l : Launch) (G : fG) (A : Nat → Prop) (h : FH) (sz : Nat) (a : Nat) (ow : Int32) (x0 y0 x1 y1 : Int64) (hAa : A a) (ha : h a = some (.inr (0, [.int 0, .long 0, .long 0, .long 0, .long 0]))) : Met l yX0_init wsX0_init { frames := 1, cells := 0, slots := 0, locals := 12 } (va_Pc [.ref a, .int ow, .long x0, .long y0, .long x1, .long y1] (fh_Pre G A h sz)) (fh_Q G (fun v u => v = none ∧ u = fh_up h a (oArea ow x0 y0 x1 y1)) A) 0 0 A := by
  refine fh_Met [.ref a, .int ow, .long x0, .long y0, .long x1, .long y1] (by decide) rfl (Nat.le_of_ble_eq_true rfl) ?_
  intro p e s m below meth c hx hb hr hlocks hml hown hnm hts hsz hP hE hS ls hl
  have ht : ∀ w ∈ wB, w.before _ s = true := fun w h9 => hts w (List.mem_cons_of_mem _ h9)
  have hl : lv_has ls 10 [(0, .ref a), (1, .int ow), (2, .long x0), (4, .long y0), (6, .long x1), (8, .long y1)] := hl
  refine lv_aload_n hx hb dX0_init_0 rfl (lv_at hl 0 rfl) ?_
  refine W.objInit hx hb hown (ht _ kw_522) (ht _ kw_26) (ht _ kw_27) rfl (by rw [hml]; exact hl.1) rfl dX0_init_1 (Nat.le_of_ble_eq_true rfl) (Nat.le_of_ble_eq_true rfl) ?_
  refine W.eq (g2 := F0 m 4 ls []) rfl ?_
  refine lv_aload_n hx hb dX0_init_4 rfl (lv_at hl 0 rfl) ?_
  refine lv_iload_n hx hb dX0_init_5 rfl (lv_at hl 1 rfl) ?_
  refine fh_putF (C := RX0) (T := TX0) (N := 5) (t := .int) hx hb ht inX0 tyX0 tyX0_ok nmX0 hown hE.1 hP hS ha (hAa) rfl 0 (by decide) (ht _ kw_523) (fun _ h9 => h9) rfl hnm rfl (by decide +kernel) rfl rfl (Nat.le_of_ble_eq_true rfl) dX0_init_6 (fun H locs hP hz hS => ?_)
  obtain ⟨h_1, eh_1⟩ : ∃ z, z = fh_up h a (.inr (0, [.int ow, .long 0, .long 0, .long 0, .long 0])) := ⟨_, rfl⟩
  have hP : fh_P G vwCl h_1 H := by rw [eh_1]; exact hP
  have f_1 : h_1 a = some (.inr (0, [.int ow, .long 0, .long 0, .long 0, .long 0])) := by rw [eh_1]; exact fh_up_self _ _ _
  refine lv_aload_n hx hb dX0_init_9 rfl (lv_at hl 0 rfl) ?_
  refine lv_lload_n hx hb dX0_init_10 rfl (lv_at hl 2 rfl) ?_
  refine fh_putF (C := RX0) (T := TX0) (N := 5) (t := .long) hx hb ht inX0 tyX0 tyX0_ok nmX0 hown hE.1 hP hS f_1 (hAa) rfl 1 (by decide) (ht _ kw_525) (fun _ h9 => h9) rfl hnm rfl (by decide +kernel) rfl rfl (Nat.le_of_ble_eq_true rfl) dX0_init_11 (fun H locs hP hz hS => ?_)
  obtain ⟨h_2, eh_2⟩ : ∃ z, z = fh_up h_1 a (.inr (0, [.int ow, .long x0, .long 0, .long 0, .long 0])) := ⟨_, rfl⟩
  have hP : fh_P G vwCl h_2 H := by rw [eh_2]; exact hP
  have f_2 : h_2 a = some (.inr (0, [.int ow, .long x0, .long 0, .long 0, .long 0])) := by rw [eh_2]; exact fh_up_self _ _ _
  refine lv_aload_n hx hb dX0_init_14 rfl (lv_at hl 0 rfl) ?_
  refine lv_lload hx hb dX0_init_15 (lv_at hl 3 rfl) ?_
  refine fh_putF (C := RX0) (T := TX0) (N := 5) (t := .long) hx hb ht inX0 tyX0 tyX0_ok nmX0 hown hE.1 hP hS f_2 (hAa) rfl 2 (by decide) (ht _ kw_526) (fun _ h9 => h9) rfl hnm rfl (by decide +kernel) rfl rfl (Nat.le_of_ble_eq_true rfl) dX0_init_17 (fun H locs hP hz hS => ?_)
  obtain ⟨h_3, eh_3⟩ : ∃ z, z = fh_up h_2 a (.inr (0, [.int ow, .long x0, .long y0, .long 0, .long 0])) := ⟨_, rfl⟩
  have hP : fh_P G vwCl h_3 H := by rw [eh_3]; exact hP
  have f_3 : h_3 a = some (.inr (0, [.int ow, .long x0, .long y0, .long 0, .long 0])) := by rw [eh_3]; exact fh_up_self _ _ _
  refine lv_aload_n hx hb dX0_init_20 rfl (lv_at hl 0 rfl) ?_
  refine lv_lload hx hb dX0_init_21 (lv_at hl 4 rfl) ?_
  refine fh_putF (C := RX0) (T := TX0) (N := 5) (t := .long) hx hb ht inX0 tyX0 tyX0_ok nmX0 hown hE.1 hP hS f_3 (hAa) rfl 3 (by decide) (ht _ kw_527) (fun _ h9 => h9) rfl hnm rfl (by decide +kernel) rfl rfl (Nat.le_of_ble_eq_true rfl) dX0_init_23 (fun H locs hP hz hS => ?_)
  obtain ⟨h_4, eh_4⟩ : ∃ z, z = fh_up h_3 a (.inr (0, [.int ow, .long x0, .long y0, .long x1, .long 0])) := ⟨_, rfl⟩
  have hP : fh_P G vwCl h_4 H := by rw [eh_4]; exact hP
  have f_4 : h_4 a = some (.inr (0, [.int ow, .long x0, .long y0, .long x1, .long 0])) := by rw [eh_4]; exact fh_up_self _ _ _
  refine lv_aload_n hx hb dX0_init_26 rfl (lv_at hl 0 rfl) ?_
  refine lv_lload hx hb dX0_init_27 (lv_at hl 5 rfl) ?_
  refine fh_putF (C := RX0) (T := TX0) (N := 5) (t := .long) hx hb ht inX0 tyX0 tyX0_ok nmX0 hown hE.1 hP hS f_4 (hAa) rfl 4 (by decide) (ht _ kw_528) (fun _ h9 => h9) rfl hnm rfl (by decide +kernel) rfl rfl (Nat.le_of_ble_eq_true rfl) dX0_init_29 (fun H locs hP hz hS => ?_)
  obtain ⟨h_5, eh_5⟩ : ∃ z, z = fh_up h_4 a (.inr (0, [.int ow, .long x0, .long y0, .long x1, .long y1])) := ⟨_, rfl⟩
  have hP : fh_P G vwCl h_5 H := by rw [eh_5]; exact hP
  have f_5 : h_5 a = some (.inr (0, [.int ow, .long x0, .long y0, .long x1, .long y1])) := by rw [eh_5]; exact fh_up_self _ _ _
  exact fh_vret hx hb hr hlocks (⟨rfl, by rw [eh_5, eh_4, eh_3, eh_2, eh_1]; simp only [fh_upup]⟩) hP hS (Nat.le_of_ble_eq_true rfl) (Nat.le_of_ble_eq_true rfl) dX0_init_32

set_option maxRecDepth 100000 in
set_option maxHeartbeats 4000000 in
theorem c_Area_holds (l : Launch) (G : fG) (A : Nat → Prop) (h : FH) (sz : Nat) (a : Nat) (ow : Int32) (x0 y0 x1 y1 x y : Int64) (ha : h a = some (oArea ow x0 y0 x1 y1)) : Met l yX0_holds wsX0_holds { frames := 0, cells := 0, slots := 0, locals := 0 } (va_Pc [.ref a, .long x, .long y] (fh_Pre G A h sz)) (fh_Q G (fun v u => v = some (.int (bI (arHolds x0 y0 x1 y1 x y))) ∧ u = h) A) 0 0 A := by
  refine fh_Met [.ref a, .long x, .long y] (by decide) rfl (Nat.le_of_ble_eq_true rfl) ?_
  intro p e s m below meth c hx hb hr hlocks hml hown hnm hts hsz hP hE hS ls hl
  have ht : ∀ w ∈ wB, w.before _ s = true := fun w h9 => hts w (List.mem_cons_of_mem _ h9)
  have hl : lv_has ls 5 [(0, .ref a), (1, .long x), (3, .long y)] := hl
  refine lv_aload_n hx hb dX0_holds_0 rfl (lv_at hl 0 rfl) ?_
  refine fh_get (C := RX0) (T := TX0) (N := 5) hx hb ht inX0 hown hE.1 hP ha rfl 1 (by decide) (ht _ kw_525) (fun _ h9 => h9) (v := .long x0) rfl dX0_holds_1 ?_
  refine lv_lload_n hx hb dX0_holds_4 rfl (lv_at hl 1 rfl) ?_
  refine W.lcmp hx hb dX0_holds_5 ?_
  refine lv_if_gt (tgt := 40) hx hb dX0_holds_6 (by decide) (fun c0 => ?_) (fun c0 => ?_)
  · refine lv_iconst (v := (nI 0)) hx hb dX0_holds_40 (by decide) ?_
    exact fh_zret hx hb hr hlocks rfl (⟨congrArg (fun z => some (Value.int z)) (bI_0 (fun q => by have z := (lg_cmp_gt _ _).mp c0; simp only [arHolds, Bool.and_eq_true, decide_eq_true_eq, Int64.le_iff_toInt_le] at q; rw [Int64.lt_iff_toInt_lt] at z; omega)), rfl⟩) hP hS (Nat.le_of_ble_eq_true rfl) (Nat.le_of_ble_eq_true rfl) dX0_holds_41
  · refine lv_lload_n hx hb dX0_holds_9 rfl (lv_at hl 1 rfl) ?_
    refine lv_aload_n hx hb dX0_holds_10 rfl (lv_at hl 0 rfl) ?_
    refine fh_get (C := RX0) (T := TX0) (N := 5) hx hb ht inX0 hown hE.1 hP ha rfl 3 (by decide) (ht _ kw_527) (fun _ h9 => h9) (v := .long x1) rfl dX0_holds_11 ?_
    refine W.lcmp hx hb dX0_holds_14 ?_
    refine lv_if_gt (tgt := 40) hx hb dX0_holds_15 (by decide) (fun c1 => ?_) (fun c1 => ?_)
    · refine lv_iconst (v := (nI 0)) hx hb dX0_holds_40 (by decide) ?_
      exact fh_zret hx hb hr hlocks rfl (⟨congrArg (fun z => some (Value.int z)) (bI_0 (fun q => by have z := (lg_cmp_gt _ _).mp c1; simp only [arHolds, Bool.and_eq_true, decide_eq_true_eq, Int64.le_iff_toInt_le] at q; rw [Int64.lt_iff_toInt_lt] at z; omega)), rfl⟩) hP hS (Nat.le_of_ble_eq_true rfl) (Nat.le_of_ble_eq_true rfl) dX0_holds_41
    · refine lv_aload_n hx hb dX0_holds_18 rfl (lv_at hl 0 rfl) ?_
      refine fh_get (C := RX0) (T := TX0) (N := 5) hx hb ht inX0 hown hE.1 hP ha rfl 2 (by decide) (ht _ kw_526) (fun _ h9 => h9) (v := .long y0) rfl dX0_holds_19 ?_
      refine lv_lload_n hx hb dX0_holds_22 rfl (lv_at hl 2 rfl) ?_
      refine W.lcmp hx hb dX0_holds_23 ?_
      refine lv_if_gt (tgt := 40) hx hb dX0_holds_24 (by decide) (fun c2 => ?_) (fun c2 => ?_)
      · refine lv_iconst (v := (nI 0)) hx hb dX0_holds_40 (by decide) ?_
        exact fh_zret hx hb hr hlocks rfl (⟨congrArg (fun z => some (Value.int z)) (bI_0 (fun q => by have z := (lg_cmp_gt _ _).mp c2; simp only [arHolds, Bool.and_eq_true, decide_eq_true_eq, Int64.le_iff_toInt_le] at q; rw [Int64.lt_iff_toInt_lt] at z; omega)), rfl⟩) hP hS (Nat.le_of_ble_eq_true rfl) (Nat.le_of_ble_eq_true rfl) dX0_holds_41
      · refine lv_lload_n hx hb dX0_holds_27 rfl (lv_at hl 2 rfl) ?_
        refine lv_aload_n hx hb dX0_holds_28 rfl (lv_at hl 0 rfl) ?_
        refine fh_get (C := RX0) (T := TX0) (N := 5) hx hb ht inX0 hown hE.1 hP ha rfl 4 (by decide) (ht _ kw_528) (fun _ h9 => h9) (v := .long y1) rfl dX0_holds_29 ?_
        refine W.lcmp hx hb dX0_holds_32 ?_
        refine lv_if_gt (tgt := 40) hx hb dX0_holds_33 (by decide) (fun c3 => ?_) (fun c3 => ?_)
        · refine lv_iconst (v := (nI 0)) hx hb dX0_holds_40 (by decide) ?_
          exact fh_zret hx hb hr hlocks rfl (⟨congrArg (fun z => some (Value.int z)) (bI_0 (fun q => by have z := (lg_cmp_gt _ _).mp c3; simp only [arHolds, Bool.and_eq_true, decide_eq_true_eq, Int64.le_iff_toInt_le] at q; rw [Int64.lt_iff_toInt_lt] at z; omega)), rfl⟩) hP hS (Nat.le_of_ble_eq_true rfl) (Nat.le_of_ble_eq_true rfl) dX0_holds_41
        · refine lv_iconst (v := (nI 1)) hx hb dX0_holds_36 (by decide) ?_
          refine lv_goto (tgt := 41) hx hb dX0_holds_37 (by decide) ?_
          exact fh_zret hx hb hr hlocks rfl (⟨congrArg (fun z => some (Value.int z)) (bI_1 (by have z0 := mt (lg_cmp_gt _ _).mpr c0; rw [Int64.lt_iff_toInt_lt] at z0; have z1 := mt (lg_cmp_gt _ _).mpr c1; rw [Int64.lt_iff_toInt_lt] at z1; have z2 := mt (lg_cmp_gt _ _).mpr c2; rw [Int64.lt_iff_toInt_lt] at z2; have z3 := mt (lg_cmp_gt _ _).mpr c3; rw [Int64.lt_iff_toInt_lt] at z3; simp only [arHolds, Bool.and_eq_true, decide_eq_true_eq, Int64.le_iff_toInt_le]; omega)), rfl⟩) hP hS (Nat.le_of_ble_eq_true rfl) (Nat.le_of_ble_eq_true rfl) dX0_holds_41

set_option maxRecDepth 100000 in
set_option maxHeartbeats 4000000 in
theorem c_Area_meets (l : Launch) (G : fG) (A : Nat → Prop) (h : FH) (sz : Nat) (a b : Nat) (ow : Int32) (x0 y0 x1 y1 : Int64) (ow2 : Int32) (x2 y2 x3 y3 : Int64) (ha : h a = some (oArea ow x0 y0 x1 y1)) (hb0 : h b = some (oArea ow2 x2 y2 x3 y3)) : Met l yX0_meets wsX0_meets { frames := 0, cells := 0, slots := 0, locals := 0 } (va_Pc [.ref a, .ref b] (fh_Pre G A h sz)) (fh_Q G (fun v u => v = some (.int (bI (arMeets x0 y0 x1 y1 x2 y2 x3 y3))) ∧ u = h) A) 0 0 A := by
  refine fh_Met [.ref a, .ref b] (by decide) rfl (Nat.le_of_ble_eq_true rfl) ?_
  intro p e s m below meth c hx hb hr hlocks hml hown hnm hts hsz hP hE hS ls hl
  have ht : ∀ w ∈ wB, w.before _ s = true := fun w h9 => hts w (List.mem_cons_of_mem _ h9)
  have hl : lv_has ls 2 [(0, .ref a), (1, .ref b)] := hl
  refine lv_aload_n hx hb dX0_meets_0 rfl (lv_at hl 0 rfl) ?_
  refine fh_get (C := RX0) (T := TX0) (N := 5) hx hb ht inX0 hown hE.1 hP ha rfl 1 (by decide) (ht _ kw_525) (fun _ h9 => h9) (v := .long x0) rfl dX0_meets_1 ?_
  refine lv_aload_n hx hb dX0_meets_4 rfl (lv_at hl 1 rfl) ?_
  refine fh_get (C := RX0) (T := TX0) (N := 5) hx hb ht inX0 hown hE.1 hP hb0 rfl 3 (by decide) (ht _ kw_527) (fun _ h9 => h9) (v := .long x3) rfl dX0_meets_5 ?_
  refine W.lcmp hx hb dX0_meets_8 ?_
  refine lv_if_gt (tgt := 52) hx hb dX0_meets_9 (by decide) (fun c0 => ?_) (fun c0 => ?_)
  · refine lv_iconst (v := (nI 0)) hx hb dX0_meets_52 (by decide) ?_
    exact fh_zret hx hb hr hlocks rfl (⟨congrArg (fun z => some (Value.int z)) (bI_0 (fun q => by have z := (lg_cmp_gt _ _).mp c0; simp only [arMeets, Bool.and_eq_true, decide_eq_true_eq, Int64.le_iff_toInt_le] at q; rw [Int64.lt_iff_toInt_lt] at z; omega)), rfl⟩) hP hS (Nat.le_of_ble_eq_true rfl) (Nat.le_of_ble_eq_true rfl) dX0_meets_53
  · refine lv_aload_n hx hb dX0_meets_12 rfl (lv_at hl 1 rfl) ?_
    refine fh_get (C := RX0) (T := TX0) (N := 5) hx hb ht inX0 hown hE.1 hP hb0 rfl 1 (by decide) (ht _ kw_525) (fun _ h9 => h9) (v := .long x2) rfl dX0_meets_13 ?_
    refine lv_aload_n hx hb dX0_meets_16 rfl (lv_at hl 0 rfl) ?_
    refine fh_get (C := RX0) (T := TX0) (N := 5) hx hb ht inX0 hown hE.1 hP ha rfl 3 (by decide) (ht _ kw_527) (fun _ h9 => h9) (v := .long x1) rfl dX0_meets_17 ?_
    refine W.lcmp hx hb dX0_meets_20 ?_
    refine lv_if_gt (tgt := 52) hx hb dX0_meets_21 (by decide) (fun c1 => ?_) (fun c1 => ?_)
    · refine lv_iconst (v := (nI 0)) hx hb dX0_meets_52 (by decide) ?_
      exact fh_zret hx hb hr hlocks rfl (⟨congrArg (fun z => some (Value.int z)) (bI_0 (fun q => by have z := (lg_cmp_gt _ _).mp c1; simp only [arMeets, Bool.and_eq_true, decide_eq_true_eq, Int64.le_iff_toInt_le] at q; rw [Int64.lt_iff_toInt_lt] at z; omega)), rfl⟩) hP hS (Nat.le_of_ble_eq_true rfl) (Nat.le_of_ble_eq_true rfl) dX0_meets_53
    · refine lv_aload_n hx hb dX0_meets_24 rfl (lv_at hl 0 rfl) ?_
      refine fh_get (C := RX0) (T := TX0) (N := 5) hx hb ht inX0 hown hE.1 hP ha rfl 2 (by decide) (ht _ kw_526) (fun _ h9 => h9) (v := .long y0) rfl dX0_meets_25 ?_
      refine lv_aload_n hx hb dX0_meets_28 rfl (lv_at hl 1 rfl) ?_
      refine fh_get (C := RX0) (T := TX0) (N := 5) hx hb ht inX0 hown hE.1 hP hb0 rfl 4 (by decide) (ht _ kw_528) (fun _ h9 => h9) (v := .long y3) rfl dX0_meets_29 ?_
      refine W.lcmp hx hb dX0_meets_32 ?_
      refine lv_if_gt (tgt := 52) hx hb dX0_meets_33 (by decide) (fun c2 => ?_) (fun c2 => ?_)
      · refine lv_iconst (v := (nI 0)) hx hb dX0_meets_52 (by decide) ?_
        exact fh_zret hx hb hr hlocks rfl (⟨congrArg (fun z => some (Value.int z)) (bI_0 (fun q => by have z := (lg_cmp_gt _ _).mp c2; simp only [arMeets, Bool.and_eq_true, decide_eq_true_eq, Int64.le_iff_toInt_le] at q; rw [Int64.lt_iff_toInt_lt] at z; omega)), rfl⟩) hP hS (Nat.le_of_ble_eq_true rfl) (Nat.le_of_ble_eq_true rfl) dX0_meets_53
      · refine lv_aload_n hx hb dX0_meets_36 rfl (lv_at hl 1 rfl) ?_
        refine fh_get (C := RX0) (T := TX0) (N := 5) hx hb ht inX0 hown hE.1 hP hb0 rfl 2 (by decide) (ht _ kw_526) (fun _ h9 => h9) (v := .long y2) rfl dX0_meets_37 ?_
        refine lv_aload_n hx hb dX0_meets_40 rfl (lv_at hl 0 rfl) ?_
        refine fh_get (C := RX0) (T := TX0) (N := 5) hx hb ht inX0 hown hE.1 hP ha rfl 4 (by decide) (ht _ kw_528) (fun _ h9 => h9) (v := .long y1) rfl dX0_meets_41 ?_
        refine W.lcmp hx hb dX0_meets_44 ?_
        refine lv_if_gt (tgt := 52) hx hb dX0_meets_45 (by decide) (fun c3 => ?_) (fun c3 => ?_)
        · refine lv_iconst (v := (nI 0)) hx hb dX0_meets_52 (by decide) ?_
          exact fh_zret hx hb hr hlocks rfl (⟨congrArg (fun z => some (Value.int z)) (bI_0 (fun q => by have z := (lg_cmp_gt _ _).mp c3; simp only [arMeets, Bool.and_eq_true, decide_eq_true_eq, Int64.le_iff_toInt_le] at q; rw [Int64.lt_iff_toInt_lt] at z; omega)), rfl⟩) hP hS (Nat.le_of_ble_eq_true rfl) (Nat.le_of_ble_eq_true rfl) dX0_meets_53
        · refine lv_iconst (v := (nI 1)) hx hb dX0_meets_48 (by decide) ?_
          refine lv_goto (tgt := 53) hx hb dX0_meets_49 (by decide) ?_
          exact fh_zret hx hb hr hlocks rfl (⟨congrArg (fun z => some (Value.int z)) (bI_1 (by have z0 := mt (lg_cmp_gt _ _).mpr c0; rw [Int64.lt_iff_toInt_lt] at z0; have z1 := mt (lg_cmp_gt _ _).mpr c1; rw [Int64.lt_iff_toInt_lt] at z1; have z2 := mt (lg_cmp_gt _ _).mpr c2; rw [Int64.lt_iff_toInt_lt] at z2; have z3 := mt (lg_cmp_gt _ _).mpr c3; rw [Int64.lt_iff_toInt_lt] at z3; simp only [arMeets, Bool.and_eq_true, decide_eq_true_eq, Int64.le_iff_toInt_le]; omega)), rfl⟩) hP hS (Nat.le_of_ble_eq_true rfl) (Nat.le_of_ble_eq_true rfl) dX0_meets_53

set_option maxRecDepth 100000 in
set_option maxHeartbeats 4000000 in
theorem c_Chg_init (l : Launch) (G : fG) (A : Nat → Prop) (h : FH) (sz : Nat) (hA : ∀ q, sz ≤ q → A q) (a : Nat) (hAa : A a) (ha : h a = some (.inr (1, [.null, .null, .int 0, .int 0]))) : Met l yX1_init wsX1_init { frames := 1, cells := 2, slots := 80, locals := 12 } (va_Pc [.ref a] (fh_Pre G A h sz)) (fh_Q G (fun v u => ∃ q r, sz ≤ q ∧ q < r ∧ v = none ∧ u = fh_up (fh_up (fh_up h q (aI 2 40 (fun _ => 0))) r (aQ 3 40 (fun _ => none))) a (oChg q r 0 0)) A) 2 80 A := by
  refine fh_Met [.ref a] (by decide) rfl (Nat.le_of_ble_eq_true rfl) ?_
  intro p e s m below meth c hx hb hr hlocks hml hown hnm hts hsz hP hE hS ls hl
  have ht : ∀ w ∈ wB, w.before _ s = true := fun w h9 => hts w (List.mem_cons_of_mem _ h9)
  have hl : lv_has ls 1 [(0, .ref a)] := hl
  have hA0 : ∀ q, s.heap.size ≤ q → A q := fun q hq => hA q (by rw [← hsz]; exact hq)
  have la : a < sz := by rw [← hsz]; exact hP.lt ha
  refine lv_aload_n hx hb dX1_init_0 rfl (lv_at hl 0 rfl) ?_
  refine W.objInit hx hb hown (ht _ kw_127) (ht _ kw_26) (ht _ kw_27) rfl (by rw [hml]; exact hl.1) rfl dX1_init_1 (Nat.le_of_ble_eq_true rfl) (Nat.le_of_ble_eq_true rfl) ?_
  refine W.eq (g2 := F0 m 4 ls []) rfl ?_
  refine lv_aload_n hx hb dX1_init_4 rfl (lv_at hl 0 rfl) ?_
  refine lv_bipush (v := (nI 40)) hx hb dX1_init_5 (by decide) ?_
  have hge1 := hS.1
  have hlt1 := fun (a9 : Nat) (e9 : fe) (q9 : h a9 = some e9) => hP.lt q9
  refine fh_newa (atype := .int) (t0 := .int) (N' := 40) (a0 := (40, .inl (fun _ => 0))) hx hb (ht _ kw_74) rfl hE.1 hP hS hA0 2 rfl (fun _ => rfl) (by decide) (by decide) (by decide) (Nat.le_of_ble_eq_true rfl) (Nat.le_of_ble_eq_true rfl) dX1_init_7 (fun q H eq hAq hP hz_q hS => ?_)
  obtain ⟨h_2, eh_2⟩ : ∃ z, z = fh_up h q (.inl (2, 40, .inl (fun _ => 0))) := ⟨_, rfl⟩
  have g_2_0 := (congrFun eh_2 a).trans (fh_keepN ha (Nat.ne_of_lt (by rw [eq]; exact hlt1 _ _ ha)))
  have hP : fh_P G vwCl h_2 H := by rw [eh_2]; exact hP
  have f_2 : h_2 q = some (.inl (2, 40, .inl (fun _ => 0))) := by rw [eh_2]; exact fh_up_self _ _ _
  have hsz_q : sz ≤ q := by rw [eq, ← hsz]; exact hge1
  refine fh_putF (C := RX1) (T := TX1) (N := 4) (t := (.array .int)) hx hb ht inX1 tyX1 tyX1_ok nmX1 hown hE.1 hP hS g_2_0 (hAa) rfl 0 (by decide) (ht _ kw_129) (fun _ h9 => h9) rfl hnm rfl (by decide +kernel) rfl rfl (Nat.le_of_ble_eq_true rfl) dX1_init_9 (fun H locs hP hz hS => ?_)
  obtain ⟨h_3, eh_3⟩ : ∃ z, z = fh_up h_2 a (.inr (1, [.ref q, .null, .int 0, .int 0])) := ⟨_, rfl⟩
  have hP : fh_P G vwCl h_3 H := by rw [eh_3]; exact hP
  have f_3 : h_3 a = some (.inr (1, [.ref q, .null, .int 0, .int 0])) := by rw [eh_3]; exact fh_up_self _ _ _
  have g_3_1 := (congrFun eh_3 q).trans (fh_keep g_2_0 f_2 rfl)
  refine lv_aload_n hx hb dX1_init_12 rfl (lv_at hl 0 rfl) ?_
  refine lv_bipush (v := (nI 40)) hx hb dX1_init_13 (by decide) ?_
  have hzq := hz
  have hge4 := hS.1
  have hlt4 := fun (a9 : Nat) (e9 : fe) (q9 : h_3 a9 = some e9) => hP.lt q9
  refine fh_newq (N' := 40) hx hb hown (ht _ kw_128) (hE.2.2.2.2.1 "ObjectMerge$Row" (by decide)) hE.1 hP hS hA0 3 rfl (by decide) (by decide) (by decide) (Nat.le_of_ble_eq_true rfl) (Nat.le_of_ble_eq_true rfl) dX1_init_15 (fun r H er hAr hP hz_r hS => ?_)
  obtain ⟨h_5, eh_5⟩ : ∃ z, z = fh_up h_3 r (.inl (3, 40, .inr (.inr (.inr (.inr (fun _ => none)))))) := ⟨_, rfl⟩
  have g_5_0 := (congrFun eh_5 q).trans (fh_keepN g_3_1 (Nat.ne_of_lt (by rw [er]; exact hlt4 _ _ g_3_1)))
  have g_5_1 := (congrFun eh_5 a).trans (fh_keepN f_3 (Nat.ne_of_lt (by rw [er]; exact hlt4 _ _ f_3)))
  have hP : fh_P G vwCl h_5 H := by rw [eh_5]; exact hP
  have f_5 : h_5 r = some (.inl (3, 40, .inr (.inr (.inr (.inr (fun _ => none)))))) := by rw [eh_5]; exact fh_up_self _ _ _
  have hsz_r : sz ≤ r := by rw [er, ← hsz]; exact hge4
  refine fh_putF (C := RX1) (T := TX1) (N := 4) (t := (.array (.object "ObjectMerge$Row"))) hx hb ht inX1 tyX1 tyX1_ok nmX1 hown hE.1 hP hS g_5_1 (hAa) rfl 1 (by decide) (ht _ kw_130) (fun _ h9 => h9) rfl hnm rfl (by decide +kernel) rfl rfl (Nat.le_of_ble_eq_true rfl) dX1_init_18 (fun H locs hP hz hS => ?_)
  obtain ⟨h_6, eh_6⟩ : ∃ z, z = fh_up h_5 a (.inr (1, [.ref q, .ref r, .int 0, .int 0])) := ⟨_, rfl⟩
  have hP : fh_P G vwCl h_6 H := by rw [eh_6]; exact hP
  have f_6 : h_6 a = some (.inr (1, [.ref q, .ref r, .int 0, .int 0])) := by rw [eh_6]; exact fh_up_self _ _ _
  have g_6_0 := (congrFun eh_6 q).trans (fh_keep g_5_1 g_5_0 rfl)
  have g_6_2 := (congrFun eh_6 r).trans (fh_keep g_5_1 f_5 rfl)
  exact fh_vret hx hb hr hlocks (⟨q, r, hsz_q, by omega, rfl, by rw [eh_6, eh_5, eh_3, eh_2, fh_upcomm _ _ _ (show a ≠ r by omega)]; simp only [fh_upup]⟩) hP hS (Nat.le_of_ble_eq_true rfl) (Nat.le_of_ble_eq_true rfl) dX1_init_21

set_option maxRecDepth 100000 in
set_option maxHeartbeats 4000000 in
theorem c_fmod (l : Launch) (G : fG) (A : Nat → Prop) (h : FH) (sz : Nat) (n : Nat) (hn : n < 1000000) : Met l yXM_floorMod wsXM_floorMod { frames := 0, cells := 0, slots := 0, locals := 0 } (va_Pc [.int (nI n), .int (nI 40)] (fh_Pre G A h sz)) (fh_Q G (fun v u => v = some (.int (nI (n % 40))) ∧ u = h) A) 0 0 A := by
  refine fh_MetF [.int (nI n), .int (nI 40)] (by decide +kernel) rfl (Nat.le_of_ble_eq_true rfl) ?_
  intro p e s m below meth c hx hb hr hlocks hml hown hnm hts hsz hP hE hS ls hl
  have ht : ∀ w ∈ wB, w.before _ s = true := fun w h9 => hts w (List.mem_cons_of_mem _ h9)
  have hl : lv_has ls 3 [(0, .int (nI n)), (1, .int (nI 40))] := hl
  refine lv_iload_n hx hb dXM_floorMod_0 rfl (lv_at hl 0 rfl) ?_
  refine lv_iload_n hx hb dXM_floorMod_1 rfl (lv_at hl 1 rfl) ?_
  refine lv_irem hx hb dXM_floorMod_2 (by decide) ?_
  refine lv_topi (fun z9 ez9 => ?_)
  rw [show z9 = nI (n % 40) from ez9.trans (fm_rem hn)]
  refine lv_istore_n (lv' := [(2, .int (nI (n % 40))), (0, .int (nI n)), (1, .int (nI 40))]) hx hb dXM_floorMod_3 rfl hl (by decide) rfl (fun ls hl => ?_)
  refine lv_iload_n hx hb dXM_floorMod_4 rfl (lv_at hl 1 rfl) ?_
  refine lv_iload_n hx hb dXM_floorMod_5 rfl (lv_at hl 2 rfl) ?_
  refine lv_ixor hx hb dXM_floorMod_6 ?_
  refine lv_if_ge (tgt := 18) hx hb dXM_floorMod_7 (by decide) (fun _ => ?_) (fun c9 => absurd (fm_ge hn) c9)
  refine lv_iload_n hx hb dXM_floorMod_18 rfl (lv_at hl 0 rfl) ?_
  exact fh_iret hx hb hr hlocks (⟨rfl, rfl⟩) hP hS (Nat.le_of_ble_eq_true rfl) (Nat.le_of_ble_eq_true rfl) dXM_floorMod_19

set_option maxRecDepth 100000 in
set_option maxHeartbeats 4000000 in
theorem c_Chg_place (l : Launch) (G : fG) (A : Nat → Prop) (h : FH) (sz : Nat) (a ob rw nx : Nat) (ct : Int32) (ha : h a = some (oChg ob rw (nI nx) ct)) (hn : nx < 1000000) : Met l yX1_place wsX1_place { frames := 1, cells := 0, slots := 0, locals := 22 } (va_Pc [.ref a] (fh_Pre G A h sz)) (fh_Q G (fun v u => v = some (.int (nI (nx % 40))) ∧ u = h) A) 0 0 A := by
  refine fh_Met [.ref a] (by decide) rfl (Nat.le_of_ble_eq_true rfl) ?_
  intro p e s m below meth c hx hb hr hlocks hml hown hnm hts hsz hP hE hS ls hl
  have ht : ∀ w ∈ wB, w.before _ s = true := fun w h9 => hts w (List.mem_cons_of_mem _ h9)
  have hl : lv_has ls 1 [(0, .ref a)] := hl
  refine lv_aload_n hx hb dX1_place_0 rfl (lv_at hl 0 rfl) ?_
  refine fh_get (C := RX1) (T := TX1) (N := 4) hx hb ht inX1 hown hE.1 hP ha rfl 2 (by decide) (ht _ kw_131) (fun _ h9 => h9) (v := .int (nI nx)) rfl dX1_place_1 ?_
  refine lv_bipush (v := (nI 40)) hx hb dX1_place_4 (by decide) ?_
  refine fh_cS (As := [.int (nI nx), .int (nI 40)]) (rest := []) ⟨hx, hb, hml, hown, ht⟩ (c_fmod l G A h _ nx hn) (va_cwS 2 ht (gS kw_378 kw_379 kw_15 kw_380) rfl rfl rfl yd_XM_floorMod.2 ⟨(Nat.le_of_ble_eq_true rfl), (Nat.le_of_ble_eq_true rfl)⟩) hP hE hS rfl hl.1 rfl (Nat.le_of_ble_eq_true rfl) dX1_place_6 ⟨(Nat.le_of_ble_eq_true rfl), (Nat.le_of_ble_eq_true rfl)⟩ (fun v u H locs hp hP hz hS => ?_)
  obtain ⟨rfl, eu⟩ := hp
  rw [eu] at hP
  refine W.eq (g2 := F0 m 9 ls [.int (nI (nx % 40))]) rfl ?_
  exact fh_iret hx hb hr hlocks (⟨rfl, rfl⟩) hP hS (Nat.le_of_ble_eq_true rfl) (Nat.le_of_ble_eq_true rfl) dX1_place_9

set_option maxRecDepth 100000 in
set_option maxHeartbeats 4000000 in
theorem c_Chg_obj (l : Launch) (G : fG) (A : Nat → Prop) (h : FH) (sz : Nat) (a ob rw nx : Nat) (ct : Int32) (fo : Nat → Int32) (fr : Nat → Option Nat) (ha : h a = some (oChg ob rw (nI nx) ct)) (ho : h ob = some (aI 2 40 fo)) (hr0 : h rw = some (aQ 3 40 fr)) (hn : nx < 1000000) : Met l yX1_changedObject wsX1_changedObject { frames := 2, cells := 0, slots := 0, locals := 42 } (va_Pc [.ref a] (fh_Pre G A h sz)) (fh_Q G (fun v u => v = some (.int (fo (nx % 40))) ∧ u = h) A) 0 0 A := by
  refine fh_Met [.ref a] (by decide) rfl (Nat.le_of_ble_eq_true rfl) ?_
  intro p e s m below meth c hx hb hr hlocks hml hown hnm hts hsz hP hE hS ls hl
  have ht : ∀ w ∈ wB, w.before _ s = true := fun w h9 => hts w (List.mem_cons_of_mem _ h9)
  have hl : lv_has ls 1 [(0, .ref a)] := hl
  refine lv_aload_n hx hb dX1_changedObject_0 rfl (lv_at hl 0 rfl) ?_
  refine fh_get (C := RX1) (T := TX1) (N := 4) hx hb ht inX1 hown hE.1 hP ha rfl 0 (by decide) (ht _ kw_129) (fun _ h9 => h9) (v := .ref ob) rfl dX1_changedObject_1 ?_
  refine lv_aload_n hx hb dX1_changedObject_4 rfl (lv_at hl 0 rfl) ?_
  refine fh_cV (q := (RX1, TX1, 4)) (As := []) (rest := [.ref ob]) (b := a) ⟨hx, hb, hml, hown, ht⟩ (c_Chg_place l G A h _ a ob rw nx ct ha hn) (cwV 0 ht (gV kw_374 kw_376 kp_7 kw_12 kw_377) rfl rfl rfl yd_X1_place ⟨(Nat.le_of_ble_eq_true rfl), (Nat.le_of_ble_eq_true rfl)⟩) hP hE hS ha rfl rfl hl.1 rfl (Nat.le_of_ble_eq_true rfl) dX1_changedObject_5 ⟨(Nat.le_of_ble_eq_true rfl), (Nat.le_of_ble_eq_true rfl)⟩ (fun v u H locs hp hP hz hS => ?_)
  obtain ⟨rfl, eu⟩ := hp
  rw [eu] at hP
  refine W.eq (g2 := F0 m 8 ls [.int (nI (nx % 40)), .ref ob]) rfl ?_
  refine fh_iald (k := (nx % 40)) hx hb hE.1 hP ho rfl ((Nat.mod_lt _ (by decide))) (by decide) dX1_changedObject_8 ?_
  exact fh_iret hx hb hr hlocks (⟨rfl, rfl⟩) hP hS (Nat.le_of_ble_eq_true rfl) (Nat.le_of_ble_eq_true rfl) dX1_changedObject_9

set_option maxRecDepth 100000 in
set_option maxHeartbeats 4000000 in
theorem c_Chg_row (l : Launch) (G : fG) (A : Nat → Prop) (h : FH) (sz : Nat) (a ob rw nx : Nat) (ct : Int32) (fo : Nat → Int32) (fr : Nat → Option Nat) (ha : h a = some (oChg ob rw (nI nx) ct)) (ho : h ob = some (aI 2 40 fo)) (hr0 : h rw = some (aQ 3 40 fr)) (hn : nx < 1000000) : Met l yX1_rowBefore wsX1_rowBefore { frames := 2, cells := 0, slots := 0, locals := 42 } (va_Pc [.ref a] (fh_Pre G A h sz)) (fh_Q G (fun v u => v = some (va_rf (fr (nx % 40))) ∧ u = h) A) 0 0 A := by
  refine fh_Met [.ref a] (by decide) rfl (Nat.le_of_ble_eq_true rfl) ?_
  intro p e s m below meth c hx hb hr hlocks hml hown hnm hts hsz hP hE hS ls hl
  have ht : ∀ w ∈ wB, w.before _ s = true := fun w h9 => hts w (List.mem_cons_of_mem _ h9)
  have hl : lv_has ls 1 [(0, .ref a)] := hl
  refine lv_aload_n hx hb dX1_rowBefore_0 rfl (lv_at hl 0 rfl) ?_
  refine fh_get (C := RX1) (T := TX1) (N := 4) hx hb ht inX1 hown hE.1 hP ha rfl 1 (by decide) (ht _ kw_130) (fun _ h9 => h9) (v := .ref rw) rfl dX1_rowBefore_1 ?_
  refine lv_aload_n hx hb dX1_rowBefore_4 rfl (lv_at hl 0 rfl) ?_
  refine fh_cV (q := (RX1, TX1, 4)) (As := []) (rest := [.ref rw]) (b := a) ⟨hx, hb, hml, hown, ht⟩ (c_Chg_place l G A h _ a ob rw nx ct ha hn) (cwV 0 ht (gV kw_374 kw_376 kp_7 kw_12 kw_377) rfl rfl rfl yd_X1_place ⟨(Nat.le_of_ble_eq_true rfl), (Nat.le_of_ble_eq_true rfl)⟩) hP hE hS ha rfl rfl hl.1 rfl (Nat.le_of_ble_eq_true rfl) dX1_rowBefore_5 ⟨(Nat.le_of_ble_eq_true rfl), (Nat.le_of_ble_eq_true rfl)⟩ (fun v u H locs hp hP hz hS => ?_)
  obtain ⟨rfl, eu⟩ := hp
  rw [eu] at hP
  refine W.eq (g2 := F0 m 8 ls [.int (nI (nx % 40)), .ref rw]) rfl ?_
  refine fh_aald (k := (nx % 40)) hx hb hE.1 hP hr0 rfl ((Nat.mod_lt _ (by decide))) (by decide) dX1_rowBefore_8 ?_
  exact fh_aret (o := fr (nx % 40)) hx hb hr hlocks (⟨rfl, rfl⟩) hP hS (Nat.le_of_ble_eq_true rfl) (Nat.le_of_ble_eq_true rfl) dX1_rowBefore_9

set_option maxRecDepth 100000 in
set_option maxHeartbeats 4000000 in
theorem c_Draw_init (l : Launch) (G : fG) (A : Nat → Prop) (h : FH) (sz : Nat) (a : Nat) (x : Int64) (hAa : A a) (ha : h a = some (.inr (3, [.long 0]))) : Met l yX3_init wsX3_init { frames := 1, cells := 0, slots := 0, locals := 12 } (va_Pc [.ref a, .long x] (fh_Pre G A h sz)) (fh_Q G (fun v u => v = none ∧ u = fh_up h a (oDraw x)) A) 0 0 A := by
  refine fh_Met [.ref a, .long x] (by decide) rfl (Nat.le_of_ble_eq_true rfl) ?_
  intro p e s m below meth c hx hb hr hlocks hml hown hnm hts hsz hP hE hS ls hl
  have ht : ∀ w ∈ wB, w.before _ s = true := fun w h9 => hts w (List.mem_cons_of_mem _ h9)
  have hl : lv_has ls 3 [(0, .ref a), (1, .long x)] := hl
  refine lv_aload_n hx hb dX3_init_0 rfl (lv_at hl 0 rfl) ?_
  refine W.objInit hx hb hown (ht _ kw_654) (ht _ kw_26) (ht _ kw_27) rfl (by rw [hml]; exact hl.1) rfl dX3_init_1 (Nat.le_of_ble_eq_true rfl) (Nat.le_of_ble_eq_true rfl) ?_
  refine W.eq (g2 := F0 m 4 ls []) rfl ?_
  refine lv_aload_n hx hb dX3_init_4 rfl (lv_at hl 0 rfl) ?_
  refine lv_lload_n hx hb dX3_init_5 rfl (lv_at hl 1 rfl) ?_
  refine fh_put (C := RX3) (T := TX3) (N := 1) (t := .long) hx hb ht inX3 tyX3 tyX3_ok nmX3 hown hE.1 hP hS ha (hAa) rfl 0 (by decide) (ht _ kw_655) (fun _ h9 => h9) rfl (by decide +kernel) rfl rfl (Nat.le_of_ble_eq_true rfl) dX3_init_6 (fun H locs hP hz hS => ?_)
  obtain ⟨h_1, eh_1⟩ : ∃ z, z = fh_up h a (.inr (3, [.long x])) := ⟨_, rfl⟩
  have hP : fh_P G vwCl h_1 H := by rw [eh_1]; exact hP
  have f_1 : h_1 a = some (.inr (3, [.long x])) := by rw [eh_1]; exact fh_up_self _ _ _
  exact fh_vret hx hb hr hlocks (⟨rfl, by rw [eh_1]⟩) hP hS (Nat.le_of_ble_eq_true rfl) (Nat.le_of_ble_eq_true rfl) dX3_init_9
