abbrev cXI_bitCount : ByteArray := prog_17_method_49_code
def RXI : String := "java/lang/Integer"
def yXI_bitCount : MethodName := ⟨RXI, "bitCount", "(I)I"⟩
abbrev wsXI_bitCount : List Cond := .code yXI_bitCount cXI_bitCount 1 (some .int) :: wB
theorem yd_XI_bitCount : yXI_bitCount.cls = RXI ∧ yXI_bitCount.cls ≠ "java/lang/invoke/MethodHandle" ∧ yXI_bitCount.cls ≠ "java/lang/invoke/VarHandle" ∧ (parseMethodDescriptor yXI_bitCount.desc).map (fun d => d.parameters.length) = some 1 := by decide +kernel
theorem dXI_bitCount_0 : decode cXI_bitCount 0 = .ok (.iload_n 0, 1) := by decide +kernel
theorem dXI_bitCount_1 : decode cXI_bitCount 1 = .ok (.iload_n 0, 1) := by decide +kernel
theorem dXI_bitCount_2 : decode cXI_bitCount 2 = .ok (.iconst 1, 1) := by decide +kernel
theorem dXI_bitCount_3 : decode cXI_bitCount 3 = .ok (.iushr, 1) := by decide +kernel
theorem dXI_bitCount_4 : decode cXI_bitCount 4 = .ok (.ldc_w 265, 3) := by decide +kernel
theorem dXI_bitCount_7 : decode cXI_bitCount 7 = .ok (.iand, 1) := by decide +kernel
theorem dXI_bitCount_8 : decode cXI_bitCount 8 = .ok (.isub, 1) := by decide +kernel
theorem dXI_bitCount_9 : decode cXI_bitCount 9 = .ok (.istore_n 0, 1) := by decide +kernel
theorem dXI_bitCount_10 : decode cXI_bitCount 10 = .ok (.iload_n 0, 1) := by decide +kernel
theorem dXI_bitCount_11 : decode cXI_bitCount 11 = .ok (.ldc_w 266, 3) := by decide +kernel
theorem dXI_bitCount_14 : decode cXI_bitCount 14 = .ok (.iand, 1) := by decide +kernel
theorem dXI_bitCount_15 : decode cXI_bitCount 15 = .ok (.iload_n 0, 1) := by decide +kernel
theorem dXI_bitCount_16 : decode cXI_bitCount 16 = .ok (.iconst 2, 1) := by decide +kernel
theorem dXI_bitCount_17 : decode cXI_bitCount 17 = .ok (.iushr, 1) := by decide +kernel
theorem dXI_bitCount_18 : decode cXI_bitCount 18 = .ok (.ldc_w 266, 3) := by decide +kernel
theorem dXI_bitCount_21 : decode cXI_bitCount 21 = .ok (.iand, 1) := by decide +kernel
theorem dXI_bitCount_22 : decode cXI_bitCount 22 = .ok (.iadd, 1) := by decide +kernel
theorem dXI_bitCount_23 : decode cXI_bitCount 23 = .ok (.istore_n 0, 1) := by decide +kernel
theorem dXI_bitCount_24 : decode cXI_bitCount 24 = .ok (.iload_n 0, 1) := by decide +kernel
theorem dXI_bitCount_25 : decode cXI_bitCount 25 = .ok (.iload_n 0, 1) := by decide +kernel
theorem dXI_bitCount_26 : decode cXI_bitCount 26 = .ok (.iconst 4, 1) := by decide +kernel
theorem dXI_bitCount_27 : decode cXI_bitCount 27 = .ok (.iushr, 1) := by decide +kernel
theorem dXI_bitCount_28 : decode cXI_bitCount 28 = .ok (.iadd, 1) := by decide +kernel
theorem dXI_bitCount_29 : decode cXI_bitCount 29 = .ok (.ldc_w 267, 3) := by decide +kernel
theorem dXI_bitCount_32 : decode cXI_bitCount 32 = .ok (.iand, 1) := by decide +kernel
theorem dXI_bitCount_33 : decode cXI_bitCount 33 = .ok (.istore_n 0, 1) := by decide +kernel
theorem dXI_bitCount_34 : decode cXI_bitCount 34 = .ok (.iload_n 0, 1) := by decide +kernel
theorem dXI_bitCount_35 : decode cXI_bitCount 35 = .ok (.iload_n 0, 1) := by decide +kernel
theorem dXI_bitCount_36 : decode cXI_bitCount 36 = .ok (.bipush 8, 2) := by decide +kernel
theorem dXI_bitCount_38 : decode cXI_bitCount 38 = .ok (.iushr, 1) := by decide +kernel
theorem dXI_bitCount_39 : decode cXI_bitCount 39 = .ok (.iadd, 1) := by decide +kernel
theorem dXI_bitCount_40 : decode cXI_bitCount 40 = .ok (.istore_n 0, 1) := by decide +kernel
theorem dXI_bitCount_41 : decode cXI_bitCount 41 = .ok (.iload_n 0, 1) := by decide +kernel
theorem dXI_bitCount_42 : decode cXI_bitCount 42 = .ok (.iload_n 0, 1) := by decide +kernel
theorem dXI_bitCount_43 : decode cXI_bitCount 43 = .ok (.bipush 16, 2) := by decide +kernel
theorem dXI_bitCount_45 : decode cXI_bitCount 45 = .ok (.iushr, 1) := by decide +kernel
theorem dXI_bitCount_46 : decode cXI_bitCount 46 = .ok (.iadd, 1) := by decide +kernel
theorem dXI_bitCount_47 : decode cXI_bitCount 47 = .ok (.istore_n 0, 1) := by decide +kernel
theorem dXI_bitCount_48 : decode cXI_bitCount 48 = .ok (.iload_n 0, 1) := by decide +kernel
theorem dXI_bitCount_49 : decode cXI_bitCount 49 = .ok (.bipush 63, 2) := by decide +kernel
theorem dXI_bitCount_51 : decode cXI_bitCount 51 = .ok (.iand, 1) := by decide +kernel
theorem dXI_bitCount_52 : decode cXI_bitCount 52 = .ok (.ireturn, 1) := by decide +kernel
theorem sh31 : ∀ n, n < 32 → (1 : Int32) <<< (nI n &&& 31) = 1 <<< nI n := by decide +kernel
theorem wb_of32' (x : Int32) : ∃ n, n < 2 ^ 32 ∧ x = nI n := ⟨x.toBitVec.toNat, x.toBitVec.isLt, Int32.toBitVec_inj.mp (by show _ = BitVec.ofNat 32 _; simp)⟩
theorem nI_bv {n : Nat} (h : n < 2 ^ 32) : (nI n).toBitVec.toNat = n := by
  show (BitVec.ofNat 32 n).toNat = n
  rw [BitVec.toNat_ofNat, Nat.mod_eq_of_lt h]
theorem c_pt0 (l : Launch) (G : fG) (A : Nat → Prop) (h : FH) (sz : Nat) (hA : ∀ q, sz ≤ q → A q) (hAh : fh_A A h) {Kq : Nat} (xa : Nat) (ad : Ad) (no nv ns : Nat) (V : Nat → St) (S : Nat → Ses) (LK : List Ar) (RL : List (Nat × Nat × Int64)) (J : Nat) (C : CL) (M : Nat → Int32) (q : Nat → Nat) (s9 : Ses) (hR : RepC Kq h xa (adS ad ns q) no nv (ns + 1) V (upN S ns s9) LK RL J C M) (hno : no ≤ 60) (d : Nat) (x : Int64) (hd : h d = some (oDraw x)) (hK9 : Kq < 1000000) : Met l yX9_playTurn wsX9_playTurn { frames := 5, cells := 2, slots := 7, locals := 120 } (va_Pc [.ref xa, .ref (q 0), .ref d] (fh_Pre G A h sz)) (fh_Q G (fun v u => v = some (.int (bI (ptStep no LK ns s9 x).1)) ∧ fh_A A u ∧ kp kC h u ∧ u d = some (oDraw (ptStep no LK ns s9 x).2.2) ∧ RepC (Kq + 1) u xa (adS ad ns q) no nv (ns + 1) V (upN S ns (ptStep no LK ns s9 x).2.1) LK RL J C M) A) 2 7 A := by
  have z := c_X_playTurn l G A h sz hA hAh xa (adS ad ns q) no nv (ns + 1) V (upN S ns s9) LK RL J C M hR ns (Nat.lt_succ_self ns) hno d x hd hK9
  rw [adS_s] at z
  simp only [upN_s, upN_up] at z
  exact z
theorem c_tj0 (l : Launch) (G : fG) (A : Nat → Prop) (h : FH) (sz : Nat) (hA : ∀ q, sz ≤ q → A q) (hAh : fh_A A h) {Kq : Nat} (xa : Nat) (ad : Ad) (no nv ns : Nat) (V : Nat → St) (S : Nat → Ses) (LK : List Ar) (RL : List (Nat × Nat × Int64)) (J : Nat) (C : CL) (M : Nat → Int32) (q : Nat → Nat) (s9 : Ses) (hR : RepC Kq h xa (adS ad ns q) no nv (ns + 1) V (upN S ns s9) LK RL J C M) (hnv : nv < 40) (hnv0 : 0 < nv) (hbs : ∀ i, i < ns → (S i).1 < nv) (hb9 : s9.1 = nv - 1) : Met l yX9_tryJoin wsX9_tryJoin { frames := 5, cells := 722, slots := 2581, locals := 140 } (va_Pc [.ref xa, .ref (q 0)] (fh_Pre G A h sz)) (fh_Q G (fun v u => ∃ ad2 : Ad, v = some (.int (nI (unsN s9.2.2.2.2 (gathL (V s9.1) s9.2.1 (V (nv - 1)) 60)))) ∧ fh_A A u ∧ kp kC h u ∧ ((unsN s9.2.2.2.2 (gathL (V s9.1) s9.2.1 (V (nv - 1)) 60) ≠ 0 ∧ RepC Kq u xa ad2 no nv (ns + 1) V (upN S ns s9) LK RL ns (gathL (V s9.1) s9.2.1 (V (nv - 1)) 60) M) ∨ (unsN s9.2.2.2.2 (gathL (V s9.1) s9.2.1 (V (nv - 1)) 60) = 0 ∧ RepC Kq u xa ad2 no (nv + 1) (ns + 1) (upN V nv (mrg (V s9.1) s9 (V (nv - 1)))) (upN (upN S ns s9) ns (sClose s9)) (LK.filter (fun a => decide (a.1 ≠ nI ns))) RL ns (gathL (V s9.1) s9.2.1 (V (nv - 1)) 60) (mkM (mrg (V s9.1) s9 (V (nv - 1))) (V (nv - 1)) M)))) A) 722 2581 A := by
  have z := c_X_tryJoin l G A h sz hA hAh xa (adS ad ns q) no nv (ns + 1) V (upN S ns s9) LK RL J C M hR ns (Nat.lt_succ_self ns) hnv hnv0 (fun i hi => by
    by_cases c : i = ns
    · subst c; rw [upN_s]; omega
    · rw [upN_n _ _ c]; exact hbs i (by omega))
  rw [adS_s] at z
  simp only [upN_s] at z
  exact z
set_option maxRecDepth 100000 in
set_option maxHeartbeats 4000000 in
theorem c_bitCount (l : Launch) (G : fG) (A : Nat → Prop) (h : FH) (sz : Nat) (n : Nat) (hn : n < 2 ^ 32) : Met l yXI_bitCount wsXI_bitCount { frames := 0, cells := 0, slots := 0, locals := 0 } (va_Pc [.int (nI n)] (fh_Pre G A h sz)) (fh_Q G (fun v u => v = some (.int (nI (bitS n 32))) ∧ u = h) A) 0 0 A := by
  refine fh_Met [.int (nI n)] (by decide) rfl (Nat.le_of_ble_eq_true rfl) ?_
  intro p e s m below meth c hx hb hr hlocks hml hown hnm hts hsz hP hE hS ls hl
  have ht : ∀ w ∈ wB, w.before _ s = true := fun w h9 => hts w (List.mem_cons_of_mem _ h9)
  have hl : lv_has ls 1 [(0, .int (nI n))] := hl
  obtain ⟨s1, s2, s3, s4, s5, k0, k1, g1, k2, g2, k3, g3, k4, g4, k5, g5, k6⟩ := bcAll n hn
  refine lv_iload_n hx hb dXI_bitCount_0 rfl (lv_at hl 0 rfl) ?_
  refine lv_iload_n hx hb dXI_bitCount_1 rfl (lv_at hl 0 rfl) ?_
  refine lv_iconst (v := (nI 1)) hx hb dXI_bitCount_2 (by decide) ?_
  refine lv_iushr (v := ((nI n).toUInt32 >>> ((nI 1).toUInt32 &&& Int32.toUInt32 31)).toInt32) hx hb dXI_bitCount_3 rfl ?_
  refine lv_topi (fun z9 ez9 => ?_)
  rw [show z9 = nI (n / 2) from ez9.trans ((pk_ushrN hn (nI 1) 1 (by decide)))]
  refine lv_ldcw (v := 1431655765) hx hb hown (ht _ kw_681) dXI_bitCount_4 ?_
  refine W.eq (g2 := F0 m 7 ls [.int (nI 1431655765), .int (nI (n / 2)), .int (nI n)]) rfl ?_
  refine lv_iand hx hb dXI_bitCount_7 ?_
  refine lv_topi (fun z9 ez9 => ?_)
  rw [show z9 = nI (n / 2 &&& 1431655765) from ez9.trans (nx_and' _ _)]
  refine lv_isub hx hb dXI_bitCount_8 ?_
  refine lv_topi (fun z9 ez9 => ?_)
  rw [show z9 = nI s1 from ez9.trans ((pk_sub k0).trans (by rw [k1]))]
  refine lv_istore_n (lv' := [(0, .int (nI s1))]) hx hb dXI_bitCount_9 rfl hl (by decide) rfl (fun ls hl => ?_)
  refine lv_iload_n hx hb dXI_bitCount_10 rfl (lv_at hl 0 rfl) ?_
  refine lv_ldcw (v := 858993459) hx hb hown (ht _ kw_682) dXI_bitCount_11 ?_
  refine W.eq (g2 := F0 m 14 ls [.int (nI 858993459), .int (nI s1)]) rfl ?_
  refine lv_iand hx hb dXI_bitCount_14 ?_
  refine lv_topi (fun z9 ez9 => ?_)
  rw [show z9 = nI (s1 &&& 858993459) from ez9.trans (nx_and' _ _)]
  refine lv_iload_n hx hb dXI_bitCount_15 rfl (lv_at hl 0 rfl) ?_
  refine lv_iconst (v := (nI 2)) hx hb dXI_bitCount_16 (by decide) ?_
  refine lv_iushr (v := ((nI s1).toUInt32 >>> ((nI 2).toUInt32 &&& Int32.toUInt32 31)).toInt32) hx hb dXI_bitCount_17 rfl ?_
  refine lv_topi (fun z9 ez9 => ?_)
  rw [show z9 = nI (s1 / 4) from ez9.trans ((pk_ushrN g1 (nI 2) 2 (by decide)))]
  refine lv_ldcw (v := 858993459) hx hb hown (ht _ kw_682) dXI_bitCount_18 ?_
  refine W.eq (g2 := F0 m 21 ls [.int (nI 858993459), .int (nI (s1 / 4)), .int (nI (s1 &&& 858993459))]) rfl ?_
  refine lv_iand hx hb dXI_bitCount_21 ?_
  refine lv_topi (fun z9 ez9 => ?_)
  rw [show z9 = nI (s1 / 4 &&& 858993459) from ez9.trans (nx_and' _ _)]
  refine lv_iadd hx hb dXI_bitCount_22 ?_
  refine lv_topi (fun z9 ez9 => ?_)
  rw [show z9 = nI ((s1 &&& 858993459) + (s1 / 4 &&& 858993459)) from ez9.trans (nI_add _ _)]
  rw [← k2]
  refine W.eq (g2 := F0 m 23 ls [.int (nI s2)]) rfl ?_
  refine lv_istore_n (lv' := [(0, .int (nI s2))]) hx hb dXI_bitCount_23 rfl hl (by decide) rfl (fun ls hl => ?_)
  refine lv_iload_n hx hb dXI_bitCount_24 rfl (lv_at hl 0 rfl) ?_
  refine lv_iload_n hx hb dXI_bitCount_25 rfl (lv_at hl 0 rfl) ?_
  refine lv_iconst (v := (nI 4)) hx hb dXI_bitCount_26 (by decide) ?_
  refine lv_iushr (v := ((nI s2).toUInt32 >>> ((nI 4).toUInt32 &&& Int32.toUInt32 31)).toInt32) hx hb dXI_bitCount_27 rfl ?_
  refine lv_topi (fun z9 ez9 => ?_)
  rw [show z9 = nI (s2 / 16) from ez9.trans ((pk_ushrN g2 (nI 4) 4 (by decide)))]
  refine lv_iadd hx hb dXI_bitCount_28 ?_
  refine lv_topi (fun z9 ez9 => ?_)
  rw [show z9 = nI (s2 + (s2 / 16)) from ez9.trans (nI_add _ _)]
  refine lv_ldcw (v := 252645135) hx hb hown (ht _ kw_683) dXI_bitCount_29 ?_
  refine W.eq (g2 := F0 m 32 ls [.int (nI 252645135), .int (nI (s2 + (s2 / 16)))]) rfl ?_
  refine lv_iand hx hb dXI_bitCount_32 ?_
  refine lv_topi (fun z9 ez9 => ?_)
  rw [show z9 = nI s3 from ez9.trans ((nx_and' _ _).trans (by rw [k3]))]
  refine lv_istore_n (lv' := [(0, .int (nI s3))]) hx hb dXI_bitCount_33 rfl hl (by decide) rfl (fun ls hl => ?_)
  refine lv_iload_n hx hb dXI_bitCount_34 rfl (lv_at hl 0 rfl) ?_
  refine lv_iload_n hx hb dXI_bitCount_35 rfl (lv_at hl 0 rfl) ?_
  refine lv_bipush (v := (nI 8)) hx hb dXI_bitCount_36 (by decide) ?_
  refine lv_iushr (v := ((nI s3).toUInt32 >>> ((nI 8).toUInt32 &&& Int32.toUInt32 31)).toInt32) hx hb dXI_bitCount_38 rfl ?_
  refine lv_topi (fun z9 ez9 => ?_)
  rw [show z9 = nI (s3 / 256) from ez9.trans ((pk_ushrN g3 (nI 8) 8 (by decide)))]
  refine lv_iadd hx hb dXI_bitCount_39 ?_
  refine lv_topi (fun z9 ez9 => ?_)
  rw [show z9 = nI (s3 + (s3 / 256)) from ez9.trans (nI_add _ _)]
  rw [← k4]
  refine W.eq (g2 := F0 m 40 ls [.int (nI s4)]) rfl ?_
  refine lv_istore_n (lv' := [(0, .int (nI s4))]) hx hb dXI_bitCount_40 rfl hl (by decide) rfl (fun ls hl => ?_)
  refine lv_iload_n hx hb dXI_bitCount_41 rfl (lv_at hl 0 rfl) ?_
  refine lv_iload_n hx hb dXI_bitCount_42 rfl (lv_at hl 0 rfl) ?_
  refine lv_bipush (v := (nI 16)) hx hb dXI_bitCount_43 (by decide) ?_
  refine lv_iushr (v := ((nI s4).toUInt32 >>> ((nI 16).toUInt32 &&& Int32.toUInt32 31)).toInt32) hx hb dXI_bitCount_45 rfl ?_
  refine lv_topi (fun z9 ez9 => ?_)
  rw [show z9 = nI (s4 / 65536) from ez9.trans ((pk_ushrN g4 (nI 16) 16 (by decide)))]
  refine lv_iadd hx hb dXI_bitCount_46 ?_
  refine lv_topi (fun z9 ez9 => ?_)
  rw [show z9 = nI (s4 + (s4 / 65536)) from ez9.trans (nI_add _ _)]
  rw [← k5]
  refine W.eq (g2 := F0 m 47 ls [.int (nI s5)]) rfl ?_
  refine lv_istore_n (lv' := [(0, .int (nI s5))]) hx hb dXI_bitCount_47 rfl hl (by decide) rfl (fun ls hl => ?_)
  refine lv_iload_n hx hb dXI_bitCount_48 rfl (lv_at hl 0 rfl) ?_
  refine lv_bipush (v := (nI 63)) hx hb dXI_bitCount_49 (by decide) ?_
  refine lv_iand hx hb dXI_bitCount_51 ?_
  refine lv_topi (fun z9 ez9 => ?_)
  rw [show z9 = nI (bitS n 32) from ez9.trans ((nx_and' _ _).trans (by rw [k6]))]
  exact fh_iret hx hb hr hlocks (⟨rfl, rfl⟩) hP hS (Nat.le_of_ble_eq_true rfl) (Nat.le_of_ble_eq_true rfl) dXI_bitCount_52

set_option maxRecDepth 100000 in
set_option maxHeartbeats 4000000 in
theorem p_mark (l : Launch) (G : fG) (A : Nat → Prop) (h : FH) (sz : Nat) (hst : l.stackTraces = false) (hA : ∀ q, sz ≤ q → A q) (hAh : fh_A A h) {Kq : Nat} (xa : Nat) (ad : Ad) (no nv ns : Nat) (V : Nat → St) (S : Nat → Ses) (LK : List Ar) (RL : List (Nat × Nat × Int64)) (J : Nat) (C : CL) (M : Nat → Int32) (hR : RepC Kq h xa ad no nv ns V S LK RL J C M) (hB9 : Bd no nv ns S RL J C) (hK8 : Kq < 900000) (y pp : Int32) : vx_Met l yX9_mark wsX9_mark { frames := 7, cells := 4, slots := 24, locals := 120 } (va_Pc [.ref xa, .int y, .int pp] (fh_Pre G A h sz)) (fh_Q G (fun v u => (oMark no nv V M y pp).1 = 0 ∧ v = some (.int (oMark no nv V M y pp).2.1) ∧ fh_A A u ∧ kp kC h u ∧ ∃ ad2 : Ad, RepC Kq u xa ad2 no nv ns V S LK RL J C ((oMark no nv V M y pp).2.2)) A) (fh_X G (fun E u => u = h ∧ ((E = xE1 ∧ (oMark no nv V M y pp).1 = 1) ∨ (E = xE0 ∧ (oMark no nv V M y pp).1 = 2))) A) 4 24 A := by
  refine fh_MetX [.ref xa, .int y, .int pp] (by decide) rfl (Nat.le_of_ble_eq_true rfl) ?_
  intro p e s m below meth c hx hb hr hlocks hml hown hnm hts hsz hP hE hS htb ls hl
  have ht : ∀ w ∈ wB, w.before _ s = true := fun w h9 => hts w (List.mem_cons_of_mem _ h9)
  have hl : lv_has ls 3 [(0, .ref xa), (1, .int y), (2, .int pp)] := hl
  have hA0 : ∀ q, s.heap.size ≤ q → A q := fun q hq => hA q (by rw [← hsz]; exact hq)
  obtain ⟨hX, hV, hSs, hL, hRl, hC, hM, hI⟩ := id hR
  obtain ⟨hno, hnv, hnv0, hns, hbs, hCl, hCb, hJ, hRn, hRb⟩ := id hB9
  obtain ⟨⟨fs, s1, s2⟩, s3⟩ := id hSs
  obtain ⟨⟨fv, v1, v2⟩, v3⟩ := id hV
  refine lv_aload_n hx hb dX9_mark_0 rfl (lv_at hl 0 rfl) ?_
  refine lv_iload_n hx hb dX9_mark_1 rfl (lv_at hl 1 rfl) ?_
  refine fh_cVX (q := (RX9, TX9, 11)) (As := [.int y]) (rest := []) (b := xa) ⟨hx, hb, hml, hown, ht⟩ (c_X_ckObj l G A h _ hst xa ad no nv ns RL.length hX hno y) (cwV 1 ht (gV kw_306 kw_308 kp_5 kw_1 kw_309) rfl rfl rfl yd_X9_checkObject ⟨(Nat.le_of_ble_eq_true rfl), (Nat.le_of_ble_eq_true rfl)⟩) hP hE hS hX rfl rfl hl.1 rfl (Nat.le_of_ble_eq_true rfl) dX9_mark_2 ⟨(Nat.le_of_ble_eq_true rfl), (Nat.le_of_ble_eq_true rfl)⟩ (fun E9 u9 ⟨z1, z2, z3⟩ => ⟨z2, Or.inl ⟨z1, by simp only [oMark, z3]⟩⟩) htb hlocks (Nat.le_of_ble_eq_true rfl) (Nat.le_of_ble_eq_true rfl) (fun v u H locs hp hP hz hS => ?_)
  obtain ⟨rfl, eu, o, hox⟩ := hp
  rw [eu] at hP
  refine W.eq (g2 := F0 m 5 ls []) rfl ?_
  obtain ⟨ho, rfl⟩ := ix_of (by omega) hox
  have ho60 : o < 60 := by omega
  obtain ⟨t1, ft, t2, t3⟩ := v3 (nv - 1) (by omega)
  obtain ⟨fm, m1, m2⟩ := id hM
  refine lv_aload_n hx hb dX9_mark_5 rfl (lv_at hl 0 rfl) ?_
  refine fh_get (C := RX9) (T := TX9) (N := 11) hx hb ht inX9 hown hE.1 hP hX rfl 2 (by decide) (ht _ kw_77) (fun _ h9 => h9) (v := .ref (ad 1 (nv - 1))) rfl dX9_mark_6 ?_
  refine lv_iload_n hx hb dX9_mark_9 rfl (lv_at hl 1 rfl) ?_
  refine fh_cV (q := (RX8, TX8, 1)) (As := [.int (nI o)]) (rest := []) (b := (ad 1 (nv - 1))) ⟨hx, hb, hml, hown, ht⟩ (c_St_row l G A h _ (ad 1 (nv - 1)) (ad 2 (nv - 1)) o ft t1 t2 ho60) (cwV 1 ht (gV kw_337 kw_338 kw_339 kw_2 kw_340) rfl rfl rfl yd_X8_row ⟨(Nat.le_of_ble_eq_true rfl), (Nat.le_of_ble_eq_true rfl)⟩) hP hE hS t1 rfl rfl hl.1 rfl (Nat.le_of_ble_eq_true rfl) dX9_mark_10 ⟨(Nat.le_of_ble_eq_true rfl), (Nat.le_of_ble_eq_true rfl)⟩ (fun v u H locs hp hP hz hS => ?_)
  obtain ⟨rfl, eu⟩ := hp
  rw [eu] at hP
  refine W.eq (g2 := F0 m 13 ls [va_rf (ft o)]) rfl ?_
  refine fh_ifnonnull (tgt := 26) hx hb dX9_mark_13 (by decide) (fun eo => ?_) (fun r eo => ?_)
  · have e0 := pRo_none (eo ▸ t3 o ho60)
    exact fh_throwS hx hb hst ht hown (by decide +kernel) kw_290 kw_13 xg1 xb1 xo1 (text := "the head has no such object") (by decide) hE hS hP (hl.1.trans hml.symm) dX9_mark_16 dX9_mark_19 dX9_mark_20 dX9_mark_22 dX9_mark_25 htb (Nat.le_of_ble_eq_true rfl) (Nat.le_of_ble_eq_true rfl) (Nat.le_of_ble_eq_true rfl) (Nat.le_of_ble_eq_true rfl) hlocks (⟨rfl, Or.inl ⟨rfl, by simp only [oMark, hox, e0, Option.isSome_none, Bool.false_eq_true, if_false]⟩⟩) (Nat.le_of_ble_eq_true rfl) (Nat.le_of_ble_eq_true rfl)
  · obtain ⟨f4, e0, h4⟩ := pRo_some (eo ▸ t3 o ho60)
    refine lv_iload_n hx hb dX9_mark_26 rfl (lv_at hl 2 rfl) ?_
    refine lv_if_lt (tgt := 36) hx hb dX9_mark_27 (by decide) (fun d1 => ?_) (fun d1 => ?_)
    · exact fh_throwS hx hb hst ht hown (by decide +kernel) kw_186 kw_9 xg0 xb0 xo0 (text := "a person is 0 .. 31") (by decide) hE hS hP (hl.1.trans hml.symm) dX9_mark_36 dX9_mark_39 dX9_mark_40 dX9_mark_42 dX9_mark_45 htb (Nat.le_of_ble_eq_true rfl) (Nat.le_of_ble_eq_true rfl) (Nat.le_of_ble_eq_true rfl) (Nat.le_of_ble_eq_true rfl) hlocks (⟨rfl, Or.inr (⟨rfl, by simp only [oMark, hox, e0, Option.isSome_some, if_true, ix_none (Or.inl d1)]⟩)⟩) (Nat.le_of_ble_eq_true rfl) (Nat.le_of_ble_eq_true rfl)
    · refine lv_iload_n hx hb dX9_mark_30 rfl (lv_at hl 2 rfl) ?_
      refine lv_bipush (v := (nI 32)) hx hb dX9_mark_31 (by decide) ?_
      refine lv_icmp_lt (tgt := 46) hx hb dX9_mark_33 (by decide) (fun d2 => ?_) (fun d2 => ?_)
      · obtain ⟨j9, hj9, rfl⟩ : ∃ j9, j9 < 32 ∧ pp = nI j9 := by
          rcases pk_ix pp (n := 32) (by decide) with q | q | q
          · exact absurd q d1
          · rw [Int32.le_iff_toInt_le] at q; rw [Int32.lt_iff_toInt_lt] at d2; omega
          · exact q
        refine lv_aload_n hx hb dX9_mark_46 rfl (lv_at hl 0 rfl) ?_
        refine fh_get (C := RX9) (T := TX9) (N := 11) hx hb ht inX9 hown hE.1 hP hX rfl 10 (by decide) (ht _ kw_85) (fun _ h9 => h9) (v := .ref (ad 0 7)) rfl dX9_mark_47 ?_
        refine lv_iload_n hx hb dX9_mark_50 rfl (lv_at hl 1 rfl) ?_
        refine lv_dup2_11 hx hb dX9_mark_51 rfl rfl ?_
        refine fh_iald (k := o) hx hb hE.1 hP m1 rfl (ho60) (by decide) dX9_mark_52 ?_
        refine lv_iconst (v := (nI 1)) hx hb dX9_mark_53 (by decide) ?_
        refine lv_iload_n hx hb dX9_mark_54 rfl (lv_at hl 2 rfl) ?_
        refine lv_ishl hx hb dX9_mark_55 ?_
        refine lv_ior hx hb dX9_mark_56 ?_
        refine lv_topi (fun z9 ez9 => ?_)
        rw [show z9 = M o ||| (1 <<< nI j9) from ez9.trans (by rw [m2 o ho60]; exact congrArg _ (sh31 j9 hj9))]
        refine fh_iast (k := o) hx hb hE.1 hP hS m1 (hAh _ _ m1) rfl (ho60) (by decide) dX9_mark_57 (fun H locs hP hz hS => ?_)
        obtain ⟨h_1, eh_1⟩ : ∃ z, z = fh_up h (ad 0 7) (.inl (10, 60, .inl (upd fm o (M o ||| (1 <<< nI j9))))) := ⟨_, rfl⟩
        have hP : fh_P G vwCl h_1 H := by rw [eh_1]; exact hP
        have f_1 : h_1 (ad 0 7) = some (.inl (10, 60, .inl (upd fm o (M o ||| (1 <<< nI j9))))) := by rw [eh_1]; exact fh_up_self _ _ _
        have g_1_0 := (congrFun eh_1 xa).trans (fh_keep m1 hX rfl)
        have g_1_1 := (congrFun eh_1 (ad 1 (nv - 1))).trans (fh_keep m1 t1 rfl)
        refine lv_aload_n hx hb dX9_mark_58 rfl (lv_at hl 0 rfl) ?_
        refine fh_get (C := RX9) (T := TX9) (N := 11) hx hb ht inX9 hown hE.1 hP g_1_0 rfl 10 (by decide) (ht _ kw_85) (fun _ h9 => h9) (v := .ref (ad 0 7)) rfl dX9_mark_59 ?_
        refine lv_iload_n hx hb dX9_mark_62 rfl (lv_at hl 1 rfl) ?_
        refine fh_iald (k := o) hx hb hE.1 hP f_1 rfl (ho60) (by decide) dX9_mark_63 ?_
        obtain ⟨nn, hnn, enn⟩ := wb_of32' (M o ||| 1 <<< nI j9)
        refine lv_topi (fun z9 ez9 => ?_)
        rw [show z9 = nI nn from ez9.trans ((show upd fm o (M o ||| 1 <<< nI j9) o = (M o ||| 1 <<< nI j9) by simp [upd]).trans enn)]
        refine fh_cS (As := [.int (nI nn)]) (rest := []) ⟨hx, hb, hml, hown, ht⟩ (c_bitCount l G A h_1 _ nn hnn) (va_cwS 1 ht (gS kw_678 kw_679 kw_19 kw_680) rfl rfl rfl yd_XI_bitCount.2 ⟨(Nat.le_of_ble_eq_true rfl), (Nat.le_of_ble_eq_true rfl)⟩) hP hE hS rfl hl.1 rfl (Nat.le_of_ble_eq_true rfl) dX9_mark_64 ⟨(Nat.le_of_ble_eq_true rfl), (Nat.le_of_ble_eq_true rfl)⟩ (fun v u9 H locs hp hP hz hS => ?_)
        obtain ⟨rfl, eu9⟩ := hp
        rw [eu9] at hP
        refine W.eq (g2 := F0 m 67 ls [.int (nI (bitS nn 32))]) rfl ?_
        have k2 : kp [21] h h_1 := by rw [eh_1]; exact kp.rf.up m1 rfl
        have eb : bitN (M o ||| 1 <<< nI j9) = bitS nn 32 := by unfold bitN; rw [enn, nI_bv hnn]
        have ep : oMark no nv V M (nI o) (nI j9) = (0, nI (bitS nn 32), upN M o (M o ||| 1 <<< nI j9)) := by simp only [oMark, hox, e0, Option.isSome_some, if_true, ix_some hj9 (by decide), eb]
        exact vx_ret (fh_iret hx hb hr hlocks (⟨by rw [ep], by rw [ep], by rw [eh_1]; exact hAh.up (hAh _ _ m1), k2.C rfl, ad, by rw [ep]; exact hR.marks k2 ⟨_, f_1, fun k hk => by
          show upd fm o (M o ||| 1 <<< nI j9) k = upN M o (M o ||| 1 <<< nI j9) k
          by_cases z : k = o
          · subst z; rw [upN_s]; simp [upd]
          · rw [upN_n _ _ z, ← m2 k hk]; simp [upd, z]⟩⟩) hP hS (by first | exact (Nat.le_of_ble_eq_true rfl) | omega) (by first | exact (Nat.le_of_ble_eq_true rfl) | omega) dX9_mark_67)
      · have d3 : nI 32 ≤ pp := by rw [Int32.le_iff_toInt_le]; rw [Int32.lt_iff_toInt_lt] at d2; omega
        exact fh_throwS hx hb hst ht hown (by decide +kernel) kw_186 kw_9 xg0 xb0 xo0 (text := "a person is 0 .. 31") (by decide) hE hS hP (hl.1.trans hml.symm) dX9_mark_36 dX9_mark_39 dX9_mark_40 dX9_mark_42 dX9_mark_45 htb (Nat.le_of_ble_eq_true rfl) (Nat.le_of_ble_eq_true rfl) (Nat.le_of_ble_eq_true rfl) (Nat.le_of_ble_eq_true rfl) hlocks (⟨rfl, Or.inr (⟨rfl, by simp only [oMark, hox, e0, Option.isSome_some, if_true, ix_none (Or.inr d3)]⟩)⟩) (Nat.le_of_ble_eq_true rfl) (Nat.le_of_ble_eq_true rfl)

set_option maxRecDepth 100000 in
set_option maxHeartbeats 4000000 in
theorem p_play (l : Launch) (G : fG) (A : Nat → Prop) (h : FH) (sz : Nat) (hst : l.stackTraces = false) (hA : ∀ q, sz ≤ q → A q) (hAh : fh_A A h) {Kq : Nat} (xa : Nat) (ad : Ad) (no nv ns : Nat) (V : Nat → St) (S : Nat → Ses) (LK : List Ar) (RL : List (Nat × Nat × Int64)) (J : Nat) (C : CL) (M : Nat → Int32) (hR : RepC Kq h xa ad no nv ns V S LK RL J C M) (hB9 : Bd no nv ns S RL J C) (hK8 : Kq < 900000) (x : Int64) (t : Int32) : vx_Met l yX9_play wsX9_play { frames := 7, cells := 930, slots := 3860, locals := 170 } (va_Pc [.ref xa, .long x, .int t] (fh_Pre G A h sz)) (fh_Q G (fun v u => (oPlay no nv ns V S LK J C M x t).1 = 0 ∧ v = some (.int (oPlay no nv ns V S LK J C M x t).2.1) ∧ fh_A A u ∧ kp kC h u ∧ ∃ ad2 : Ad, RepC (Kq + 100) u xa ad2 no ((oPlay no nv ns V S LK J C M x t).2.2.1) ((oPlay no nv ns V S LK J C M x t).2.2.2.1) ((oPlay no nv ns V S LK J C M x t).2.2.2.2.1) ((oPlay no nv ns V S LK J C M x t).2.2.2.2.2.1) ((oPlay no nv ns V S LK J C M x t).2.2.2.2.2.2.1) RL ((oPlay no nv ns V S LK J C M x t).2.2.2.2.2.2.2.1) ((oPlay no nv ns V S LK J C M x t).2.2.2.2.2.2.2.2.1) ((oPlay no nv ns V S LK J C M x t).2.2.2.2.2.2.2.2.2)) A) (fh_X G (fun E u => u = h ∧ ((E = xE0 ∧ (oPlay no nv ns V S LK J C M x t).1 = 1))) A) 930 3860 A := by
  refine fh_MetX [.ref xa, .long x, .int t] (by decide) rfl (Nat.le_of_ble_eq_true rfl) ?_
  intro p e s m below meth c hx hb hr hlocks hml hown hnm hts hsz hP hE hS htb ls hl
  have ht : ∀ w ∈ wB, w.before _ s = true := fun w h9 => hts w (List.mem_cons_of_mem _ h9)
  have hl : lv_has ls 8 [(0, .ref xa), (1, .long x), (3, .int t)] := hl
  have hA0 : ∀ q, s.heap.size ≤ q → A q := fun q hq => hA q (by rw [← hsz]; exact hq)
  obtain ⟨hX, hV, hSs, hL, hRl, hC, hM, hI⟩ := id hR
  obtain ⟨hno, hnv, hnv0, hns, hbs, hCl, hCb, hJ, hRn, hRb⟩ := id hB9
  obtain ⟨⟨fs, s1, s2⟩, s3⟩ := id hSs
  obtain ⟨⟨fv, v1, v2⟩, v3⟩ := id hV
  refine lv_iload_n hx hb dX9_play_0 rfl (lv_at hl 2 rfl) ?_
  refine lv_if_lt (tgt := 10) hx hb dX9_play_1 (by decide) (fun d1 => ?_) (fun d1 => ?_)
  · exact fh_throwS hx hb hst ht hown (by decide +kernel) kw_186 kw_9 xg0 xb0 xo0 (text := "turns are 0 .. 100") (by decide) hE hS hP (hl.1.trans hml.symm) dX9_play_10 dX9_play_13 dX9_play_14 dX9_play_16 dX9_play_19 htb (Nat.le_of_ble_eq_true rfl) (Nat.le_of_ble_eq_true rfl) (Nat.le_of_ble_eq_true rfl) (Nat.le_of_ble_eq_true rfl) hlocks (⟨rfl, ⟨rfl, by simp only [oPlay, ix_none (Or.inl d1)]⟩⟩) (Nat.le_of_ble_eq_true rfl) (Nat.le_of_ble_eq_true rfl)
  · refine lv_iload_n hx hb dX9_play_4 rfl (lv_at hl 2 rfl) ?_
    refine lv_bipush (v := (nI 100)) hx hb dX9_play_5 (by decide) ?_
    refine lv_icmp_le (tgt := 20) hx hb dX9_play_7 (by decide) (fun d2 => ?_) (fun d2 => ?_)
    · obtain ⟨n9, hn9, rfl⟩ : ∃ n9, n9 < 101 ∧ t = nI n9 := by
        rcases pk_ix t (n := 101) (by decide) with q | q | q
        · exact absurd q d1
        · rw [Int32.le_iff_toInt_le, nI_toInt (by decide)] at q; rw [Int32.le_iff_toInt_le, nI_toInt (by decide)] at d2; omega
        · exact q
      refine lv_aload_n hx hb dX9_play_20 rfl (lv_at hl 0 rfl) ?_
      refine fh_get (C := RX9) (T := TX9) (N := 11) hx hb ht inX9 hown hE.1 hP hX rfl 4 (by decide) (ht _ kw_79) (fun _ h9 => h9) (v := .int (nI ns)) rfl dX9_play_21 ?_
      refine lv_bipush (v := (nI 20)) hx hb dX9_play_24 (by decide) ?_
      refine lv_icmp_ge (tgt := 38) hx hb dX9_play_26 (by decide) (fun d4 => ?_) (fun d4 => ?_)
      · have e1 : ns = 20 := by
          rcases Nat.lt_or_ge ns 20 with z | z
          · exact absurd d4 (nI_ge z (by decide))
          · omega
        refine lv_iconst (v := (-1)) hx hb dX9_play_38 (by decide) ?_
        have ep : oPlay no nv ns V S LK J C M x (nI n9) = (0, -1, nv, ns, V, S, LK, J, C, M) := by simp only [oPlay, ix_some hn9 (by decide)]; rw [if_pos (Or.inl e1)]
        exact vx_ret (fh_iret hx hb hr hlocks (⟨by rw [ep], by rw [ep], hAh, kp.rf, ad, by rw [ep]; exact hR.mono (by omega)⟩) hP hS (by first | exact (Nat.le_of_ble_eq_true rfl) | omega) (by first | exact (Nat.le_of_ble_eq_true rfl) | omega) dX9_play_39)
      · have e1 : ns < 20 := by
          rcases Nat.lt_or_ge ns 20 with z | z
          · exact z
          · exact absurd (nI_le z (by omega)) d4
        refine lv_aload_n hx hb dX9_play_29 rfl (lv_at hl 0 rfl) ?_
        refine fh_get (C := RX9) (T := TX9) (N := 11) hx hb ht inX9 hown hE.1 hP hX rfl 1 (by decide) (ht _ kw_76) (fun _ h9 => h9) (v := .int (nI nv)) rfl dX9_play_30 ?_
        refine lv_bipush (v := (nI 40)) hx hb dX9_play_33 (by decide) ?_
        refine lv_icmp_lt (tgt := 40) hx hb dX9_play_35 (by decide) (fun d5 => ?_) (fun d5 => ?_)
        · have e2 : nv < 40 := (nI_ltI (by omega) (by decide)).mp d5
          refine lv_aload_n hx hb dX9_play_40 rfl (lv_at hl 0 rfl) ?_
          refine lv_aload_n hx hb dX9_play_41 rfl (lv_at hl 0 rfl) ?_
          refine fh_get (C := RX9) (T := TX9) (N := 11) hx hb ht inX9 hown hE.1 hP hX rfl 2 (by decide) (ht _ kw_77) (fun _ h9 => h9) (v := .ref (ad 1 (nv - 1))) rfl dX9_play_42 ?_
          have szA := hS.1
          refine fh_cV (q := (RX9, TX9, 11)) (As := [.ref (ad 1 (nv - 1))]) (rest := []) (b := xa) ⟨hx, hb, hml, hown, ht⟩ (c_X_begin l G A h _ (fun q hq => hA0 q (Nat.le_trans hS.1 hq)) hAh xa ad no nv ns V S LK RL J C M hR (nv - 1) (by omega) e1 hJ) (cwV 1 ht (gV kw_113 kw_115 kp_0 kw_1 kw_116) rfl rfl rfl yd_X9_begin ⟨(Nat.le_of_ble_eq_true rfl), (Nat.le_of_ble_eq_true rfl)⟩) hP hE hS hX rfl rfl hl.1 rfl (Nat.le_of_ble_eq_true rfl) dX9_play_45 ⟨(Nat.le_of_ble_eq_true rfl), (Nat.le_of_ble_eq_true rfl)⟩ (fun v u1 H locs hp hP hz hS => ?_)
          obtain ⟨q, rfl, hA1, k1, hR1⟩ := hp
          refine W.eq (g2 := F0 m 48 ls [.ref (q 0)]) rfl ?_
          have szB := hS.1
          have bd1 := fun (a9 : Nat) (e9 : fe) (q9 : u1 a9 = some e9) => hP.lt q9
          refine lv_astore (lv' := [(4, .ref (q 0)), (0, .ref xa), (1, .long x), (3, .int (nI n9))]) hx hb dX9_play_48 hl (by decide) rfl (fun ls hl => ?_)
          have hge1 := hS.1
          have hlt1 := fun (a9 : Nat) (e9 : fe) (q9 : u1 a9 = some e9) => hP.lt q9
          refine fh_new (ci := 3) (C := RX3) (T := TX3) (N := 1) (fs := [.long 0]) hx hb ht inX3 tyX3 tyX3_ok hown (ht _ kw_649) (ht _ kw_650) (ht _ kw_18) hE.1 hP hS hA0 rfl (fun j hj => by rcases (show j = 0 by omega) with rfl <;> rfl) (Nat.le_of_ble_eq_true rfl) (Nat.le_of_ble_eq_true rfl) dX9_play_50 (fun dd H edd hAdd hP hz_dd hS => ?_)
          obtain ⟨h_2, eh_2⟩ : ∃ z, z = fh_up u1 dd (.inr (3, [.long 0])) := ⟨_, rfl⟩
          have hP : fh_P G vwCl h_2 H := by rw [eh_2]; exact hP
          have f_2 : h_2 dd = some (.inr (3, [.long 0])) := by rw [eh_2]; exact fh_up_self _ _ _
          have hsz_dd : sz ≤ dd := by rw [edd, ← hsz]; exact hge1
          refine lv_dup hx hb dX9_play_53 rfl ?_
          refine lv_lload_n hx hb dX9_play_54 rfl (lv_at hl 2 rfl) ?_
          refine fh_cI (As := [.long x]) (rest := [.ref dd]) (b := dd) ⟨hx, hb, hml, hown, ht⟩ (c_Draw_init l G A h_2 _ dd x hAdd f_2) (cwI 1 ht (gB kw_653) rfl rfl rfl (ht _ kw_18) (ht _ kw_651) (ht _ kw_652) rfl yd_X3_init.2 ⟨(Nat.le_of_ble_eq_true rfl), (Nat.le_of_ble_eq_true rfl)⟩) hP hE hS rfl hl.1 rfl (Nat.le_of_ble_eq_true rfl) dX9_play_55 ⟨(Nat.le_of_ble_eq_true rfl), (Nat.le_of_ble_eq_true rfl)⟩ (fun v u2 H locs hp hP hz hS => ?_)
          obtain ⟨rfl, eu2⟩ := hp
          refine W.eq (g2 := F0 m 58 ls [.ref dd]) rfl ?_
          have he2 : fh_ext dd u1 u2 := fun a9 h9 => by rw [eu2, eh_2, fh_up_ne _ _ (by omega), fh_up_ne _ _ (by omega)]
          have k2 : kp [] u1 u2 := kp.ext he2 (fun a9 e9 q9 => by rw [edd]; exact bd1 a9 e9 q9)
          have hd2 : u2 dd = some (oDraw x) := by rw [eu2]; exact fh_up_self _ _ _
          have hA2 : fh_A A u2 := hA1.ext he2 (fun q hq => hA0 q (by omega))
          have hR2 := hR1.kp0 k2
          refine W.widen (k := 8) (n := 572) (by omega) (by omega) ?_
          refine lv_astore (lv' := [(5, .ref dd), (4, .ref (q 0)), (0, .ref xa), (1, .long x), (3, .int (nI n9))]) hx hb dX9_play_58 hl (by decide) rfl (fun ls hl => ?_)
          refine lv_iconst (v := (nI 0)) hx hb dX9_play_60 (by decide) ?_
          refine lv_istore (lv' := [(6, .int (nI 0)), (5, .ref dd), (4, .ref (q 0)), (0, .ref xa), (1, .long x), (3, .int (nI n9))]) hx hb dX9_play_61 hl (by decide) rfl (fun ls hl => ?_)
          refine lv_iconst (v := (nI 0)) hx hb dX9_play_63 (by decide) ?_
          refine lv_istore (lv' := [(7, .int (nI 0)), (6, .int (nI 0)), (5, .ref dd), (4, .ref (q 0)), (0, .ref xa), (1, .long x), (3, .int (nI n9))]) hx hb dX9_play_64 hl (by decide) rfl (fun ls hl => ?_)
          have hPT := fun (k9 : Nat) (hK9 : k9 < 1000000) (hh : FH) (sz9 : Nat) (hA9 : ∀ q, sz9 ≤ q → A q) (hAk : fh_A A hh) (s9 : Ses) (hRk : RepC k9 hh xa (adS ad ns q) no nv (ns + 1) V (upN S ns s9) LK RL J C M) (x9 : Int64) (hdk : hh dd = some (oDraw x9)) => c_pt0 l G A hh sz9 hA9 hAk xa ad no nv ns V S LK RL J C M q s9 hRk hno dd x9 hdk hK9
          have hTJ := fun (k9 : Nat) (hh : FH) (sz9 : Nat) (hA9 : ∀ q, sz9 ≤ q → A q) (hAk : fh_A A hh) (s9 : Ses) (hb9 : s9.1 = nv - 1) (hRk : RepC k9 hh xa (adS ad ns q) no nv (ns + 1) V (upN S ns s9) LK RL J C M) => c_tj0 l G A hh sz9 hA9 hAk xa ad no nv ns V S LK RL J C M q s9 hRk e2 hnv0 hbs hb9
          have loop : ∀ (n k : Nat), k + n = n9 → ∀ (hh : FH) (nd : Nat) (_ : nd = (ptN no LK ns (nv - 1, V (nv - 1), true, [], fun _ => 0) x k).1) (_ : fh_A A hh) (_ : kp kC h hh) (_ : hh dd = some (oDraw (ptN no LK ns (nv - 1, V (nv - 1), true, [], fun _ => 0) x k).2.2)) (_ : RepC (Kq + k) hh xa (adS ad ns q) no nv (ns + 1) V (upN S ns (ptN no LK ns (nv - 1, V (nv - 1), true, [], fun _ => 0) x k).2.1) LK RL J C M), ∀ (H : Heap) (locs : List Loc) (ls : Array Slot), fh_P G vwCl hh H → va_S A s.heap H locs → lv_has ls 8 [(7, .int (nI k)), (6, .int (nI nd)), (5, .ref dd), (4, .ref (q 0)), (0, .ref xa), (1, .long x), (3, .int (nI n9))] → W p l e (headSpec wsX9_play { frames := 7, cells := 930, slots := 3860, locals := 170 }).room s m [.ref xa, .long x, .int (nI n9)].toArray below meth c H locs (8 + 2 * k) (572 + 7 * k) (vx_MQ below (fh_Q G (fun v u => (oPlay no nv ns V S LK J C M x (nI n9)).1 = 0 ∧ v = some (.int (oPlay no nv ns V S LK J C M x (nI n9)).2.1) ∧ fh_A A u ∧ kp kC h u ∧ ∃ ad2 : Ad, RepC (Kq + 100) u xa ad2 no ((oPlay no nv ns V S LK J C M x (nI n9)).2.2.1) ((oPlay no nv ns V S LK J C M x (nI n9)).2.2.2.1) ((oPlay no nv ns V S LK J C M x (nI n9)).2.2.2.2.1) ((oPlay no nv ns V S LK J C M x (nI n9)).2.2.2.2.2.1) ((oPlay no nv ns V S LK J C M x (nI n9)).2.2.2.2.2.2.1) RL ((oPlay no nv ns V S LK J C M x (nI n9)).2.2.2.2.2.2.2.1) ((oPlay no nv ns V S LK J C M x (nI n9)).2.2.2.2.2.2.2.2.1) ((oPlay no nv ns V S LK J C M x (nI n9)).2.2.2.2.2.2.2.2.2)) A) (fh_X G (fun E u => u = h ∧ ((E = xE0 ∧ (oPlay no nv ns V S LK J C M x (nI n9)).1 = 1))) A) [.ref xa, .long x, .int (nI n9)].toArray s 930 3860 A) (F0 m 66 ls []) := by
            intro n
            induction n with
            | zero =>
              intro k hin hh nd end9 hAk kk hdk hRk H locs ls hP hS hl
              have qX : adS ad ns q (3 + ns) = q := adS_s ad ns q
              have hXk := hRk.1
              have hle := ptN_le no LK ns (nv - 1, V (nv - 1), true, [], fun _ => 0) x k
              have kn : k = n9 := by omega
              refine lv_iload hx hb dX9_play_66 (lv_at hl 0 rfl) ?_
              refine lv_iload_n hx hb dX9_play_68 rfl (lv_at hl 6 rfl) ?_
              refine lv_icmp_ge (tgt := 92) hx hb dX9_play_69 (by decide) (fun _ => ?_) (fun c9 => absurd (nI_le (by omega) (by omega)) c9)
              refine lv_aload_n hx hb dX9_play_92 rfl (lv_at hl 4 rfl) ?_
              refine lv_aload hx hb dX9_play_93 (lv_at hl 3 rfl) ?_
              refine fh_cV (q := (RX9, TX9, 11)) (As := [.ref (q 0)]) (rest := []) (b := xa) ⟨hx, hb, hml, hown, ht⟩ (hTJ _ hh _ (fun q hq => hA0 q (Nat.le_trans hS.1 hq)) hAk (ptN no LK ns (nv - 1, V (nv - 1), true, [], fun _ => 0) x k).2.1 (ptN_base _ _ _ _ _ _) hRk) (cwV 1 ht (gV kw_406 kw_408 kp_8 kw_1 kw_409) rfl rfl rfl yd_X9_tryJoin ⟨(Nat.le_of_ble_eq_true rfl), (Nat.le_of_ble_eq_true rfl)⟩) hP hE hS hXk rfl rfl hl.1 rfl (Nat.le_of_ble_eq_true rfl) dX9_play_95 ⟨(by show _ ≤ 930; omega), (by show _ ≤ 3860; omega)⟩ (fun v u3 H locs hp hP hz hS => ?_)
              obtain ⟨ad2, rfl, hA3, k3, hR3⟩ := hp
              refine W.eq (g2 := F0 m 98 ls [.int _]) rfl ?_
              refine lv_pop hx hb dX9_play_98 rfl ?_
              refine lv_iload hx hb dX9_play_99 (lv_at hl 1 rfl) ?_
              subst kn
              subst end9
              have ep : oPlay no nv ns V S LK J C M x (nI k) = (0, nI (ptN no LK ns (nv - 1, V (nv - 1), true, [], fun _ => 0) x k).1, (oTry nv V (upN S ns (ptN no LK ns (nv - 1, V (nv - 1), true, [], fun _ => 0) x k).2.1) LK M ns).2.1, ns + 1, (oTry nv V (upN S ns (ptN no LK ns (nv - 1, V (nv - 1), true, [], fun _ => 0) x k).2.1) LK M ns).2.2.1, (oTry nv V (upN S ns (ptN no LK ns (nv - 1, V (nv - 1), true, [], fun _ => 0) x k).2.1) LK M ns).2.2.2.1, (oTry nv V (upN S ns (ptN no LK ns (nv - 1, V (nv - 1), true, [], fun _ => 0) x k).2.1) LK M ns).2.2.2.2.1, ns, (oTry nv V (upN S ns (ptN no LK ns (nv - 1, V (nv - 1), true, [], fun _ => 0) x k).2.1) LK M ns).2.2.2.2.2.1, (oTry nv V (upN S ns (ptN no LK ns (nv - 1, V (nv - 1), true, [], fun _ => 0) x k).2.1) LK M ns).2.2.2.2.2.2) := by simp only [oPlay, ix_some hn9 (by decide)]; rw [if_neg (show ¬ (ns = 20 ∨ nv = 40) from fun q => q.elim (Nat.ne_of_lt e1) (Nat.ne_of_lt e2))]
              exact vx_ret (fh_iret hx hb hr hlocks (⟨by rw [ep], by rw [ep], hA3, kk.trans k3, ad2, by rw [ep]; rcases hR3 with ⟨d2, z⟩ | ⟨d2, z⟩ <;> replace z := z.mono (show Kq + k ≤ Kq + 100 by omega) <;> simp only [oTry, upN_s, d2, if_true, if_false] <;> simpa only [upN_s] using z⟩) hP hS (by omega) (by omega) dX9_play_101)
            | succ n ih =>
              intro k hin hh nd end9 hAk kk hdk hRk H locs ls hP hS hl
              have qX : adS ad ns q (3 + ns) = q := adS_s ad ns q
              have hXk := hRk.1
              have hle := ptN_le no LK ns (nv - 1, V (nv - 1), true, [], fun _ => 0) x k
              have q0k := (hRk.2.2.1.2 ns (Nat.lt_succ_self ns)).1
              rw [qX] at q0k
              refine lv_iload hx hb dX9_play_66 (lv_at hl 0 rfl) ?_
              refine lv_iload_n hx hb dX9_play_68 rfl (lv_at hl 6 rfl) ?_
              refine lv_icmp_ge (tgt := 92) hx hb dX9_play_69 (by decide) (fun c9 => absurd c9 (nI_ge (by omega) (by omega))) (fun _ => ?_)
              refine lv_aload_n hx hb dX9_play_72 rfl (lv_at hl 4 rfl) ?_
              refine lv_aload hx hb dX9_play_73 (lv_at hl 3 rfl) ?_
              refine lv_aload hx hb dX9_play_75 (lv_at hl 2 rfl) ?_
              refine fh_cV (q := (RX9, TX9, 11)) (As := [.ref (q 0), .ref dd]) (rest := []) (b := xa) ⟨hx, hb, hml, hown, ht⟩ (hPT _ (by omega) hh _ (fun q hq => hA0 q (Nat.le_trans hS.1 hq)) hAk (ptN no LK ns (nv - 1, V (nv - 1), true, [], fun _ => 0) x k).2.1 hRk (ptN no LK ns (nv - 1, V (nv - 1), true, [], fun _ => 0) x k).2.2 hdk) (cwV 2 ht (gV kw_659 kw_661 kp_14 kw_1 kw_662) rfl rfl rfl yd_X9_playTurn ⟨(Nat.le_of_ble_eq_true rfl), (Nat.le_of_ble_eq_true rfl)⟩) hP hE hS hXk rfl rfl hl.1 rfl (Nat.le_of_ble_eq_true rfl) dX9_play_77 ⟨(by show _ ≤ 930; omega), (by show _ ≤ 3860; omega)⟩ (fun v u3 H locs hp hP hz hS => ?_)
              obtain ⟨rfl, hA3, k3, hd3, hR3⟩ := hp
              refine W.eq (g2 := F0 m 80 ls [.int (bI (ptStep no LK ns (ptN no LK ns (nv - 1, V (nv - 1), true, [], fun _ => 0) x k).2.1 (ptN no LK ns (nv - 1, V (nv - 1), true, [], fun _ => 0) x k).2.2).1)]) rfl ?_
              have eS : (ptN no LK ns (nv - 1, V (nv - 1), true, [], fun _ => 0) x (k + 1)).2 = (ptStep no LK ns (ptN no LK ns (nv - 1, V (nv - 1), true, [], fun _ => 0) x k).2.1 (ptN no LK ns (nv - 1, V (nv - 1), true, [], fun _ => 0) x k).2.2).2 := rfl
              refine lv_if_eq (tgt := 86) hx hb dX9_play_80 (by decide) (fun d6 => ?_) (fun d6 => ?_)
              · have e6 := bI_eq.mp d6
                have eN : (ptN no LK ns (nv - 1, V (nv - 1), true, [], fun _ => 0) x (k + 1)).1 = (ptN no LK ns (nv - 1, V (nv - 1), true, [], fun _ => 0) x k).1 := by rw [ptN]; dsimp only; rw [if_neg (by rw [e6]; decide), Nat.add_zero]
                refine lv_iinc (v := nI (k + 1)) (lv' := [(7, .int (nI (k + 1))), (6, .int (nI nd)), (5, .ref dd), (4, .ref (q 0)), (0, .ref xa), (1, .long x), (3, .int (nI n9))]) hx hb dX9_play_86 hl (k := 0) rfl (nI_1 _) (by decide) rfl (fun ls hl => ?_)
                refine lv_goto (tgt := 66) hx hb dX9_play_89 (by decide) ?_
                refine W.widen (k := 8 + 2 * (k + 1)) (n := 572 + 7 * (k + 1)) (by omega) (by omega) ?_
                exact ih (k + 1) (by omega) u3 nd (by rw [eN, ← end9]) hA3 (kk.trans k3) hd3 hR3 H locs ls hP hS (lv_sub hl [0, 1, 2, 3, 4, 5, 6] rfl)
              · have e6 := bI_nz d6
                have eN : (ptN no LK ns (nv - 1, V (nv - 1), true, [], fun _ => 0) x (k + 1)).1 = (ptN no LK ns (nv - 1, V (nv - 1), true, [], fun _ => 0) x k).1 + 1 := by rw [ptN]; dsimp only; rw [if_pos e6]
                refine lv_iinc (v := nI (nd + 1)) (lv' := [(6, .int (nI (nd + 1))), (7, .int (nI k)), (5, .ref dd), (4, .ref (q 0)), (0, .ref xa), (1, .long x), (3, .int (nI n9))]) hx hb dX9_play_83 hl (k := 1) rfl (nI_1 _) (by decide) rfl (fun ls hl => ?_)
                refine lv_iinc (v := nI (k + 1)) (lv' := [(7, .int (nI (k + 1))), (6, .int (nI (nd + 1))), (5, .ref dd), (4, .ref (q 0)), (0, .ref xa), (1, .long x), (3, .int (nI n9))]) hx hb dX9_play_86 hl (k := 1) rfl (nI_1 _) (by decide) rfl (fun ls hl => ?_)
                refine lv_goto (tgt := 66) hx hb dX9_play_89 (by decide) ?_
                refine W.widen (k := 8 + 2 * (k + 1)) (n := 572 + 7 * (k + 1)) (by omega) (by omega) ?_
                exact ih (k + 1) (by omega) u3 (nd + 1) (by rw [eN, ← end9]) hA3 (kk.trans k3) hd3 hR3 H locs ls hP hS (lv_sub hl [0, 1, 2, 3, 4, 5, 6] rfl)
          exact loop n9 0 (by omega) u2 0 rfl hA2 (k1.trans (k2.C rfl)) hd2 hR2 _ _ _ hP hS hl
        · have e2 : nv = 40 := by
            rcases Nat.lt_or_ge nv 40 with z | z
            · exact absurd (nI_lt z (by decide)) d5
            · omega
          refine lv_iconst (v := (-1)) hx hb dX9_play_38 (by decide) ?_
          have ep : oPlay no nv ns V S LK J C M x (nI n9) = (0, -1, nv, ns, V, S, LK, J, C, M) := by simp only [oPlay, ix_some hn9 (by decide)]; rw [if_pos (Or.inr e2)]
          exact vx_ret (fh_iret hx hb hr hlocks (⟨by rw [ep], by rw [ep], hAh, kp.rf, ad, by rw [ep]; exact hR.mono (by omega)⟩) hP hS (by first | exact (Nat.le_of_ble_eq_true rfl) | omega) (by first | exact (Nat.le_of_ble_eq_true rfl) | omega) dX9_play_39)
    · have d3 : nI 101 ≤ t := by rw [Int32.le_iff_toInt_le, nI_toInt (by decide)]; rw [Int32.le_iff_toInt_le, nI_toInt (by decide)] at d2; omega
      exact fh_throwS hx hb hst ht hown (by decide +kernel) kw_186 kw_9 xg0 xb0 xo0 (text := "turns are 0 .. 100") (by decide) hE hS hP (hl.1.trans hml.symm) dX9_play_10 dX9_play_13 dX9_play_14 dX9_play_16 dX9_play_19 htb (Nat.le_of_ble_eq_true rfl) (Nat.le_of_ble_eq_true rfl) (Nat.le_of_ble_eq_true rfl) (Nat.le_of_ble_eq_true rfl) hlocks (⟨rfl, ⟨rfl, by simp only [oPlay, ix_none (Or.inr d3)]⟩⟩) (Nat.le_of_ble_eq_true rfl) (Nat.le_of_ble_eq_true rfl)
