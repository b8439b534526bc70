theorem tB {w : Cond} (i : Nat) (h : tables_1[i]? = some w) : w ∈ lw_tbl := List.mem_append_right _ (List.mem_of_getElem? h)
theorem k_arrP {s : State} {args : Array Value} {t : FieldType} (h : (Cond.arrayClass t).before args s = true) : ∃ cA, ArrOfT s cA t ∧ s.vm.findClass ("[" ++ t.toString) = some cA := by
  obtain ⟨cA, kA, comp, hfind, hk, hkind⟩ := Cond.arrayClass_spec h
  exact ⟨cA, fun n z => ⟨(fun k h => by cases h), kA, hk, comp, hkind⟩, hfind⟩
theorem k_arrO {s : State} {C : String} (h : va_AO C s) : ∃ cA, ArrOfT s cA (.object C) ∧ va_RA s cA (.object C) := by
  obtain ⟨comp, c, k, h1, h2, h3, h4, h5⟩ := Cond.arrayOver_spec h
  exact ⟨c, fun n z => ⟨(fun k h => by cases h), k, h3, comp, h4⟩, k, comp, h3, h4, h1, h5⟩
theorem k_str {s : State} {args : Array Value} {own tx : String} {k : Nat} (h1 : (Cond.stringRef own k tx).before args s = true) (h2 : (Cond.exactly (.string own k) "java/lang/String").before args s = true) : ∃ a, vk_R own k tx a s := by
  obtain ⟨a, c, cell, kk, q1, -⟩ := Cond.exactly_spec (args := args) (first := s) (o := none) (s := s) (idx := []) (t := .string own k) (cls := "java/lang/String") h2
  exact ⟨a, vk_R.of h1 q1⟩
theorem k_choose {α β : Type} {L : List α} {P : β → α → Prop} (b0 : β) (h : ∀ (k : Nat) (t : α), L[k]? = some t → ∃ c, P c t) : ∃ f : Nat → β, ∀ (k : Nat) (t : α), L[k]? = some t → P (f k) t := by
  have h2 : ∀ k : Nat, ∃ c : β, ∀ t, L[k]? = some t → P c t := fun k => by
    cases hk : L[k]? with
    | none => exact ⟨b0, fun t q => by cases q⟩
    | some t0 =>
      obtain ⟨c, hc⟩ := h k t0 hk
      exact ⟨c, fun t q => by cases q; exact hc⟩
  obtain ⟨f, hf⟩ := Classical.skolem.mp h2
  exact ⟨f, hf⟩
theorem lw_classes {s : State} {args : Array Value} (ht : ∀ w ∈ wB, w.before args s = true) : ∀ (k : Nat) (q : vw_C), vwCl[k]? = some q → ∃ c : ClassId × (Nat → Nat), u_Kn s q.1 q.2.1 q.2.2 c.1 c.2 := by
  intro k q hq
  match k, hq with
  | 0, hq => cases hq; obtain ⟨c, iS, h⟩ := u_known (C := RX0) (T := TX0) (N := 5) (n := 5) ht inX0 (ht _ kw_518); exact ⟨(c, iS), h⟩
  | 1, hq => cases hq; obtain ⟨c, iS, h⟩ := u_known (C := RX1) (T := TX1) (N := 4) (n := 4) ht inX1 (ht _ kw_123); exact ⟨(c, iS), h⟩
  | 2, hq => cases hq; obtain ⟨c, iS, h⟩ := u_known (C := RX2) (T := TX2) (N := 3) (n := 3) ht inX2 (ht _ kw_58); exact ⟨(c, iS), h⟩
  | 3, hq => cases hq; obtain ⟨c, iS, h⟩ := u_known (C := RX3) (T := TX3) (N := 1) (n := 1) ht inX3 (ht _ kw_650); exact ⟨(c, iS), h⟩
  | 4, hq => cases hq; obtain ⟨c, iS, h⟩ := u_known (C := RX4) (T := TX4) (N := 1) (n := 1) ht inX4 (ht _ kw_44); exact ⟨(c, iS), h⟩
  | 5, hq => cases hq; obtain ⟨c, iS, h⟩ := u_known (C := RX5) (T := TX5) (N := 1) (n := 1) ht inX5 (ht _ kw_259); exact ⟨(c, iS), h⟩
  | 6, hq => cases hq; obtain ⟨c, iS, h⟩ := u_known (C := RX6) (T := TX6) (N := 3) (n := 3) ht inX6 (ht _ kw_557); exact ⟨(c, iS), h⟩
  | 7, hq => cases hq; obtain ⟨c, iS, h⟩ := u_known (C := RX7) (T := TX7) (N := 6) (n := 6) ht inX7 (ht _ kw_117); exact ⟨(c, iS), h⟩
  | 8, hq => cases hq; obtain ⟨c, iS, h⟩ := u_known (C := RX8) (T := TX8) (N := 1) (n := 1) ht inX8 (ht _ kw_30); exact ⟨(c, iS), h⟩
  | 9, hq => cases hq; obtain ⟨c, iS, h⟩ := u_known (C := RX9) (T := TX9) (N := 11) (n := 11) ht inX9 (ht _ kw_21); exact ⟨(c, iS), h⟩
  | 10, hq => cases hq; obtain ⟨c, iS, h⟩ := u_known (C := RX10) (T := TX10) (N := 28) (n := 28) ht inX10 (ht _ kw_685); exact ⟨(c, iS), h⟩
  | k + 11, hq => simp at hq
theorem lw_arrays {s : State} {b : Nat} (hts : ∀ w ∈ lw_tbl, w.before #[Value.ref b] s = true) (hao : ∀ C ∈ aoL, va_AO C s) : ∀ (k : Nat) (t : FieldType), tyL[k]? = some t → ∃ cA, ArrOfT s cA t ∧ va_RA s cA t := by
  intro k t hk
  have hm : t ∈ tyL := List.mem_of_getElem? hk
  have h9 : ∀ t ∈ tyL, t = .long ∨ t = .int ∨ t = .byte ∨ t = .boolean ∨ t = .object "ObjectMerge$State" ∨ t = .object "ObjectMerge$Row" ∨ t = .object "ObjectMerge$Session" ∨ t = .object "ObjectMerge$Area" ∨ t = .object "ObjectMerge$Rule" := by decide
  rcases h9 t hm with rfl | rfl | rfl | rfl | rfl | rfl | rfl | rfl | rfl
  · exact k_arrP (hts _ (tB 268 (by decide +kernel)))
  · exact k_arrP (hts _ (tB 74 (by decide +kernel)))
  · exact k_arrP (hts _ (tB 170 (by decide +kernel)))
  · exact k_arrP (hts _ (tB 775 (by decide +kernel)))
  · exact k_arrO (hao _ (by decide))
  · exact k_arrO (hao _ (by decide))
  · exact k_arrO (hao _ (by decide))
  · exact k_arrO (hao _ (by decide))
  · exact k_arrO (hao _ (by decide))
theorem lw_envX {s : State} {b : Nat} (hts : ∀ w ∈ lw_tbl, w.before #[Value.ref b] s = true) (hgv : (Jvm.Cond.and given_1 narrow_1).before #[Value.ref b] s = true) : envX s := by
  have hs := flat_of_before _ hgv
  exact ⟨List.forall_mem_cons.mpr ⟨k_str (hts _ (tB 227 (by decide +kernel))) (hs _ (by decide +kernel)), List.forall_mem_cons.mpr ⟨k_str (hts _ (tB 299 (by decide +kernel))) (hs _ (by decide +kernel)), List.forall_mem_cons.mpr ⟨k_str (hts _ (tB 310 (by decide +kernel))) (hs _ (by decide +kernel)), List.forall_mem_cons.mpr ⟨k_str (hts _ (tB 314 (by decide +kernel))) (hs _ (by decide +kernel)), List.forall_mem_cons.mpr ⟨k_str (hts _ (tB 327 (by decide +kernel))) (hs _ (by decide +kernel)), List.forall_mem_cons.mpr ⟨k_str (hts _ (tB 341 (by decide +kernel))) (hs _ (by decide +kernel)), List.forall_mem_cons.mpr ⟨k_str (hts _ (tB 486 (by decide +kernel))) (hs _ (by decide +kernel)), List.forall_mem_cons.mpr ⟨k_str (hts _ (tB 490 (by decide +kernel))) (hs _ (by decide +kernel)), List.forall_mem_cons.mpr ⟨k_str (hts _ (tB 498 (by decide +kernel))) (hs _ (by decide +kernel)), List.forall_mem_cons.mpr ⟨k_str (hts _ (tB 556 (by decide +kernel))) (hs _ (by decide +kernel)), List.forall_mem_cons.mpr ⟨k_str (hts _ (tB 581 (by decide +kernel))) (hs _ (by decide +kernel)), List.forall_mem_cons.mpr ⟨k_str (hts _ (tB 609 (by decide +kernel))) (hs _ (by decide +kernel)), List.forall_mem_cons.mpr ⟨k_str (hts _ (tB 648 (by decide +kernel))) (hs _ (by decide +kernel)), List.forall_mem_cons.mpr ⟨k_str (hts _ (tB 676 (by decide +kernel))) (hs _ (by decide +kernel)), List.forall_mem_cons.mpr ⟨k_str (hts _ (tB 677 (by decide +kernel))) (hs _ (by decide +kernel)), fun _ h => absurd h List.not_mem_nil⟩⟩⟩⟩⟩⟩⟩⟩⟩⟩⟩⟩⟩⟩⟩,
    List.forall_mem_cons.mpr ⟨va_AO.of (hts _ (tB 29 (by decide +kernel))), List.forall_mem_cons.mpr ⟨va_AO.of (hts _ (tB 36 (by decide +kernel))), List.forall_mem_cons.mpr ⟨va_AO.of (hts _ (tB 42 (by decide +kernel))), List.forall_mem_cons.mpr ⟨va_AO.of (hts _ (tB 50 (by decide +kernel))), List.forall_mem_cons.mpr ⟨va_AO.of (hts _ (tB 56 (by decide +kernel))), fun _ h => absurd h List.not_mem_nil⟩⟩⟩⟩⟩,
    List.forall_mem_cons.mpr ⟨va_Nw.of rfl (hts _ (tB 31 (by decide +kernel))), List.forall_mem_cons.mpr ⟨va_Nw.of rfl (hts _ (tB 45 (by decide +kernel))), List.forall_mem_cons.mpr ⟨va_Nw.of rfl (hts _ (tB 59 (by decide +kernel))), List.forall_mem_cons.mpr ⟨va_Nw.of rfl (hts _ (tB 124 (by decide +kernel))), List.forall_mem_cons.mpr ⟨va_Nw.of rfl (hts _ (tB 260 (by decide +kernel))), fun _ h => absurd h List.not_mem_nil⟩⟩⟩⟩⟩,
    List.forall_mem_cons.mpr ⟨va_Nw.of rfl (hts _ (tB 188 (by decide +kernel))), List.forall_mem_cons.mpr ⟨va_Nw.of rfl (hts _ (tB 292 (by decide +kernel))), List.forall_mem_cons.mpr ⟨va_Nw.of rfl (hts _ (tB 320 (by decide +kernel))), fun _ h => absurd h List.not_mem_nil⟩⟩⟩,
    List.forall_mem_cons.mpr ⟨va_Nw.of rfl (hts _ (tB 189 (by decide +kernel))), List.forall_mem_cons.mpr ⟨va_Nw.of rfl (hts _ (tB 190 (by decide +kernel))), List.forall_mem_cons.mpr ⟨va_Nw.of rfl (hts _ (tB 191 (by decide +kernel))), List.forall_mem_cons.mpr ⟨va_Nw.of rfl (hts _ (tB 192 (by decide +kernel))), List.forall_mem_cons.mpr ⟨va_Nw.of rfl (hts _ (tB 193 (by decide +kernel))), List.forall_mem_cons.mpr ⟨va_Nw.of rfl (hts _ (tB 194 (by decide +kernel))), fun _ h => absurd h List.not_mem_nil⟩⟩⟩⟩⟩⟩,
    List.forall_mem_cons.mpr ⟨va_Nc.of (hs (Cond.not (.castable "java/lang/IllegalArgumentException" "java/lang/IndexOutOfBoundsException")) (by decide +kernel)), List.forall_mem_cons.mpr ⟨va_Nc.of (hs (Cond.not (.castable "java/lang/IllegalArgumentException" "java/lang/IllegalStateException")) (by decide +kernel)), List.forall_mem_cons.mpr ⟨va_Nc.of (hs (Cond.not (.castable "java/lang/IndexOutOfBoundsException" "java/lang/IllegalArgumentException")) (by decide +kernel)), List.forall_mem_cons.mpr ⟨va_Nc.of (hs (Cond.not (.castable "java/lang/IndexOutOfBoundsException" "java/lang/IllegalStateException")) (by decide +kernel)), List.forall_mem_cons.mpr ⟨va_Nc.of (hs (Cond.not (.castable "java/lang/IllegalStateException" "java/lang/IllegalArgumentException")) (by decide +kernel)), List.forall_mem_cons.mpr ⟨va_Nc.of (hs (Cond.not (.castable "java/lang/IllegalStateException" "java/lang/IndexOutOfBoundsException")) (by decide +kernel)), fun _ h => absurd h List.not_mem_nil⟩⟩⟩⟩⟩⟩⟩
theorem lw_env {s : State} {b : Nat} (hts : ∀ w ∈ lw_tbl, w.before #[Value.ref b] s = true) (hgv : (Jvm.Cond.and given_1 narrow_1).before #[Value.ref b] s = true) : ∃ G : fG, fh_Env G (fun q => s.heap.size ≤ q) s s.heap := by
  have hs := flat_of_before _ hgv
  have hX := lw_envX hts hgv
  obtain ⟨d, hd⟩ := k_choose (0, fun _ => 0) (lw_classes (fun w h => hts w (wB_tbl w h)))
  obtain ⟨a, ha⟩ := k_choose 0 (lw_arrays hts hX.2.1)
  exact ⟨((fun k => (d k).1, fun k => (d k).2), a), ⟨fun c q hq => hd c q hq, fun k t hk => ha k t hk⟩, vx_Zqof (hts _ (tB 213 (by decide +kernel))) (hts _ (wB_tbl _ kw_6)) (hs _ (by decide +kernel)) (fun a h1 h2 => absurd h1 (Nat.not_lt.mpr h2)), vx_Zqof (hts _ (tB 215 (by decide +kernel))) (hts _ (wB_tbl _ kw_6)) (hs _ (by decide +kernel)) (fun a h1 h2 => absurd h1 (Nat.not_lt.mpr h2)), hX⟩
