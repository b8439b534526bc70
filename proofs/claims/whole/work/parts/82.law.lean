/-! THE LAW: methods with handlers, and what both sides keep of each other -/
section LWM
variable {l : Launch} {y : MethodName} {ws ws' : List Cond} {rm : Room} {cc : ByteArray} {maxL : Nat} {ret : Option FieldType} {G : fG} {A : Nat → Prop} {h : FH} {sz mc ms : Nat} {Qc : Array Value → State → Outcome → State → Prop} {hh : List (Nat × Nat × Nat × Nat)}
theorem fh_MetW (avs : List Value) (hy : plainName y.cls = true) (hw : ws = Cond.codeWith y cc maxL ret hh :: ws') (hn : (lg_sl avs).length ≤ maxL)
    (body : ∀ p e s m below meth c, p.tables.exec = Jvm.exec → c.code = cc → meth.sig.returnType = ret → meth.locks = false → c.maxLocals = maxL → s.vm.findClass y.cls = some m.cls → (∀ w ∈ ws, w.before avs.toArray s = true) → s.heap.size = sz → fh_P G vwCl h s.heap → fh_Env G A s s.heap → va_S A s.heap s.heap [] → c.exceptionTable.toList = tableOf hh → ∀ ls, lv_has ls maxL (lv_args 0 avs) →
      W p l e (headSpec ws rm).room s m avs.toArray below meth c s.heap [] 0 0 (MQ below Qc avs.toArray s mc ms A) (F0 m 0 ls [])) : Met l y ws rm (va_Pc avs (fh_Pre G A h sz)) Qc mc ms A := by
  refine va_MetW (cc := cc) (maxL := maxL) (ret := ret) (hh := hh) hy hw ?_
  intro p e s m args below meth c s₁ B hml hv
  obtain ⟨rfl, hsz, hP, hE⟩ := hv
  have hl := lv_entry avs (n := maxL) hn
  rw [lg_entry_eq]
  have hts := atoms_spec (ws := ws) B.pre
  exact body p e s m below meth c B.exec B.bytes B.returns B.notSynchronized hml (findClass_of_methodNamed B.named) hts hsz hP hE va_S.rf (vx_table (x := y) B (hts _ (by rw [hw]; exact List.mem_cons_self))) _ hl
end LWM
section LWK
variable {p : Program} {l : Launch} {e : Env} {R : Room} {s : State} {m : MethodId} {args : Array Value} {below : List Frame} {meth : Method} {c : Code} {H : Heap} {locs : List Loc} {cells slots : Nat} {Q : State → Prop}
variable {cc : ByteArray} {pc nL : Nat} {ls : Array Slot} {rest st0 : List Value} {G : fG} {h : FH} {A : Nat → Prop} {mc ms : Nat} {post : Option Value → FH → Prop} {px : String → FH → Prop}
variable {y : MethodName} {bytes : ByteArray} {maxL n index : Nat} {ret : Option FieldType} {ws : List Cond} {rm : Room} {Ts : List Cond} {own : String} {b : Nat} {As : List Value} {ci : Nat} {q : vw_C} {fs : List Value} {hh : List (Nat × Nat × Nat × Nat)}
theorem fh_cVH (S : CallFix p m c cc nL s args Ts own) (hM : vx_Met l y ws rm (va_Pc (.ref b :: As) (fh_Pre G A h H.size)) (fh_Q G post A) (fh_X G px A) mc ms A) (cw : CallW R s args own q.1 index y bytes maxL ret ws rm mc ms n) (hP : fh_P G vwCl h H) (hE : fh_Env G A s s.heap) (hS : va_S A s.heap H locs) (hbf : h b = some (.inr (ci, fs))) (hc : vwCl[ci]? = some q) (hn : As.length = n) (hsize : ls.size = nL) (hstack : st0 = As.reverse ++ .ref b :: rest) (hW : (rest.map fun v => v.category).sum ≤ 8) (hdg : decode cc pc = .ok (.invokevirtual index, 3)) (hf : cells + mc ≤ R.cells ∧ slots + ms ≤ R.slots)
    (kx : ∀ (E : String) (ce : Cell) (q9 : Addr) (u : FH) (H1 : Heap) (locs1 : List Loc), px E u → fh_P G vwCl u H1 → H.size ≤ H1.size → va_S A s.heap H1 locs1 → H1[q9]? = some ce → ce.vm = .none → s.vm.findClass E = some ce.cls → vx_W p l e R s m args below meth c H1 locs1 (cells + mc) (slots + ms) Q (F0 m pc ls rest) q9)
    (kk : ∀ (v : Option Value) (u : FH) (H1 : Heap) (locs1 : List Loc), post v u → fh_P G vwCl u H1 → H.size ≤ H1.size → va_S A s.heap H1 locs1 → W p l e R s m args below meth c H1 locs1 (cells + mc) (slots + ms) Q (F0 m (pc + 3) ls (v.toList ++ rest))) : W p l e R s m args below meth c H locs cells slots Q (F0 m pc ls st0) :=
  fh_goX (vx_runV S hM cw (fh_preV hP hE hS hbf hc) rfl hn hsize hstack (lv_room hW) hdg hf) hS kx kk
theorem fh_cSW (S : CallFix p m c cc nL s args Ts own) (hM : Met l y ws rm (va_Pc As (fh_Pre G A h H.size)) (fh_Q G post A) mc ms A) (cw : vx_CSW R s args own index y bytes maxL ret hh ws rm mc ms n) (hP : fh_P G vwCl h H) (hE : fh_Env G A s s.heap) (hS : va_S A s.heap H locs) (hn : As.length = n) (hsize : ls.size = nL) (hstack : st0 = As.reverse ++ rest) (hW : (rest.map fun v => v.category).sum ≤ 8) (hdg : decode cc pc = .ok (.invokestatic index, 3)) (hf : cells + mc ≤ R.cells ∧ slots + ms ≤ R.slots)
    (kk : ∀ (v : Option Value) (u : FH) (H1 : Heap) (locs1 : List Loc), post v u → fh_P G vwCl u H1 → H.size ≤ H1.size → va_S A s.heap H1 locs1 → W p l e R s m args below meth c H1 locs1 (cells + mc) (slots + ms) Q (F0 m (pc + 3) ls (v.toList ++ rest))) : W p l e R s m args below meth c H locs cells slots Q (F0 m pc ls st0) :=
  fh_go (vx_runSW S hM cw (fh_preS hP hE hS) rfl hn hsize hstack (lv_room hW) hdg hf) hS kk
end LWK
abbrev kL : List Nat := 23 :: kC
theorem kp.L {h u : FH} (hk : kp kC h u) : kp kL h u := hk.mono (fun k hk9 => by
  cases hc : kC.contains k with
  | false => rfl
  | true =>
    have hm : k ∈ kC := by rw [← List.elem_eq_contains] at hc; exact List.elem_iff.mp hc
    have : kL.contains k = true := by rw [← List.elem_eq_contains]; exact List.elem_iff.mpr (List.mem_cons_of_mem _ hm)
    rw [this] at hk9
    cases hk9)
theorem nc_at {E nm : String} {G : fG} {A : Nat → Prop} {s : State} {H : Heap} (hE : fh_Env G A s H) (h : (E, nm) ∈ ncL) : va_Nc E nm s := hE.2.2.2.2.2.2.2.2 (E, nm) h
theorem ct_at {E : String} {G : fG} {A : Nat → Prop} {s : State} {H : Heap} {args : Array Value} (hE : fh_Env G A s H) (h : (E, E) ∈ ctL) : (Cond.castable E E).before args s = true := envX_bad hE.2.2.2 _ (List.mem_append_left _ (List.mem_map.mpr ⟨(E, E), h, rfl⟩))
theorem RepM.kp2 {A : Nat → Prop} {h0 h u : FH} {D : List Nat} {ma : Nat} {b : Nat → Nat} {th : Int32} {no nv ns : Nat} {V : Vs} {S : Ss} {LK : List Ar} {RL : Rl} {J : Nat} {C : CL} {M : Nat → Int32} (hp : RepM A h0 h ma b th no nv ns V S LK RL J C M) (hk : kp D h u) (hD : av D kM = true) (hA : fh_A A u) : RepM A u u ma b th no nv ns V S LK RL J C M := by
  obtain ⟨fK, fH, fF, fB, fO, fW, fV, fN, cO, cF, cH, cV, fS, fC, lO, lA, rA, rB, rD, fM, hM, hX⟩ := hp
  exact ⟨_, _, _, _, _, _, _, _, _, _, _, _, _, _, _, _, _, _, _, _, MG.kp2 hM hk hD hA, hX⟩
theorem RepM.re {A : Nat → Prop} {h0 h : FH} {ma : Nat} {b : Nat → Nat} {th : Int32} {no nv ns : Nat} {V : Vs} {S : Ss} {LK : List Ar} {RL : Rl} {J : Nat} {C : CL} {M : Nat → Int32} (hp : RepM A h0 h ma b th no nv ns V S LK RL J C M) : kp kM h0 h ∧ fh_A A h ∧ RepM A h h ma b th no nv ns V S LK RL J C M := by
  obtain ⟨fK, fH, fF, fB, fO, fW, fV, fN, cO, cF, cH, cV, fS, fC, lO, lA, rA, rB, rD, fM, hM, hX⟩ := hp
  exact ⟨MG.kept hM, MG.fa hM, ⟨_, _, _, _, _, _, _, _, _, _, _, _, _, _, _, _, _, _, _, _, MG.re hM, hX⟩⟩
/-- the class, the reference and the law's own array, over one abstract state -/
def LawSt (Kq : Nat) (A : Nat → Prop) (u : FH) (xa ma oa : Nat) (b : Nat → Nat) : Prop := ∃ (ad : Ad) (th : Int32) (no nv ns : Nat) (V : Vs) (S : Ss) (LK : List Ar) (RL : Rl) (J : Nat) (C : CL) (M : Nat → Int32) (f : Nat → Int64), fh_A A u ∧ RepC Kq u xa ad no nv ns V S LK RL J C M ∧ RepM A u u ma b th no nv ns V S LK RL J C M ∧ Inv no nv ns V S LK RL J C M ∧ u oa = some (aL 11 1 f)
def zL (b : Bool) : Int64 := if b then 1 else 0
/-! a refused call leaves the state as it was -/
theorem oObj_bad {no nv : Nat} {V : Vs} {k : Int32} (h : (oObj no nv V k).1 ≠ 0) : (oObj no nv V k).2.2 = (no, nv, V) := by
  unfold oObj at h ⊢
  split
  · rfl
  · split
    · rfl
    · rename_i h1 h2; rw [h1] at h; simp [h2] at h
theorem oBranch_bad {nv ns : Nat} {V : Vs} {S : Ss} {x : Int32} (h : (oBranch nv ns V S x).1 ≠ 0) : (oBranch nv ns V S x).2.2 = (ns, S) := by
  unfold oBranch at h ⊢
  split
  · rfl
  · rename_i h1; rw [h1] at h; exact absurd rfl h
theorem oSet_bad {no ns : Nat} {S : Ss} {LK : List Ar} {x y z : Int32} {v : Int64} (h : (oSet no ns S LK x y z v).1 ≠ 0) : (oSet no ns S LK x y z v).2.2 = S := by
  unfold oSet at h ⊢
  split
  · rename_i h1 h2 h3
    rw [h1, h2, h3] at h
    split
    · rename_i h4
      split
      · rfl
      · rename_i h5; dsimp only at h; rw [if_pos h4, h5] at h; exact absurd rfl h
    · rfl
  · rfl
theorem oDrop_bad {no ns : Nat} {S : Ss} {LK : List Ar} {x y : Int32} (h : (oDrop no ns S LK x y).1 ≠ 0) : (oDrop no ns S LK x y).2.2 = S := by
  unfold oDrop at h ⊢
  split
  · rename_i h1 h2
    rw [h1, h2] at h
    split
    · rename_i h4
      split
      · rfl
      · rename_i h5
        dsimp only at h; rw [if_pos h4, h5] at h
        split
        · rfl
        · rename_i h6; dsimp only at h; rw [if_neg h6] at h; exact absurd rfl h
    · rfl
  · rfl
theorem oMake_bad {no ns : Nat} {S : Ss} {x k : Int32} (h : (oMake no ns S x k).1 ≠ 0) : (oMake no ns S x k).2.2 = (no, S) := by
  unfold oMake at h ⊢
  split
  · rfl
  · rename_i h1
    rw [h1] at h
    split
    · rename_i h4
      dsimp only at h
      rw [if_pos h4] at h
      split
      · rfl
      · rename_i h5
        rw [h5] at h
        split
        · rfl
        · rename_i h6; dsimp only at h; rw [if_neg h6] at h; exact absurd rfl h
    · rfl
theorem oUndo_bad {ns : Nat} {S : Ss} {x : Int32} (h : (oUndo ns S x).1 ≠ 0) : (oUndo ns S x).2.2 = S := by
  unfold oUndo at h ⊢
  split
  · rfl
  · rename_i h1
    rw [h1] at h
    split
    · rename_i h4; dsimp only at h; rw [if_pos h4] at h; exact absurd rfl h
    · rfl
theorem oJoin_bad {nv ns : Nat} {V : Vs} {S : Ss} {LK : List Ar} {J : Nat} {C : CL} {M : Nat → Int32} {x : Int32} (h : (oJoin nv ns V S LK J C M x).1 ≠ 0) : (oJoin nv ns V S LK J C M x).2.2 = (nv, V, S, LK, J, C, M) := by
  unfold oJoin at h ⊢
  split
  · rfl
  · rename_i i h1
    rw [h1] at h
    dsimp only at h
    generalize oTry nv V S LK M i = jr at h ⊢
    split
    · rename_i h4
      rw [if_pos h4] at h
      split
      · rfl
      · rename_i h6; rw [if_neg h6] at h; exact absurd rfl h
    · rfl
theorem oSettle_bad {S : Ss} {J : Nat} {C : CL} {k w : Int32} (h : (oSettle S J C k w).1 ≠ 0) : (oSettle S J C k w).2.2 = S := by
  unfold oSettle at h ⊢
  split
  · rfl
  · rename_i h1
    rw [h1] at h
    split
    · rename_i h4
      dsimp only at h
      rw [if_pos h4] at h
      split
      · rfl
      · rename_i h5; rw [h5] at h; exact absurd rfl h
    · rfl
theorem oLock_bad {ns : Nat} {S : Ss} {LK : List Ar} {x : Int32} {x0 y0 x1 y1 : Int64} (h : (oLock ns S LK x x0 y0 x1 y1).1 ≠ 0) : (oLock ns S LK x x0 y0 x1 y1).2.2 = LK := by
  unfold oLock at h ⊢
  split
  · rfl
  · rename_i h1
    rw [h1] at h
    split
    · rename_i h4
      dsimp only at h
      rw [if_pos h4] at h
      split
      · rfl
      · rename_i h5; rw [if_neg h5] at h; exact absurd rfl h
    · rfl
theorem oApart_bad {no : Nat} {RL : Rl} {x y : Int32} {d : Int64} (h : (oApart no RL x y d).1 ≠ 0) : (oApart no RL x y d).2.2 = RL := by
  unfold oApart at h ⊢
  split
  · rename_i h1 h2
    rw [h1, h2] at h
    split
    · rfl
    · rename_i h4
      dsimp only at h
      rw [if_neg h4] at h
      split
      · rfl
      · rename_i h5; rw [if_neg h5] at h; exact absurd rfl h
  · rfl
theorem oMark_bad {no nv : Nat} {V : Vs} {M : Nat → Int32} {y p : Int32} (h : (oMark no nv V M y p).1 ≠ 0) : (oMark no nv V M y p).2.2 = M := by
  unfold oMark at h ⊢
  split
  · rfl
  · rename_i h1
    rw [h1] at h
    split
    · rename_i h4
      dsimp only at h
      rw [if_pos h4] at h
      split
      · rfl
      · rename_i h5; rw [h5] at h; exact absurd rfl h
    · rfl
theorem oPlay_bad {no nv ns : Nat} {V : Vs} {S : Ss} {LK : List Ar} {J : Nat} {C : CL} {M : Nat → Int32} {x : Int64} {t : Int32} (h : (oPlay no nv ns V S LK J C M x t).1 ≠ 0) : (oPlay no nv ns V S LK J C M x t).2.2 = (nv, ns, V, S, LK, J, C, M) := by
  unfold oPlay at h ⊢
  split
  · rfl
  · rename_i n h1
    rw [h1] at h
    dsimp only at h
    generalize ptN no LK ns (nv - 1, V (nv - 1), true, [], fun _ => 0) x n = y at h ⊢
    generalize oTry nv V (upN S ns y.2.1) LK M ns = jr at h ⊢
    split
    · rfl
    · rename_i h6; rw [if_neg h6] at h; exact absurd rfl h
theorem LawSt.mono {Kq Kr : Nat} {A : Nat → Prop} {u : FH} {xa ma oa : Nat} {b : Nat → Nat} (h : LawSt Kq A u xa ma oa b) (hk : Kq ≤ Kr) : LawSt Kr A u xa ma oa b := by
  obtain ⟨ad, th, no, nv, ns, V, S, LK, RL, J, C, M, f, h1, h2, h3⟩ := h
  exact ⟨ad, th, no, nv, ns, V, S, LK, RL, J, C, M, f, h1, h2.mono hk, h3⟩
