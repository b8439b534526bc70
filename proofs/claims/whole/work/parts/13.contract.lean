/-! CONTRACTS over function heaps -/
def fh_Env (G : fG) (A : Nat → Prop) (U : State) (H : Heap) : Prop := fh_K G vwCl tyL U ∧ vx_Zq Bundle.tN "UNASSIGNED_STACK" Bundle.steD A U H ∧ vx_Zq Bundle.tN "SUPPRESSED_SENTINEL" Bundle.listD A U H ∧ envX U
theorem fh_Env.at {G : fG} {A : Nat → Prop} {s U : State} {H : Heap} {locs : List Loc} (hE : fh_Env G A s s.heap) (hS : va_S A s.heap H locs) (hU : U.heap = H) (hW : s.WarmedH U.vm) : fh_Env G A U U.heap := by
  rw [hU]
  exact ⟨hE.1.moved hW.alike, vx_Zq.moved hW.alike (hE.2.1.kept hS.2.1), vx_Zq.moved hW.alike (hE.2.2.1.kept hS.2.1), envX_warm hW hE.2.2.2⟩
def fh_Pre (G : fG) (A : Nat → Prop) (h : FH) (sz : Nat) (U : State) : Prop := U.heap.size = sz ∧ fh_P G vwCl h U.heap ∧ fh_Env G A U U.heap
theorem fh_blind {av : List Value} {G : fG} {A : Nat → Prop} {h : FH} {sz : Nat} : FrameBlind (va_Pc av (fh_Pre G A h sz)) := by
  intro a U g mk q
  obtain ⟨q0, q1, q2, q3, q4, q5, q6⟩ := q
  exact ⟨q0, q1, q2, fh_K.moved (u := U) (U := U.calling g mk a) (Vm.Alike.refl U.vm) q3, vx_Zq.moved (u := U) (U := U.calling g mk a) (Vm.Alike.refl U.vm) q4, vx_Zq.moved (u := U) (U := U.calling g mk a) (Vm.Alike.refl U.vm) q5, envX_same (u := U) (U := U.calling g mk a) rfl q6⟩
def fh_Q (G : fG) (post : Option Value → FH → Prop) (A : Nat → Prop) : Array Value → State → Outcome → State → Prop := fun _ st oc t => (∃ (v : Option Value) (u : FH), oc = .returned v ∧ post v u ∧ fh_P G vwCl u t.heap) ∧ va_F A st t
def fh_X (G : fG) (px : String → FH → Prop) (A : Nat → Prop) : String → State → State → Prop := fun E st t => ∃ u : FH, px E u ∧ fh_P G vwCl u t.heap ∧ va_F A st t
section FHC
variable {p : Program} {l : Launch} {e : Env} {R : Room} {s : State} {m : MethodId} {args : Array Value} {below : List Frame} {meth : Method} {c : Code} {H : Heap} {locs : List Loc} {cells slots : Nat} {Q : State → Prop}
variable {cc : ByteArray} {pc nL : Nat} {ls : Array Slot} {rest st0 : List Value} {G : fG} {h : FH} {A : Nat → Prop} {a : Array Value} {H0 : Heap} {mc ms mc' ms' : Nat} {post : Option Value → FH → Prop} {px px' : String → FH → Prop}
variable {y : MethodName} {bytes : ByteArray} {maxL n index : Nat} {ret : Option FieldType} {ws : List Cond} {rm : Room} {Ts : List Cond} {own C : String} {b : Nat} {As : List Value} {Qc : Array Value → State → Outcome → State → Prop}
theorem fh_go (hr : va_Run p l e R s m args below meth c H locs cells slots mc ms (F0 m pc ls st0) rest (fh_Q G post A a) A) (hS : va_S A H0 H locs)
    (kk : ∀ (v : Option Value) (u : FH) (H1 : Heap) (locs1 : List Loc), post v u → fh_P G vwCl u H1 → H.size ≤ H1.size → va_S A H0 H1 locs1 → W p l e R s m args below meth c H1 locs1 (cells + mc) (slots + ms) Q (F0 m (pc + 3) ls (v.toList ++ rest))) : W p l e R s m args below meth c H locs cells slots Q (F0 m pc ls st0) := by
  intro T hT X
  obtain ⟨v, st₀, t, T', L, h0, X', hL, e1, e2, ⟨⟨v', u, hv, hp, hb⟩, hF⟩, st⟩ := hr T hT X
  cases hv
  obtain ⟨k1, -, k3⟩ := vx_keep h0 e1 hS (fun q _ z => z) (fun q z => z) hL hF
  obtain ⟨t2, a1, b1⟩ := kk v u T'.heap (locs ++ L) hp (by rw [e1]; exact hb) k1 k3 T' rfl X'
  exact ⟨t2, st t2 a1, b1⟩
theorem fh_goX (hr : vx_Run p l e R s m args below meth c H locs cells slots mc ms (F0 m pc ls st0) rest (fh_Q G post A a) (fh_X G px A) A) (hS : va_S A H0 H locs)
    (kx : ∀ (E : String) (ce : Cell) (q9 : Addr) (u : FH) (H1 : Heap) (locs1 : List Loc), px E u → fh_P G vwCl u H1 → H.size ≤ H1.size → va_S A H0 H1 locs1 → H1[q9]? = some ce → ce.vm = .none → s.vm.findClass E = some ce.cls → vx_W p l e R s m args below meth c H1 locs1 (cells + mc) (slots + ms) Q (F0 m pc ls rest) q9)
    (kk : ∀ (v : Option Value) (u : FH) (H1 : Heap) (locs1 : List Loc), post v u → fh_P G vwCl u H1 → H.size ≤ H1.size → va_S A H0 H1 locs1 → W p l e R s m args below meth c H1 locs1 (cells + mc) (slots + ms) Q (F0 m (pc + 3) ls (v.toList ++ rest))) : W p l e R s m args below meth c H locs cells slots Q (F0 m pc ls st0) := by
  intro T hT X
  rcases hr T hT X with ⟨v, st₀, t, T', L, h0, X', hL, e1, e2, ⟨⟨v', u, hv, hp, hb⟩, hF⟩, st⟩ | ⟨q, st₀, t, T', L, E, ce, h0, X', hL, e1, e2, ⟨u, hp, hb, hF⟩, hce, hcv, hcl, st⟩
  · cases hv
    obtain ⟨k1, -, k3⟩ := vx_keep h0 e1 hS (fun q _ z => z) (fun q z => z) hL hF
    obtain ⟨t2, a1, b1⟩ := kk v u T'.heap (locs ++ L) hp (by rw [e1]; exact hb) k1 k3 T' rfl X'
    exact ⟨t2, st t2 a1, b1⟩
  · obtain ⟨k1, -, k3⟩ := vx_keep h0 e1 hS (fun q _ z => z) (fun q z => z) hL hF
    obtain ⟨t2, a1, b1⟩ := kx E ce q u T'.heap (locs ++ L) hp (by rw [e1]; exact hb) k1 k3 (by rw [e1]; exact hce) hcv hcl T' rfl X'
    exact ⟨t2, st.trans a1, b1⟩
/-- what a call needs of the caller's state -/
theorem fh_preS (hP : fh_P G vwCl h H) (hE : fh_Env G A s s.heap) (hS : va_S A s.heap H locs) : PreS s H (va_Pc As (fh_Pre G A h H.size)) As :=
  ⟨fh_blind, fun U hU hW => ⟨rfl, by rw [hU], by rw [hU]; exact hP, hE.at hS hU hW⟩⟩
theorem fh_preV {ci : Nat} {q : vw_C} {fs : List Value} (hP : fh_P G vwCl h H) (hE : fh_Env G A s s.heap) (hS : va_S A s.heap H locs) (hb : h b = some (.inr (ci, fs))) (hc : vwCl[ci]? = some q) : PreV s H q.1 b (va_Pc (.ref b :: As) (fh_Pre G A h H.size)) As :=
  ⟨fh_blind, va_recv hE.1.va (hP.one hb) (q0 := 0) hc rfl, fun U hU hW => ⟨rfl, by rw [hU], by rw [hU]; exact hP, hE.at hS hU hW⟩⟩
/-- an exception that this method doesn't catch -/
theorem fh_out {E : String} {ce : Cell} {q : Addr} {u : FH} (ht : ∀ x ∈ c.exceptionTable.toList, False) (hlocks : meth.locks = false) (hp : px' E u) (hP : fh_P G vwCl u H) (hS : va_S A s.heap H locs) (hcell : H[q]? = some ce) (hv : ce.vm = .none) (hcl : s.vm.findClass E = some ce.cls) (hc : cells ≤ mc') (hs : slots ≤ ms') :
    vx_W p l e R s m args below meth c H locs cells slots (vx_MQ below Qc (fh_X G px' A) args s mc' ms' A) (F0 m pc ls rest) q :=
  vx_out (fun x hx => (ht x hx).elim) hlocks hcell hv hcl (fun t hT _ => ⟨u, hp, by rw [hT]; exact hP, hS.F hT⟩) hS.2.2 hc hs
end FHC
section FHE
variable {p : Program} {l : Launch} {e : Env} {R : Room} {s : State} {m : MethodId} {args : Array Value} {below : List Frame} {meth : Method} {c : Code} {H : Heap} {locs : List Loc} {cells slots : Nat}
variable {cc : ByteArray} {pc : Nat} {ls : Array Slot} {G : fG} {h : FH} {A : Nat → Prop} {mc ms : Nat} {post : Option Value → FH → Prop}
theorem fh_end {v : Option Value} (hp : post v h) (hP : fh_P G vwCl h H) (hS : va_S A s.heap H locs) : ∀ t : State, t.heap = H → s.WarmedH t.vm → fh_Q G post A args s (.returned v) t := fun t ht _ => ⟨⟨v, h, rfl, hp, by rw [ht]; exact hP⟩, hS.F ht⟩
theorem fh_iret {v : Int32} (hx : p.tables.exec = Jvm.exec) (hb : c.code = cc) (hr : meth.sig.returnType = some .int) (hlocks : meth.locks = false) (hp : post (some (.int v)) h) (hP : fh_P G vwCl h H) (hS : va_S A s.heap H locs) (hc : cells ≤ mc) (hs : slots ≤ ms) (hdg : decode cc pc = .ok (.ireturn, 1)) :
    W p l e R s m args below meth c H locs cells slots (MQ below (fh_Q G post A) args s mc ms A) (F0 m pc ls [.int v]) :=
  W.widen hc hs (W.iret hx hb hr (fh_end hp hP hS) hS.2.2 hdg hlocks)
theorem fh_zret {v : Int32} (hx : p.tables.exec = Jvm.exec) (hb : c.code = cc) (hr : meth.sig.returnType = some .boolean) (hlocks : meth.locks = false) (hn : narrow .boolean (.int v) = .int v) (hp : post (some (.int v)) h) (hP : fh_P G vwCl h H) (hS : va_S A s.heap H locs) (hc : cells ≤ mc) (hs : slots ≤ ms) (hdg : decode cc pc = .ok (.ireturn, 1)) :
    W p l e R s m args below meth c H locs cells slots (MQ below (fh_Q G post A) args s mc ms A) (F0 m pc ls [.int v]) :=
  W.widen hc hs (W.zret hx hb hr hn (fh_end hp hP hS) hS.2.2 hdg hlocks)
theorem fh_lret {v : Int64} (hx : p.tables.exec = Jvm.exec) (hb : c.code = cc) (hr : meth.sig.returnType = some .long) (hlocks : meth.locks = false) (hp : post (some (.long v)) h) (hP : fh_P G vwCl h H) (hS : va_S A s.heap H locs) (hc : cells ≤ mc) (hs : slots ≤ ms) (hdg : decode cc pc = .ok (.lreturn, 1)) :
    W p l e R s m args below meth c H locs cells slots (MQ below (fh_Q G post A) args s mc ms A) (F0 m pc ls [.long v]) :=
  W.widen hc hs (W.lret hx hb hr (fh_end hp hP hS) hS.2.2 hdg hlocks)
theorem fh_vret (hx : p.tables.exec = Jvm.exec) (hb : c.code = cc) (hr : meth.sig.returnType = none) (hlocks : meth.locks = false) (hp : post none h) (hP : fh_P G vwCl h H) (hS : va_S A s.heap H locs) (hc : cells ≤ mc) (hs : slots ≤ ms) (hdg : decode cc pc = .ok (.return_, 1)) :
    W p l e R s m args below meth c H locs cells slots (MQ below (fh_Q G post A) args s mc ms A) (F0 m pc ls []) :=
  W.widen hc hs (W.vret hx hb hr (fh_end hp hP hS) hS.2.2 hdg hlocks)
theorem fh_aret {o : Option Nat} {C : String} (hx : p.tables.exec = Jvm.exec) (hb : c.code = cc) (hr : meth.sig.returnType = some (.object C)) (hlocks : meth.locks = false) (hp : post (some (va_rf o)) h) (hP : fh_P G vwCl h H) (hS : va_S A s.heap H locs) (hc : cells ≤ mc) (hs : slots ≤ ms) (hdg : decode cc pc = .ok (.areturn, 1)) :
    W p l e R s m args below meth c H locs cells slots (MQ below (fh_Q G post A) args s mc ms A) (F0 m pc ls [va_rf o]) :=
  W.widen hc hs (W.aret hx hb hr (Or.inl ⟨_, rfl⟩) (va_rf_or o) (fh_end hp hP hS) hS.2.2 hdg hlocks)
end FHE
section FHM
variable {l : Launch} {y : MethodName} {ws ws' : List Cond} {rm : Room} {cc : ByteArray} {maxL : Nat} {ret : Option FieldType} {G : fG} {A : Nat → Prop} {h : FH} {sz mc ms : Nat} {Qc : Array Value → State → Outcome → State → Prop} {XC : String → State → State → Prop}
theorem fh_Met (avs : List Value) (hy : plainName y.cls = true) (hw : ws = Cond.code y cc maxL ret :: ws') (hn : (lg_sl avs).length ≤ maxL)
    (body : ∀ p e s m below meth c, p.tables.exec = Jvm.exec → c.code = cc → meth.sig.returnType = ret → meth.locks = false → c.maxLocals = maxL → s.vm.findClass y.cls = some m.cls → meth.name = y.name → (∀ w ∈ ws, w.before avs.toArray s = true) → s.heap.size = sz → fh_P G vwCl h s.heap → fh_Env G A s s.heap → va_S A s.heap s.heap [] → ∀ ls, lv_has ls maxL (lv_args 0 avs) →
      W p l e (headSpec ws rm).room s m avs.toArray below meth c s.heap [] 0 0 (MQ below Qc avs.toArray s mc ms A) (F0 m 0 ls [])) : Met l y ws rm (va_Pc avs (fh_Pre G A h sz)) Qc mc ms A := by
  refine Met.ofW (cc := cc) (maxL := maxL) (ret := ret) hy hw ?_
  intro p e s m args below meth c s₁ B hml hv
  obtain ⟨rfl, hsz, hP, hE⟩ := hv
  have hl := lv_entry avs (n := maxL) hn
  rw [lg_entry_eq]
  exact body p e s m below meth c B.exec B.bytes B.returns B.notSynchronized hml (findClass_of_methodNamed B.named) (name_of_methodNamed B.named B.method).1 (atoms_spec (ws := ws) B.pre) hsz hP hE va_S.rf _ hl
theorem fh_MetX (avs : List Value) (hy : plainName y.cls = true) (hw : ws = Cond.code y cc maxL ret :: ws') (hn : (lg_sl avs).length ≤ maxL)
    (body : ∀ p e s m below meth c, p.tables.exec = Jvm.exec → c.code = cc → meth.sig.returnType = ret → meth.locks = false → c.maxLocals = maxL → s.vm.findClass y.cls = some m.cls → meth.name = y.name → (∀ w ∈ ws, w.before avs.toArray s = true) → s.heap.size = sz → fh_P G vwCl h s.heap → fh_Env G A s s.heap → va_S A s.heap s.heap [] → (∀ x ∈ c.exceptionTable.toList, False) → ∀ ls, lv_has ls maxL (lv_args 0 avs) →
      W p l e (headSpec ws rm).room s m avs.toArray below meth c s.heap [] 0 0 (vx_MQ below Qc XC avs.toArray s mc ms A) (F0 m 0 ls [])) : vx_Met l y ws rm (va_Pc avs (fh_Pre G A h sz)) Qc XC mc ms A := by
  refine vx_ofW (cc := cc) (maxL := maxL) (ret := ret) hy hw ?_
  intro p e s m args below meth c s₁ B hml ht hv
  obtain ⟨rfl, hsz, hP, hE⟩ := hv
  have hl := lv_entry avs (n := maxL) hn
  rw [lg_entry_eq]
  exact body p e s m below meth c B.exec B.bytes B.returns B.notSynchronized hml (findClass_of_methodNamed B.named) (name_of_methodNamed B.named B.method).1 (atoms_spec (ws := ws) B.pre) hsz hP hE va_S.rf ht _ hl
end FHM
section FHO
variable {p : Program} {l : Launch} {e : Env} {R : Room} {s : State} {m : MethodId} {args : Array Value} {below : List Frame} {meth : Method} {c : Code} {H : Heap} {locs : List Loc} {cells slots : Nat} {Q : State → Prop}
variable {cc : ByteArray} {pc : Nat} {ls : Array Slot} {rest : List Value}
/-- references that may be null, loaded, kept and looked at -/
theorem fh_aload_n (hexec : p.tables.exec = Jvm.exec) (hb : c.code = cc) {k : Fin 4} {i : Nat} {o : Option Nat} (hdg : decode cc pc = .ok (.aload_n k, 1)) (hi : (k : Nat) = i) (hl : ls[i]? = some (.val (va_rf o))) (kk : W p l e R s m args below meth c H locs cells slots Q (F0 m (pc + 1) ls (va_rf o :: rest))) : W p l e R s m args below meth c H locs cells slots Q (F0 m pc ls rest) := by
  cases o with
  | none => exact lv_aload_nN hexec hb hdg hi hl kk
  | some x => exact lv_aload_n hexec hb hdg hi hl kk
theorem fh_aload (hexec : p.tables.exec = Jvm.exec) (hb : c.code = cc) {i : Nat} {o : Option Nat} (hdg : decode cc pc = .ok (.aload i, 2)) (hl : ls[i]? = some (.val (va_rf o))) (kk : W p l e R s m args below meth c H locs cells slots Q (F0 m (pc + 2) ls (va_rf o :: rest))) : W p l e R s m args below meth c H locs cells slots Q (F0 m pc ls rest) := by
  cases o with
  | none => exact lv_aloadN hexec hb hdg hl kk
  | some x => exact lv_aload hexec hb hdg hl kk
theorem fh_astore_n (hexec : p.tables.exec = Jvm.exec) (hb : c.code = cc) {k : Fin 4} {i nL : Nat} {o : Option Nat} {lv lv' : List (Nat × Value)} (hdg : decode cc pc = .ok (.astore_n k, 1)) (hi : (k : Nat) = i) (h : lv_has ls nL lv) (hn : i < nL) (hl : (i, va_rf o) :: lv.filter (fun q => !(q.1 == i) && !(q.1 + 1 == i && q.2.category == 2)) = lv') (kk : ∀ ls' : Array Slot, lv_has ls' nL lv' → W p l e R s m args below meth c H locs cells slots Q (F0 m (pc + 1) ls' rest)) : W p l e R s m args below meth c H locs cells slots Q (F0 m pc ls (va_rf o :: rest)) := by
  cases o with
  | none => exact lv_astore_nN hexec hb hdg hi h hn hl kk
  | some x => exact lv_astore_n hexec hb hdg hi h hn hl kk
theorem fh_astore (hexec : p.tables.exec = Jvm.exec) (hb : c.code = cc) {i nL : Nat} {o : Option Nat} {lv lv' : List (Nat × Value)} (hdg : decode cc pc = .ok (.astore i, 2)) (h : lv_has ls nL lv) (hn : i < nL) (hl : (i, va_rf o) :: lv.filter (fun q => !(q.1 == i) && !(q.1 + 1 == i && q.2.category == 2)) = lv') (kk : ∀ ls' : Array Slot, lv_has ls' nL lv' → W p l e R s m args below meth c H locs cells slots Q (F0 m (pc + 2) ls' rest)) : W p l e R s m args below meth c H locs cells slots Q (F0 m pc ls (va_rf o :: rest)) := by
  cases o with
  | none => exact lv_astoreN hexec hb hdg h hn hl kk
  | some x => exact lv_astore hexec hb hdg h hn hl kk
theorem fh_ifnull (hexec : p.tables.exec = Jvm.exec) (hb : c.code = cc) {o : Option Nat} {off : Int} {tgt : Nat} (hdg : decode cc pc = .ok (.ifnull off, 3)) (ht : (pc : Int) + off = (tgt : Int)) (kn : o = none → W p l e R s m args below meth c H locs cells slots Q (F0 m tgt ls rest)) (ks : ∀ x, o = some x → W p l e R s m args below meth c H locs cells slots Q (F0 m (pc + 3) ls rest)) : W p l e R s m args below meth c H locs cells slots Q (F0 m pc ls (va_rf o :: rest)) := by
  cases o with
  | none => exact lv_ifnullN hexec hb hdg ht (kn rfl)
  | some x => exact lv_ifnull hexec hb hdg (ks x rfl)
theorem fh_ifnonnull (hexec : p.tables.exec = Jvm.exec) (hb : c.code = cc) {o : Option Nat} {off : Int} {tgt : Nat} (hdg : decode cc pc = .ok (.ifnonnull off, 3)) (ht : (pc : Int) + off = (tgt : Int)) (kn : o = none → W p l e R s m args below meth c H locs cells slots Q (F0 m (pc + 3) ls rest)) (ks : ∀ x, o = some x → W p l e R s m args below meth c H locs cells slots Q (F0 m tgt ls rest)) : W p l e R s m args below meth c H locs cells slots Q (F0 m pc ls (va_rf o :: rest)) := by
  cases o with
  | none => exact lv_ifnonnullN hexec hb hdg (kn rfl)
  | some x => exact lv_ifnonnull hexec hb hdg ht (ks x rfl)
end FHO
section FHK
variable {p : Program} {l : Launch} {e : Env} {R : Room} {s : State} {m : MethodId} {args : Array Value} {below : List Frame} {meth : Method} {c : Code} {H : Heap} {locs : List Loc} {cells slots : Nat} {Q : State → Prop}
variable {cc : ByteArray} {pc nL : Nat} {ls : Array Slot} {rest st0 : List Value} {G : fG} {h : FH} {A : Nat → Prop} {mc ms mc' ms' : Nat} {post : Option Value → FH → Prop} {px px' : String → FH → Prop}
variable {y : MethodName} {bytes : ByteArray} {maxL n index : Nat} {ret : Option FieldType} {ws : List Cond} {rm : Room} {Ts : List Cond} {own host : String} {b ci : Nat} {q : vw_C} {fs : List Value} {As : List Value} {Qc : Array Value → State → Outcome → State → Prop}
theorem fh_cV (S : CallFix p m c cc nL s args Ts own) (hM : Met l y ws rm (va_Pc (.ref b :: As) (fh_Pre G A h H.size)) (fh_Q G post A) mc ms A) (cw : CallW R s args own q.1 index y bytes maxL ret ws rm mc ms n) (hP : fh_P G vwCl h H) (hE : fh_Env G A s s.heap) (hS : va_S A s.heap H locs) (hbf : h b = some (.inr (ci, fs))) (hc : vwCl[ci]? = some q) (hn : As.length = n) (hsize : ls.size = nL) (hstack : st0 = As.reverse ++ .ref b :: rest) (hW : (rest.map fun v => v.category).sum ≤ 8) (hdg : decode cc pc = .ok (.invokevirtual index, 3)) (hf : cells + mc ≤ R.cells ∧ slots + ms ≤ R.slots)
    (kk : ∀ (v : Option Value) (u : FH) (H1 : Heap) (locs1 : List Loc), post v u → fh_P G vwCl u H1 → H.size ≤ H1.size → va_S A s.heap H1 locs1 → W p l e R s m args below meth c H1 locs1 (cells + mc) (slots + ms) Q (F0 m (pc + 3) ls (v.toList ++ rest))) : W p l e R s m args below meth c H locs cells slots Q (F0 m pc ls st0) :=
  fh_go (va_runV S hM cw (fh_preV hP hE hS hbf hc) rfl hn hsize hstack (lv_room hW) hdg hf) hS kk
theorem fh_cS (S : CallFix p m c cc nL s args Ts own) (hM : Met l y ws rm (va_Pc As (fh_Pre G A h H.size)) (fh_Q G post A) mc ms A) (cw : CallB R s args own index y bytes maxL ret ws rm mc ms n ∧ (Cond.static y).before args s = true) (hP : fh_P G vwCl h H) (hE : fh_Env G A s s.heap) (hS : va_S A s.heap H locs) (hn : As.length = n) (hsize : ls.size = nL) (hstack : st0 = As.reverse ++ rest) (hW : (rest.map fun v => v.category).sum ≤ 8) (hdg : decode cc pc = .ok (.invokestatic index, 3)) (hf : cells + mc ≤ R.cells ∧ slots + ms ≤ R.slots)
    (kk : ∀ (v : Option Value) (u : FH) (H1 : Heap) (locs1 : List Loc), post v u → fh_P G vwCl u H1 → H.size ≤ H1.size → va_S A s.heap H1 locs1 → W p l e R s m args below meth c H1 locs1 (cells + mc) (slots + ms) Q (F0 m (pc + 3) ls (v.toList ++ rest))) : W p l e R s m args below meth c H locs cells slots Q (F0 m pc ls st0) :=
  fh_go (va_runS S hM cw (fh_preS hP hE hS) rfl hn hsize hstack (lv_room hW) hdg hf) hS kk
theorem fh_cI (S : CallFix p m c cc nL s args Ts own) (hM : Met l y ws rm (va_Pc (.ref b :: As) (fh_Pre G A h H.size)) (fh_Q G post A) mc ms A) (cw : CallB R s args own index y bytes maxL none ws rm mc ms n ∧ y.name = "<init>" ∧ (Cond.instanceMethod y).before args s = true) (hP : fh_P G vwCl h H) (hE : fh_Env G A s s.heap) (hS : va_S A s.heap H locs) (hn : As.length = n) (hsize : ls.size = nL) (hstack : st0 = As.reverse ++ .ref b :: rest) (hW : (rest.map fun v => v.category).sum ≤ 8) (hdg : decode cc pc = .ok (.invokespecial index, 3)) (hf : cells + mc ≤ R.cells ∧ slots + ms ≤ R.slots)
    (kk : ∀ (v : Option Value) (u : FH) (H1 : Heap) (locs1 : List Loc), post v u → fh_P G vwCl u H1 → H.size ≤ H1.size → va_S A s.heap H1 locs1 → W p l e R s m args below meth c H1 locs1 (cells + mc) (slots + ms) Q (F0 m (pc + 3) ls (v.toList ++ rest))) : W p l e R s m args below meth c H locs cells slots Q (F0 m pc ls st0) :=
  fh_go (va_runI S hM cw (fh_preS hP hE hS) rfl hn hsize hstack (lv_room hW) hdg hf) hS kk
theorem fh_cIN (S : CallFix p m c cc nL s args Ts own) (hM : Met l y ws rm (va_Pc (.ref b :: As) (fh_Pre G A h H.size)) (fh_Q G post A) mc ms A) (cw : va_CN R s args own index y host bytes maxL none ws rm mc ms n ∧ y.name = "<init>" ∧ (Cond.instanceMethod y).before args s = true) (hP : fh_P G vwCl h H) (hE : fh_Env G A s s.heap) (hS : va_S A s.heap H locs) (hn : As.length = n) (hsize : ls.size = nL) (hstack : st0 = As.reverse ++ .ref b :: rest) (hW : (rest.map fun v => v.category).sum ≤ 8) (hdg : decode cc pc = .ok (.invokespecial index, 3)) (hf : cells + mc ≤ R.cells ∧ slots + ms ≤ R.slots)
    (kk : ∀ (v : Option Value) (u : FH) (H1 : Heap) (locs1 : List Loc), post v u → fh_P G vwCl u H1 → H.size ≤ H1.size → va_S A s.heap H1 locs1 → W p l e R s m args below meth c H1 locs1 (cells + mc) (slots + ms) Q (F0 m (pc + 3) ls (v.toList ++ rest))) : W p l e R s m args below meth c H locs cells slots Q (F0 m pc ls st0) :=
  fh_go (va_runIN S hM cw (fh_preS hP hE hS) rfl hn hsize hstack (lv_room hW) hdg hf) hS kk
theorem fh_cVX (S : CallFix p m c cc nL s args Ts own) (hM : vx_Met l y ws rm (va_Pc (.ref b :: As) (fh_Pre G A h H.size)) (fh_Q G post A) (fh_X G px A) mc ms A) (cw : CallW R s args own q.1 index y bytes maxL ret ws rm mc ms n) (hP : fh_P G vwCl h H) (hE : fh_Env G A s s.heap) (hS : va_S A s.heap H locs) (hbf : h b = some (.inr (ci, fs))) (hc : vwCl[ci]? = some q) (hn : As.length = n) (hsize : ls.size = nL) (hstack : st0 = As.reverse ++ .ref b :: rest) (hW : (rest.map fun v => v.category).sum ≤ 8) (hdg : decode cc pc = .ok (.invokevirtual index, 3)) (hf : cells + mc ≤ R.cells ∧ slots + ms ≤ R.slots)
    (hpx : ∀ E u, px E u → px' E u) (htb : ∀ x ∈ c.exceptionTable.toList, False) (hlocks : meth.locks = false) (hcm : cells + mc ≤ mc') (hsm : slots + ms ≤ ms')
    (kk : ∀ (v : Option Value) (u : FH) (H1 : Heap) (locs1 : List Loc), post v u → fh_P G vwCl u H1 → H.size ≤ H1.size → va_S A s.heap H1 locs1 → W p l e R s m args below meth c H1 locs1 (cells + mc) (slots + ms) (vx_MQ below Qc (fh_X G px' A) args s mc' ms' A) (F0 m (pc + 3) ls (v.toList ++ rest))) : W p l e R s m args below meth c H locs cells slots (vx_MQ below Qc (fh_X G px' A) args s mc' ms' A) (F0 m pc ls st0) :=
  fh_goX (vx_runV S hM cw (fh_preV hP hE hS hbf hc) rfl hn hsize hstack (lv_room hW) hdg hf) hS (fun E ce q9 u H1 locs1 hp hP1 _ hS1 h1 h2 h3 => fh_out htb hlocks (hpx E u hp) hP1 hS1 h1 h2 h3 hcm hsm) kk
theorem fh_cSX (S : CallFix p m c cc nL s args Ts own) (hM : vx_Met l y ws rm (va_Pc As (fh_Pre G A h H.size)) (fh_Q G post A) (fh_X G px A) mc ms A) (cw : CallB R s args own index y bytes maxL ret ws rm mc ms n ∧ (Cond.static y).before args s = true) (hP : fh_P G vwCl h H) (hE : fh_Env G A s s.heap) (hS : va_S A s.heap H locs) (hn : As.length = n) (hsize : ls.size = nL) (hstack : st0 = As.reverse ++ rest) (hW : (rest.map fun v => v.category).sum ≤ 8) (hdg : decode cc pc = .ok (.invokestatic index, 3)) (hf : cells + mc ≤ R.cells ∧ slots + ms ≤ R.slots)
    (hpx : ∀ E u, px E u → px' E u) (htb : ∀ x ∈ c.exceptionTable.toList, False) (hlocks : meth.locks = false) (hcm : cells + mc ≤ mc') (hsm : slots + ms ≤ ms')
    (kk : ∀ (v : Option Value) (u : FH) (H1 : Heap) (locs1 : List Loc), post v u → fh_P G vwCl u H1 → H.size ≤ H1.size → va_S A s.heap H1 locs1 → W p l e R s m args below meth c H1 locs1 (cells + mc) (slots + ms) (vx_MQ below Qc (fh_X G px' A) args s mc' ms' A) (F0 m (pc + 3) ls (v.toList ++ rest))) : W p l e R s m args below meth c H locs cells slots (vx_MQ below Qc (fh_X G px' A) args s mc' ms' A) (F0 m pc ls st0) :=
  fh_goX (vx_runS S hM cw (fh_preS hP hE hS) rfl hn hsize hstack (lv_room hW) hdg hf) hS (fun E ce q9 u H1 locs1 hp hP1 _ hS1 h1 h2 h3 => fh_out htb hlocks (hpx E u hp) hP1 hS1 h1 h2 h3 hcm hsm) kk
end FHK
section FHT
variable {p : Program} {l : Launch} {e : Env} {R : Room} {s : State} {m : MethodId} {args : Array Value} {below : List Frame} {meth : Method} {c : Code} {H : Heap} {locs : List Loc} {cells slots : Nat}
variable {cc : ByteArray} {pc : Nat} {ls : Array Slot} {rest : List Value} {G : fG} {h : FH} {A : Nat → Prop} {mc ms : Nat} {px : String → FH → Prop} {Qc : Array Value → State → Outcome → State → Prop}
/-- throw new E("text") in ObjectMerge -/
theorem fh_throwS {cls text : String} {ik is ic : Nat} (hx : p.tables.exec = Jvm.exec) (hb : c.code = cc) (hl : l.stackTraces = false) (ht : ∀ w ∈ wB, w.before args s = true) (hown : s.vm.findClass RX9 = some m.cls) (hcls : Bundle.fit cls = true) (hk : Cond.classLink RX9 ik cls ∈ wB) (hini : Cond.initialized cls ∈ wB)
    (xg : ∀ w ∈ (vx_atS RX9 ic cls exN).filter goodWord, w ∈ lw_tbl) (xb : ∀ w ∈ (vx_atS RX9 ic cls exN).filter (fun w => !goodWord w), w ∈ badL) (xo : ∀ w ∈ Cond.classLink RX9 ik cls :: Cond.initialized cls :: vx_atS RX9 ic cls exN, vx_ot w = true)
    (hstr : (RX9, is, text) ∈ ssL) (hE : fh_Env G A s s.heap) (hS : va_S A s.heap H locs) (hP : fh_P G vwCl h H) (hsize : ls.size = c.maxLocals)
    (d0 : decode cc pc = .ok (.new ik, 3)) (d3 : decode cc (pc + 3) = .ok (.dup, 1)) (d4 : decode cc (pc + 4) = .ok (.ldc is, 2)) (d6 : decode cc (pc + 6) = .ok (.invokespecial ic, 3)) (d9 : decode cc (pc + 9) = .ok (.athrow, 1))
    (htb : ∀ x ∈ c.exceptionTable.toList, False) (hRf : 5 < R.frames) (hRl : (rest.map fun v => v.category).sum + 82 ≤ R.locals) (hRc : cells + 1 ≤ R.cells) (hRs : slots + 6 ≤ R.slots) (hlocks : meth.locks = false)
    (hp : px cls h) (hc : cells + 1 ≤ mc) (hs : slots + 6 ≤ ms) : W p l e R s m args below meth c H locs cells slots (vx_MQ below Qc (fh_X G px A) args s mc ms A) (F0 m pc ls rest) := by
  obtain ⟨hK, hU, hN, hX⟩ := hE
  obtain ⟨sa, hsa⟩ := hX.1 _ hstr
  have hat : ∀ w ∈ vx_atS RX9 ic cls exN, w.before args s = true := vx_hat (fun w hw => ht w (List.mem_filter.mpr ⟨xg w hw, (List.mem_filter.mp hw).2⟩)) xb (envX_bad hX)
  refine vx_throwS hx hb hl hown hcls (by decide) (ht _ hk) (ht _ hini) hsa hat xo hU hN hS hsize d0 d3 d4 d6 d9 (fun x hx => (htb x hx).elim) hRf hRl hRc hRs hlocks (fun t hvm hz hq => ⟨h, hp, hP.kept hq, Nat.le_trans hS.1 hz, fun q h1 h2 => (hq q (Nat.lt_of_lt_of_le h1 hS.1)).trans (hS.2.1 q h1 h2)⟩) hS.2.2 hc hs
theorem fh_throwSW {cls text : String} {ik is ic : Nat} (hx : p.tables.exec = Jvm.exec) (hb : c.code = cc) (hl : l.stackTraces = false) (ht : ∀ w ∈ wB, w.before args s = true) (hown : s.vm.findClass RX9 = some m.cls) (hcls : Bundle.fit cls = true) (hk : Cond.classLink RX9 ik cls ∈ wB) (hini : Cond.initialized cls ∈ wB)
    (xg : ∀ w ∈ (vx_atS RX9 ic cls exN).filter goodWord, w ∈ lw_tbl) (xb : ∀ w ∈ (vx_atS RX9 ic cls exN).filter (fun w => !goodWord w), w ∈ badL) (xo : ∀ w ∈ Cond.classLink RX9 ik cls :: Cond.initialized cls :: vx_atS RX9 ic cls exN, vx_ot w = true)
    (hstr : (RX9, is, text) ∈ ssL) (hE : fh_Env G A s s.heap) (hS : va_S A s.heap H locs) (hP : fh_P G vwCl h H) (hsize : ls.size = c.maxLocals)
    (d0 : decode cc pc = .ok (.new ik, 3)) (d3 : decode cc (pc + 3) = .ok (.dup, 1)) (d4 : decode cc (pc + 4) = .ok (.ldc_w is, 3)) (d7 : decode cc (pc + 7) = .ok (.invokespecial ic, 3)) (d10 : decode cc (pc + 10) = .ok (.athrow, 1))
    (htb : ∀ x ∈ c.exceptionTable.toList, False) (hRf : 5 < R.frames) (hRl : (rest.map fun v => v.category).sum + 82 ≤ R.locals) (hRc : cells + 1 ≤ R.cells) (hRs : slots + 6 ≤ R.slots) (hlocks : meth.locks = false)
    (hp : px cls h) (hc : cells + 1 ≤ mc) (hs : slots + 6 ≤ ms) : W p l e R s m args below meth c H locs cells slots (vx_MQ below Qc (fh_X G px A) args s mc ms A) (F0 m pc ls rest) := by
  obtain ⟨hK, hU, hN, hX⟩ := hE
  obtain ⟨sa, hsa⟩ := hX.1 _ hstr
  have hat : ∀ w ∈ vx_atS RX9 ic cls exN, w.before args s = true := vx_hat (fun w hw => ht w (List.mem_filter.mpr ⟨xg w hw, (List.mem_filter.mp hw).2⟩)) xb (envX_bad hX)
  refine vx_throwSW hx hb hl hown hcls (by decide) (ht _ hk) (ht _ hini) hsa hat xo hU hN hS hsize d0 d3 d4 d7 d10 (fun x hx => (htb x hx).elim) hRf hRl hRc hRs hlocks (fun t hvm hz hq => ⟨h, hp, hP.kept hq, Nat.le_trans hS.1 hz, fun q h1 h2 => (hq q (Nat.lt_of_lt_of_le h1 hS.1)).trans (hS.2.1 q h1 h2)⟩) hS.2.2 hc hs
end FHT
section FHG
/-- the words of a callee among the good words -/
theorem gB {w1 : Cond} (h : w1 ∈ wB) : GoodIn wB (w1 :: wB) := fun w hw => by
  rcases List.mem_cons.mp hw with rfl | hw
  · exact ⟨h, good_of_word (wB_good _ h)⟩
  · exact ⟨hw, good_of_word (wB_good _ hw)⟩
theorem gV {own C : String} {idx : Nat} {y : MethodName} {w1 : Cond} (h1 : Cond.methodLink own idx y ∈ wB) (h2 : Cond.instanceMethod y ∈ wB) (h3 : Cond.selects C y y ∈ wB) (h4 : Cond.initialized C ∈ wB) (h5 : w1 ∈ wB) : GoodIn wB (wsV own idx C y (w1 :: wB)) := goodIn_app (fun w hw => by
  have hm : w ∈ wB := by
    rcases List.mem_cons.mp hw with rfl | hw
    · exact h1
    rcases List.mem_cons.mp hw with rfl | hw
    · exact h2
    rcases List.mem_cons.mp hw with rfl | hw
    · exact h3
    rcases List.mem_cons.mp hw with rfl | hw
    · exact h4
    cases hw
  exact ⟨hm, good_of_word (wB_good _ hm)⟩) (gB h5)
theorem gS {own : String} {idx : Nat} {y : MethodName} {w1 : Cond} (h1 : Cond.methodLink own idx y ∈ wB) (h2 : Cond.static y ∈ wB) (h4 : Cond.initialized y.cls ∈ wB) (h5 : w1 ∈ wB) : GoodIn wB (va_wsS own idx y (w1 :: wB)) := goodIn_app (fun w hw => by
  have hm : w ∈ wB := by
    rcases List.mem_cons.mp hw with rfl | hw
    · exact h1
    rcases List.mem_cons.mp hw with rfl | hw
    · exact h2
    rcases List.mem_cons.mp hw with rfl | hw
    · exact h4
    cases hw
  exact ⟨hm, good_of_word (wB_good _ hm)⟩) (gB h5)
end FHG
