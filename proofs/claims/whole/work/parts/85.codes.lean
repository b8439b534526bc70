/-! one element of the law's script; codes of the calls -/
theorem lw_sld {p : Program} {l : Launch} {e : Env} {R : Room} {s : State} {m : MethodId} {args : Array Value} {below : List Frame} {meth : Method} {c : Code} {H H0 : Heap} {locs : List Loc} {cells slots : Nat} {Q : State → Prop} {cc : ByteArray} {pc : Nat} {ls : Array Slot} {rest : List Value} {A : Nat → Prop} (hx : p.tables.exec = Jvm.exec) (hb : c.code = cc) {b L k : Nat} {xs : Nat → Int32} (hX : va_X b L xs s H0) (hbl : b < H0.size) (hbA : ¬ A b) (hS : va_S A H0 H locs) (hk : k < L) (hL : L ≤ 5120) (hdg : decode cc pc = .ok (.iaload, 1))
    (kk : W p l e R s m args below meth c H locs cells slots Q (F0 m (pc + 1) ls (.int (xs k) :: rest))) : W p l e R s m args below meth c H locs cells slots Q (F0 m pc ls (.int (nI k) :: .ref b :: rest)) := by
  have hc : (nI k).toNatClampNeg = k := nI_clamp (by omega)
  refine va_sld hx hb hX hbl hbA hS (fun q => ?_) hdg (by rw [hc]; exact kk)
  rcases q with q | q
  · exact nI_pos (by omega) q
  · rw [hc] at q; omega
theorem oObj_le (no nv : Nat) (V : Vs) (k : Int32) : (oObj no nv V k).1 ≤ 3 := by
  unfold oObj; split
  · exact Nat.le_of_ble_eq_true rfl
  · split <;> exact Nat.le_of_ble_eq_true rfl
theorem oBranch_le (nv ns : Nat) (V : Vs) (S : Ss) (x : Int32) : (oBranch nv ns V S x).1 ≤ 3 := by
  unfold oBranch; split <;> exact Nat.le_of_ble_eq_true rfl
theorem oSet_le (no ns : Nat) (S : Ss) (LK : List Ar) (x y z : Int32) (v : Int64) : (oSet no ns S LK x y z v).1 ≤ 3 := by
  unfold oSet; split
  · split
    · split <;> exact Nat.le_of_ble_eq_true rfl
    · exact Nat.le_of_ble_eq_true rfl
  · exact Nat.le_of_ble_eq_true rfl
theorem oDrop_le (no ns : Nat) (S : Ss) (LK : List Ar) (x y : Int32) : (oDrop no ns S LK x y).1 ≤ 3 := by
  unfold oDrop; split
  · split
    · split
      · exact Nat.le_of_ble_eq_true rfl
      · split <;> exact Nat.le_of_ble_eq_true rfl
    · exact Nat.le_of_ble_eq_true rfl
  · exact Nat.le_of_ble_eq_true rfl
theorem oMake_le (no ns : Nat) (S : Ss) (x k : Int32) : (oMake no ns S x k).1 ≤ 3 := by
  unfold oMake; split
  · exact Nat.le_of_ble_eq_true rfl
  · split
    · split
      · exact Nat.le_of_ble_eq_true rfl
      · split <;> exact Nat.le_of_ble_eq_true rfl
    · exact Nat.le_of_ble_eq_true rfl
theorem oUndo_le (ns : Nat) (S : Ss) (x : Int32) : (oUndo ns S x).1 ≤ 3 := by
  unfold oUndo; split
  · exact Nat.le_of_ble_eq_true rfl
  · split <;> exact Nat.le_of_ble_eq_true rfl
theorem oJoin_le (nv ns : Nat) (V : Vs) (S : Ss) (LK : List Ar) (J : Nat) (C : CL) (M : Nat → Int32) (x : Int32) : (oJoin nv ns V S LK J C M x).1 ≤ 3 := by
  unfold oJoin; split
  · exact Nat.le_of_ble_eq_true rfl
  · rename_i i _
    generalize oTry nv V S LK M i = jr
    split
    · split <;> exact Nat.le_of_ble_eq_true rfl
    · exact Nat.le_of_ble_eq_true rfl
theorem oConf_le (S : Ss) (J : Nat) (C : CL) (k w : Int32) : (oConf S J C k w).1 ≤ 3 := by
  unfold oConf; split <;> exact Nat.le_of_ble_eq_true rfl
theorem oSettle_le (S : Ss) (J : Nat) (C : CL) (k w : Int32) : (oSettle S J C k w).1 ≤ 3 := by
  unfold oSettle; split
  · exact Nat.le_of_ble_eq_true rfl
  · split
    · split <;> exact Nat.le_of_ble_eq_true rfl
    · exact Nat.le_of_ble_eq_true rfl
theorem oAt_le (no nv : Nat) (V : Vs) (y z : Int32) : (oAt no nv V y z).1 ≤ 3 := by
  unfold oAt; split
  · split <;> exact Nat.le_of_ble_eq_true rfl
  · exact Nat.le_of_ble_eq_true rfl
theorem oLock_le (ns : Nat) (S : Ss) (LK : List Ar) (x : Int32) (x0 y0 x1 y1 : Int64) : (oLock ns S LK x x0 y0 x1 y1).1 ≤ 3 := by
  unfold oLock; split
  · exact Nat.le_of_ble_eq_true rfl
  · split
    · split <;> exact Nat.le_of_ble_eq_true rfl
    · exact Nat.le_of_ble_eq_true rfl
theorem oApart_le (no : Nat) (RL : Rl) (x y : Int32) (d : Int64) : (oApart no RL x y d).1 ≤ 3 := by
  unfold oApart; split
  · split
    · exact Nat.le_of_ble_eq_true rfl
    · split <;> exact Nat.le_of_ble_eq_true rfl
  · exact Nat.le_of_ble_eq_true rfl
theorem oViol_le (RL : Rl) (T : St) (k w : Int32) : (oViol RL T k w).1 ≤ 3 := by
  unfold oViol; split <;> exact Nat.le_of_ble_eq_true rfl
theorem oDiff_le (nv : Nat) (V : Vs) (a b k : Int32) : (oDiff nv V a b k).1 ≤ 3 := by
  unfold oDiff; split <;> exact Nat.le_of_ble_eq_true rfl
theorem oPlay_le (no nv ns : Nat) (V : Vs) (S : Ss) (LK : List Ar) (J : Nat) (C : CL) (M : Nat → Int32) (x : Int64) (t : Int32) : (oPlay no nv ns V S LK J C M x t).1 ≤ 3 := by
  unfold oPlay; split
  · exact Nat.le_of_ble_eq_true rfl
  · rename_i n _
    generalize ptN no LK ns (nv - 1, V (nv - 1), true, [], fun _ => 0) x n = y
    generalize oTry nv V (upN S ns y.2.1) LK M ns = jr
    split <;> exact Nat.le_of_ble_eq_true rfl
theorem oMark_le (no nv : Nat) (V : Vs) (M : Nat → Int32) (y p : Int32) : (oMark no nv V M y p).1 ≤ 3 := by
  unfold oMark; split
  · exact Nat.le_of_ble_eq_true rfl
  · split
    · split <;> exact Nat.le_of_ble_eq_true rfl
    · exact Nat.le_of_ble_eq_true rfl
