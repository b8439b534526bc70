/-! THE CALLS, over the abstract state: first the code (0: answered; else which exception), then the answer, then what has changed -/
abbrev Vs : Type := Nat → St
abbrev Ss : Type := Nat → Ses
abbrev Rl : Type := List (Nat × Nat × Int64)
def oObj (no nv : Nat) (V : Vs) (k : Int32) : Nat × Int32 × Nat × Nat × Vs := match ix k 10 with
  | none => (1, 0, no, nv, V)
  | some _ => if no = 60 ∨ nv = 40 then (0, -1, no, nv, V) else (0, nI no, no + 1, nv + 1, upN V nv (upN (V (nv - 1)) no (some (fun _ => 0))))
def oBegin (ns : Nat) (V : Vs) (S : Ss) (b : Nat) : Int32 × Nat × Ss := if ns = 20 then (-1, ns, S) else (nI ns, ns + 1, upN S ns (b, V b, true, [], fun _ => 0))
def oBranch (nv ns : Nat) (V : Vs) (S : Ss) (x : Int32) : Nat × Int32 × Nat × Ss := match ix x nv with
  | none => (1, 0, ns, S)
  | some b => (0, oBegin ns V S b)
def oSet (no ns : Nat) (S : Ss) (LK : List Ar) (x y z : Int32) (v : Int64) : Nat × Bool × Ss := match ix x ns, ix y no, ix z 6 with
  | some i, some o, some f => if (S i).2.2.1 = true then (match (S i).2.1 o with
    | none => (2, false, S)
    | some r => (0, opWr LK i f v r, if opWr LK i f v r = true then upN S i (sChg (S i) o (some (rwSet r f v))) else S)) else (2, false, S)
  | _, _, _ => (1, false, S)
def oDrop (no ns : Nat) (S : Ss) (LK : List Ar) (x y : Int32) : Nat × Bool × Ss := match ix x ns, ix y no with
  | some i, some o => if (S i).2.2.1 = true then (match (S i).2.1 o with
    | none => (2, false, S)
    | some r => if barred LK i (r 0) (r 1) = true then (0, false, S) else (0, true, upN S i (sChg (S i) o none))) else (2, false, S)
  | _, _ => (1, false, S)
def oMake (no ns : Nat) (S : Ss) (x k : Int32) : Nat × Int32 × Nat × Ss := match ix x ns with
  | none => (1, 0, no, S)
  | some i => if (S i).2.2.1 = true then (match ix k 10 with
    | none => (3, 0, no, S)
    | some _ => if no = 60 then (0, -1, no, S) else (0, nI no, no + 1, upN S i (sChg (S i) no (some (fun _ => 0))))) else (2, 0, no, S)
def oUndo (ns : Nat) (S : Ss) (x : Int32) : Nat × Bool × Ss := match ix x ns with
  | none => (1, false, S)
  | some i => if (S i).2.2.1 = true then (0, !(S i).2.2.2.1.isEmpty, upN S i (sBack (S i))) else (2, false, S)
abbrev Jr : Type := Nat × Nat × Vs × Ss × List Ar × CL × (Nat → Int32)
def oTry (nv : Nat) (V : Vs) (S : Ss) (LK : List Ar) (M : Nat → Int32) (i : Nat) : Jr :=
  if unsN (S i).2.2.2.2 (gathL (V (S i).1) (S i).2.1 (V (nv - 1)) 60) = 0 then (0, nv + 1, upN V nv (mrg (V (S i).1) (S i) (V (nv - 1))), upN S i (sClose (S i)), LK.filter (fun a => decide (a.1 ≠ nI i)), gathL (V (S i).1) (S i).2.1 (V (nv - 1)) 60, mkM (mrg (V (S i).1) (S i) (V (nv - 1))) (V (nv - 1)) M)
  else (unsN (S i).2.2.2.2 (gathL (V (S i).1) (S i).2.1 (V (nv - 1)) 60), nv, V, S, LK, gathL (V (S i).1) (S i).2.1 (V (nv - 1)) 60, M)
/-- what a join comes to: code, answer, versions' number, versions, sessions, locks, which session was joined, conflicts, marks -/
abbrev Jq : Type := Nat × Int32 × Nat × Vs × Ss × List Ar × Nat × CL × (Nat → Int32)
def oJoin (nv ns : Nat) (V : Vs) (S : Ss) (LK : List Ar) (J : Nat) (C : CL) (M : Nat → Int32) (x : Int32) : Jq := match ix x ns with
  | none => (1, 0, nv, V, S, LK, J, C, M)
  | some i => if (S i).2.2.1 = true then (if nv = 40 then (0, -1, nv, V, S, LK, J, C, M) else
      (0, nI (oTry nv V S LK M i).1, (oTry nv V S LK M i).2.1, (oTry nv V S LK M i).2.2.1, (oTry nv V S LK M i).2.2.2.1, (oTry nv V S LK M i).2.2.2.2.1, i, (oTry nv V S LK M i).2.2.2.2.2.1, (oTry nv V S LK M i).2.2.2.2.2.2)) else (2, 0, nv, V, S, LK, J, C, M)
def oConf (S : Ss) (J : Nat) (C : CL) (k w : Int32) : Nat × Int32 := match ix k C.length, ix w 3 with
  | some j, some n => (0, if n = 0 then nI (C.getD j (0, 0)).1 else if n = 1 then nI (C.getD j (0, 0)).2 else (S J).2.2.2.2 ((C.getD j (0, 0)).1 * 7 + (C.getD j (0, 0)).2) - nI 1)
  | _, _ => (1, 0)
def sSide (s : Ses) (p n : Nat) : Ses := (s.1, s.2.1, s.2.2.1, s.2.2.2.1, upd s.2.2.2.2 p (nI (n + 1)))
def oSettle (S : Ss) (J : Nat) (C : CL) (k w : Int32) : Nat × Bool × Ss := match ix k C.length with
  | none => (1, false, S)
  | some j => if (S J).2.2.1 = true then (match ix w 2 with
    | none => (3, false, S)
    | some n => (0, decide ((S J).2.2.2.2 ((C.getD j (0, 0)).1 * 7 + (C.getD j (0, 0)).2) ≠ nI (n + 1)), upN S J (sSide (S J) ((C.getD j (0, 0)).1 * 7 + (C.getD j (0, 0)).2) n))) else (2, false, S)
def oAt (no nv : Nat) (V : Vs) (y z : Int32) : Nat × Int64 := match ix y no, ix z 6 with
  | some o, some f => (match V (nv - 1) o with
    | none => (2, 0)
    | some r => (0, r f))
  | _, _ => (1, 0)
def lkMeets (LK : List Ar) (b : Ar) : Bool := LK.any (fun a => decide (a.1 ≠ b.1) && arMeets a.2.1 a.2.2.1 a.2.2.2.1 a.2.2.2.2 b.2.1 b.2.2.1 b.2.2.2.1 b.2.2.2.2)
def oLock (ns : Nat) (S : Ss) (LK : List Ar) (x : Int32) (x0 y0 x1 y1 : Int64) : Nat × Bool × List Ar := match ix x ns with
  | none => (1, false, LK)
  | some i => if (S i).2.2.1 = true then (if x1 < x0 ∨ y1 < y0 ∨ LK.length = 10 ∨ lkMeets LK (nI i, x0, y0, x1, y1) = true then (0, false, LK) else (0, true, LK ++ [(nI i, x0, y0, x1, y1)])) else (2, false, LK)
def oApart (no : Nat) (RL : Rl) (x y : Int32) (d : Int64) : Nat × Bool × Rl := match ix x no, ix y no with
  | some a, some b => if d < 0 ∨ 1000000000 < d then (2, false, RL) else if a = b ∨ RL.length = 20 then (0, false, RL) else (0, true, RL ++ [(a, b, d)])
  | _, _ => (1, false, RL)
def brokenL (RL : Rl) (T : St) : Rl := RL.filter (fun q => rlBroken (T q.1) (T q.2.1) q.2.2)
def oViol (RL : Rl) (T : St) (k w : Int32) : Nat × Int32 := match ix w 2 with
  | none => (1, 0)
  | some n => (0, match ix k (brokenL RL T).length with
    | none => -1
    | some j => if n = 0 then nI ((brokenL RL T).getD j (0, 0, 0)).1 else nI ((brokenL RL T).getD j (0, 0, 0)).2.1)
def diffO (a b : Ro) (o j : Nat) : CL := ((List.range j).filter (fun k => differO a b k)).map (fun k => (o, k))
def diffL (A B : St) : Nat → CL
  | 0 => []
  | i + 1 => diffL A B i ++ diffO (A i) (B i) i 7
def oDiff (nv : Nat) (V : Vs) (a b k : Int32) : Nat × Int32 := match ix a nv, ix b nv with
  | some i, some j => (0, match ix k (diffL (V i) (V j) 60).length with
    | none => -1
    | some n => nI (8 * ((diffL (V i) (V j) 60).getD n (0, 0)).1 + ((diffL (V i) (V j) 60).getD n (0, 0)).2))
  | _, _ => (1, 0)
def ptN (no : Nat) (LK : List Ar) (i : Nat) (s : Ses) (x : Int64) : Nat → Nat × Ses × Int64
  | 0 => (0, s, x)
  | n + 1 => ((ptN no LK i s x n).1 + (if (ptStep no LK i (ptN no LK i s x n).2.1 (ptN no LK i s x n).2.2).1 = true then 1 else 0), (ptStep no LK i (ptN no LK i s x n).2.1 (ptN no LK i s x n).2.2).2)
def oPlay (no nv ns : Nat) (V : Vs) (S : Ss) (LK : List Ar) (J : Nat) (C : CL) (M : Nat → Int32) (x : Int64) (t : Int32) : Nat × Int32 × Nat × Nat × Vs × Ss × List Ar × Nat × CL × (Nat → Int32) := match ix t 101 with
  | none => (1, 0, nv, ns, V, S, LK, J, C, M)
  | some n => if ns = 20 ∨ nv = 40 then (0, -1, nv, ns, V, S, LK, J, C, M) else
      (0, nI (ptN no LK ns (nv - 1, V (nv - 1), true, [], fun _ => 0) x n).1,
        (oTry nv V (upN S ns (ptN no LK ns (nv - 1, V (nv - 1), true, [], fun _ => 0) x n).2.1) LK M ns).2.1, ns + 1, (oTry nv V (upN S ns (ptN no LK ns (nv - 1, V (nv - 1), true, [], fun _ => 0) x n).2.1) LK M ns).2.2.1, (oTry nv V (upN S ns (ptN no LK ns (nv - 1, V (nv - 1), true, [], fun _ => 0) x n).2.1) LK M ns).2.2.2.1, (oTry nv V (upN S ns (ptN no LK ns (nv - 1, V (nv - 1), true, [], fun _ => 0) x n).2.1) LK M ns).2.2.2.2.1, ns, (oTry nv V (upN S ns (ptN no LK ns (nv - 1, V (nv - 1), true, [], fun _ => 0) x n).2.1) LK M ns).2.2.2.2.2.1, (oTry nv V (upN S ns (ptN no LK ns (nv - 1, V (nv - 1), true, [], fun _ => 0) x n).2.1) LK M ns).2.2.2.2.2.2)
def bitS (n : Nat) : Nat → Nat
  | 0 => 0
  | k + 1 => bitS n k + n / 2 ^ k % 2
def bitN (x : Int32) : Nat := bitS x.toBitVec.toNat 32
def oMark (no nv : Nat) (V : Vs) (M : Nat → Int32) (y p : Int32) : Nat × Int32 × (Nat → Int32) := match ix y no with
  | none => (1, 0, M)
  | some o => if (V (nv - 1) o).isSome = true then (match ix p 32 with
    | none => (2, 0, M)
    | some j => (0, nI (bitN (M o ||| (1 <<< nI j))), upN M o (M o ||| (1 <<< nI j)))) else (1, 0, M)
