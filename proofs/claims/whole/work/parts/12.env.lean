/-! the roles of arrays, and what holds of the tables beside the good words -/
abbrev tyL : List FieldType := [.long, .object "ObjectMerge$Row", .int, .object "ObjectMerge$Row", .byte, .int, .object "ObjectMerge$Area", .object "ObjectMerge$State", .object "ObjectMerge$Session", .object "ObjectMerge$Rule", .int, .long, .int, .boolean, .long, .int, .boolean, .boolean, .long, .int, .int, .int, .boolean, .long, .int, .int, .int, .long, .int, .int, .long, .int]
def ssL : List (String × Nat × String) := [("ObjectMerge", 256, "a kind is 0 .. 9"), ("ObjectMerge", 227, "no such session"), ("ObjectMerge", 246, "no such object"), ("ObjectMerge", 248, "a field is 0 .. 5"), ("ObjectMerge", 254, "the session is not open"), ("ObjectMerge", 243, "the object is not there"), ("ObjectMerge", 239, "no such conflict"), ("ObjectMerge", 142, "what is 0, 1 or 2"), ("ObjectMerge", 149, "a side is 0 or 1"), ("ObjectMerge", 171, "a distance is 0 .. 1,000,000,000"), ("ObjectMerge", 179, "which is 0 or 1"), ("ObjectMerge", 229, "no such version"), ("ObjectMerge", 207, "turns are 0 .. 100"), ("ObjectMerge", 218, "the head has no such object"), ("ObjectMerge", 220, "a person is 0 .. 31")]
def aoL : List String := ["ObjectMerge$State", "ObjectMerge$Row", "ObjectMerge$Session", "ObjectMerge$Area", "ObjectMerge$Rule"]
def nlL : List (String × Nat × MethodName × String) := [("ObjectMerge", 15, ⟨"ObjectMerge$State", "<init>", "()V"⟩, "ObjectMerge"), ("ObjectMerge", 28, ⟨"ObjectMerge$Locks", "<init>", "()V"⟩, "ObjectMerge"), ("ObjectMerge", 41, ⟨"ObjectMerge$Conflicts", "<init>", "()V"⟩, "ObjectMerge"), ("ObjectMerge$Session", 17, ⟨"ObjectMerge$Changes", "<init>", "()V"⟩, "ObjectMerge"), ("ObjectMerge", 71, ⟨"ObjectMerge$Row", "<init>", "()V"⟩, "ObjectMerge")]
def ctL : List (String × String) := [("java/lang/IllegalArgumentException", "java/lang/IllegalArgumentException"), ("java/lang/IndexOutOfBoundsException", "java/lang/IndexOutOfBoundsException"), ("java/lang/IllegalStateException", "java/lang/IllegalStateException")]
def dcL : List MethodName := [⟨"java/lang/RuntimeException", "<init>", "()V"⟩, ⟨"java/lang/RuntimeException", "<init>", "(Ljava/lang/String;)V"⟩, ⟨"java/lang/Exception", "<init>", "()V"⟩, ⟨"java/lang/Exception", "<init>", "(Ljava/lang/String;)V"⟩, ⟨"java/lang/Throwable", "<init>", "()V"⟩, ⟨"java/lang/Throwable", "<init>", "(Ljava/lang/String;)V"⟩]
def ncL : List (String × String) := [("java/lang/IllegalArgumentException", "java/lang/IndexOutOfBoundsException"), ("java/lang/IllegalArgumentException", "java/lang/IllegalStateException"), ("java/lang/IndexOutOfBoundsException", "java/lang/IllegalArgumentException"), ("java/lang/IndexOutOfBoundsException", "java/lang/IllegalStateException"), ("java/lang/IllegalStateException", "java/lang/IllegalArgumentException"), ("java/lang/IllegalStateException", "java/lang/IndexOutOfBoundsException")]
def badL : List Cond := ctL.map (fun q => Cond.castable q.1 q.2) ++ dcL.map (fun x => Cond.declares x)
def envX (U : State) : Prop := (∀ q ∈ ssL, ∃ a, vk_R q.1 q.2.1 q.2.2 a U) ∧ (∀ C ∈ aoL, va_AO C U) ∧ (∀ q ∈ nlL, va_Nw (.methodLinkNest q.1 q.2.1 q.2.2.1 q.2.2.2) U) ∧ (∀ q ∈ ctL, va_Nw (.castable q.1 q.2) U) ∧ (∀ x ∈ dcL, va_Nw (.declares x) U) ∧ ∀ q ∈ ncL, va_Nc q.1 q.2 U
theorem envX_warm {s U : State} (hW : s.WarmedH U.vm) (h : envX s) : envX U := by
  obtain ⟨h1, h2, h3, h4, h5, h6⟩ := h
  refine ⟨fun q hq => ?_, fun C hC => va_AO.moved hW.alike (h2 C hC), fun q hq => va_Nw.warmM hW (h3 q hq), fun q hq => va_Nw.warmC hW (h4 q hq), fun x hx => va_Nw.warmD hW (h5 x hx), fun q hq => va_Nc.moved hW.alike (h6 q hq)⟩
  obtain ⟨a, ha⟩ := h1 q hq
  exact ⟨a, vk_R.warm hW ha⟩
theorem envX_same {u U : State} (h : U.vm = u.vm) (hx : envX u) : envX U := envX_warm (s := u) (by rw [h]; exact State.WarmedH.refl u) hx
theorem envX_bad {s : State} {args : Array Value} (h : envX s) : ∀ w ∈ badL, w.before args s = true := by
  intro w hw
  rcases List.mem_append.mp hw with hw | hw
  · obtain ⟨q, hq, rfl⟩ := List.mem_map.mp hw
    exact va_Nw.use rfl (h.2.2.2.1 q hq)
  · obtain ⟨q, hq, rfl⟩ := List.mem_map.mp hw
    exact va_Nw.use rfl (h.2.2.2.2.1 q hq)
abbrev exN : List String := ["java/lang/RuntimeException", "java/lang/Exception"]
abbrev xE0 : String := "java/lang/IllegalArgumentException"
theorem xg0 : ∀ w ∈ (vx_atS RX9 151 xE0 exN).filter goodWord, w ∈ lw_tbl := by decide +kernel
theorem xb0 : ∀ w ∈ (vx_atS RX9 151 xE0 exN).filter (fun w => !goodWord w), w ∈ badL := by decide +kernel
theorem xo0 : ∀ w ∈ Cond.classLink RX9 147 xE0 :: Cond.initialized xE0 :: vx_atS RX9 151 xE0 exN, vx_ot w = true := by decide +kernel
abbrev xE1 : String := "java/lang/IndexOutOfBoundsException"
theorem xg1 : ∀ w ∈ (vx_atS RX9 144 xE1 exN).filter goodWord, w ∈ lw_tbl := by decide +kernel
theorem xb1 : ∀ w ∈ (vx_atS RX9 144 xE1 exN).filter (fun w => !goodWord w), w ∈ badL := by decide +kernel
theorem xo1 : ∀ w ∈ Cond.classLink RX9 140 xE1 :: Cond.initialized xE1 :: vx_atS RX9 144 xE1 exN, vx_ot w = true := by decide +kernel
abbrev xE2 : String := "java/lang/IllegalStateException"
theorem xg2 : ∀ w ∈ (vx_atS RX9 245 xE2 exN).filter goodWord, w ∈ lw_tbl := by decide +kernel
theorem xb2 : ∀ w ∈ (vx_atS RX9 245 xE2 exN).filter (fun w => !goodWord w), w ∈ badL := by decide +kernel
theorem xo2 : ∀ w ∈ Cond.classLink RX9 241 xE2 :: Cond.initialized xE2 :: vx_atS RX9 245 xE2 exN, vx_ot w = true := by decide +kernel
