section
-- ===== PART A: goes FIRST, ahead of the names: the tables' words, and 'selects' of the private methods out of them =====
/-- a private method of a class that the tables say can be made, by its rows of tables_1 -/
def lw_okq (q : MethodName × Nat) : Prop := (q.1.cls ≠ "java/lang/invoke/MethodHandle" ∧ q.1.cls ≠ "java/lang/invoke/VarHandle") ∧ Cond.instantiable q.1.cls q.2 ∈ tables_1 ∧ Cond.privateMethod q.1 ∈ tables_1 ∧ Cond.instanceMethod q.1 ∈ tables_1
theorem lw_p0 : lw_okq (⟨"ObjectMerge", "begin", "(LObjectMerge$State;)LObjectMerge$Session;"⟩, 11) := ⟨⟨by decide +kernel, by decide +kernel⟩, List.mem_of_getElem? (i := 21) (by decide +kernel), List.mem_of_getElem? (i := 114) (by decide +kernel), List.mem_of_getElem? (i := 115) (by decide +kernel)⟩
theorem lw_p1 : lw_okq (⟨"java/lang/Throwable", "fillInStackTrace", "(I)Ljava/lang/Throwable;"⟩, 6) := ⟨⟨by decide +kernel, by decide +kernel⟩, List.mem_of_getElem? (i := 225) (by decide +kernel), List.mem_of_getElem? (i := 223) (by decide +kernel), List.mem_of_getElem? (i := 224) (by decide +kernel)⟩
theorem lw_p2 : lw_okq (⟨"ObjectMerge", "newNumber", "()I"⟩, 11) := ⟨⟨by decide +kernel, by decide +kernel⟩, List.mem_of_getElem? (i := 21) (by decide +kernel), List.mem_of_getElem? (i := 254) (by decide +kernel), List.mem_of_getElem? (i := 255) (by decide +kernel)⟩
theorem lw_p3 : lw_okq (⟨"ObjectMerge", "addVersion", "(LObjectMerge$State;)V"⟩, 11) := ⟨⟨by decide +kernel, by decide +kernel⟩, List.mem_of_getElem? (i := 21) (by decide +kernel), List.mem_of_getElem? (i := 274) (by decide +kernel), List.mem_of_getElem? (i := 275) (by decide +kernel)⟩
theorem lw_p4 : lw_okq (⟨"ObjectMerge", "sessionOf", "(I)LObjectMerge$Session;"⟩, 11) := ⟨⟨by decide +kernel, by decide +kernel⟩, List.mem_of_getElem? (i := 21) (by decide +kernel), List.mem_of_getElem? (i := 287) (by decide +kernel), List.mem_of_getElem? (i := 288) (by decide +kernel)⟩
theorem lw_p5 : lw_okq (⟨"ObjectMerge", "checkObject", "(I)V"⟩, 11) := ⟨⟨by decide +kernel, by decide +kernel⟩, List.mem_of_getElem? (i := 21) (by decide +kernel), List.mem_of_getElem? (i := 307) (by decide +kernel), List.mem_of_getElem? (i := 308) (by decide +kernel)⟩
theorem lw_p6 : lw_okq (⟨"ObjectMerge", "write", "(LObjectMerge$Session;IIJLObjectMerge$Row;)Z"⟩, 11) := ⟨⟨by decide +kernel, by decide +kernel⟩, List.mem_of_getElem? (i := 21) (by decide +kernel), List.mem_of_getElem? (i := 343) (by decide +kernel), List.mem_of_getElem? (i := 344) (by decide +kernel)⟩
theorem lw_p7 : lw_okq (⟨"ObjectMerge", "tryJoin", "(LObjectMerge$Session;)I"⟩, 11) := ⟨⟨by decide +kernel, by decide +kernel⟩, List.mem_of_getElem? (i := 21) (by decide +kernel), List.mem_of_getElem? (i := 400) (by decide +kernel), List.mem_of_getElem? (i := 401) (by decide +kernel)⟩
theorem lw_p8 : lw_okq (⟨"ObjectMerge$Conflicts", "gatherOf", "(ILObjectMerge$State;)V"⟩, 3) := ⟨⟨by decide +kernel, by decide +kernel⟩, List.mem_of_getElem? (i := 58) (by decide +kernel), List.mem_of_getElem? (i := 415) (by decide +kernel), List.mem_of_getElem? (i := 416) (by decide +kernel)⟩
theorem lw_p9 : lw_okq (⟨"ObjectMerge", "takeIn", "(LObjectMerge$Session;)V"⟩, 11) := ⟨⟨by decide +kernel, by decide +kernel⟩, List.mem_of_getElem? (i := 21) (by decide +kernel), List.mem_of_getElem? (i := 446) (by decide +kernel), List.mem_of_getElem? (i := 447) (by decide +kernel)⟩
theorem lw_p10 : lw_okq (⟨"ObjectMerge$Session", "takes", "(IILObjectMerge$State;)Z"⟩, 6) := ⟨⟨by decide +kernel, by decide +kernel⟩, List.mem_of_getElem? (i := 117) (by decide +kernel), List.mem_of_getElem? (i := 457) (by decide +kernel), List.mem_of_getElem? (i := 458) (by decide +kernel)⟩
theorem lw_p11 : lw_okq (⟨"ObjectMerge", "sessionOfConflict", "(I)LObjectMerge$Session;"⟩, 11) := ⟨⟨by decide +kernel, by decide +kernel⟩, List.mem_of_getElem? (i := 21) (by decide +kernel), List.mem_of_getElem? (i := 475) (by decide +kernel), List.mem_of_getElem? (i := 476) (by decide +kernel)⟩
theorem lw_p12 : lw_okq (⟨"ObjectMerge", "versionOf", "(I)LObjectMerge$State;"⟩, 11) := ⟨⟨by decide +kernel, by decide +kernel⟩, List.mem_of_getElem? (i := 21) (by decide +kernel), List.mem_of_getElem? (i := 599) (by decide +kernel), List.mem_of_getElem? (i := 600) (by decide +kernel)⟩
theorem lw_p13 : lw_okq (⟨"ObjectMerge", "playTurn", "(LObjectMerge$Session;LObjectMerge$Draw;)Z"⟩, 11) := ⟨⟨by decide +kernel, by decide +kernel⟩, List.mem_of_getElem? (i := 21) (by decide +kernel), List.mem_of_getElem? (i := 653) (by decide +kernel), List.mem_of_getElem? (i := 654) (by decide +kernel)⟩
theorem lw_p14 : lw_okq (⟨"ObjectMergeModel", "copyHead", "()V"⟩, 28) := ⟨⟨by decide +kernel, by decide +kernel⟩, List.mem_of_getElem? (i := 678) (by decide +kernel), List.mem_of_getElem? (i := 781) (by decide +kernel), List.mem_of_getElem? (i := 782) (by decide +kernel)⟩
theorem lw_p15 : lw_okq (⟨"ObjectMergeModel", "head", "()I"⟩, 28) := ⟨⟨by decide +kernel, by decide +kernel⟩, List.mem_of_getElem? (i := 678) (by decide +kernel), List.mem_of_getElem? (i := 785) (by decide +kernel), List.mem_of_getElem? (i := 786) (by decide +kernel)⟩
def lw_privs_1 : List (MethodName × Nat) := [(⟨"ObjectMerge", "begin", "(LObjectMerge$State;)LObjectMerge$Session;"⟩, 11), (⟨"java/lang/Throwable", "fillInStackTrace", "(I)Ljava/lang/Throwable;"⟩, 6), (⟨"ObjectMerge", "newNumber", "()I"⟩, 11), (⟨"ObjectMerge", "addVersion", "(LObjectMerge$State;)V"⟩, 11), (⟨"ObjectMerge", "sessionOf", "(I)LObjectMerge$Session;"⟩, 11), (⟨"ObjectMerge", "checkObject", "(I)V"⟩, 11), (⟨"ObjectMerge", "write", "(LObjectMerge$Session;IIJLObjectMerge$Row;)Z"⟩, 11), (⟨"ObjectMerge", "tryJoin", "(LObjectMerge$Session;)I"⟩, 11), (⟨"ObjectMerge$Conflicts", "gatherOf", "(ILObjectMerge$State;)V"⟩, 3), (⟨"ObjectMerge", "takeIn", "(LObjectMerge$Session;)V"⟩, 11), (⟨"ObjectMerge$Session", "takes", "(IILObjectMerge$State;)Z"⟩, 6), (⟨"ObjectMerge", "sessionOfConflict", "(I)LObjectMerge$Session;"⟩, 11), (⟨"ObjectMerge", "versionOf", "(I)LObjectMerge$State;"⟩, 11), (⟨"ObjectMerge", "playTurn", "(LObjectMerge$Session;LObjectMerge$Draw;)Z"⟩, 11), (⟨"ObjectMergeModel", "copyHead", "()V"⟩, 28), (⟨"ObjectMergeModel", "head", "()I"⟩, 28)]
theorem lw_r1 : ∀ q ∈ lw_privs_1, lw_okq q := List.forall_mem_cons.mpr ⟨lw_p0, List.forall_mem_cons.mpr ⟨lw_p1, List.forall_mem_cons.mpr ⟨lw_p2, List.forall_mem_cons.mpr ⟨lw_p3, List.forall_mem_cons.mpr ⟨lw_p4, List.forall_mem_cons.mpr ⟨lw_p5, List.forall_mem_cons.mpr ⟨lw_p6, List.forall_mem_cons.mpr ⟨lw_p7, List.forall_mem_cons.mpr ⟨lw_p8, List.forall_mem_cons.mpr ⟨lw_p9, List.forall_mem_cons.mpr ⟨lw_p10, List.forall_mem_cons.mpr ⟨lw_p11, List.forall_mem_cons.mpr ⟨lw_p12, List.forall_mem_cons.mpr ⟨lw_p13, List.forall_mem_cons.mpr ⟨lw_p14, List.forall_mem_cons.mpr ⟨lw_p15, fun _ h => absurd h List.not_mem_nil⟩⟩⟩⟩⟩⟩⟩⟩⟩⟩⟩⟩⟩⟩⟩⟩
theorem lw_p16 : lw_okq (⟨"ObjectMergeModel", "begin", "(I)I"⟩, 28) := ⟨⟨by decide +kernel, by decide +kernel⟩, List.mem_of_getElem? (i := 678) (by decide +kernel), List.mem_of_getElem? (i := 793) (by decide +kernel), List.mem_of_getElem? (i := 794) (by decide +kernel)⟩
theorem lw_p17 : lw_okq (⟨"ObjectMergeModel", "isSession", "(I)Z"⟩, 28) := ⟨⟨by decide +kernel, by decide +kernel⟩, List.mem_of_getElem? (i := 678) (by decide +kernel), List.mem_of_getElem? (i := 805) (by decide +kernel), List.mem_of_getElem? (i := 806) (by decide +kernel)⟩
theorem lw_p18 : lw_okq (⟨"ObjectMergeModel", "isObject", "(I)Z"⟩, 28) := ⟨⟨by decide +kernel, by decide +kernel⟩, List.mem_of_getElem? (i := 678) (by decide +kernel), List.mem_of_getElem? (i := 809) (by decide +kernel), List.mem_of_getElem? (i := 810) (by decide +kernel)⟩
theorem lw_p19 : lw_okq (⟨"ObjectMergeModel", "setsField", "(IIIJ)Z"⟩, 28) := ⟨⟨by decide +kernel, by decide +kernel⟩, List.mem_of_getElem? (i := 678) (by decide +kernel), List.mem_of_getElem? (i := 816) (by decide +kernel), List.mem_of_getElem? (i := 817) (by decide +kernel)⟩
theorem lw_p20 : lw_okq (⟨"ObjectMergeModel", "isBarred", "(II)Z"⟩, 28) := ⟨⟨by decide +kernel, by decide +kernel⟩, List.mem_of_getElem? (i := 678) (by decide +kernel), List.mem_of_getElem? (i := 820) (by decide +kernel), List.mem_of_getElem? (i := 821) (by decide +kernel)⟩
theorem lw_p21 : lw_okq (⟨"ObjectMergeModel", "note", "(III)V"⟩, 28) := ⟨⟨by decide +kernel, by decide +kernel⟩, List.mem_of_getElem? (i := 678) (by decide +kernel), List.mem_of_getElem? (i := 824) (by decide +kernel), List.mem_of_getElem? (i := 825) (by decide +kernel)⟩
theorem lw_p22 : lw_okq (⟨"ObjectMergeModel", "joins", "(I)I"⟩, 28) := ⟨⟨by decide +kernel, by decide +kernel⟩, List.mem_of_getElem? (i := 678) (by decide +kernel), List.mem_of_getElem? (i := 844) (by decide +kernel), List.mem_of_getElem? (i := 845) (by decide +kernel)⟩
theorem lw_p23 : lw_okq (⟨"ObjectMergeModel", "findConflicts", "(II)V"⟩, 28) := ⟨⟨by decide +kernel, by decide +kernel⟩, List.mem_of_getElem? (i := 678) (by decide +kernel), List.mem_of_getElem? (i := 848) (by decide +kernel), List.mem_of_getElem? (i := 849) (by decide +kernel)⟩
theorem lw_p24 : lw_okq (⟨"ObjectMergeModel", "baseHas", "(II)Z"⟩, 28) := ⟨⟨by decide +kernel, by decide +kernel⟩, List.mem_of_getElem? (i := 678) (by decide +kernel), List.mem_of_getElem? (i := 852) (by decide +kernel), List.mem_of_getElem? (i := 853) (by decide +kernel)⟩
theorem lw_p25 : lw_okq (⟨"ObjectMergeModel", "isOwnAsBase", "(II)Z"⟩, 28) := ⟨⟨by decide +kernel, by decide +kernel⟩, List.mem_of_getElem? (i := 678) (by decide +kernel), List.mem_of_getElem? (i := 856) (by decide +kernel), List.mem_of_getElem? (i := 857) (by decide +kernel)⟩
theorem lw_p26 : lw_okq (⟨"ObjectMergeModel", "ownValue", "(III)J"⟩, 28) := ⟨⟨by decide +kernel, by decide +kernel⟩, List.mem_of_getElem? (i := 678) (by decide +kernel), List.mem_of_getElem? (i := 860) (by decide +kernel), List.mem_of_getElem? (i := 861) (by decide +kernel)⟩
theorem lw_p27 : lw_okq (⟨"ObjectMergeModel", "baseValue", "(III)J"⟩, 28) := ⟨⟨by decide +kernel, by decide +kernel⟩, List.mem_of_getElem? (i := 678) (by decide +kernel), List.mem_of_getElem? (i := 864) (by decide +kernel), List.mem_of_getElem? (i := 865) (by decide +kernel)⟩
theorem lw_p28 : lw_okq (⟨"ObjectMergeModel", "headHas", "(I)Z"⟩, 28) := ⟨⟨by decide +kernel, by decide +kernel⟩, List.mem_of_getElem? (i := 678) (by decide +kernel), List.mem_of_getElem? (i := 868) (by decide +kernel), List.mem_of_getElem? (i := 869) (by decide +kernel)⟩
theorem lw_p29 : lw_okq (⟨"ObjectMergeModel", "isHeadAsBase", "(II)Z"⟩, 28) := ⟨⟨by decide +kernel, by decide +kernel⟩, List.mem_of_getElem? (i := 678) (by decide +kernel), List.mem_of_getElem? (i := 872) (by decide +kernel), List.mem_of_getElem? (i := 873) (by decide +kernel)⟩
theorem lw_p30 : lw_okq (⟨"ObjectMergeModel", "headValue", "(II)J"⟩, 28) := ⟨⟨by decide +kernel, by decide +kernel⟩, List.mem_of_getElem? (i := 678) (by decide +kernel), List.mem_of_getElem? (i := 876) (by decide +kernel), List.mem_of_getElem? (i := 877) (by decide +kernel)⟩
theorem lw_p31 : lw_okq (⟨"ObjectMergeModel", "add", "(II)V"⟩, 28) := ⟨⟨by decide +kernel, by decide +kernel⟩, List.mem_of_getElem? (i := 678) (by decide +kernel), List.mem_of_getElem? (i := 880) (by decide +kernel), List.mem_of_getElem? (i := 881) (by decide +kernel)⟩
def lw_privs_2 : List (MethodName × Nat) := [(⟨"ObjectMergeModel", "begin", "(I)I"⟩, 28), (⟨"ObjectMergeModel", "isSession", "(I)Z"⟩, 28), (⟨"ObjectMergeModel", "isObject", "(I)Z"⟩, 28), (⟨"ObjectMergeModel", "setsField", "(IIIJ)Z"⟩, 28), (⟨"ObjectMergeModel", "isBarred", "(II)Z"⟩, 28), (⟨"ObjectMergeModel", "note", "(III)V"⟩, 28), (⟨"ObjectMergeModel", "joins", "(I)I"⟩, 28), (⟨"ObjectMergeModel", "findConflicts", "(II)V"⟩, 28), (⟨"ObjectMergeModel", "baseHas", "(II)Z"⟩, 28), (⟨"ObjectMergeModel", "isOwnAsBase", "(II)Z"⟩, 28), (⟨"ObjectMergeModel", "ownValue", "(III)J"⟩, 28), (⟨"ObjectMergeModel", "baseValue", "(III)J"⟩, 28), (⟨"ObjectMergeModel", "headHas", "(I)Z"⟩, 28), (⟨"ObjectMergeModel", "isHeadAsBase", "(II)Z"⟩, 28), (⟨"ObjectMergeModel", "headValue", "(II)J"⟩, 28), (⟨"ObjectMergeModel", "add", "(II)V"⟩, 28)]
theorem lw_r2 : ∀ q ∈ lw_privs_2, lw_okq q := List.forall_mem_cons.mpr ⟨lw_p16, List.forall_mem_cons.mpr ⟨lw_p17, List.forall_mem_cons.mpr ⟨lw_p18, List.forall_mem_cons.mpr ⟨lw_p19, List.forall_mem_cons.mpr ⟨lw_p20, List.forall_mem_cons.mpr ⟨lw_p21, List.forall_mem_cons.mpr ⟨lw_p22, List.forall_mem_cons.mpr ⟨lw_p23, List.forall_mem_cons.mpr ⟨lw_p24, List.forall_mem_cons.mpr ⟨lw_p25, List.forall_mem_cons.mpr ⟨lw_p26, List.forall_mem_cons.mpr ⟨lw_p27, List.forall_mem_cons.mpr ⟨lw_p28, List.forall_mem_cons.mpr ⟨lw_p29, List.forall_mem_cons.mpr ⟨lw_p30, List.forall_mem_cons.mpr ⟨lw_p31, fun _ h => absurd h List.not_mem_nil⟩⟩⟩⟩⟩⟩⟩⟩⟩⟩⟩⟩⟩⟩⟩⟩
theorem lw_p32 : lw_okq (⟨"ObjectMergeModel", "unsettled", "(I)I"⟩, 28) := ⟨⟨by decide +kernel, by decide +kernel⟩, List.mem_of_getElem? (i := 678) (by decide +kernel), List.mem_of_getElem? (i := 884) (by decide +kernel), List.mem_of_getElem? (i := 885) (by decide +kernel)⟩
theorem lw_p33 : lw_okq (⟨"ObjectMergeModel", "sideOf", "(III)I"⟩, 28) := ⟨⟨by decide +kernel, by decide +kernel⟩, List.mem_of_getElem? (i := 678) (by decide +kernel), List.mem_of_getElem? (i := 888) (by decide +kernel), List.mem_of_getElem? (i := 889) (by decide +kernel)⟩
theorem lw_p34 : lw_okq (⟨"ObjectMergeModel", "merge", "(II)V"⟩, 28) := ⟨⟨by decide +kernel, by decide +kernel⟩, List.mem_of_getElem? (i := 678) (by decide +kernel), List.mem_of_getElem? (i := 892) (by decide +kernel), List.mem_of_getElem? (i := 893) (by decide +kernel)⟩
theorem lw_p35 : lw_okq (⟨"ObjectMergeModel", "takeAll", "(II)V"⟩, 28) := ⟨⟨by decide +kernel, by decide +kernel⟩, List.mem_of_getElem? (i := 678) (by decide +kernel), List.mem_of_getElem? (i := 896) (by decide +kernel), List.mem_of_getElem? (i := 897) (by decide +kernel)⟩
theorem lw_p36 : lw_okq (⟨"ObjectMergeModel", "takeField", "(III)V"⟩, 28) := ⟨⟨by decide +kernel, by decide +kernel⟩, List.mem_of_getElem? (i := 678) (by decide +kernel), List.mem_of_getElem? (i := 900) (by decide +kernel), List.mem_of_getElem? (i := 901) (by decide +kernel)⟩
theorem lw_p37 : lw_okq (⟨"ObjectMergeModel", "isConflict", "(II)Z"⟩, 28) := ⟨⟨by decide +kernel, by decide +kernel⟩, List.mem_of_getElem? (i := 678) (by decide +kernel), List.mem_of_getElem? (i := 904) (by decide +kernel), List.mem_of_getElem? (i := 905) (by decide +kernel)⟩
theorem lw_p38 : lw_okq (⟨"ObjectMergeModel", "dropMarks", "()V"⟩, 28) := ⟨⟨by decide +kernel, by decide +kernel⟩, List.mem_of_getElem? (i := 678) (by decide +kernel), List.mem_of_getElem? (i := 908) (by decide +kernel), List.mem_of_getElem? (i := 909) (by decide +kernel)⟩
theorem lw_p39 : lw_okq (⟨"ObjectMergeModel", "dropLocks", "(I)V"⟩, 28) := ⟨⟨by decide +kernel, by decide +kernel⟩, List.mem_of_getElem? (i := 678) (by decide +kernel), List.mem_of_getElem? (i := 912) (by decide +kernel), List.mem_of_getElem? (i := 913) (by decide +kernel)⟩
theorem lw_p40 : lw_okq (⟨"ObjectMergeModel", "isBroken", "(I)Z"⟩, 28) := ⟨⟨by decide +kernel, by decide +kernel⟩, List.mem_of_getElem? (i := 678) (by decide +kernel), List.mem_of_getElem? (i := 964) (by decide +kernel), List.mem_of_getElem? (i := 965) (by decide +kernel)⟩
def lw_privs_3 : List (MethodName × Nat) := [(⟨"ObjectMergeModel", "unsettled", "(I)I"⟩, 28), (⟨"ObjectMergeModel", "sideOf", "(III)I"⟩, 28), (⟨"ObjectMergeModel", "merge", "(II)V"⟩, 28), (⟨"ObjectMergeModel", "takeAll", "(II)V"⟩, 28), (⟨"ObjectMergeModel", "takeField", "(III)V"⟩, 28), (⟨"ObjectMergeModel", "isConflict", "(II)Z"⟩, 28), (⟨"ObjectMergeModel", "dropMarks", "()V"⟩, 28), (⟨"ObjectMergeModel", "dropLocks", "(I)V"⟩, 28), (⟨"ObjectMergeModel", "isBroken", "(I)Z"⟩, 28)]
theorem lw_r3 : ∀ q ∈ lw_privs_3, lw_okq q := List.forall_mem_cons.mpr ⟨lw_p32, List.forall_mem_cons.mpr ⟨lw_p33, List.forall_mem_cons.mpr ⟨lw_p34, List.forall_mem_cons.mpr ⟨lw_p35, List.forall_mem_cons.mpr ⟨lw_p36, List.forall_mem_cons.mpr ⟨lw_p37, List.forall_mem_cons.mpr ⟨lw_p38, List.forall_mem_cons.mpr ⟨lw_p39, List.forall_mem_cons.mpr ⟨lw_p40, fun _ h => absurd h List.not_mem_nil⟩⟩⟩⟩⟩⟩⟩⟩⟩
def lw_privs : List (MethodName × Nat) := lw_privs_1 ++ (lw_privs_2 ++ (lw_privs_3))
def lw_tbl : List Cond := k2_sels lw_privs ++ tables_1
theorem lw_privs_ok : ∀ q ∈ lw_privs, lw_okq q := by
  show ∀ q ∈ lw_privs_1 ++ (lw_privs_2 ++ (lw_privs_3)), lw_okq q
  exact List.forall_mem_append.mpr ⟨lw_r1, List.forall_mem_append.mpr ⟨lw_r2, lw_r3⟩⟩
end
section
/-! ===== BEGIN words of one list among another's, by their places ===== -/
theorem goodIn_r {big : List Cond} (ws : List Cond) (ps : List Nat) (hp : ws = ps.filterMap (fun i => big[i]?)) (h : ws.all goodWord = true) : GoodIn big ws := by
  intro w hw
  have h1 := List.all_eq_true.mp h w hw
  rw [hp] at hw
  obtain ⟨i, -, hi⟩ := List.mem_filterMap.mp hw
  have hm : w ∈ big := by first | exact List.mem_of_getElem? hi | exact List.getElem?_mem hi
  exact ⟨hm, good_of_word h1⟩
theorem goodIn_app {big a b : List Cond} (ha : GoodIn big a) (hb : GoodIn big b) : GoodIn big (a ++ b) := fun w h => (List.mem_append.mp h).elim (ha w) (hb w)
theorem goodIn_ca {big a b : List Cond} {c : Cond} (ha : GoodIn big (c :: a)) (hb : GoodIn big b) : GoodIn big (c :: (a ++ b)) := fun w h => (List.mem_cons.mp h).elim (fun e => ha w (List.mem_cons.mpr (Or.inl e))) (fun h => (List.mem_append.mp h).elim (fun h => ha w (List.mem_cons.mpr (Or.inr h))) (hb w))
theorem goodIn_sub {big ws : List Cond} (hm : ∀ w ∈ ws, w ∈ big) (h : ws.all goodWord = true) : GoodIn big ws := fun w hw => ⟨hm w hw, good_of_word (List.all_eq_true.mp h w hw)⟩
/-! ===== END ===== -/

/-! ===== BEGIN exceptions that leave a method, and their catching by the caller (launches without stack traces) ===== -/
section VXA
/-! The laws vx_back, vx_callV, vx_callS, vx_callSW, vx_throw0, vx_throwS follow proofs of the library, with one case more: JvmDerived/Free/Laws.lean (Back.of_free), Shelf42/LK1.lean (callV, callS), Shelf/KitTraced.lean (throwNew0V, throwNewS). -/
/-- where a method has thrown q: the class by its name, the cell, what was written, the world -/
def vx_T (XC : String → State → State → Prop) (st : State) (q : Addr) (t : State) (mc ms : Nat) (free : Addr → Prop) : Prop :=
  ∃ (E : String) (ce : Cell) (L : List Loc), XC E st t ∧ t.heap[q]? = some ce ∧ ce.vm = .none ∧ st.vm.findClass E = some ce.cls ∧ st.WarmedH t.vm ∧ st.sameButNew ({ t with vm := st.vm } : State) L mc ms ∧ ∀ z ∈ L, free z.base
def vx_Q (Qc : Array Value → State → Outcome → State → Prop) (XC : String → State → State → Prop) (mc ms : Nat) (free : Addr → Prop) : Array Value → State → Outcome → State → Prop := fun a st o t =>
  (Qc a st o t ∧ ∃ L, FrameEnd st o t L mc ms ∧ ∀ q ∈ L, free q.base) ∨ ∃ q, o = .threw q ∧ vx_T XC st q t mc ms free
/-- a callee that returns or throws -/
def vx_Met (l : Launch) (y : MethodName) (ws : List Cond) (rm : Room) (Pc : Array Value → State → Prop) (Qc : Array Value → State → Outcome → State → Prop) (XC : String → State → State → Prop) (mc ms : Nat) (free : Addr → Prop) : Prop :=
  MetFree l y (headSpec ws rm) Pc (fun _ _ _ _ _ => True) (vx_Q Qc XC mc ms free)
def vx_Post (XC : String → State → State → Prop) (mc ms : Nat) (free : Addr → Prop) : Pt → Array Value → Addr → Pt → Prop := fun A a q B =>
  ∃ (g : JFrame) (mk : MethodId) (t : State) (L : List Loc) (E : String) (ce : Cell), B.U.heap = t.heap ∧ B.U.vm = t.vm ∧ XC E (A.U.calling g mk a) t ∧ t.heap[q]? = some ce ∧ ce.vm = .none ∧ A.U.vm.findClass E = some ce.cls ∧ B.locs = A.locs ++ L ∧ (∀ z ∈ L, free z.base) ∧ B.cells = A.cells + mc ∧ B.slots = A.slots + ms
def vx_Back (l : Launch) (R : Room) (p : Program) (e : Env) (below : List Frame) (s : State) (sargs : Array Value) (y : MethodName) (len W9 : Nat)
    (Pre : Pt → Array Value → Prop) (Post : Pt → Array Value → Option Value → Pt → Prop) (PostX : Pt → Array Value → Addr → Pt → Prop) : Prop :=
  ∀ (m : MethodId) (meth : Method) (c : Code) (A : Pt) (g : JFrame) (ig : Instr) (mk : MethodId) (a : Array Value),
    Stand p l e R s m sargs below meth c A.U A.locs A.cells A.slots → g.method = m → g.locals.size = c.maxLocals → decode c.code g.pc = .ok (ig, len) →
    2 * g.monitorRoom + (g.stack.map fun v => v.category).sum ≤ W9 → A.U.methodNamed? y = some mk → Pre A a →
    (∃ (v : Option Value) (B : Pt), Stand p l e R s m sargs below meth c B.U B.locs B.cells B.slots ∧ Post A a v B ∧
      Steps p.tables e below (doInvoke e (A.U.setTop g) [] mk a).1 (B.U.setTop { g with pc := g.pc + len, stack := v.toList ++ g.stack })) ∨
    (∃ (q : Addr) (B : Pt), Stand p l e R s m sargs below meth c B.U B.locs B.cells B.slots ∧ PostX A a q B ∧
      Steps p.tables e below (doInvoke e (A.U.setTop g) [] mk a).1 ((B.U.setTop g).pushFrame (.throwing q)))
section Payer
variable {l : Launch} {R : Room} {p : Program} {e : Env} {below : List Frame} {s : State} {sargs : Array Value} {y : MethodName} {len W9 : Nat}
theorem vx_back {ws : List Cond} {rm : Room} {Pc : Array Value → State → Prop} {Qc : Array Value → State → Outcome → State → Prop} {XC : String → State → State → Prop} {mc ms : Nat} {free : Addr → Prop} {bytes : ByteArray} {maxL : Nat} {ret : Option FieldType}
    (hM : vx_Met l y ws rm Pc Qc XC mc ms free) (hblind : FrameBlind Pc) (hrc : rm.cells = mc) (hrs : rm.slots = ms)
    (hframes : rm.frames + 1 ≤ R.frames) (hlocals : W9 + (maxL + 11) + rm.locals ≤ R.locals)
    (hws : ∀ w ∈ ws, ∀ a' U, s.WarmedH U.vm → w.before a' U = true) (hcode : Cond.code y bytes maxL ret ∈ ws) (hinit : ∀ a' U, s.WarmedH U.vm → (Cond.initialized y.cls).before a' U = true) :
    vx_Back l R p e below s sargs y len W9 (PreOf R mc ms Pc) (PostOf Qc mc ms free) (vx_Post XC mc ms free) := by
  intro m meth c A g ig mk a X hg hsize hdg hW hn hp
  have h1 : (headSpec ws rm).pre.before a A.U = true := atoms_intro fun w hw => hws w hw _ _ X.warmed
  have h2 : (Cond.code y bytes maxL ret).before a A.U = true := hws _ hcode _ _ X.warmed
  have h3 : (Cond.initialized y.cls).before a A.U = true := hinit _ _ X.warmed
  have h4 : A.cells + (headSpec ws rm).room.cells ≤ R.cells := by rw [show (headSpec ws rm).room.cells = mc from hrc]; exact hp.1
  have h5 : A.slots + (headSpec ws rm).room.slots ≤ R.slots := by rw [show (headSpec ws rm).room.slots = ms from hrs]; exact hp.2.1
  have hPc : Pc a (A.U.calling g mk a) := hblind _ _ _ _ hp.2.2
  obtain ⟨U, Ls, c0, s0⟩ := A
  dsimp only [Pt.U, Pt.locs, Pt.cells, Pt.slots] at h1 h2 h3 h4 h5 X hn hPc ⊢
  obtain ⟨methY, cY, hmY, hcY, -, hlY, -, -, -, -⟩ := Cond.code_spec hn h2
  obtain ⟨kY, hkY, -⟩ := className_of_methodNamed hn
  have hinitY : kY.init = .initialized := Cond.initialized_spec (findClass_of_methodNamed hn) hkY h3
  have h : At U g.method c below := by rw [hg]; exact X.here
  have hlocals9 : W9 + (maxL + 11) + (headSpec ws rm).room.locals ≤ R.locals := hlocals
  have happ : (headSpec ws rm).appliesLoose y e.platform (U.calling g mk a) = true :=
    Spec.appliesLoose_calling (g := g) h hdg hn hkY hinitY
      (X.room_calling (g := g) (R' := (headSpec ws rm).room) hsize hmY hcY hframes (by rw [hlY]; omega) h4 h5) h1
  obtain ⟨mid, hmid⟩ := h.above
  have hfr : (U.setTop g).frames = (.java g :: mid) ++ below := by rw [State.frames_setTop' g h.top, hmid]; rfl
  obtain ⟨o, s₂, hsteps, -, hend, hq⟩ := Steps.callFree hM p X.admits X.cas X.clock (acts := []) hfr happ hPc trivial
  have hq' : vx_Q Qc XC mc ms free a (U.calling g mk a) o s₂ := hq
  rw [State.frames_setTop' g h.top] at hend
  obtain ⟨g₀, hg0⟩ := Option.isSome_iff_exists.mp h.top
  obtain ⟨r, hr⟩ := State.topJava?_eq_some.mp hg0
  have hr' : (({ U with heap := s₂.heap, slotsUsed := s₂.slotsUsed } : State).setVm s₂.vm).frames = .java g₀ :: r := hr
  rcases hq' with ⟨hqc, L, hfe, hL⟩ | ⟨q, rfl, E, ce, L, hx, hce, hcv, hcl, hW₂, hsm, hL⟩
  · obtain ⟨⟨v, rfl⟩, hW₂, e2, q2, q3, q4, q5, q6⟩ := id hfe
    have e3 : s₂ = ({ (U.calling g mk a).setFrames s₂.frames with heap := s₂.heap, slotsUsed := s₂.slotsUsed } : State).setVm s₂.vm := by
      have : s₂ = ({ s₂ with vm := (U.calling g mk a).vm } : State).setVm s₂.vm := rfl
      rw [e2] at this
      exact this
    obtain ⟨c₂, i₂, len₂, hc₂, hd₂, hf₂⟩ := hend
    have hW' : U.WarmedH s₂.vm := hW₂
    have hcc : c₂ = c := by
      have h1 : s₂.code? g.method = U.code? g.method := by
        rw [State.code?_eq, State.code?_eq, hW'.alike.method?]
      exact Option.some.inj (hc₂.symm.trans (h1.trans h.code))
    subst hcc
    have hlen : len₂ = len := by rw [hdg] at hd₂; cases hd₂; rfl
    subst hlen
    have hs₂ : s₂ = (({ U with heap := s₂.heap, slotsUsed := s₂.slotsUsed } : State).setVm s₂.vm).setTop { g with pc := g.pc + len₂, stack := v.toList ++ g.stack } := by
      refine e3.trans ?_
      rw [hf₂, State.calling_eq h.top, State.setFrames_setFrames, State.setTop_of_frames _ hr', hr]
      rfl
    have hsame : U.sameButNew ({ U with heap := s₂.heap, slotsUsed := s₂.slotsUsed } : State) L mc ms := by
      refine ⟨?_, q2, q3, q4, q5, q6⟩
      obtain ⟨t, ht, -⟩ := State.frames_cons hr
      show ({ U with heap := s₂.heap, slotsUsed := s₂.slotsUsed } : State) = { U.setFrames U.frames with heap := s₂.heap, slotsUsed := s₂.slotsUsed }
      rw [State.setFrames_self ht]
    subst hg
    refine Or.inl ⟨v, ⟨(({ U with heap := s₂.heap, slotsUsed := s₂.slotsUsed } : State).setVm s₂.vm), Ls ++ L, c0 + mc, s0 + ms⟩,
      ⟨X.admits, X.cas, X.clock, X.frames, X.room, X.hears, X.method, X.code, (X.here.setHeapUsed s₂.heap s₂.slotsUsed).setVm hW'.alike, X.tail, State.WarmedH.trans X.warmed hW', X.limits, X.bytes, X.same.trans (hsame.setVm s.vm)⟩,
      ⟨g, mk, s₂, L, rfl, rfl, hqc, rfl, hL, rfl, rfl⟩, ?_⟩
    show Steps p.tables e below _ ((({ U with heap := s₂.heap, slotsUsed := s₂.slotsUsed } : State).setVm s₂.vm).setTop { g with pc := g.pc + len₂, stack := v.toList ++ g.stack })
    rw [← hs₂]
    exact hsteps
  · obtain ⟨e2, q2, q3, q4, q5, q6⟩ := id hsm
    have e3 : s₂ = ({ (U.calling g mk a).setFrames s₂.frames with heap := s₂.heap, slotsUsed := s₂.slotsUsed } : State).setVm s₂.vm := by
      have : s₂ = ({ s₂ with vm := (U.calling g mk a).vm } : State).setVm s₂.vm := rfl
      rw [e2] at this
      exact this
    have hf₂ : s₂.frames = .throwing q :: .java g :: U.frames.tail := hend
    have hW' : U.WarmedH s₂.vm := hW₂
    have hs₂ : s₂ = ((({ U with heap := s₂.heap, slotsUsed := s₂.slotsUsed } : State).setVm s₂.vm).setTop g).pushFrame (.throwing q) := by
      refine e3.trans ?_
      rw [hf₂, State.calling_eq h.top, State.setFrames_setFrames, State.pushFrame, State.frames_setTop _ hr', State.setTop_of_frames _ hr', State.setFrames_setFrames, hr]
      rfl
    have hsame : U.sameButNew ({ U with heap := s₂.heap, slotsUsed := s₂.slotsUsed } : State) L mc ms := by
      refine ⟨?_, q2, q3, q4, q5, q6⟩
      obtain ⟨t, ht, -⟩ := State.frames_cons hr
      show ({ U with heap := s₂.heap, slotsUsed := s₂.slotsUsed } : State) = { U.setFrames U.frames with heap := s₂.heap, slotsUsed := s₂.slotsUsed }
      rw [State.setFrames_self ht]
    subst hg
    refine Or.inr ⟨q, ⟨(({ U with heap := s₂.heap, slotsUsed := s₂.slotsUsed } : State).setVm s₂.vm), Ls ++ L, c0 + mc, s0 + ms⟩,
      ⟨X.admits, X.cas, X.clock, X.frames, X.room, X.hears, X.method, X.code, (X.here.setHeapUsed s₂.heap s₂.slotsUsed).setVm hW'.alike, X.tail, State.WarmedH.trans X.warmed hW', X.limits, X.bytes, X.same.trans (hsame.setVm s.vm)⟩,
      ⟨g, mk, s₂, L, E, ce, rfl, rfl, hx, hce, hcv, hcl, rfl, hL, rfl, rfl⟩, ?_⟩
    show Steps p.tables e below _ (((({ U with heap := s₂.heap, slotsUsed := s₂.slotsUsed } : State).setVm s₂.vm).setTop g).pushFrame (.throwing q))
    rw [← hs₂]
    exact hsteps
end Payer
section Calls
variable {p : Program} {l : Launch} {e : Env} {R : Room} {s : State} {m : MethodId} {args : Array Value} {below : List Frame} {meth : Method} {c : Code} {T : State} {locs : List Loc} {cells slots : Nat}
theorem vx_callV (X : Stand p l e R s m args below meth c T locs cells slots) (hexec : p.tables.exec = Jvm.exec) {own C : String} {index : Nat} {y : MethodName} {bytes : ByteArray} {maxL : Nat} {ret : Option FieldType}
    (hown : s.vm.findClass own = some m.cls) (hlink : (Cond.methodLink own index y).before args s = true) (hinst : (Cond.instanceMethod y).before args s = true) (hsel : (Cond.selects C y y).before args s = true)
    (hcode : (Cond.code y bytes maxL ret).before args s = true) (hy : y.cls ≠ "java/lang/invoke/MethodHandle" ∧ y.cls ≠ "java/lang/invoke/VarHandle")
    {W9 : Nat} {Pre : Pt → Array Value → Prop} {Post : Pt → Array Value → Option Value → Pt → Prop} {PostX : Pt → Array Value → Addr → Pt → Prop} (hK : vx_Back l R p e below s args y 3 W9 Pre Post PostX)
    {b : Addr} {cellB : Cell} (hcell : T.heap[b]? = some cellB) (hobj : cellB.vm.isStatics = false) (hcls : s.vm.findClass C = some cellB.cls)
    {g : JFrame} (hg : g.method = m) (hsize : g.locals.size = c.maxLocals) {argsL rest : List Value} (hlen : ∀ sig, parseMethodDescriptor y.desc = some sig → argsL.length = sig.parameters.length)
    (hstack : g.stack = argsL.reverse ++ .ref b :: rest) (hW : 2 * g.monitorRoom + (rest.map fun v => v.category).sum ≤ W9) (hdg : decode c.code g.pc = .ok (.invokevirtual index, 3))
    (hpre : ∀ vm₁, s.WarmedH vm₁ → Pre ⟨T.setVm vm₁, locs, cells, slots⟩ (Value.ref b :: argsL).toArray) :
    (∃ (v : Option Value) (vm₁ : Vm) (B : Pt), s.WarmedH vm₁ ∧ Stand p l e R s m args below meth c B.U B.locs B.cells B.slots ∧ Post ⟨T.setVm vm₁, locs, cells, slots⟩ (Value.ref b :: argsL).toArray v B ∧
      ∀ target, Steps p.tables e below (B.U.setTop { g with pc := g.pc + 3, stack := v.toList ++ rest }) target → Steps p.tables e below (T.setTop g) target) ∨
    (∃ (q : Addr) (vm₁ : Vm) (B : Pt), s.WarmedH vm₁ ∧ Stand p l e R s m args below meth c B.U B.locs B.cells B.slots ∧ PostX ⟨T.setVm vm₁, locs, cells, slots⟩ (Value.ref b :: argsL).toArray q B ∧
      Steps p.tables e below (T.setTop g) ((B.U.setTop { g with stack := rest }).pushFrame (.throwing q))) := by
  obtain ⟨mk, methM, hnamed, hmethM, hstM, habM⟩ := Cond.instanceMethod_spec hinst
  obtain ⟨methM', cM, hmethM', -, -, -, -, -, -, hsigM⟩ := Cond.code_spec hnamed hcode
  cases hmethM.symm.trans hmethM'
  obtain ⟨c2, r2, m2, q1, q2, q3, q4, kP, hkP, hkPi⟩ := Cond.selects_spec hsel
  cases hcls.symm.trans q1
  cases (State.methodFound?_of_named hnamed hy).symm.trans q2
  cases hnamed.symm.trans q3
  have hselP : selectMethod e.platform s.vm cellB.cls mk = .method mk := by rw [Launch.admits_selectMethod X.admits]; exact q4
  obtain ⟨vm₁, X₁, hstep₁⟩ := X.invokevirtual hexec hown hlink hnamed hmethM hstM hkP hkPi hy (a := b) (cell := cellB) hcell
    (fun z h => by rw [h] at hobj; cases hobj) hselP hmethM habM hkP hkPi (g := g) hg (argsL := argsL) (rest := rest) (hlen _ hsigM) hstack hdg
  rcases hK m meth c ⟨T.setVm vm₁, locs, cells, slots⟩ { g with stack := rest } (.invokevirtual index) mk (Value.ref b :: argsL).toArray X₁ hg hsize hdg hW (X₁.named hnamed) (hpre vm₁ X₁.warmed) with ⟨v, B, X', hpost, hsteps⟩ | ⟨q, B, X', hpost, hsteps⟩
  · exact Or.inl ⟨v, vm₁, B, X₁.warmed, X', hpost, fun target h => hstep₁ _ fun acts => by rw [doInvoke_state]; exact hsteps.trans h⟩
  · exact Or.inr ⟨q, vm₁, B, X₁.warmed, X', hpost, hstep₁ _ fun acts => by rw [doInvoke_state]; exact hsteps⟩
theorem vx_callS (X : Stand p l e R s m args below meth c T locs cells slots) (hexec : p.tables.exec = Jvm.exec) {own : String} {index : Nat} {y : MethodName} {bytes : ByteArray} {maxL : Nat} {ret : Option FieldType}
    (hown : s.vm.findClass own = some m.cls) (hlink : (Cond.methodLink own index y).before args s = true) (hstat : (Cond.static y).before args s = true) (hinit : (Cond.initialized y.cls).before args s = true)
    (hcode : (Cond.code y bytes maxL ret).before args s = true) (hy : y.cls ≠ "java/lang/invoke/MethodHandle" ∧ y.cls ≠ "java/lang/invoke/VarHandle")
    {W9 : Nat} {Pre : Pt → Array Value → Prop} {Post : Pt → Array Value → Option Value → Pt → Prop} {PostX : Pt → Array Value → Addr → Pt → Prop} (hK : vx_Back l R p e below s args y 3 W9 Pre Post PostX)
    {g : JFrame} (hg : g.method = m) (hsize : g.locals.size = c.maxLocals) {argsL rest : List Value} (hlen : ∀ sig, parseMethodDescriptor y.desc = some sig → argsL.length = sig.parameters.length)
    (hstack : g.stack = argsL.reverse ++ rest) (hW : 2 * g.monitorRoom + (rest.map fun v => v.category).sum ≤ W9) (hdg : decode c.code g.pc = .ok (.invokestatic index, 3))
    (hpre : ∀ vm₁, s.WarmedH vm₁ → Pre ⟨T.setVm vm₁, locs, cells, slots⟩ argsL.toArray) :
    (∃ (v : Option Value) (vm₁ : Vm) (B : Pt), s.WarmedH vm₁ ∧ Stand p l e R s m args below meth c B.U B.locs B.cells B.slots ∧ Post ⟨T.setVm vm₁, locs, cells, slots⟩ argsL.toArray v B ∧
      ∀ target, Steps p.tables e below (B.U.setTop { g with pc := g.pc + 3, stack := v.toList ++ rest }) target → Steps p.tables e below (T.setTop g) target) ∨
    (∃ (q : Addr) (vm₁ : Vm) (B : Pt), s.WarmedH vm₁ ∧ Stand p l e R s m args below meth c B.U B.locs B.cells B.slots ∧ PostX ⟨T.setVm vm₁, locs, cells, slots⟩ argsL.toArray q B ∧
      Steps p.tables e below (T.setTop g) ((B.U.setTop { g with stack := rest }).pushFrame (.throwing q))) := by
  obtain ⟨mk, hnamed⟩ := Cond.code_named hcode
  obtain ⟨methM, cM, hmethM, -, -, -, -, -, -, hsigM⟩ := Cond.code_spec hnamed hcode
  have hstatic : methM.isStatic = true := Cond.static_spec hnamed hmethM hstat
  obtain ⟨kP, hkP, -⟩ := className_of_methodNamed hnamed
  have hinitP : kP.init = .initialized := Cond.initialized_spec (findClass_of_methodNamed hnamed) hkP hinit
  obtain ⟨vm₁, X₁, hstep₁⟩ := X.invokestatic hexec hown hlink hnamed hmethM hstatic hkP hinitP hy (g := g) hg (argsL := argsL) (rest := rest) (hlen _ hsigM) hstack hdg
  rcases hK m meth c ⟨T.setVm vm₁, locs, cells, slots⟩ { g with stack := rest } (.invokestatic index) mk argsL.toArray X₁ hg hsize hdg hW (X₁.named hnamed) (hpre vm₁ X₁.warmed) with ⟨v, B, X', hpost, hsteps⟩ | ⟨q, B, X', hpost, hsteps⟩
  · exact Or.inl ⟨v, vm₁, B, X₁.warmed, X', hpost, fun target h => hstep₁ _ fun acts => by rw [doInvoke_state]; exact hsteps.trans h⟩
  · exact Or.inr ⟨q, vm₁, B, X₁.warmed, X', hpost, hstep₁ _ fun acts => by rw [doInvoke_state]; exact hsteps⟩
end Calls
theorem vx_cls {s : State} {T : State} {vm₁ : Vm} {E : String} {k : ClassId} (hW : s.WarmedH vm₁) (h : (T.setVm vm₁).vm.findClass E = some k) : s.vm.findClass E = some k := by
  have h1 : vm₁.findClass E = some k := h
  rw [hW.alike.findClass] at h1
  exact h1
/-- the method's frame g, with q thrown over it -/
def vx_W (p : Program) (l : Launch) (e : Env) (R : Room) (s : State) (m : MethodId) (args : Array Value) (below : List Frame) (meth : Method) (c : Code) (H : Heap) (locs : List Loc) (cells slots : Nat) (Q : State → Prop) (g : JFrame) (q : Addr) : Prop :=
  ∀ T : State, T.heap = H → Stand p l e R s m args below meth c T locs cells slots → ∃ t, Steps p.tables e below ((T.setTop g).pushFrame (.throwing q)) t ∧ Q t
def vx_Run (p : Program) (l : Launch) (e : Env) (R : Room) (s : State) (m : MethodId) (args : Array Value) (below : List Frame) (meth : Method) (c : Code) (H : Heap) (locs : List Loc) (cells slots mc ms : Nat) (g : JFrame) (rest : List Value) (Qa : State → Outcome → State → Prop) (XC : String → State → State → Prop) (free : Addr → Prop) : Prop :=
  ∀ T : State, T.heap = H → Stand p l e R s m args below meth c T locs cells slots →
    (∃ (v : Option Value) (st₀ t T' : State) (L : List Loc), st₀.heap = H ∧ Stand p l e R s m args below meth c T' (locs ++ L) (cells + mc) (slots + ms) ∧ (∀ q ∈ L, free q.base) ∧ T'.heap = t.heap ∧ T'.vm = t.vm ∧ Qa st₀ (.returned v) t ∧
      Goes p e below T g T' { g with pc := g.pc + 3, stack := v.toList ++ rest }) ∨
    (∃ (q : Addr) (st₀ t T' : State) (L : List Loc) (E : String) (ce : Cell), st₀.heap = H ∧ Stand p l e R s m args below meth c T' (locs ++ L) (cells + mc) (slots + ms) ∧ (∀ z ∈ L, free z.base) ∧ T'.heap = t.heap ∧ T'.vm = t.vm ∧ XC E st₀ t ∧ t.heap[q]? = some ce ∧ ce.vm = .none ∧ s.vm.findClass E = some ce.cls ∧
      Steps p.tables e below (T.setTop g) ((T'.setTop { g with stack := rest }).pushFrame (.throwing q)))
def vx_X {S : Type} (px : S → Prop) (B : String → S → State → Prop) (A : Nat → Prop) : String → State → State → Prop := fun E st t => ∃ u : S, px u ∧ B E u t ∧ va_F A st t
section Runs
variable {p : Program} {l : Launch} {e : Env} {R : Room} {s : State} {m : MethodId} {args : Array Value} {below : List Frame} {meth : Method} {c : Code} {H : Heap} {locs : List Loc} {cells slots : Nat}
variable {y : MethodName} {bytes cc : ByteArray} {maxL nL mc ms n index : Nat} {ret : Option FieldType} {ws : List Cond} {rm : Room} {Pc : Array Value → State → Prop} {Qc : Array Value → State → Outcome → State → Prop} {XC : String → State → State → Prop} {free : Addr → Prop} {Ts : List Cond} {own C : String} {b : Addr} {As rest : List Value} {g : JFrame}
theorem vx_callBack (cb : CallB R s args own index y bytes maxL ret ws rm mc ms n) (hM : vx_Met l y ws rm Pc Qc XC mc ms free) (hbl : FrameBlind Pc) : vx_Back l R p e below s args y 3 8 (PreOf R mc ms Pc) (PostOf Qc mc ms free) (vx_Post XC mc ms free) := by
  obtain ⟨hrc, hrs, hfr, hlo, hws, hcw, -, hini, -⟩ := cb
  exact vx_back (bytes := bytes) (maxL := maxL) (ret := ret) hM hbl hrc hrs hfr hlo hws hcw (fun a' U hW => word_at hW (Or.inl (by first | rfl | simp [Cond.onTables, Cond.keeps, Cond.steady])) hini)
theorem vx_runV (S : CallFix p m c cc nL s args Ts own) (hM : vx_Met l y ws rm Pc Qc XC mc ms free) (cw : CallW R s args own C index y bytes maxL ret ws rm mc ms n) (hp : PreV s H C b Pc As)
    (hg : g.method = m) (hn : As.length = n) (hsize : g.locals.size = nL) (hstack : g.stack = As.reverse ++ .ref b :: rest) (hW : 2 * g.monitorRoom + (rest.map fun v => v.category).sum ≤ 8) (hdg : decode cc g.pc = .ok (.invokevirtual index, 3)) (hf : cells + mc ≤ R.cells ∧ slots + ms ≤ R.slots) :
    vx_Run p l e R s m args below meth c H locs cells slots mc ms g rest (Qc (Value.ref b :: As).toArray) XC free := by
  have hK : vx_Back l R p e below s args y 3 8 (PreOf R mc ms Pc) (PostOf Qc mc ms free) (vx_Post XC mc ms free) := vx_callBack cw.1 hM hp.1
  obtain ⟨⟨-, -, -, -, -, -, hcode, -, hy, hlen, hl⟩, hin, hse⟩ := cw
  obtain ⟨hx, hb, hml, ho, -⟩ := S
  obtain ⟨-, ⟨cellB, hcB, hoB, hclB⟩, hPc⟩ := hp
  intro T hT X
  rcases vx_callV X hx (C := C) (bytes := bytes) (maxL := maxL) (ret := ret) ho hl hin hse hcode hy hK (by rw [hT]; exact hcB) hoB hclB hg (hsize.trans hml.symm) (argsL := As) (rest := rest) (fun sig h => hn.trans (hlen sig h)) hstack hW (by rw [hb]; exact hdg)
    (fun vm₁ hW₁ => ⟨hf.1, hf.2, hPc (T.setVm vm₁) hT hW₁⟩) with ⟨v, vm₁, ⟨U', l2, c2, s2⟩, hW₁, X', ⟨g', mk, t, L, e1, e2, hq, h1, hL, h2, h3⟩, st⟩ | ⟨q, vm₁, ⟨U', l2, c2, s2⟩, hW₁, X', ⟨g', mk, t, L, E, ce, e1, e2, hq, hce, hcv, hcl, h1, hL, h2, h3⟩, st⟩
  · dsimp only [Pt.U, Pt.locs, Pt.cells, Pt.slots] at X' e1 e2 h1 h2 h3 st
    subst h1; subst h2; subst h3
    exact Or.inl ⟨v, (T.setVm vm₁).calling g' mk (Value.ref b :: As).toArray, t, U', L, hT, X', hL, e1, e2, hq, st⟩
  · dsimp only [Pt.U, Pt.locs, Pt.cells, Pt.slots] at X' e1 e2 h1 h2 h3 st hcl
    subst h1; subst h2; subst h3
    exact Or.inr ⟨q, (T.setVm vm₁).calling g' mk (Value.ref b :: As).toArray, t, U', L, E, ce, hT, X', hL, e1, e2, hq, hce, hcv, vx_cls hW₁ hcl, st⟩
theorem vx_runS (S : CallFix p m c cc nL s args Ts own) (hM : vx_Met l y ws rm Pc Qc XC mc ms free) (cw : CallB R s args own index y bytes maxL ret ws rm mc ms n ∧ (Cond.static y).before args s = true) (hp : PreS s H Pc As)
    (hg : g.method = m) (hn : As.length = n) (hsize : g.locals.size = nL) (hstack : g.stack = As.reverse ++ rest) (hW : 2 * g.monitorRoom + (rest.map fun v => v.category).sum ≤ 8) (hdg : decode cc g.pc = .ok (.invokestatic index, 3)) (hf : cells + mc ≤ R.cells ∧ slots + ms ≤ R.slots) :
    vx_Run p l e R s m args below meth c H locs cells slots mc ms g rest (Qc As.toArray) XC free := by
  have hK : vx_Back l R p e below s args y 3 8 (PreOf R mc ms Pc) (PostOf Qc mc ms free) (vx_Post XC mc ms free) := vx_callBack cw.1 hM hp.1
  obtain ⟨⟨-, -, -, -, -, -, hcode, hini, hy, hlen, hl⟩, hstt⟩ := cw
  obtain ⟨hx, hb, hml, ho, -⟩ := S
  intro T hT X
  rcases vx_callS X hx (bytes := bytes) (maxL := maxL) (ret := ret) ho hl hstt hini hcode hy hK hg (hsize.trans hml.symm) (argsL := As) (rest := rest) (fun sig h => hn.trans (hlen sig h)) hstack hW (by rw [hb]; exact hdg)
    (fun vm₁ hW₁ => ⟨hf.1, hf.2, hp.2 (T.setVm vm₁) hT hW₁⟩) with ⟨v, vm₁, ⟨U', l2, c2, s2⟩, hW₁, X', ⟨g', mk, t, L, e1, e2, hq, h1, hL, h2, h3⟩, st⟩ | ⟨q, vm₁, ⟨U', l2, c2, s2⟩, hW₁, X', ⟨g', mk, t, L, E, ce, e1, e2, hq, hce, hcv, hcl, h1, hL, h2, h3⟩, st⟩
  · dsimp only [Pt.U, Pt.locs, Pt.cells, Pt.slots] at X' e1 e2 h1 h2 h3 st
    subst h1; subst h2; subst h3
    exact Or.inl ⟨v, (T.setVm vm₁).calling g' mk As.toArray, t, U', L, hT, X', hL, e1, e2, hq, st⟩
  · dsimp only [Pt.U, Pt.locs, Pt.cells, Pt.slots] at X' e1 e2 h1 h2 h3 st hcl
    subst h1; subst h2; subst h3
    exact Or.inr ⟨q, (T.setVm vm₁).calling g' mk As.toArray, t, U', L, E, ce, hT, X', hL, e1, e2, hq, hce, hcv, vx_cls hW₁ hcl, st⟩
end Runs
section Rows
variable {p : Program} {l : Launch} {e : Env} {R : Room} {s : State} {m : MethodId} {args : Array Value} {below : List Frame} {meth : Method} {c : Code} {H : Heap} {locs : List Loc} {cells slots : Nat} {Q : State → Prop}
variable {mc ms : Nat} {free : Addr → Prop} {A0 A1 : Nat → Prop} {H0 : Heap} {a : Array Value} {pc : Nat} {ls : Array Slot} {st0 rest : List Value}
theorem vx_keep {st₀ t T' : State} {L : List Loc} (h0 : st₀.heap = H) (e1 : T'.heap = t.heap) (hS : va_S A0 H0 H locs) (hA : ∀ q, q < H.size → A1 q → A0 q) (hf : ∀ q, free q → A0 q) (hL : ∀ q ∈ L, free q.base) (hF : va_F A1 st₀ t) :
    H.size ≤ T'.heap.size ∧ (∀ q : Nat, q < H.size → ¬ A1 q → T'.heap[q]? = H[q]?) ∧ va_S A0 H0 T'.heap (locs ++ L) := by
  obtain ⟨hz, hk⟩ := hF
  rw [h0] at hz hk
  exact ⟨by rw [e1]; exact hz, fun q h1 h2 => by rw [e1]; exact hk q h1 h2,
    ⟨Nat.le_trans hS.1 (by rw [e1]; exact hz), fun q h1 h2 => by rw [e1, hk q (Nat.lt_of_lt_of_le h1 hS.1) (fun z => h2 (hA q (Nat.lt_of_lt_of_le h1 hS.1) z))]; exact hS.2.1 q h1 h2, fun q hq => by
      rcases List.mem_append.mp hq with h | h
      · exact hS.2.2 q h
      · exact hf _ (hL q h)⟩⟩
theorem vx_calli {S SX : Type} {post : Int32 → S → Prop} {px : SX → Prop} {B : S → State → Prop} {BX : String → SX → State → Prop} {AX : Nat → Prop} (hr : vx_Run p l e R s m args below meth c H locs cells slots mc ms (F0 m pc ls st0) rest (va_Qi post B A1 a) (vx_X px BX AX) free) (hS : va_S A0 H0 H locs) (hA : ∀ q, q < H.size → A1 q → A0 q) (hf : ∀ q, free q → A0 q) (hAX : ∀ q, q < H.size → AX q → A0 q)
    (kx : ∀ (E : String) (ce : Cell) (q9 : Addr) (u : SX) (t : State) (H1 : Heap) (locs1 : List Loc), t.heap = H1 → s.vm.Alike t.vm → px u → BX E u t → H.size ≤ H1.size → (∀ q : Nat, q < H.size → ¬ AX q → H1[q]? = H[q]?) → va_S A0 H0 H1 locs1 → H1[q9]? = some ce → ce.vm = .none → s.vm.findClass E = some ce.cls → vx_W p l e R s m args below meth c H1 locs1 (cells + mc) (slots + ms) Q (F0 m pc ls rest) q9)
    (kk : ∀ (r : Int32) (u : S) (t : State) (H1 : Heap) (locs1 : List Loc), t.heap = H1 → s.vm.Alike t.vm → post r u → B u t → H.size ≤ H1.size → (∀ q : Nat, q < H.size → ¬ A1 q → H1[q]? = H[q]?) → va_S A0 H0 H1 locs1 → W p l e R s m args below meth c H1 locs1 (cells + mc) (slots + ms) Q (F0 m (pc + 3) ls (.int r :: rest))) : W p l e R s m args below meth c H locs cells slots Q (F0 m pc ls st0) := by
  intro T hT X
  rcases hr T hT X with ⟨v, st₀, t, T', L, h0, X', hL, e1, e2, ⟨⟨r, u, hv, hp, hb⟩, hF⟩, st⟩ | ⟨q, st₀, t, T', L, E, ce, h0, X', hL, e1, e2, ⟨u, hp, hb, hF⟩, hce, hcv, hcl, st⟩
  · cases hv
    obtain ⟨k1, k2, k3⟩ := vx_keep h0 e1 hS hA hf hL hF
    obtain ⟨t2, a1, b1⟩ := kk r u t T'.heap (locs ++ L) e1.symm (by rw [← e2]; exact X'.warmed.alike) hp hb k1 k2 k3 T' rfl X'
    exact ⟨t2, st t2 a1, b1⟩
  · obtain ⟨k1, k2, k3⟩ := vx_keep h0 e1 hS hAX hf hL hF
    obtain ⟨t2, a1, b1⟩ := kx E ce q u t T'.heap (locs ++ L) e1.symm (by rw [← e2]; exact X'.warmed.alike) hp hb k1 k2 k3 (by rw [e1]; exact hce) hcv hcl T' rfl X'
    exact ⟨t2, st.trans a1, b1⟩
theorem vx_calll {S SX : Type} {post : Int64 → S → Prop} {px : SX → Prop} {B : S → State → Prop} {BX : String → SX → State → Prop} {AX : Nat → Prop} (hr : vx_Run p l e R s m args below meth c H locs cells slots mc ms (F0 m pc ls st0) rest (va_Ql post B A1 a) (vx_X px BX AX) free) (hS : va_S A0 H0 H locs) (hA : ∀ q, q < H.size → A1 q → A0 q) (hf : ∀ q, free q → A0 q) (hAX : ∀ q, q < H.size → AX q → A0 q)
    (kx : ∀ (E : String) (ce : Cell) (q9 : Addr) (u : SX) (t : State) (H1 : Heap) (locs1 : List Loc), t.heap = H1 → s.vm.Alike t.vm → px u → BX E u t → H.size ≤ H1.size → (∀ q : Nat, q < H.size → ¬ AX q → H1[q]? = H[q]?) → va_S A0 H0 H1 locs1 → H1[q9]? = some ce → ce.vm = .none → s.vm.findClass E = some ce.cls → vx_W p l e R s m args below meth c H1 locs1 (cells + mc) (slots + ms) Q (F0 m pc ls rest) q9)
    (kk : ∀ (r : Int64) (u : S) (t : State) (H1 : Heap) (locs1 : List Loc), t.heap = H1 → s.vm.Alike t.vm → post r u → B u t → H.size ≤ H1.size → (∀ q : Nat, q < H.size → ¬ A1 q → H1[q]? = H[q]?) → va_S A0 H0 H1 locs1 → W p l e R s m args below meth c H1 locs1 (cells + mc) (slots + ms) Q (F0 m (pc + 3) ls (.long r :: rest))) : W p l e R s m args below meth c H locs cells slots Q (F0 m pc ls st0) := by
  intro T hT X
  rcases hr T hT X with ⟨v, st₀, t, T', L, h0, X', hL, e1, e2, ⟨⟨r, u, hv, hp, hb⟩, hF⟩, st⟩ | ⟨q, st₀, t, T', L, E, ce, h0, X', hL, e1, e2, ⟨u, hp, hb, hF⟩, hce, hcv, hcl, st⟩
  · cases hv
    obtain ⟨k1, k2, k3⟩ := vx_keep h0 e1 hS hA hf hL hF
    obtain ⟨t2, a1, b1⟩ := kk r u t T'.heap (locs ++ L) e1.symm (by rw [← e2]; exact X'.warmed.alike) hp hb k1 k2 k3 T' rfl X'
    exact ⟨t2, st t2 a1, b1⟩
  · obtain ⟨k1, k2, k3⟩ := vx_keep h0 e1 hS hAX hf hL hF
    obtain ⟨t2, a1, b1⟩ := kx E ce q u t T'.heap (locs ++ L) e1.symm (by rw [← e2]; exact X'.warmed.alike) hp hb k1 k2 k3 (by rw [e1]; exact hce) hcv hcl T' rfl X'
    exact ⟨t2, st.trans a1, b1⟩
theorem vx_callf {S SX : Type} {post : UInt32 → S → Prop} {px : SX → Prop} {B : S → State → Prop} {BX : String → SX → State → Prop} {AX : Nat → Prop} (hr : vx_Run p l e R s m args below meth c H locs cells slots mc ms (F0 m pc ls st0) rest (va_Qf post B A1 a) (vx_X px BX AX) free) (hS : va_S A0 H0 H locs) (hA : ∀ q, q < H.size → A1 q → A0 q) (hf : ∀ q, free q → A0 q) (hAX : ∀ q, q < H.size → AX q → A0 q)
    (kx : ∀ (E : String) (ce : Cell) (q9 : Addr) (u : SX) (t : State) (H1 : Heap) (locs1 : List Loc), t.heap = H1 → s.vm.Alike t.vm → px u → BX E u t → H.size ≤ H1.size → (∀ q : Nat, q < H.size → ¬ AX q → H1[q]? = H[q]?) → va_S A0 H0 H1 locs1 → H1[q9]? = some ce → ce.vm = .none → s.vm.findClass E = some ce.cls → vx_W p l e R s m args below meth c H1 locs1 (cells + mc) (slots + ms) Q (F0 m pc ls rest) q9)
    (kk : ∀ (r : UInt32) (u : S) (t : State) (H1 : Heap) (locs1 : List Loc), t.heap = H1 → s.vm.Alike t.vm → post r u → B u t → H.size ≤ H1.size → (∀ q : Nat, q < H.size → ¬ A1 q → H1[q]? = H[q]?) → va_S A0 H0 H1 locs1 → W p l e R s m args below meth c H1 locs1 (cells + mc) (slots + ms) Q (F0 m (pc + 3) ls (.float r :: rest))) : W p l e R s m args below meth c H locs cells slots Q (F0 m pc ls st0) := by
  intro T hT X
  rcases hr T hT X with ⟨v, st₀, t, T', L, h0, X', hL, e1, e2, ⟨⟨r, u, hv, hp, hb⟩, hF⟩, st⟩ | ⟨q, st₀, t, T', L, E, ce, h0, X', hL, e1, e2, ⟨u, hp, hb, hF⟩, hce, hcv, hcl, st⟩
  · cases hv
    obtain ⟨k1, k2, k3⟩ := vx_keep h0 e1 hS hA hf hL hF
    obtain ⟨t2, a1, b1⟩ := kk r u t T'.heap (locs ++ L) e1.symm (by rw [← e2]; exact X'.warmed.alike) hp hb k1 k2 k3 T' rfl X'
    exact ⟨t2, st t2 a1, b1⟩
  · obtain ⟨k1, k2, k3⟩ := vx_keep h0 e1 hS hAX hf hL hF
    obtain ⟨t2, a1, b1⟩ := kx E ce q u t T'.heap (locs ++ L) e1.symm (by rw [← e2]; exact X'.warmed.alike) hp hb k1 k2 k3 (by rw [e1]; exact hce) hcv hcl T' rfl X'
    exact ⟨t2, st.trans a1, b1⟩
theorem vx_calld {S SX : Type} {post : UInt64 → S → Prop} {px : SX → Prop} {B : S → State → Prop} {BX : String → SX → State → Prop} {AX : Nat → Prop} (hr : vx_Run p l e R s m args below meth c H locs cells slots mc ms (F0 m pc ls st0) rest (va_Qd post B A1 a) (vx_X px BX AX) free) (hS : va_S A0 H0 H locs) (hA : ∀ q, q < H.size → A1 q → A0 q) (hf : ∀ q, free q → A0 q) (hAX : ∀ q, q < H.size → AX q → A0 q)
    (kx : ∀ (E : String) (ce : Cell) (q9 : Addr) (u : SX) (t : State) (H1 : Heap) (locs1 : List Loc), t.heap = H1 → s.vm.Alike t.vm → px u → BX E u t → H.size ≤ H1.size → (∀ q : Nat, q < H.size → ¬ AX q → H1[q]? = H[q]?) → va_S A0 H0 H1 locs1 → H1[q9]? = some ce → ce.vm = .none → s.vm.findClass E = some ce.cls → vx_W p l e R s m args below meth c H1 locs1 (cells + mc) (slots + ms) Q (F0 m pc ls rest) q9)
    (kk : ∀ (r : UInt64) (u : S) (t : State) (H1 : Heap) (locs1 : List Loc), t.heap = H1 → s.vm.Alike t.vm → post r u → B u t → H.size ≤ H1.size → (∀ q : Nat, q < H.size → ¬ A1 q → H1[q]? = H[q]?) → va_S A0 H0 H1 locs1 → W p l e R s m args below meth c H1 locs1 (cells + mc) (slots + ms) Q (F0 m (pc + 3) ls (.double r :: rest))) : W p l e R s m args below meth c H locs cells slots Q (F0 m pc ls st0) := by
  intro T hT X
  rcases hr T hT X with ⟨v, st₀, t, T', L, h0, X', hL, e1, e2, ⟨⟨r, u, hv, hp, hb⟩, hF⟩, st⟩ | ⟨q, st₀, t, T', L, E, ce, h0, X', hL, e1, e2, ⟨u, hp, hb, hF⟩, hce, hcv, hcl, st⟩
  · cases hv
    obtain ⟨k1, k2, k3⟩ := vx_keep h0 e1 hS hA hf hL hF
    obtain ⟨t2, a1, b1⟩ := kk r u t T'.heap (locs ++ L) e1.symm (by rw [← e2]; exact X'.warmed.alike) hp hb k1 k2 k3 T' rfl X'
    exact ⟨t2, st t2 a1, b1⟩
  · obtain ⟨k1, k2, k3⟩ := vx_keep h0 e1 hS hAX hf hL hF
    obtain ⟨t2, a1, b1⟩ := kx E ce q u t T'.heap (locs ++ L) e1.symm (by rw [← e2]; exact X'.warmed.alike) hp hb k1 k2 k3 (by rw [e1]; exact hce) hcv hcl T' rfl X'
    exact ⟨t2, st.trans a1, b1⟩
theorem vx_callv {S SX : Type} {post : S → Prop} {px : SX → Prop} {B : S → State → Prop} {BX : String → SX → State → Prop} {AX : Nat → Prop} (hr : vx_Run p l e R s m args below meth c H locs cells slots mc ms (F0 m pc ls st0) rest (va_Qv post B A1 a) (vx_X px BX AX) free) (hS : va_S A0 H0 H locs) (hA : ∀ q, q < H.size → A1 q → A0 q) (hf : ∀ q, free q → A0 q) (hAX : ∀ q, q < H.size → AX q → A0 q)
    (kx : ∀ (E : String) (ce : Cell) (q9 : Addr) (u : SX) (t : State) (H1 : Heap) (locs1 : List Loc), t.heap = H1 → s.vm.Alike t.vm → px u → BX E u t → H.size ≤ H1.size → (∀ q : Nat, q < H.size → ¬ AX q → H1[q]? = H[q]?) → va_S A0 H0 H1 locs1 → H1[q9]? = some ce → ce.vm = .none → s.vm.findClass E = some ce.cls → vx_W p l e R s m args below meth c H1 locs1 (cells + mc) (slots + ms) Q (F0 m pc ls rest) q9)
    (kk : ∀ (u : S) (t : State) (H1 : Heap) (locs1 : List Loc), t.heap = H1 → s.vm.Alike t.vm → post u → B u t → H.size ≤ H1.size → (∀ q : Nat, q < H.size → ¬ A1 q → H1[q]? = H[q]?) → va_S A0 H0 H1 locs1 → W p l e R s m args below meth c H1 locs1 (cells + mc) (slots + ms) Q (F0 m (pc + 3) ls (rest))) : W p l e R s m args below meth c H locs cells slots Q (F0 m pc ls st0) := by
  intro T hT X
  rcases hr T hT X with ⟨v, st₀, t, T', L, h0, X', hL, e1, e2, ⟨⟨u, hv, hp, hb⟩, hF⟩, st⟩ | ⟨q, st₀, t, T', L, E, ce, h0, X', hL, e1, e2, ⟨u, hp, hb, hF⟩, hce, hcv, hcl, st⟩
  · cases hv
    obtain ⟨k1, k2, k3⟩ := vx_keep h0 e1 hS hA hf hL hF
    obtain ⟨t2, a1, b1⟩ := kk u t T'.heap (locs ++ L) e1.symm (by rw [← e2]; exact X'.warmed.alike) hp hb k1 k2 k3 T' rfl X'
    exact ⟨t2, st t2 a1, b1⟩
  · obtain ⟨k1, k2, k3⟩ := vx_keep h0 e1 hS hAX hf hL hF
    obtain ⟨t2, a1, b1⟩ := kx E ce q u t T'.heap (locs ++ L) e1.symm (by rw [← e2]; exact X'.warmed.alike) hp hb k1 k2 k3 (by rw [e1]; exact hce) hcv hcl T' rfl X'
    exact ⟨t2, st.trans a1, b1⟩
/-- caught by the row x of this method's table; the rows ahead don't take it -/
theorem vx_catch {own name : String} {E : String} {ce : Cell} {q : Addr} (hown : s.vm.findClass own = some m.cls) (pre : List ExceptionTableEntry) (x : ExceptionTableEntry) (suf : List ExceptionTableEntry) (hsplit : c.exceptionTable.toList = pre ++ x :: suf)
    (hpass : ∀ z ∈ pre, covers z pc = false ∨ (z.catchType ≠ 0 ∧ ∃ nm : String, (Cond.classLink own z.catchType nm).before args s = true ∧ va_Nc E nm s)) (hx : covers x pc = true) (h0 : x.catchType ≠ 0)
    (hlink : (Cond.classLink own x.catchType name).before args s = true) (hcast : (Cond.castable E name).before args s = true) (hcell : H[q]? = some ce) (hv : ce.vm = .none) (hcl : s.vm.findClass E = some ce.cls)
    (kk : W p l e R s m args below meth c H locs cells slots Q (F0 m x.handlerPc ls [.ref q])) : vx_W p l e R s m args below meth c H locs cells slots Q (F0 m pc ls rest) q := by
  intro T hT X
  have hpl : e.platform.magicAccessors = ({} : Platform).magicAccessors := by rw [X.admits.platform]
  obtain ⟨c3, c4, hc3, hc4, hasg⟩ := Cond.castable_spec hcast
  cases Option.some.inj (hc3.symm.trans hcl)
  obtain ⟨c5, hc5, hcl5⟩ := Cond.classLink_spec hown hlink e.platform hpl
  cases Option.some.inj (hc4.symm.trans hc5)
  obtain ⟨vm', X', st⟩ := X.thenCaughtThrough q (g := F0 m pc ls rest) rfl (Steps.refl _) (by rw [hT]; exact hcell) (by rw [hv]; rfl) (by obtain ⟨k9, h9, -⟩ := Vm.findClass_spec hcl; exact ⟨k9, h9⟩) pre x suf hsplit
    (fun z hz => by
      rcases hpass z hz with h | ⟨hz0, nm, hl1, hn1⟩
      · exact Or.inl h
      · obtain ⟨c6, hc6, hcl6⟩ := Cond.classLink_spec hown hl1 e.platform hpl
        obtain ⟨a8, b8, h1, h2, h3⟩ := hn1
        cases Option.some.inj (h1.symm.trans hcl)
        cases Option.some.inj (h2.symm.trans hc6)
        exact Or.inr ⟨hz0, _, hcl6, h3⟩) hx (Or.inr ⟨h0, c4, hcl5, hasg⟩)
  obtain ⟨t, a1, b1⟩ := kk (T.setVm vm') hT X'
  exact ⟨t, st.trans a1, b1⟩
end Rows
section Ends
variable {p : Program} {l : Launch} {e : Env} {R : Room} {s : State} {m : MethodId} {args : Array Value} {below : List Frame} {meth : Method} {c : Code} {H : Heap} {locs : List Loc} {cells slots : Nat} {Q : State → Prop}
variable {mc ms : Nat} {free : Addr → Prop} {A0 A1 : Nat → Prop} {H0 : Heap} {a : Array Value} {ls : Array Slot} {st0 rest : List Value}
variable {Qc : Array Value → State → Outcome → State → Prop} {XC : String → State → State → Prop}
/-- what a body that may throw owes at its end -/
def vx_MQ (below : List Frame) (Qc : Array Value → State → Outcome → State → Prop) (XC : String → State → State → Prop) (a : Array Value) (s : State) (mc ms : Nat) (free : Addr → Prop) : State → Prop := fun t =>
  ∃ o, t.status = .running ∧ Ended t below o ∧ vx_Q Qc XC mc ms free a s o t
theorem vx_ret {g : JFrame} {mc ms : Nat} (k : W p l e R s m args below meth c H locs cells slots (MQ below Qc args s mc ms free) g) : W p l e R s m args below meth c H locs cells slots (vx_MQ below Qc XC args s mc ms free) g := by
  intro T hT X
  obtain ⟨t, a1, o, b1, b2, b3, b4⟩ := k T hT X
  exact ⟨t, a1, o, b1, b2, Or.inl ⟨b3, b4⟩⟩
/-- not caught here: it goes on to the caller -/
theorem vx_widen {g : JFrame} {q : Addr} {k n : Nat} (h1 : cells ≤ k) (h2 : slots ≤ n) (kk : vx_W p l e R s m args below meth c H locs k n Q g q) : vx_W p l e R s m args below meth c H locs cells slots Q g q := fun T hT X => kk T hT (stand_widen X h1 h2)
theorem vx_out {pc : Nat} {E : String} {ce : Cell} {q : Addr} {mc ms : Nat} (hout : ∀ x ∈ c.exceptionTable.toList, covers x pc = false) (hlocks : meth.locks = false) (hcell : H[q]? = some ce) (hv : ce.vm = .none) (hcl : s.vm.findClass E = some ce.cls)
    (hx : ∀ t : State, t.heap = H → s.vm.Alike t.vm → XC E s t) (hf : ∀ z ∈ locs, free z.base) (hc : cells ≤ mc) (hs : slots ≤ ms) :
    vx_W p l e R s m args below meth c H locs cells slots (vx_MQ below Qc XC args s mc ms free) (F0 m pc ls rest) q := by
  intro T hT X
  obtain ⟨st1, hrun, hend, hW, hsm⟩ := X.leaveThrown q (g := F0 m pc ls rest) rfl rfl rfl hout hlocks
  have hcell9 : (T.setFrames (.throwing q :: below)).heap[q]? = some ce := by
    show T.heap[q]? = some ce
    rw [hT]; exact hcell
  exact ⟨_, st1, .threw q, hrun, hend, Or.inr ⟨q, rfl, E, ce, locs, hx _ hT hW.alike, hcell9, hv, hcl, hW, hsm.mono hc hs, hf⟩⟩
theorem vx_frame {U : State} {k n : Nat} (h : s.sameButNew ({ U with vm := s.vm } : State) locs k n) : s.heap.size ≤ U.heap.size ∧ ∀ q : Nat, q < s.heap.size → (∀ z ∈ locs, z.base ≠ q) → U.heap[q]? = s.heap[q]? := by
  obtain ⟨-, h2, -, -, -, h6⟩ := h
  refine ⟨h2, fun q hq hz => ?_⟩
  obtain ⟨c9, e1, e2, e3, e4⟩ := h6 q _ (Array.getElem?_eq_getElem hq)
  have hs : c9.slots = (s.heap[q]).slots := Array.ext_getElem? fun i => e4 i fun hm => hz _ hm rfl
  have h9 : c9 = s.heap[q] := by
    rw [hs] at e2
    exact e2
  have e5 : U.heap[q]? = some c9 := e1
  rw [e5, h9, Array.getElem?_eq_getElem hq]
/-- the words of a throw but the four that speak of the heap -/
def vx_no (w : Cond) : Bool := decide (w ≠ .isRef (.static Bundle.tN "UNASSIGNED_STACK" Bundle.steD)) && decide (w ≠ .isRef (.static Bundle.tN "SUPPRESSED_SENTINEL" Bundle.listD)) && decide (w ≠ .laysStatic Bundle.tN "UNASSIGNED_STACK" Bundle.steD) && decide (w ≠ .laysStatic Bundle.tN "SUPPRESSED_SENTINEL" Bundle.listD)
def vx_at0 (own : String) (ic : Nat) (X : String) (names : List String) : List Cond := (Bundle.ownAtoms0 own ic X names).filter vx_no
def vx_atS (own : String) (ic : Nat) (X : String) (names : List String) : List Cond := (Bundle.ownAtoms own ic X names).filter vx_no
/-- a word that the tables alone decide, or a good one -/
def vx_ot (w : Cond) : Bool := w.onTables || goodWord w
theorem vx_ot_at {args a' : Array Value} {s U : State} {w : Cond} (hW : s.WarmedH U.vm) (hvm : s.vm = U.vm) (hg : vx_ot w = true) (h : w.before args s = true) : w.before a' U = true := by
  simp only [vx_ot, Bool.or_eq_true] at hg
  rcases hg with hg | hg
  · exact va_tabs hg hvm h
  · exact word_at hW (good_of_word hg) h
/-- a list's words: the good ones out of the method's own list, the others by premises of their own -/
theorem vx_hat {args : Array Value} {s : State} {L B : List Cond} (h1 : ∀ w ∈ L.filter goodWord, w.before args s = true) (h2 : ∀ w ∈ L.filter (fun w => !goodWord w), w ∈ B) (h3 : ∀ w ∈ B, w.before args s = true) : ∀ w ∈ L, w.before args s = true := by
  intro w hw
  by_cases g : goodWord w = true
  · exact h1 w (List.mem_filter.mpr ⟨hw, g⟩)
  · refine h3 w (h2 w (List.mem_filter.mpr ⟨hw, ?_⟩))
    show (!goodWord w) = true
    cases hgw : goodWord w
    · rfl
    · exact absurd hgw g
theorem vx_c {args : Array Value} {s : State} {w : Cond} {B : List Cond} (h : w.before args s = true) (t : ∀ w ∈ B, w.before args s = true) : ∀ w' ∈ w :: B, w'.before args s = true := fun w' h' => (List.mem_cons.mp h').elim (fun e => by rw [e]; exact h) (t w')
theorem vx_n {args : Array Value} {s : State} : ∀ w ∈ ([] : List Cond), w.before args s = true := fun _ h => nomatch h
theorem vx_own {args : Array Value} {s : State} {L : List Cond} (h1 : ∀ w ∈ L.filter vx_no, w.before args s = true)
    (hU : (Cond.isRef (.static Bundle.tN "UNASSIGNED_STACK" Bundle.steD)).before args s = true) (hN : (Cond.isRef (.static Bundle.tN "SUPPRESSED_SENTINEL" Bundle.listD)).before args s = true)
    (lU : (Cond.laysStatic Bundle.tN "UNASSIGNED_STACK" Bundle.steD).before args s = true) (lN : (Cond.laysStatic Bundle.tN "SUPPRESSED_SENTINEL" Bundle.listD).before args s = true) : ∀ w ∈ L, w.before args s = true := by
  intro w hw
  by_cases e1 : w = .isRef (.static Bundle.tN "UNASSIGNED_STACK" Bundle.steD)
  · rw [e1]; exact hU
  · by_cases e2 : w = .isRef (.static Bundle.tN "SUPPRESSED_SENTINEL" Bundle.listD)
    · rw [e2]; exact hN
    · by_cases e3 : w = .laysStatic Bundle.tN "UNASSIGNED_STACK" Bundle.steD
      · rw [e3]; exact lU
      · by_cases e4 : w = .laysStatic Bundle.tN "SUPPRESSED_SENTINEL" Bundle.listD
        · rw [e4]; exact lN
        · exact h1 w (List.mem_filter.mpr ⟨hw, by unfold vx_no; rw [decide_eq_true e1, decide_eq_true e2, decide_eq_true e3, decide_eq_true e4]; rfl⟩)
/-- where a static field lies, its class's statics cell in H -/
def vx_L (C n d : String) (A : Nat → Prop) (U : State) (H : Heap) : Prop := ∃ (c : ClassId) (k : Class) (i : Nat) (f : Field) (a : Nat) (cell : Cell), U.vm.findClass C = some c ∧ U.fieldFound? C n d = some (c, k, i, f) ∧ f.isStatic = true ∧ k.statics = some a ∧ H[a]? = some cell ∧ cell.vm.isStatics = true ∧ cell.cls = c ∧ f.slot < cell.slots.size ∧ k.staticTypes[f.slot]? = some f.type ∧ ¬ A a
theorem vx_L.moved {C n d : String} {A : Nat → Prop} {u U : State} {H : Heap} (hvm : u.vm.Alike U.vm) (h : vx_L C n d A u H) : vx_L C n d A U H := by
  obtain ⟨c, k, i, f, a, cell, h1, h2, h3, h4, h5, h6, h7, h8, h9, h10⟩ := h
  obtain ⟨k', hi', he⟩ := State.fieldFound?_setVm hvm h2
  exact ⟨c, k', i, f, a, cell, by rw [hvm.findClass]; exact h1, hi', h3, by rw [he]; exact h4, h5, h6, h7, h8, by rw [he]; exact h9, h10⟩
theorem vx_L.kept {C n d : String} {A : Nat → Prop} {U : State} {H H1 : Heap} (h : vx_L C n d A U H) (hq : ∀ a : Nat, a < H.size → ¬ A a → H1[a]? = H[a]?) : vx_L C n d A U H1 := by
  obtain ⟨c, k, i, f, a, cell, h1, h2, h3, h4, h5, h6, h7, h8, h9, h10⟩ := h
  exact ⟨c, k, i, f, a, cell, h1, h2, h3, h4, by rw [hq a (Array.getElem?_eq_some_iff.mp h5).1 h10]; exact h5, h6, h7, h8, h9, h10⟩
theorem vx_L.narrow {C n d : String} {A B : Nat → Prop} {U : State} {H : Heap} (h : vx_L C n d A U H) (hAB : ∀ q, B q → A q) : vx_L C n d B U H := by
  obtain ⟨c, k, i, f, a, cell, h1, h2, h3, h4, h5, h6, h7, h8, h9, h10⟩ := h
  exact ⟨c, k, i, f, a, cell, h1, h2, h3, h4, h5, h6, h7, h8, h9, fun z => h10 (hAB _ z)⟩
theorem vx_L.word {C n d : String} {A : Nat → Prop} {s : State} {args : Array Value} (h : vx_L C n d A s s.heap) : (Cond.laysStatic C n d).before args s = true := by
  obtain ⟨c, k, i, f, a, cell, h1, h2, h3, h4, h5, h6, h7, h8, h9, -⟩ := h
  show (Cond.laysStatic C n d).holds args s none s [] = true
  exact Cond.laysStatic_of h1 h2 h3 h4 h5 h6 h7 h8 h9
/-- .. and what it holds: null or some reference -/
def vx_Zq (C n d : String) (A : Nat → Prop) (U : State) (H : Heap) : Prop := va_Zq C n d A U H ∧ vx_L C n d A U H
theorem vx_Zq.moved {C n d : String} {A : Nat → Prop} {u U : State} {H : Heap} (hvm : u.vm.Alike U.vm) (h : vx_Zq C n d A u H) : vx_Zq C n d A U H := ⟨va_Zq.moved hvm h.1, vx_L.moved hvm h.2⟩
theorem vx_Zq.kept {C n d : String} {A : Nat → Prop} {U : State} {H H1 : Heap} (h : vx_Zq C n d A U H) (hq : ∀ a : Nat, a < H.size → ¬ A a → H1[a]? = H[a]?) : vx_Zq C n d A U H1 := ⟨va_Zq.kept h.1 hq, vx_L.kept h.2 hq⟩
theorem vx_Zq.narrow {C n d : String} {A B : Nat → Prop} {U : State} {H : Heap} (h : vx_Zq C n d A U H) (hAB : ∀ q, B q → A q) : vx_Zq C n d B U H := ⟨va_Zq.narrow h.1 hAB, vx_L.narrow h.2 hAB⟩
theorem vx_Zqof {args : Array Value} {s : State} {C n d : String} {A : Nat → Prop} (hl : (Cond.laysStatic C n d).before args s = true) (hini : (Cond.initialized C).before args s = true) (h : (Cond.isRef (.static C n d)).before args s = true) (hA : ∀ a : Nat, a < s.heap.size → ¬ A a) : vx_Zq C n d A s s.heap := by
  refine ⟨va_Zqof hl hini h hA, ?_⟩
  obtain ⟨c, k, i, f, a, cell, h1, h2, h3, h4, h5, h6, h7, h8, h9⟩ := Cond.laysStatic_spec hl
  exact ⟨c, k, i, f, a, cell, h1, h2, h3, h4, h5, h6, h7, h8, h9, hA a (Array.getElem?_eq_some_iff.mp h5).1⟩
theorem vx_isRef {C n d : String} {v : Value} {A : Nat → Prop} {s : State} {args : Array Value} (h : va_Z C n d v A s s.heap) (hv : v.isRef = true) : (Cond.isRef (.static C n d)).before args s = true := by
  obtain ⟨cf, kf, fi, f, a, cell, h1, h2, h3, h4, h5, h6, h7, -⟩ := h
  have he : (Term.static C n d).eval args s none [] s = some v := by
    simp [Term.eval, State.fieldNamed?, h1, h2, h4, h5, h6, h7]
  simp only [Cond.before, Cond.holds, Cond.value, he]
  cases v <;> simp_all [Value.isRef]
theorem vx_isRefq {C n d : String} {A : Nat → Prop} {s : State} {args : Array Value} (h : va_Zq C n d A s s.heap) : (Cond.isRef (.static C n d)).before args s = true := by
  rcases h with h | ⟨t, h⟩
  · exact vx_isRef h rfl
  · exact vx_isRef h rfl
/-- the same frame, seen from here: as if the method were called anew in this heap -/
theorem vx_rebase {T : State} (X : Stand p l e R s m args below meth c T locs cells slots) {R' : Room} (hf : R'.frames ≤ R.frames) (hl : R'.locals ≤ R.locals) (hc : cells + R'.cells ≤ R.cells) (hs : slots + R'.slots ≤ R.slots) :
    Stand p l e R' ((T.setVm s.vm).setFrames (.invoking m args :: below)) m args below meth c T [] 0 0 := by
  have htop : (T.setVm s.vm).topJava?.isSome := X.here.top
  have hF : ((T.setVm s.vm).setFrames (.invoking m args :: below)).frames = .invoking m args :: below := State.frames_setFrames _ (State.cur_lt_of_top htop)
  obtain ⟨g₀, hg0⟩ := Option.isSome_iff_exists.mp htop
  obtain ⟨r, hr⟩ := State.topJava?_eq_some.mp hg0
  have hl9 : e.platform.stackLimits (T.setVm s.vm).me = e.platform.stackLimits s.me := X.limits
  have hb9 : (T.setVm s.vm).me.stackBytes = s.me.stackBytes := X.bytes
  refine ⟨X.admits, X.cas, X.clock, hF, ?_, X.hears, X.method, X.code, X.here, X.tail, X.warmed, ?_, ?_, ?_⟩
  · have h := X.room
    have hU : ((T.setVm s.vm).setFrames (.invoking m args :: below)).localsInUse = s.localsInUse := by
      rw [State.localsInUse_invoking hF (meth := meth) (c := c) X.method X.code, State.localsInUse_invoking X.frames X.method X.code]
    simp only [State.hasRoom, Bool.and_eq_true, decide_eq_true_eq] at h ⊢
    obtain ⟨⟨⟨⟨h1, h2, h3, h4, h5, h6⟩, h7⟩, h8⟩, h9⟩ := h
    rw [X.frames, List.length_cons] at h2 h3
    have q1 := X.heapSize
    have q2 := X.used
    simp only [hF, hU, List.length_cons, State.stackLimits_setFrames, State.stackBytes_setFrames, hl9, hb9]
    refine ⟨⟨⟨⟨by omega, by omega, by omega, by omega, by omega, h6⟩, ?_⟩, ?_⟩, X.book⟩
    · show T.heap.size + R'.cells ≤ e.platform.maxCells
      omega
    · show T.slotsUsed + R'.slots ≤ e.platform.maxSlots
      omega
  · rw [State.stackLimits_setFrames]; rfl
  · rw [State.stackBytes_setFrames]; rfl
  · refine ⟨?_, Nat.le_refl _, Nat.le_refl _, ?_, ?_, fun a c9 h9 => ⟨c9, h9, rfl, rfl, fun _ _ => rfl⟩⟩
    · obtain ⟨t, ht, -⟩ := State.frames_cons hr
      show T.setVm s.vm = { ((T.setVm s.vm).setFrames (.invoking m args :: below)).setFrames (T.setVm s.vm).frames with heap := T.heap, slotsUsed := T.slotsUsed }
      rw [State.setFrames_setFrames, State.setFrames_self ht]
      rfl
    · show T.slotsUsed = T.slotsUsed + ((T.heap.toList.drop T.heap.size).map (·.slots.size)).sum
      rw [List.drop_eq_nil_of_le (Nat.le_of_eq Array.length_toList)]
      rfl
    · show ((T.heap.toList.drop T.heap.size).map (·.slots.size)).sum ≤ 0
      rw [List.drop_eq_nil_of_le (Nat.le_of_eq Array.length_toList)]
      exact Nat.le_refl _
/-- 'throw new E()': new; dup; invokespecial; athrow -/
theorem vx_throw0 {cc : ByteArray} {pc : Nat} (hexec : p.tables.exec = Jvm.exec) (hb : c.code = cc) (hl : l.stackTraces = false) {own cls : String} {names : List String} {ik ic mc ms : Nat} {A : Nat → Prop}
    (hown : s.vm.findClass own = some m.cls) (hcls : Bundle.fit cls = true) (hnames : ∀ n ∈ names, Bundle.fit n = true)
    (hk : (Cond.classLink own ik cls).before args s = true) (hini : (Cond.initialized cls).before args s = true) (hat : ∀ w ∈ vx_at0 own ic cls names, w.before args s = true)
    (hgood : ∀ w ∈ Cond.classLink own ik cls :: Cond.initialized cls :: vx_at0 own ic cls names, vx_ot w = true)
    (hU : vx_Zq Bundle.tN "UNASSIGNED_STACK" Bundle.steD A s s.heap) (hN : vx_Zq Bundle.tN "SUPPRESSED_SENTINEL" Bundle.listD A s s.heap) (hS : va_S A s.heap H locs) (hsize : ls.size = c.maxLocals)
    (d0 : decode cc pc = .ok (.new ik, 3)) (d3 : decode cc (pc + 3) = .ok (.dup, 1)) (d4 : decode cc (pc + 4) = .ok (.invokespecial ic, 3)) (d7 : decode cc (pc + 7) = .ok (.athrow, 1))
    (hout : ∀ x ∈ c.exceptionTable.toList, covers x (pc + 7) = false)
    (hRframes : names.length + 3 < R.frames) (hRlocals : (rest.map fun v => v.category).sum + (13 * (names.length + 1) + 42) ≤ R.locals) (hRcells : cells + 1 ≤ R.cells) (hRslots : slots + 6 ≤ R.slots) (hlocks : meth.locks = false)
    (hx : ∀ t : State, s.vm.Alike t.vm → H.size ≤ t.heap.size → (∀ q : Nat, q < H.size → t.heap[q]? = H[q]?) → XC cls s t)
    (hf : ∀ z ∈ locs, free z.base) (hc : cells + 1 ≤ mc) (hs : slots + 6 ≤ ms) :
    W p l e R s m args below meth c H locs cells slots (vx_MQ below Qc XC args s mc ms free) (F0 m pc ls rest) := by
  intro T hT X
  have htr : e.platform.stackTraces = false := (show e.platform.stackTraces = l.stackTraces by rw [X.admits.platform]).trans hl
  have Y := vx_rebase X (R' := { frames := R.frames, locals := R.locals, cells := 1, slots := 6 }) (Nat.le_refl _) (Nat.le_refl _) hRcells hRslots
  obtain ⟨s', hA⟩ : ∃ z, z = (T.setVm s.vm).setFrames (.invoking m args :: below) := ⟨_, rfl⟩
  rw [← hA] at Y
  have hvm : s'.vm = s.vm := by rw [hA]; rfl
  have hhp : s'.heap = H := by rw [hA]; exact hT
  have hW0 : s.WarmedH s'.vm := by rw [hvm]; exact State.WarmedH.refl s
  have hat' : ∀ w ∈ vx_at0 own ic cls names, w.before args s' = true := fun w hw => vx_ot_at hW0 hvm.symm (hgood w (List.mem_cons_of_mem _ (List.mem_cons_of_mem _ hw))) (hat w hw)
  have hk' : (Cond.classLink own ik cls).before args s' = true := vx_ot_at hW0 hvm.symm (hgood _ List.mem_cons_self) hk
  have hini' : (Cond.initialized cls).before args s' = true := vx_ot_at hW0 hvm.symm (hgood _ (List.mem_cons_of_mem _ List.mem_cons_self)) hini
  have hU' : vx_Zq Bundle.tN "UNASSIGNED_STACK" Bundle.steD A s' s'.heap := by rw [hhp]; exact vx_Zq.moved hW0.alike (hU.kept hS.2.1)
  have hN' : vx_Zq Bundle.tN "SUPPRESSED_SENTINEL" Bundle.listD A s' s'.heap := by rw [hhp]; exact vx_Zq.moved hW0.alike (hN.kept hS.2.1)
  have h : ∀ w ∈ Bundle.ownAtoms0 own ic cls names, w.before args s' = true := vx_own hat' (vx_isRefq hU'.1) (vx_isRefq hN'.1) hU'.2.word hN'.2.word
  have hown' : s'.vm.findClass own = some m.cls := by rw [hvm]; exact hown
  have hins : (Cond.instantiable cls 6).before args s' = true := h _ (by simp [Bundle.ownAtoms0])
  obtain ⟨vm₁, cX, kX, hfX, hkX, -, -, X₁, st1⟩ := Y.newCold hexec (own := own) (C := cls) (index := ik) (n := 6) hown' hk' hins hini'
    (g := F0 m pc ls rest) rfl (by rw [hb]; exact d0) (Nat.le_refl _) (Nat.le_refl _)
  generalize hT1 : (T.setVm vm₁).pushCell { cls := cX, slots := kX.instanceTypes.map defaultValue, vm := .none } = T1 at X₁ st1
  have hcat : (Value.ref T.heap.size).category = 1 := rfl
  have hcellA : T1.heap[T.heap.size]? = some (freshCell cX kX) := by rw [← hT1]; exact State.heap_pushCell_size _ _
  have d3' : decode c.code (pc + 3) = .ok (.dup, 1) := by rw [hb]; exact d3
  obtain ⟨U, hsteps, hrun, hend, hW, hsame, ce, hce, hO⟩ := X₁.ctorThrow0 hexec htr (own := own) (cls := cls) (names := names) (ic := ic) hown' hcls hnames h (fun x hx => nomatch hx) hfX hkX hcellA (by rw [hhp, hT]; exact Nat.le_refl _)
    (g := { method := m, pc := pc + 4, locals := ls, stack := .ref T.heap.size :: .ref T.heap.size :: rest, locked := none }) rfl hsize rfl rfl (rest := rest) rfl
    (by rw [hb]; exact d4) (by rw [hb]; exact d7) hout hRframes (by simp only [List.map_cons, List.sum_cons, hcat]; omega) hlocks
  obtain ⟨f1, f2⟩ := vx_frame hsame
  rw [hhp] at f1 f2
  have hWs : s.WarmedH U.vm := State.WarmedH.trans hW0 hW
  have hcl : s.vm.findClass cls = some ce.cls := by
    have h9 := hO.cls
    rw [hvm] at h9
    exact h9
  have hall : s.sameButNew ({ U with vm := s.vm } : State) locs mc ms := by
    subst hA
    obtain ⟨e1, e2⟩ := hsame
    rw [State.setFrames_setFrames] at e1
    have h2 : (T.setVm s.vm).sameButNew ({ U with vm := s.vm } : State) [] (0 + 1) (0 + 6) := ⟨e1, e2⟩
    have h3 := X.same.trans h2
    rw [List.append_nil] at h3
    exact h3.mono hc hs
  refine ⟨U, ?_, .threw T.heap.size, hrun, hend, Or.inr ⟨T.heap.size, rfl, cls, ce, locs, hx U hWs.alike f1 (fun q hq => f2 q hq (fun z hz => nomatch hz)), hce, hO.vm, hcl, hWs, hall, hf⟩⟩
  refine st1 _ ?_
  show Steps p.tables e below (T1.setTop { method := m, pc := pc + 3, locals := ls, stack := .ref T.heap.size :: rest, locked := none }) _
  jvm_step X₁.here [X₁.here.top, hexec, d3', Value.category]
  exact hsteps
/-- 'throw new E("text")': new; dup; ldc; invokespecial; athrow -/
theorem vx_throwS {cc : ByteArray} {pc : Nat} (hexec : p.tables.exec = Jvm.exec) (hb : c.code = cc) (hl : l.stackTraces = false) {own cls text : String} {names : List String} {ik is ic mc ms sa : Nat} {A : Nat → Prop}
    (hown : s.vm.findClass own = some m.cls) (hcls : Bundle.fit cls = true) (hnames : ∀ n ∈ names, Bundle.fit n = true)
    (hk : (Cond.classLink own ik cls).before args s = true) (hini : (Cond.initialized cls).before args s = true) (hstr : vk_R own is text sa s) (hat : ∀ w ∈ vx_atS own ic cls names, w.before args s = true)
    (hgood : ∀ w ∈ Cond.classLink own ik cls :: Cond.initialized cls :: vx_atS own ic cls names, vx_ot w = true)
    (hU : vx_Zq Bundle.tN "UNASSIGNED_STACK" Bundle.steD A s s.heap) (hN : vx_Zq Bundle.tN "SUPPRESSED_SENTINEL" Bundle.listD A s s.heap) (hS : va_S A s.heap H locs) (hsize : ls.size = c.maxLocals)
    (d0 : decode cc pc = .ok (.new ik, 3)) (d3 : decode cc (pc + 3) = .ok (.dup, 1)) (d4 : decode cc (pc + 4) = .ok (.ldc is, 2)) (d6 : decode cc (pc + 6) = .ok (.invokespecial ic, 3)) (d9 : decode cc (pc + 9) = .ok (.athrow, 1))
    (hout : ∀ x ∈ c.exceptionTable.toList, covers x (pc + 9) = false)
    (hRframes : names.length + 3 < R.frames) (hRlocals : (rest.map fun v => v.category).sum + (13 * (names.length + 1) + 43) ≤ R.locals) (hRcells : cells + 1 ≤ R.cells) (hRslots : slots + 6 ≤ R.slots) (hlocks : meth.locks = false)
    (hx : ∀ t : State, s.vm.Alike t.vm → H.size ≤ t.heap.size → (∀ q : Nat, q < H.size → t.heap[q]? = H[q]?) → XC cls s t)
    (hf : ∀ z ∈ locs, free z.base) (hc : cells + 1 ≤ mc) (hs : slots + 6 ≤ ms) :
    W p l e R s m args below meth c H locs cells slots (vx_MQ below Qc XC args s mc ms free) (F0 m pc ls rest) := by
  intro T hT X
  have htr : e.platform.stackTraces = false := (show e.platform.stackTraces = l.stackTraces by rw [X.admits.platform]).trans hl
  have Y := vx_rebase X (R' := { frames := R.frames, locals := R.locals, cells := 1, slots := 6 }) (Nat.le_refl _) (Nat.le_refl _) hRcells hRslots
  obtain ⟨s', hA⟩ : ∃ z, z = (T.setVm s.vm).setFrames (.invoking m args :: below) := ⟨_, rfl⟩
  rw [← hA] at Y
  have hvm : s'.vm = s.vm := by rw [hA]; rfl
  have hhp : s'.heap = H := by rw [hA]; exact hT
  have hW0 : s.WarmedH s'.vm := by rw [hvm]; exact State.WarmedH.refl s
  have hat' : ∀ w ∈ vx_atS own ic cls names, w.before args s' = true := fun w hw => vx_ot_at hW0 hvm.symm (hgood w (List.mem_cons_of_mem _ (List.mem_cons_of_mem _ hw))) (hat w hw)
  have hk' : (Cond.classLink own ik cls).before args s' = true := vx_ot_at hW0 hvm.symm (hgood _ List.mem_cons_self) hk
  have hini' : (Cond.initialized cls).before args s' = true := vx_ot_at hW0 hvm.symm (hgood _ (List.mem_cons_of_mem _ List.mem_cons_self)) hini
  have hU' : vx_Zq Bundle.tN "UNASSIGNED_STACK" Bundle.steD A s' s'.heap := by rw [hhp]; exact vx_Zq.moved hW0.alike (hU.kept hS.2.1)
  have hN' : vx_Zq Bundle.tN "SUPPRESSED_SENTINEL" Bundle.listD A s' s'.heap := by rw [hhp]; exact vx_Zq.moved hW0.alike (hN.kept hS.2.1)
  have h : ∀ w ∈ Bundle.ownAtoms own ic cls names, w.before args s' = true := vx_own hat' (vx_isRefq hU'.1) (vx_isRefq hN'.1) hU'.2.word hN'.2.word
  have hown' : s'.vm.findClass own = some m.cls := by rw [hvm]; exact hown
  have hins : (Cond.instantiable cls 6).before args s' = true := h _ (by simp [Bundle.ownAtoms])
  obtain ⟨vm₁, cX, kX, hfX, hkX, -, -, X₁, st1⟩ := Y.newCold hexec (own := own) (C := cls) (index := ik) (n := 6) hown' hk' hins hini'
    (g := F0 m pc ls rest) rfl (by rw [hb]; exact d0) (Nat.le_refl _) (Nat.le_refl _)
  generalize hT1 : (T.setVm vm₁).pushCell { cls := cX, slots := kX.instanceTypes.map defaultValue, vm := .none } = T1 at X₁ st1
  have hcat : (Value.ref T.heap.size).category = 1 := rfl
  have hcellA : T1.heap[T.heap.size]? = some (freshCell cX kX) := by rw [← hT1]; exact State.heap_pushCell_size _ _
  have d3' : decode c.code (pc + 3) = .ok (.dup, 1) := by rw [hb]; exact d3
  have d4' : decode c.code (pc + 4) = .ok (.ldc is, 2) := by rw [hb]; exact d4
  have hstr' : vk_R own is text sa s' := vk_R.warm hW0 hstr
  obtain ⟨U, hsteps, hrun, hend, hW, hsame, ce, hce, hO⟩ := X₁.ctorThrowS hexec htr (own := own) (cls := cls) (names := names) (ic := ic) hown' hcls hnames h (fun x hx => nomatch hx) hfX hkX hcellA (by rw [hhp, hT]; exact Nat.le_refl _) (msg := .ref sa) rfl
    (g := { method := m, pc := pc + 6, locals := ls, stack := .ref sa :: .ref T.heap.size :: .ref T.heap.size :: rest, locked := none }) rfl hsize rfl rfl (rest := rest) rfl
    (by rw [hb]; exact d6) (by rw [hb]; exact d9) hout hRframes (by simp only [List.map_cons, List.sum_cons, hcat]; omega) hlocks
  obtain ⟨f1, f2⟩ := vx_frame hsame
  rw [hhp] at f1 f2
  have hWs : s.WarmedH U.vm := State.WarmedH.trans hW0 hW
  have hcl : s.vm.findClass cls = some ce.cls := by
    have h9 := hO.cls
    rw [hvm] at h9
    exact h9
  have hall : s.sameButNew ({ U with vm := s.vm } : State) locs mc ms := by
    subst hA
    obtain ⟨e1, e2⟩ := hsame
    rw [State.setFrames_setFrames] at e1
    have h2 : (T.setVm s.vm).sameButNew ({ U with vm := s.vm } : State) [] (0 + 1) (0 + 6) := ⟨e1, e2⟩
    have h3 := X.same.trans h2
    rw [List.append_nil] at h3
    exact h3.mono hc hs
  refine ⟨U, ?_, .threw T.heap.size, hrun, hend, Or.inr ⟨T.heap.size, rfl, cls, ce, locs, hx U hWs.alike f1 (fun q hq => f2 q hq (fun z hz => nomatch hz)), hce, hO.vm, hcl, hWs, hall, hf⟩⟩
  refine st1 _ ?_
  show Steps p.tables e below (T1.setTop { method := m, pc := pc + 3, locals := ls, stack := .ref T.heap.size :: rest, locked := none }) _
  jvm_step X₁.here [X₁.here.top, hexec, d3', Value.category]
  exact X₁.ldcString hexec (own := own) (text := text) (index := is) (a := sa) hown' hstr'.1 hstr'.2
    (g := { method := m, pc := pc + 4, locals := ls, stack := .ref T.heap.size :: .ref T.heap.size :: rest, locked := none }) rfl d4' _ hsteps
/-- 'throw new E("text")', the text by a wide index -/
theorem vx_throwSW {cc : ByteArray} {pc : Nat} (hexec : p.tables.exec = Jvm.exec) (hb : c.code = cc) (hl : l.stackTraces = false) {own cls text : String} {names : List String} {ik is ic mc ms sa : Nat} {A : Nat → Prop}
    (hown : s.vm.findClass own = some m.cls) (hcls : Bundle.fit cls = true) (hnames : ∀ n ∈ names, Bundle.fit n = true)
    (hk : (Cond.classLink own ik cls).before args s = true) (hini : (Cond.initialized cls).before args s = true) (hstr : vk_R own is text sa s) (hat : ∀ w ∈ vx_atS own ic cls names, w.before args s = true)
    (hgood : ∀ w ∈ Cond.classLink own ik cls :: Cond.initialized cls :: vx_atS own ic cls names, vx_ot w = true)
    (hU : vx_Zq Bundle.tN "UNASSIGNED_STACK" Bundle.steD A s s.heap) (hN : vx_Zq Bundle.tN "SUPPRESSED_SENTINEL" Bundle.listD A s s.heap) (hS : va_S A s.heap H locs) (hsize : ls.size = c.maxLocals)
    (d0 : decode cc pc = .ok (.new ik, 3)) (d3 : decode cc (pc + 3) = .ok (.dup, 1)) (d4 : decode cc (pc + 4) = .ok (.ldc_w is, 3)) (d7 : decode cc (pc + 7) = .ok (.invokespecial ic, 3)) (d10 : decode cc (pc + 10) = .ok (.athrow, 1))
    (hout : ∀ x ∈ c.exceptionTable.toList, covers x (pc + 10) = false)
    (hRframes : names.length + 3 < R.frames) (hRlocals : (rest.map fun v => v.category).sum + (13 * (names.length + 1) + 43) ≤ R.locals) (hRcells : cells + 1 ≤ R.cells) (hRslots : slots + 6 ≤ R.slots) (hlocks : meth.locks = false)
    (hx : ∀ t : State, s.vm.Alike t.vm → H.size ≤ t.heap.size → (∀ q : Nat, q < H.size → t.heap[q]? = H[q]?) → XC cls s t)
    (hf : ∀ z ∈ locs, free z.base) (hc : cells + 1 ≤ mc) (hs : slots + 6 ≤ ms) :
    W p l e R s m args below meth c H locs cells slots (vx_MQ below Qc XC args s mc ms free) (F0 m pc ls rest) := by
  intro T hT X
  have htr : e.platform.stackTraces = false := (show e.platform.stackTraces = l.stackTraces by rw [X.admits.platform]).trans hl
  have Y := vx_rebase X (R' := { frames := R.frames, locals := R.locals, cells := 1, slots := 6 }) (Nat.le_refl _) (Nat.le_refl _) hRcells hRslots
  obtain ⟨s', hA⟩ : ∃ z, z = (T.setVm s.vm).setFrames (.invoking m args :: below) := ⟨_, rfl⟩
  rw [← hA] at Y
  have hvm : s'.vm = s.vm := by rw [hA]; rfl
  have hhp : s'.heap = H := by rw [hA]; exact hT
  have hW0 : s.WarmedH s'.vm := by rw [hvm]; exact State.WarmedH.refl s
  have hat' : ∀ w ∈ vx_atS own ic cls names, w.before args s' = true := fun w hw => vx_ot_at hW0 hvm.symm (hgood w (List.mem_cons_of_mem _ (List.mem_cons_of_mem _ hw))) (hat w hw)
  have hk' : (Cond.classLink own ik cls).before args s' = true := vx_ot_at hW0 hvm.symm (hgood _ List.mem_cons_self) hk
  have hini' : (Cond.initialized cls).before args s' = true := vx_ot_at hW0 hvm.symm (hgood _ (List.mem_cons_of_mem _ List.mem_cons_self)) hini
  have hU' : vx_Zq Bundle.tN "UNASSIGNED_STACK" Bundle.steD A s' s'.heap := by rw [hhp]; exact vx_Zq.moved hW0.alike (hU.kept hS.2.1)
  have hN' : vx_Zq Bundle.tN "SUPPRESSED_SENTINEL" Bundle.listD A s' s'.heap := by rw [hhp]; exact vx_Zq.moved hW0.alike (hN.kept hS.2.1)
  have h : ∀ w ∈ Bundle.ownAtoms own ic cls names, w.before args s' = true := vx_own hat' (vx_isRefq hU'.1) (vx_isRefq hN'.1) hU'.2.word hN'.2.word
  have hown' : s'.vm.findClass own = some m.cls := by rw [hvm]; exact hown
  have hins : (Cond.instantiable cls 6).before args s' = true := h _ (by simp [Bundle.ownAtoms])
  obtain ⟨vm₁, cX, kX, hfX, hkX, -, -, X₁, st1⟩ := Y.newCold hexec (own := own) (C := cls) (index := ik) (n := 6) hown' hk' hins hini'
    (g := F0 m pc ls rest) rfl (by rw [hb]; exact d0) (Nat.le_refl _) (Nat.le_refl _)
  generalize hT1 : (T.setVm vm₁).pushCell { cls := cX, slots := kX.instanceTypes.map defaultValue, vm := .none } = T1 at X₁ st1
  have hcat : (Value.ref T.heap.size).category = 1 := rfl
  have hcellA : T1.heap[T.heap.size]? = some (freshCell cX kX) := by rw [← hT1]; exact State.heap_pushCell_size _ _
  have d3' : decode c.code (pc + 3) = .ok (.dup, 1) := by rw [hb]; exact d3
  have d4' : decode c.code (pc + 4) = .ok (.ldc_w is, 3) := by rw [hb]; exact d4
  have hstr' : vk_R own is text sa s' := vk_R.warm hW0 hstr
  obtain ⟨U, hsteps, hrun, hend, hW, hsame, ce, hce, hO⟩ := X₁.ctorThrowS hexec htr (own := own) (cls := cls) (names := names) (ic := ic) hown' hcls hnames h (fun x hx => nomatch hx) hfX hkX hcellA (by rw [hhp, hT]; exact Nat.le_refl _) (msg := .ref sa) rfl
    (g := { method := m, pc := pc + 7, locals := ls, stack := .ref sa :: .ref T.heap.size :: .ref T.heap.size :: rest, locked := none }) rfl hsize rfl rfl (rest := rest) rfl
    (by rw [hb]; exact d7) (by rw [hb]; exact d10) hout hRframes (by simp only [List.map_cons, List.sum_cons, hcat]; omega) hlocks
  obtain ⟨f1, f2⟩ := vx_frame hsame
  rw [hhp] at f1 f2
  have hWs : s.WarmedH U.vm := State.WarmedH.trans hW0 hW
  have hcl : s.vm.findClass cls = some ce.cls := by
    have h9 := hO.cls
    rw [hvm] at h9
    exact h9
  have hall : s.sameButNew ({ U with vm := s.vm } : State) locs mc ms := by
    subst hA
    obtain ⟨e1, e2⟩ := hsame
    rw [State.setFrames_setFrames] at e1
    have h2 : (T.setVm s.vm).sameButNew ({ U with vm := s.vm } : State) [] (0 + 1) (0 + 6) := ⟨e1, e2⟩
    have h3 := X.same.trans h2
    rw [List.append_nil] at h3
    exact h3.mono hc hs
  refine ⟨U, ?_, .threw T.heap.size, hrun, hend, Or.inr ⟨T.heap.size, rfl, cls, ce, locs, hx U hWs.alike f1 (fun q hq => f2 q hq (fun z hz => nomatch hz)), hce, hO.vm, hcl, hWs, hall, hf⟩⟩
  refine st1 _ ?_
  show Steps p.tables e below (T1.setTop { method := m, pc := pc + 3, locals := ls, stack := .ref T.heap.size :: rest, locked := none }) _
  jvm_step X₁.here [X₁.here.top, hexec, d3', Value.category]
  exact X₁.ldcStringW hexec (own := own) (text := text) (index := is) (a := sa) hown' hstr'.1 hstr'.2
    (g := { method := m, pc := pc + 4, locals := ls, stack := .ref T.heap.size :: .ref T.heap.size :: rest, locked := none }) rfl d4' _ hsteps
end Ends
section Bodies
variable {l : Launch}
theorem vx_ofW {y : MethodName} {ws ws' : List Cond} {rm : Room} {Pc : Array Value → State → Prop} {Qc : Array Value → State → Outcome → State → Prop} {XC : String → State → State → Prop} {mc ms : Nat} {free : Addr → Prop} {cc : ByteArray} {maxL : Nat} {ret : Option FieldType}
    (hy : plainName y.cls = true) (hw : ws = Cond.code y cc maxL ret :: ws')
    (body : ∀ p e s m args below meth c s₁, BodyLoose p l y (headSpec ws rm) cc maxL ret e s m args below meth c s₁ → c.maxLocals = maxL → (∀ x ∈ c.exceptionTable.toList, False) → Pc args s →
      W p l e (headSpec ws rm).room s m args below meth c s.heap [] 0 0 (vx_MQ below Qc XC args s mc ms free) (entryFrame m args maxL)) : vx_Met l y ws rm Pc Qc XC mc ms free := by
  refine MetFree.of_bodyS (code := cc) (maxLocals := maxL) (ret := ret) hy ?_ ?_
  · intro args s m h hn
    obtain ⟨meth, c, h1, h2, h3, h4, h5, h6, -, -⟩ := Cond.code_spec hn (atoms_spec (ws := ws) h _ (by rw [hw]; exact List.mem_cons_self))
    exact ⟨meth, c, h1, h2, h3, h4, h5, h6⟩
  · intro p e s m args below meth c s₁ B hml hP _
    have hh0 : s₁.heap = s.heap := by rw [B.state]; rfl
    have ht : ∀ x ∈ c.exceptionTable.toList, False := by
      obtain ⟨meth9, c9, h1, h2, -, -, -, -, h7, -⟩ := Cond.code_spec B.named (atoms_spec (ws := ws) B.pre _ (by rw [hw]; exact List.mem_cons_self))
      cases Option.some.inj (h1.symm.trans B.method)
      cases Option.some.inj (h2.symm.trans (Stand.of_body B).code)
      intro x hx
      rw [Array.isEmpty_iff.mp h7] at hx
      cases hx
    obtain ⟨t, a1, o, b1, b2, b3⟩ := body p e s m args below meth c s₁ B hml ht hP s₁ hh0 (Stand.of_body B)
    exact ⟨t, o, a1, b1, b2, b3⟩
/-- the table of a body with handlers -/
theorem vx_table {p : Program} {x y : MethodName} {S : Spec} {cc bytes : ByteArray} {maxL maxL' : Nat} {ret ret' : Option FieldType} {e : Env} {s s₁ : State} {m : MethodId} {args : Array Value} {below : List Frame} {meth : Method} {c : Code} {hh : List (Nat × Nat × Nat × Nat)}
    (B : BodyLoose p l y S cc maxL ret e s m args below meth c s₁) (h : (Cond.codeWith y bytes maxL' ret' hh).before args s = true) : c.exceptionTable.toList = tableOf hh := by
  obtain ⟨m9, meth9, c9, hn9, h1, h2, -, -, h6, -⟩ := Cond.codeWith_spec h
  cases Option.some.inj (hn9.symm.trans B.named)
  cases Option.some.inj (h1.symm.trans B.method)
  cases Option.some.inj (h2.symm.trans (Stand.of_body B).code)
  rw [← h6, table_eq]
end Bodies
end VXA
/-! ===== END ===== -/
/-! ===== BEGIN a static call of a method with an exception table ===== -/
section VXS
variable {p : Program} {l : Launch} {e : Env} {R : Room} {s : State} {m : MethodId} {args : Array Value} {below : List Frame} {meth : Method} {c : Code} {T : State} {H : Heap} {locs : List Loc} {cells slots : Nat}
abbrev vx_CSW (R : Room) (s : State) (args : Array Value) (own : String) (index : Nat) (y : MethodName) (bytes : ByteArray) (maxL : Nat) (ret : Option FieldType) (hh : List (Nat × Nat × Nat × Nat)) (ws : List Cond) (rm : Room) (mc ms n : Nat) : Prop :=
  (rm.cells = mc ∧ rm.slots = ms ∧ rm.frames + 1 ≤ R.frames ∧ 8 + (maxL + 11) + rm.locals ≤ R.locals ∧ (∀ w ∈ ws, ∀ (a' : Array Value) (U : State), s.WarmedH U.vm → w.before a' U = true) ∧ Cond.codeWith y bytes maxL ret hh ∈ ws) ∧
  (Cond.codeWith y bytes maxL ret hh).before args s = true ∧ (Cond.initialized y.cls).before args s = true ∧ (y.cls ≠ "java/lang/invoke/MethodHandle" ∧ y.cls ≠ "java/lang/invoke/VarHandle") ∧
  (∀ sig, parseMethodDescriptor y.desc = some sig → n = sig.parameters.length) ∧ (Cond.methodLink own index y).before args s = true ∧ (Cond.static y).before args s = true
theorem vx_cwSW {own : String} {index maxL mc ms : Nat} {y : MethodName} {bytes : ByteArray} {ret : Option FieldType} {hh : List (Nat × Nat × Nat × Nat)} {Ts ws ws' : List Cond} {rm : Room} (n : Nat) (ht : ∀ w ∈ Ts, w.before args s = true) (hT : GoodIn Ts (va_wsS own index y ws)) (hw : ws = Cond.codeWith y bytes maxL ret hh :: ws') (hrc : rm.cells = mc) (hrs : rm.slots = ms)
    (hd : y.cls ≠ "java/lang/invoke/MethodHandle" ∧ y.cls ≠ "java/lang/invoke/VarHandle" ∧ (parseMethodDescriptor y.desc).map (fun d => d.parameters.length) = some n) (hR : rm.frames + 1 ≤ R.frames ∧ 8 + (maxL + 11) + rm.locals ≤ R.locals) :
    vx_CSW R s args own index y bytes maxL ret hh ws rm mc ms n := by
  have ok : ∀ w ∈ va_wsS own index y ws, w.before args s = true := fun w h => ht w (hT w h).1
  have hG : GoodIn Ts ws := fun w h => hT w (by unfold va_wsS; exact List.mem_append_right _ h)
  have hc : Cond.codeWith y bytes maxL ret hh ∈ ws := by rw [hw]; exact List.mem_cons_self
  refine ⟨⟨hrc, hrs, hR.1, hR.2, pay_in ht hG, hc⟩, ht _ (hG _ hc).1, ok _ (by simp [va_wsS]), ⟨hd.1, hd.2.1⟩, fun sig h => ?_, ok _ (by simp [va_wsS]), ok _ (by simp [va_wsS])⟩
  have h2 := hd.2.2
  rw [h] at h2
  exact (Option.some.inj h2).symm
theorem vx_callSW (X : Stand p l e R s m args below meth c T locs cells slots) (hexec : p.tables.exec = Jvm.exec) {own : String} {index : Nat} {y : MethodName} {bytes : ByteArray} {maxL : Nat} {ret : Option FieldType} {hh : List (Nat × Nat × Nat × Nat)}
    (hown : s.vm.findClass own = some m.cls) (hlink : (Cond.methodLink own index y).before args s = true) (hstat : (Cond.static y).before args s = true) (hinit : (Cond.initialized y.cls).before args s = true)
    (hcode : (Cond.codeWith y bytes maxL ret hh).before args s = true) (hy : y.cls ≠ "java/lang/invoke/MethodHandle" ∧ y.cls ≠ "java/lang/invoke/VarHandle")
    {W9 : Nat} {Pre : Pt → Array Value → Prop} {Post : Pt → Array Value → Option Value → Pt → Prop} (hK : Back l R p e below s args y 3 W9 Pre Post)
    {g : JFrame} (hg : g.method = m) (hsize : g.locals.size = c.maxLocals) {argsL rest : List Value} (hlen : ∀ sig, parseMethodDescriptor y.desc = some sig → argsL.length = sig.parameters.length)
    (hstack : g.stack = argsL.reverse ++ rest) (hW : 2 * g.monitorRoom + (rest.map fun v => v.category).sum ≤ W9) (hdg : decode c.code g.pc = .ok (.invokestatic index, 3))
    (hpre : ∀ vm₁, s.WarmedH vm₁ → Pre ⟨T.setVm vm₁, locs, cells, slots⟩ argsL.toArray) :
    ∃ (v : Option Value) (vm₁ : Vm) (B : Pt), s.WarmedH vm₁ ∧ Stand p l e R s m args below meth c B.U B.locs B.cells B.slots ∧ Post ⟨T.setVm vm₁, locs, cells, slots⟩ argsL.toArray v B ∧
      ∀ target, Steps p.tables e below (B.U.setTop { g with pc := g.pc + 3, stack := v.toList ++ rest }) target → Steps p.tables e below (T.setTop g) target := by
  obtain ⟨mk, methM, cM, hnamed, hmethM, -, -, -, -, -, -, hsigM⟩ := Cond.codeWith_spec hcode
  have hstatic : methM.isStatic = true := Cond.static_spec hnamed hmethM hstat
  obtain ⟨kP, hkP, -⟩ := className_of_methodNamed hnamed
  have hinitP : kP.init = .initialized := Cond.initialized_spec (findClass_of_methodNamed hnamed) hkP hinit
  obtain ⟨vm₁, X₁, hstep₁⟩ := X.invokestatic hexec hown hlink hnamed hmethM hstatic hkP hinitP hy (g := g) hg (argsL := argsL) (rest := rest) (hlen _ hsigM) hstack hdg
  obtain ⟨v, B, X', hpost, hsteps⟩ := hK m meth c ⟨T.setVm vm₁, locs, cells, slots⟩ { g with stack := rest } (.invokestatic index) mk argsL.toArray X₁ hg hsize hdg hW (X₁.named hnamed) (hpre vm₁ X₁.warmed)
  exact ⟨v, vm₁, B, X₁.warmed, X', hpost, fun target h => hstep₁ _ fun acts => by rw [doInvoke_state]; exact hsteps.trans h⟩
theorem vx_runSW {y : MethodName} {bytes cc : ByteArray} {maxL nL mc ms n index : Nat} {ret : Option FieldType} {hh : List (Nat × Nat × Nat × Nat)} {ws : List Cond} {rm : Room} {Pc : Array Value → State → Prop} {Qc : Array Value → State → Outcome → State → Prop} {free : Addr → Prop} {Ts : List Cond} {own : String} {As rest : List Value} {g : JFrame}
    (S : CallFix p m c cc nL s args Ts own) (hM : Met l y ws rm Pc Qc mc ms free) (cw : vx_CSW R s args own index y bytes maxL ret hh ws rm mc ms n) (hp : PreS s H Pc As)
    (hg : g.method = m) (hn : As.length = n) (hsize : g.locals.size = nL) (hstack : g.stack = As.reverse ++ rest) (hW : 2 * g.monitorRoom + (rest.map fun v => v.category).sum ≤ 8) (hdg : decode cc g.pc = .ok (.invokestatic index, 3)) (hf : cells + mc ≤ R.cells ∧ slots + ms ≤ R.slots) :
    va_Run p l e R s m args below meth c H locs cells slots mc ms g rest (Qc As.toArray) (free) := by
  obtain ⟨⟨hrc, hrs, hfr, hlo, hws, hcw⟩, hcode, hini, hy, hlen, hl, hstt⟩ := cw
  have hK : Back l R p e below s args y 3 8 (PreOf R mc ms Pc) (PostOf Qc mc ms free) := va_backW (hh := hh) (bytes := bytes) (maxL := maxL) (ret := ret) hM hp.1 hrc hrs hfr hlo hws hcw (fun a' U hW => word_at hW (Or.inl (by first | rfl | simp [Cond.onTables, Cond.keeps, Cond.steady])) hini)
  obtain ⟨hx, hb, hml, ho, -⟩ := S
  intro T hT X
  obtain ⟨v, vm₁, ⟨U', l2, c2, s2⟩, hW₁, X', ⟨g', mk, t, L, e1, e2, hq, h1, hL, h2, h3⟩, st⟩ := vx_callSW X hx (hh := hh) (bytes := bytes) (maxL := maxL) (ret := ret) ho hl hstt hini hcode hy hK hg (hsize.trans hml.symm) (argsL := As) (rest := rest) (fun sig h => hn.trans (hlen sig h)) hstack hW (by rw [hb]; exact hdg)
    (fun vm₁ hW₁ => ⟨hf.1, hf.2, hp.2 (T.setVm vm₁) hT hW₁⟩)
  dsimp only [Pt.U, Pt.locs, Pt.cells, Pt.slots] at X' e1 e2 h1 h2 h3 st
  subst h1; subst h2; subst h3
  exact ⟨v, (T.setVm vm₁).calling g' mk As.toArray, t, U', L, hT, X', hL, e1, e2, hq, st⟩
/-- not caught here, past rows that name other classes: it goes on to the caller -/
theorem vx_outP {p : Program} {l : Launch} {e : Env} {R : Room} {s : State} {m : MethodId} {args : Array Value} {below : List Frame} {meth : Method} {c : Code} {H : Heap} {locs : List Loc} {cells slots : Nat} {free : Addr → Prop} {ls : Array Slot} {rest : List Value} {Qc : Array Value → State → Outcome → State → Prop} {XC : String → State → State → Prop}
    {pc : Nat} {own E : String} {ce : Cell} {q : Addr} {mc ms : Nat} (hown : s.vm.findClass own = some m.cls) (hlocks : meth.locks = false)
    (hpass : ∀ z ∈ c.exceptionTable.toList, covers z pc = false ∨ (z.catchType ≠ 0 ∧ ∃ nm : String, (Cond.classLink own z.catchType nm).before args s = true ∧ va_Nc E nm s)) (hcell : H[q]? = some ce) (hv : ce.vm = .none) (hcl : s.vm.findClass E = some ce.cls)
    (hx : ∀ t : State, t.heap = H → s.vm.Alike t.vm → XC E s t) (hf : ∀ z ∈ locs, free z.base) (hc : cells ≤ mc) (hs : slots ≤ ms) :
    vx_W p l e R s m args below meth c H locs cells slots (vx_MQ below Qc XC args s mc ms free) (F0 m pc ls rest) q := by
  intro T hT X
  have hpl : e.platform.magicAccessors = ({} : Platform).magicAccessors := by rw [X.admits.platform]
  obtain ⟨vm', hW', X', st⟩ := X.outThrough hlocks q (g := F0 m pc ls rest) rfl rfl rfl (cell := ce) (by rw [hT]; exact hcell) (by rw [hv]; rfl)
    (by obtain ⟨k9, h9, -⟩ := Vm.findClass_spec hcl; exact ⟨k9, h9⟩) (fun z hz => by
      rcases hpass z hz with h | ⟨hz0, nm, hl1, hn1⟩
      · exact Or.inl h
      · obtain ⟨c6, hc6, hcl6⟩ := Cond.classLink_spec hown hl1 e.platform hpl
        obtain ⟨a8, b8, h1, h2, h3⟩ := hn1
        cases Option.some.inj (h1.symm.trans hcl)
        cases Option.some.inj (h2.symm.trans hc6)
        exact Or.inr ⟨hz0, _, hcl6, h3⟩)
  obtain ⟨g₀, hfr⟩ := X'.frames_eq
  have hcell9 : ((T.setVm vm').setFrames (.throwing q :: below)).heap[q]? = some ce := by
    show T.heap[q]? = some ce
    rw [hT]; exact hcell
  have hend : Ended ((T.setVm vm').setFrames (.throwing q :: below)) below (.threw q) := State.frames_setFrames _ (State.cur_lt_of_frames hfr)
  refine ⟨(T.setVm vm').setFrames (.throwing q :: below), ?_, .threw q, X'.here.running, hend, Or.inr ⟨q, rfl, E, ce, locs, hx _ hT (X'.ends _).1.alike, hcell9, hv, hcl, (X'.ends _).1, (X'.ends _).2.mono hc hs, hf⟩⟩
  rw [X.pushThrowing_eq]
  exact st
/-- a thing of a world lies in the heap -/
theorem vx_lt {D : va_G} {cl : List vw_C} {ws : va_W} {H1 : Heap} (h : va_P D cl ws H1) {k : Nat} {q : Nat × va_E} (hk : ws[k]? = some q) : q.1 < H1.size := (h k q hk).lt
end VXS
/-! ===== END ===== -/
/-! ===== BEGIN methods with a table of their own: called by a name, returning or throwing ===== -/
section VXH
/-! vx_backW, vx_callVX, vx_callSX, vx_callVW, vx_runVW, vx_runVX, vx_runSX, vx_ofWH follow the same proofs as their sisters above (Free/Laws.lean, Shelf42/LK1.lean); vx_outP calls Shelf42/NT130.lean (outThrough). -/
section
variable {l : Launch} {R : Room} {p : Program} {e : Env} {below : List Frame} {s : State} {sargs : Array Value} {y : MethodName} {len W9 : Nat}
theorem vx_backW {ws : List Cond} {rm : Room} {Pc : Array Value → State → Prop} {Qc : Array Value → State → Outcome → State → Prop} {XC : String → State → State → Prop} {mc ms : Nat} {free : Addr → Prop} {bytes : ByteArray} {maxL : Nat} {ret : Option FieldType} {hh : List (Nat × Nat × Nat × Nat)}
    (hM : vx_Met l y ws rm Pc Qc XC mc ms free) (hblind : FrameBlind Pc) (hrc : rm.cells = mc) (hrs : rm.slots = ms)
    (hframes : rm.frames + 1 ≤ R.frames) (hlocals : W9 + (maxL + 11) + rm.locals ≤ R.locals)
    (hws : ∀ w ∈ ws, ∀ a' U, s.WarmedH U.vm → w.before a' U = true) (hcode : Cond.codeWith y bytes maxL ret hh ∈ ws) (hinit : ∀ a' U, s.WarmedH U.vm → (Cond.initialized y.cls).before a' U = true) :
    vx_Back l R p e below s sargs y len W9 (PreOf R mc ms Pc) (PostOf Qc mc ms free) (vx_Post XC mc ms free) := by
  intro m meth c A g ig mk a X hg hsize hdg hW hn hp
  have h1 : (headSpec ws rm).pre.before a A.U = true := atoms_intro fun w hw => hws w hw _ _ X.warmed
  have h2 : (Cond.codeWith y bytes maxL ret hh).before a A.U = true := hws _ hcode _ _ X.warmed
  have h3 : (Cond.initialized y.cls).before a A.U = true := hinit _ _ X.warmed
  have h4 : A.cells + (headSpec ws rm).room.cells ≤ R.cells := by rw [show (headSpec ws rm).room.cells = mc from hrc]; exact hp.1
  have h5 : A.slots + (headSpec ws rm).room.slots ≤ R.slots := by rw [show (headSpec ws rm).room.slots = ms from hrs]; exact hp.2.1
  have hPc : Pc a (A.U.calling g mk a) := hblind _ _ _ _ hp.2.2
  obtain ⟨U, Ls, c0, s0⟩ := A
  dsimp only [Pt.U, Pt.locs, Pt.cells, Pt.slots] at h1 h2 h3 h4 h5 X hn hPc ⊢
  obtain ⟨m9, methY, cY, hn9, hmY, hcY, -, hlY, -⟩ := Cond.codeWith_spec h2
  cases Option.some.inj (hn9.symm.trans hn)
  obtain ⟨kY, hkY, -⟩ := className_of_methodNamed hn
  have hinitY : kY.init = .initialized := Cond.initialized_spec (findClass_of_methodNamed hn) hkY h3
  have h : At U g.method c below := by rw [hg]; exact X.here
  have hlocals9 : W9 + (maxL + 11) + (headSpec ws rm).room.locals ≤ R.locals := hlocals
  have happ : (headSpec ws rm).appliesLoose y e.platform (U.calling g mk a) = true :=
    Spec.appliesLoose_calling (g := g) h hdg hn hkY hinitY
      (X.room_calling (g := g) (R' := (headSpec ws rm).room) hsize hmY hcY hframes (by rw [hlY]; omega) h4 h5) h1
  obtain ⟨mid, hmid⟩ := h.above
  have hfr : (U.setTop g).frames = (.java g :: mid) ++ below := by rw [State.frames_setTop' g h.top, hmid]; rfl
  obtain ⟨o, s₂, hsteps, -, hend, hq⟩ := Steps.callFree hM p X.admits X.cas X.clock (acts := []) hfr happ hPc trivial
  have hq' : vx_Q Qc XC mc ms free a (U.calling g mk a) o s₂ := hq
  rw [State.frames_setTop' g h.top] at hend
  obtain ⟨g₀, hg0⟩ := Option.isSome_iff_exists.mp h.top
  obtain ⟨r, hr⟩ := State.topJava?_eq_some.mp hg0
  have hr' : (({ U with heap := s₂.heap, slotsUsed := s₂.slotsUsed } : State).setVm s₂.vm).frames = .java g₀ :: r := hr
  rcases hq' with ⟨hqc, L, hfe, hL⟩ | ⟨q, rfl, E, ce, L, hx, hce, hcv, hcl, hW₂, hsm, hL⟩
  · obtain ⟨⟨v, rfl⟩, hW₂, e2, q2, q3, q4, q5, q6⟩ := id hfe
    have e3 : s₂ = ({ (U.calling g mk a).setFrames s₂.frames with heap := s₂.heap, slotsUsed := s₂.slotsUsed } : State).setVm s₂.vm := by
      have : s₂ = ({ s₂ with vm := (U.calling g mk a).vm } : State).setVm s₂.vm := rfl
      rw [e2] at this
      exact this
    obtain ⟨c₂, i₂, len₂, hc₂, hd₂, hf₂⟩ := hend
    have hW' : U.WarmedH s₂.vm := hW₂
    have hcc : c₂ = c := by
      have h1 : s₂.code? g.method = U.code? g.method := by
        rw [State.code?_eq, State.code?_eq, hW'.alike.method?]
      exact Option.some.inj (hc₂.symm.trans (h1.trans h.code))
    subst hcc
    have hlen : len₂ = len := by rw [hdg] at hd₂; cases hd₂; rfl
    subst hlen
    have hs₂ : s₂ = (({ U with heap := s₂.heap, slotsUsed := s₂.slotsUsed } : State).setVm s₂.vm).setTop { g with pc := g.pc + len₂, stack := v.toList ++ g.stack } := by
      refine e3.trans ?_
      rw [hf₂, State.calling_eq h.top, State.setFrames_setFrames, State.setTop_of_frames _ hr', hr]
      rfl
    have hsame : U.sameButNew ({ U with heap := s₂.heap, slotsUsed := s₂.slotsUsed } : State) L mc ms := by
      refine ⟨?_, q2, q3, q4, q5, q6⟩
      obtain ⟨t, ht, -⟩ := State.frames_cons hr
      show ({ U with heap := s₂.heap, slotsUsed := s₂.slotsUsed } : State) = { U.setFrames U.frames with heap := s₂.heap, slotsUsed := s₂.slotsUsed }
      rw [State.setFrames_self ht]
    subst hg
    refine Or.inl ⟨v, ⟨(({ U with heap := s₂.heap, slotsUsed := s₂.slotsUsed } : State).setVm s₂.vm), Ls ++ L, c0 + mc, s0 + ms⟩,
      ⟨X.admits, X.cas, X.clock, X.frames, X.room, X.hears, X.method, X.code, (X.here.setHeapUsed s₂.heap s₂.slotsUsed).setVm hW'.alike, X.tail, State.WarmedH.trans X.warmed hW', X.limits, X.bytes, X.same.trans (hsame.setVm s.vm)⟩,
      ⟨g, mk, s₂, L, rfl, rfl, hqc, rfl, hL, rfl, rfl⟩, ?_⟩
    show Steps p.tables e below _ ((({ U with heap := s₂.heap, slotsUsed := s₂.slotsUsed } : State).setVm s₂.vm).setTop { g with pc := g.pc + len₂, stack := v.toList ++ g.stack })
    rw [← hs₂]
    exact hsteps
  · obtain ⟨e2, q2, q3, q4, q5, q6⟩ := id hsm
    have e3 : s₂ = ({ (U.calling g mk a).setFrames s₂.frames with heap := s₂.heap, slotsUsed := s₂.slotsUsed } : State).setVm s₂.vm := by
      have : s₂ = ({ s₂ with vm := (U.calling g mk a).vm } : State).setVm s₂.vm := rfl
      rw [e2] at this
      exact this
    have hf₂ : s₂.frames = .throwing q :: .java g :: U.frames.tail := hend
    have hW' : U.WarmedH s₂.vm := hW₂
    have hs₂ : s₂ = ((({ U with heap := s₂.heap, slotsUsed := s₂.slotsUsed } : State).setVm s₂.vm).setTop g).pushFrame (.throwing q) := by
      refine e3.trans ?_
      rw [hf₂, State.calling_eq h.top, State.setFrames_setFrames, State.pushFrame, State.frames_setTop _ hr', State.setTop_of_frames _ hr', State.setFrames_setFrames, hr]
      rfl
    have hsame : U.sameButNew ({ U with heap := s₂.heap, slotsUsed := s₂.slotsUsed } : State) L mc ms := by
      refine ⟨?_, q2, q3, q4, q5, q6⟩
      obtain ⟨t, ht, -⟩ := State.frames_cons hr
      show ({ U with heap := s₂.heap, slotsUsed := s₂.slotsUsed } : State) = { U.setFrames U.frames with heap := s₂.heap, slotsUsed := s₂.slotsUsed }
      rw [State.setFrames_self ht]
    subst hg
    refine Or.inr ⟨q, ⟨(({ U with heap := s₂.heap, slotsUsed := s₂.slotsUsed } : State).setVm s₂.vm), Ls ++ L, c0 + mc, s0 + ms⟩,
      ⟨X.admits, X.cas, X.clock, X.frames, X.room, X.hears, X.method, X.code, (X.here.setHeapUsed s₂.heap s₂.slotsUsed).setVm hW'.alike, X.tail, State.WarmedH.trans X.warmed hW', X.limits, X.bytes, X.same.trans (hsame.setVm s.vm)⟩,
      ⟨g, mk, s₂, L, E, ce, rfl, rfl, hx, hce, hcv, hcl, rfl, hL, rfl, rfl⟩, ?_⟩
    show Steps p.tables e below _ (((({ U with heap := s₂.heap, slotsUsed := s₂.slotsUsed } : State).setVm s₂.vm).setTop g).pushFrame (.throwing q))
    rw [← hs₂]
    exact hsteps
end
variable {p : Program} {l : Launch} {e : Env} {R : Room} {s : State} {m : MethodId} {args : Array Value} {below : List Frame} {meth : Method} {c : Code} {T : State} {H : Heap} {locs : List Loc} {cells slots : Nat}
theorem vx_callVX (X : Stand p l e R s m args below meth c T locs cells slots) (hexec : p.tables.exec = Jvm.exec) {own C : String} {index : Nat} {y : MethodName} {bytes : ByteArray} {maxL : Nat} {ret : Option FieldType} {hh : List (Nat × Nat × Nat × Nat)}
    (hown : s.vm.findClass own = some m.cls) (hlink : (Cond.methodLink own index y).before args s = true) (hinst : (Cond.instanceMethod y).before args s = true) (hsel : (Cond.selects C y y).before args s = true)
    (hcode : (Cond.codeWith y bytes maxL ret hh).before args s = true) (hy : y.cls ≠ "java/lang/invoke/MethodHandle" ∧ y.cls ≠ "java/lang/invoke/VarHandle")
    {W9 : Nat} {Pre : Pt → Array Value → Prop} {Post : Pt → Array Value → Option Value → Pt → Prop} {PostX : Pt → Array Value → Addr → Pt → Prop} (hK : vx_Back l R p e below s args y 3 W9 Pre Post PostX)
    {b : Addr} {cellB : Cell} (hcell : T.heap[b]? = some cellB) (hobj : cellB.vm.isStatics = false) (hcls : s.vm.findClass C = some cellB.cls)
    {g : JFrame} (hg : g.method = m) (hsize : g.locals.size = c.maxLocals) {argsL rest : List Value} (hlen : ∀ sig, parseMethodDescriptor y.desc = some sig → argsL.length = sig.parameters.length)
    (hstack : g.stack = argsL.reverse ++ .ref b :: rest) (hW : 2 * g.monitorRoom + (rest.map fun v => v.category).sum ≤ W9) (hdg : decode c.code g.pc = .ok (.invokevirtual index, 3))
    (hpre : ∀ vm₁, s.WarmedH vm₁ → Pre ⟨T.setVm vm₁, locs, cells, slots⟩ (Value.ref b :: argsL).toArray) :
    (∃ (v : Option Value) (vm₁ : Vm) (B : Pt), s.WarmedH vm₁ ∧ Stand p l e R s m args below meth c B.U B.locs B.cells B.slots ∧ Post ⟨T.setVm vm₁, locs, cells, slots⟩ (Value.ref b :: argsL).toArray v B ∧
      ∀ target, Steps p.tables e below (B.U.setTop { g with pc := g.pc + 3, stack := v.toList ++ rest }) target → Steps p.tables e below (T.setTop g) target) ∨
    (∃ (q : Addr) (vm₁ : Vm) (B : Pt), s.WarmedH vm₁ ∧ Stand p l e R s m args below meth c B.U B.locs B.cells B.slots ∧ PostX ⟨T.setVm vm₁, locs, cells, slots⟩ (Value.ref b :: argsL).toArray q B ∧
      Steps p.tables e below (T.setTop g) ((B.U.setTop { g with stack := rest }).pushFrame (.throwing q))) := by
  obtain ⟨mk, methM, hnamed, hmethM, hstM, habM⟩ := Cond.instanceMethod_spec hinst
  obtain ⟨m8, methM', cM, hn8, hmethM', -, -, -, -, -, -, hsigM⟩ := Cond.codeWith_spec hcode
  cases Option.some.inj (hn8.symm.trans hnamed)
  cases hmethM.symm.trans hmethM'
  obtain ⟨c2, r2, m2, q1, q2, q3, q4, kP, hkP, hkPi⟩ := Cond.selects_spec hsel
  cases hcls.symm.trans q1
  cases (State.methodFound?_of_named hnamed hy).symm.trans q2
  cases hnamed.symm.trans q3
  have hselP : selectMethod e.platform s.vm cellB.cls mk = .method mk := by rw [Launch.admits_selectMethod X.admits]; exact q4
  obtain ⟨vm₁, X₁, hstep₁⟩ := X.invokevirtual hexec hown hlink hnamed hmethM hstM hkP hkPi hy (a := b) (cell := cellB) hcell
    (fun z h => by rw [h] at hobj; cases hobj) hselP hmethM habM hkP hkPi (g := g) hg (argsL := argsL) (rest := rest) (hlen _ hsigM) hstack hdg
  rcases hK m meth c ⟨T.setVm vm₁, locs, cells, slots⟩ { g with stack := rest } (.invokevirtual index) mk (Value.ref b :: argsL).toArray X₁ hg hsize hdg hW (X₁.named hnamed) (hpre vm₁ X₁.warmed) with ⟨v, B, X', hpost, hsteps⟩ | ⟨q, B, X', hpost, hsteps⟩
  · exact Or.inl ⟨v, vm₁, B, X₁.warmed, X', hpost, fun target h => hstep₁ _ fun acts => by rw [doInvoke_state]; exact hsteps.trans h⟩
  · exact Or.inr ⟨q, vm₁, B, X₁.warmed, X', hpost, hstep₁ _ fun acts => by rw [doInvoke_state]; exact hsteps⟩
theorem vx_callSX (X : Stand p l e R s m args below meth c T locs cells slots) (hexec : p.tables.exec = Jvm.exec) {own : String} {index : Nat} {y : MethodName} {bytes : ByteArray} {maxL : Nat} {ret : Option FieldType} {hh : List (Nat × Nat × Nat × Nat)}
    (hown : s.vm.findClass own = some m.cls) (hlink : (Cond.methodLink own index y).before args s = true) (hstat : (Cond.static y).before args s = true) (hinit : (Cond.initialized y.cls).before args s = true)
    (hcode : (Cond.codeWith y bytes maxL ret hh).before args s = true) (hy : y.cls ≠ "java/lang/invoke/MethodHandle" ∧ y.cls ≠ "java/lang/invoke/VarHandle")
    {W9 : Nat} {Pre : Pt → Array Value → Prop} {Post : Pt → Array Value → Option Value → Pt → Prop} {PostX : Pt → Array Value → Addr → Pt → Prop} (hK : vx_Back l R p e below s args y 3 W9 Pre Post PostX)
    {g : JFrame} (hg : g.method = m) (hsize : g.locals.size = c.maxLocals) {argsL rest : List Value} (hlen : ∀ sig, parseMethodDescriptor y.desc = some sig → argsL.length = sig.parameters.length)
    (hstack : g.stack = argsL.reverse ++ rest) (hW : 2 * g.monitorRoom + (rest.map fun v => v.category).sum ≤ W9) (hdg : decode c.code g.pc = .ok (.invokestatic index, 3))
    (hpre : ∀ vm₁, s.WarmedH vm₁ → Pre ⟨T.setVm vm₁, locs, cells, slots⟩ argsL.toArray) :
    (∃ (v : Option Value) (vm₁ : Vm) (B : Pt), s.WarmedH vm₁ ∧ Stand p l e R s m args below meth c B.U B.locs B.cells B.slots ∧ Post ⟨T.setVm vm₁, locs, cells, slots⟩ argsL.toArray v B ∧
      ∀ target, Steps p.tables e below (B.U.setTop { g with pc := g.pc + 3, stack := v.toList ++ rest }) target → Steps p.tables e below (T.setTop g) target) ∨
    (∃ (q : Addr) (vm₁ : Vm) (B : Pt), s.WarmedH vm₁ ∧ Stand p l e R s m args below meth c B.U B.locs B.cells B.slots ∧ PostX ⟨T.setVm vm₁, locs, cells, slots⟩ argsL.toArray q B ∧
      Steps p.tables e below (T.setTop g) ((B.U.setTop { g with stack := rest }).pushFrame (.throwing q))) := by
  obtain ⟨mk, methM, cM, hnamed, hmethM, -, -, -, -, -, -, hsigM⟩ := Cond.codeWith_spec hcode
  have hstatic : methM.isStatic = true := Cond.static_spec hnamed hmethM hstat
  obtain ⟨kP, hkP, -⟩ := className_of_methodNamed hnamed
  have hinitP : kP.init = .initialized := Cond.initialized_spec (findClass_of_methodNamed hnamed) hkP hinit
  obtain ⟨vm₁, X₁, hstep₁⟩ := X.invokestatic hexec hown hlink hnamed hmethM hstatic hkP hinitP hy (g := g) hg (argsL := argsL) (rest := rest) (hlen _ hsigM) hstack hdg
  rcases hK m meth c ⟨T.setVm vm₁, locs, cells, slots⟩ { g with stack := rest } (.invokestatic index) mk argsL.toArray X₁ hg hsize hdg hW (X₁.named hnamed) (hpre vm₁ X₁.warmed) with ⟨v, B, X', hpost, hsteps⟩ | ⟨q, B, X', hpost, hsteps⟩
  · exact Or.inl ⟨v, vm₁, B, X₁.warmed, X', hpost, fun target h => hstep₁ _ fun acts => by rw [doInvoke_state]; exact hsteps.trans h⟩
  · exact Or.inr ⟨q, vm₁, B, X₁.warmed, X', hpost, hstep₁ _ fun acts => by rw [doInvoke_state]; exact hsteps⟩
theorem vx_callVW (X : Stand p l e R s m args below meth c T locs cells slots) (hexec : p.tables.exec = Jvm.exec) {own C : String} {index : Nat} {y : MethodName} {bytes : ByteArray} {maxL : Nat} {ret : Option FieldType} {hh : List (Nat × Nat × Nat × Nat)}
    (hown : s.vm.findClass own = some m.cls) (hlink : (Cond.methodLink own index y).before args s = true) (hinst : (Cond.instanceMethod y).before args s = true) (hsel : (Cond.selects C y y).before args s = true)
    (hcode : (Cond.codeWith y bytes maxL ret hh).before args s = true) (hy : y.cls ≠ "java/lang/invoke/MethodHandle" ∧ y.cls ≠ "java/lang/invoke/VarHandle")
    {W9 : Nat} {Pre : Pt → Array Value → Prop} {Post : Pt → Array Value → Option Value → Pt → Prop} (hK : Back l R p e below s args y 3 W9 Pre Post)
    {b : Addr} {cellB : Cell} (hcell : T.heap[b]? = some cellB) (hobj : cellB.vm.isStatics = false) (hcls : s.vm.findClass C = some cellB.cls)
    {g : JFrame} (hg : g.method = m) (hsize : g.locals.size = c.maxLocals) {argsL rest : List Value} (hlen : ∀ sig, parseMethodDescriptor y.desc = some sig → argsL.length = sig.parameters.length)
    (hstack : g.stack = argsL.reverse ++ .ref b :: rest) (hW : 2 * g.monitorRoom + (rest.map fun v => v.category).sum ≤ W9) (hdg : decode c.code g.pc = .ok (.invokevirtual index, 3))
    (hpre : ∀ vm₁, s.WarmedH vm₁ → Pre ⟨T.setVm vm₁, locs, cells, slots⟩ (Value.ref b :: argsL).toArray) :
    ∃ (v : Option Value) (vm₁ : Vm) (B : Pt), s.WarmedH vm₁ ∧ Stand p l e R s m args below meth c B.U B.locs B.cells B.slots ∧ Post ⟨T.setVm vm₁, locs, cells, slots⟩ (Value.ref b :: argsL).toArray v B ∧
      ∀ target, Steps p.tables e below (B.U.setTop { g with pc := g.pc + 3, stack := v.toList ++ rest }) target → Steps p.tables e below (T.setTop g) target := by
  obtain ⟨mk, methM, hnamed, hmethM, hstM, habM⟩ := Cond.instanceMethod_spec hinst
  obtain ⟨m8, methM', cM, hn8, hmethM', -, -, -, -, -, -, hsigM⟩ := Cond.codeWith_spec hcode
  cases Option.some.inj (hn8.symm.trans hnamed)
  cases hmethM.symm.trans hmethM'
  obtain ⟨c2, r2, m2, q1, q2, q3, q4, kP, hkP, hkPi⟩ := Cond.selects_spec hsel
  cases hcls.symm.trans q1
  cases (State.methodFound?_of_named hnamed hy).symm.trans q2
  cases hnamed.symm.trans q3
  have hselP : selectMethod e.platform s.vm cellB.cls mk = .method mk := by rw [Launch.admits_selectMethod X.admits]; exact q4
  obtain ⟨vm₁, X₁, hstep₁⟩ := X.invokevirtual hexec hown hlink hnamed hmethM hstM hkP hkPi hy (a := b) (cell := cellB) hcell
    (fun z h => by rw [h] at hobj; cases hobj) hselP hmethM habM hkP hkPi (g := g) hg (argsL := argsL) (rest := rest) (hlen _ hsigM) hstack hdg
  obtain ⟨v, B, X', hpost, hsteps⟩ := hK m meth c ⟨T.setVm vm₁, locs, cells, slots⟩ { g with stack := rest } (.invokevirtual index) mk (Value.ref b :: argsL).toArray X₁ hg hsize hdg hW (X₁.named hnamed) (hpre vm₁ X₁.warmed)
  exact ⟨v, vm₁, B, X₁.warmed, X', hpost, fun target h => hstep₁ _ fun acts => by rw [doInvoke_state]; exact hsteps.trans h⟩
abbrev vx_CVW (R : Room) (s : State) (args : Array Value) (own C : String) (index : Nat) (y : MethodName) (bytes : ByteArray) (maxL : Nat) (ret : Option FieldType) (hh : List (Nat × Nat × Nat × Nat)) (ws : List Cond) (rm : Room) (mc ms n : Nat) : Prop :=
  (rm.cells = mc ∧ rm.slots = ms ∧ rm.frames + 1 ≤ R.frames ∧ 8 + (maxL + 11) + rm.locals ≤ R.locals ∧ (∀ w ∈ ws, ∀ (a' : Array Value) (U : State), s.WarmedH U.vm → w.before a' U = true) ∧ Cond.codeWith y bytes maxL ret hh ∈ ws) ∧
  (Cond.codeWith y bytes maxL ret hh).before args s = true ∧ (Cond.initialized y.cls).before args s = true ∧ (y.cls ≠ "java/lang/invoke/MethodHandle" ∧ y.cls ≠ "java/lang/invoke/VarHandle") ∧
  (∀ sig, parseMethodDescriptor y.desc = some sig → n = sig.parameters.length) ∧ (Cond.methodLink own index y).before args s = true ∧ (Cond.instanceMethod y).before args s = true ∧ (Cond.selects C y y).before args s = true
theorem vx_cwVW {own C : String} {index maxL mc ms : Nat} {y : MethodName} {bytes : ByteArray} {ret : Option FieldType} {hh : List (Nat × Nat × Nat × Nat)} {Ts ws ws' : List Cond} {rm : Room} (n : Nat) (ht : ∀ w ∈ Ts, w.before args s = true) (hT : GoodIn Ts (wsV own index C y ws)) (hw : ws = Cond.codeWith y bytes maxL ret hh :: ws') (hrc : rm.cells = mc) (hrs : rm.slots = ms)
    (hd : y.cls = C ∧ y.cls ≠ "java/lang/invoke/MethodHandle" ∧ y.cls ≠ "java/lang/invoke/VarHandle" ∧ (parseMethodDescriptor y.desc).map (fun d => d.parameters.length) = some n) (hR : rm.frames + 1 ≤ R.frames ∧ 8 + (maxL + 11) + rm.locals ≤ R.locals) :
    vx_CVW R s args own C index y bytes maxL ret hh ws rm mc ms n := by
  obtain ⟨hC, hd⟩ := hd
  subst hC
  have ok : ∀ w ∈ wsV own index y.cls y ws, w.before args s = true := fun w h => ht w (hT w h).1
  have hG : GoodIn Ts ws := fun w h => hT w (by unfold wsV; exact List.mem_append_right _ h)
  have hc : Cond.codeWith y bytes maxL ret hh ∈ ws := by rw [hw]; exact List.mem_cons_self
  refine ⟨⟨hrc, hrs, hR.1, hR.2, pay_in ht hG, hc⟩, ht _ (hG _ hc).1, ok _ (by simp [wsV]), ⟨hd.1, hd.2.1⟩, fun sig h => ?_, ok _ (by simp [wsV]), ok _ (by simp [wsV]), ok _ (by simp [wsV])⟩
  have h2 := hd.2.2
  rw [h] at h2
  exact (Option.some.inj h2).symm
theorem vx_runVW {y : MethodName} {bytes cc : ByteArray} {maxL nL mc ms n index : Nat} {ret : Option FieldType} {hh : List (Nat × Nat × Nat × Nat)} {ws : List Cond} {rm : Room} {Pc : Array Value → State → Prop} {Qc : Array Value → State → Outcome → State → Prop} {free : Addr → Prop} {Ts : List Cond} {own C : String} {b : Addr} {As rest : List Value} {g : JFrame}
    (S : CallFix p m c cc nL s args Ts own) (hM : Met l y ws rm Pc Qc mc ms free) (cw : vx_CVW R s args own C index y bytes maxL ret hh ws rm mc ms n) (hp : PreV s H C b Pc As)
    (hg : g.method = m) (hn : As.length = n) (hsize : g.locals.size = nL) (hstack : g.stack = As.reverse ++ .ref b :: rest) (hW : 2 * g.monitorRoom + (rest.map fun v => v.category).sum ≤ 8) (hdg : decode cc g.pc = .ok (.invokevirtual index, 3)) (hf : cells + mc ≤ R.cells ∧ slots + ms ≤ R.slots) :
    va_Run p l e R s m args below meth c H locs cells slots mc ms g rest (Qc (Value.ref b :: As).toArray) free := by
  obtain ⟨⟨hrc, hrs, hfr, hlo, hws, hcw⟩, hcode, hini, hy, hlen, hl, hin, hse⟩ := cw
  have hK : Back l R p e below s args y 3 8 (PreOf R mc ms Pc) (PostOf Qc mc ms free) := va_backW (hh := hh) (bytes := bytes) (maxL := maxL) (ret := ret) hM hp.1 hrc hrs hfr hlo hws hcw (fun a' U hW => word_at hW (Or.inl (by first | rfl | simp [Cond.onTables, Cond.keeps, Cond.steady])) hini)
  obtain ⟨hx, hb, hml, ho, -⟩ := S
  obtain ⟨-, ⟨cellB, hcB, hoB, hclB⟩, hPc⟩ := hp
  intro T hT X
  obtain ⟨v, vm₁, ⟨U', l2, c2, s2⟩, hW₁, X', ⟨g', mk, t, L, e1, e2, hq, h1, hL, h2, h3⟩, st⟩ := vx_callVW X hx (C := C) (hh := hh) (bytes := bytes) (maxL := maxL) (ret := ret) ho hl hin hse hcode hy hK (by rw [hT]; exact hcB) hoB hclB hg (hsize.trans hml.symm) (argsL := As) (rest := rest) (fun sig h => hn.trans (hlen sig h)) hstack hW (by rw [hb]; exact hdg)
    (fun vm₁ hW₁ => ⟨hf.1, hf.2, hPc (T.setVm vm₁) hT hW₁⟩)
  dsimp only [Pt.U, Pt.locs, Pt.cells, Pt.slots] at X' e1 e2 h1 h2 h3 st
  subst h1; subst h2; subst h3
  exact ⟨v, (T.setVm vm₁).calling g' mk (Value.ref b :: As).toArray, t, U', L, hT, X', hL, e1, e2, hq, st⟩
section
variable {y : MethodName} {bytes cc : ByteArray} {maxL nL mc ms n index : Nat} {ret : Option FieldType} {ws : List Cond} {rm : Room} {Pc : Array Value → State → Prop} {Qc : Array Value → State → Outcome → State → Prop} {XC : String → State → State → Prop} {free : Addr → Prop} {Ts : List Cond} {own C : String} {b : Addr} {As rest : List Value} {g : JFrame}
theorem vx_runVX {hh : List (Nat × Nat × Nat × Nat)} (S : CallFix p m c cc nL s args Ts own) (hM : vx_Met l y ws rm Pc Qc XC mc ms free) (cw : vx_CVW R s args own C index y bytes maxL ret hh ws rm mc ms n) (hp : PreV s H C b Pc As)
    (hg : g.method = m) (hn : As.length = n) (hsize : g.locals.size = nL) (hstack : g.stack = As.reverse ++ .ref b :: rest) (hW : 2 * g.monitorRoom + (rest.map fun v => v.category).sum ≤ 8) (hdg : decode cc g.pc = .ok (.invokevirtual index, 3)) (hf : cells + mc ≤ R.cells ∧ slots + ms ≤ R.slots) :
    vx_Run p l e R s m args below meth c H locs cells slots mc ms g rest (Qc (Value.ref b :: As).toArray) XC free := by
  obtain ⟨⟨hrc, hrs, hfr, hlo, hws, hcw⟩, hcode, hini, hy, hlen, hl, hin, hse⟩ := cw
  have hK : vx_Back l R p e below s args y 3 8 (PreOf R mc ms Pc) (PostOf Qc mc ms free) (vx_Post XC mc ms free) := vx_backW (hh := hh) (bytes := bytes) (maxL := maxL) (ret := ret) hM hp.1 hrc hrs hfr hlo hws hcw (fun a' U hW => word_at hW (Or.inl (by first | rfl | simp [Cond.onTables, Cond.keeps, Cond.steady])) hini)
  obtain ⟨hx, hb, hml, ho, -⟩ := S
  obtain ⟨-, ⟨cellB, hcB, hoB, hclB⟩, hPc⟩ := hp
  intro T hT X
  rcases vx_callVX X hx (C := C) (hh := hh) (bytes := bytes) (maxL := maxL) (ret := ret) ho hl hin hse hcode hy hK (by rw [hT]; exact hcB) hoB hclB hg (hsize.trans hml.symm) (argsL := As) (rest := rest) (fun sig h => hn.trans (hlen sig h)) hstack hW (by rw [hb]; exact hdg)
    (fun vm₁ hW₁ => ⟨hf.1, hf.2, hPc (T.setVm vm₁) hT hW₁⟩) with ⟨v, vm₁, ⟨U', l2, c2, s2⟩, hW₁, X', ⟨g', mk, t, L, e1, e2, hq, h1, hL, h2, h3⟩, st⟩ | ⟨q, vm₁, ⟨U', l2, c2, s2⟩, hW₁, X', ⟨g', mk, t, L, E, ce, e1, e2, hq, hce, hcv, hcl, h1, hL, h2, h3⟩, st⟩
  · dsimp only [Pt.U, Pt.locs, Pt.cells, Pt.slots] at X' e1 e2 h1 h2 h3 st
    subst h1; subst h2; subst h3
    exact Or.inl ⟨v, (T.setVm vm₁).calling g' mk (Value.ref b :: As).toArray, t, U', L, hT, X', hL, e1, e2, hq, st⟩
  · dsimp only [Pt.U, Pt.locs, Pt.cells, Pt.slots] at X' e1 e2 h1 h2 h3 st hcl
    subst h1; subst h2; subst h3
    exact Or.inr ⟨q, (T.setVm vm₁).calling g' mk (Value.ref b :: As).toArray, t, U', L, E, ce, hT, X', hL, e1, e2, hq, hce, hcv, vx_cls hW₁ hcl, st⟩
theorem vx_runSX {hh : List (Nat × Nat × Nat × Nat)} (S : CallFix p m c cc nL s args Ts own) (hM : vx_Met l y ws rm Pc Qc XC mc ms free) (cw : vx_CSW R s args own index y bytes maxL ret hh ws rm mc ms n) (hp : PreS s H Pc As)
    (hg : g.method = m) (hn : As.length = n) (hsize : g.locals.size = nL) (hstack : g.stack = As.reverse ++ rest) (hW : 2 * g.monitorRoom + (rest.map fun v => v.category).sum ≤ 8) (hdg : decode cc g.pc = .ok (.invokestatic index, 3)) (hf : cells + mc ≤ R.cells ∧ slots + ms ≤ R.slots) :
    vx_Run p l e R s m args below meth c H locs cells slots mc ms g rest (Qc As.toArray) XC free := by
  obtain ⟨⟨hrc, hrs, hfr, hlo, hws, hcw⟩, hcode, hini, hy, hlen, hl, hstt⟩ := cw
  have hK : vx_Back l R p e below s args y 3 8 (PreOf R mc ms Pc) (PostOf Qc mc ms free) (vx_Post XC mc ms free) := vx_backW (hh := hh) (bytes := bytes) (maxL := maxL) (ret := ret) hM hp.1 hrc hrs hfr hlo hws hcw (fun a' U hW => word_at hW (Or.inl (by first | rfl | simp [Cond.onTables, Cond.keeps, Cond.steady])) hini)
  obtain ⟨hx, hb, hml, ho, -⟩ := S
  intro T hT X
  rcases vx_callSX X hx (hh := hh) (bytes := bytes) (maxL := maxL) (ret := ret) ho hl hstt hini hcode hy hK hg (hsize.trans hml.symm) (argsL := As) (rest := rest) (fun sig h => hn.trans (hlen sig h)) hstack hW (by rw [hb]; exact hdg)
    (fun vm₁ hW₁ => ⟨hf.1, hf.2, hp.2 (T.setVm vm₁) hT hW₁⟩) with ⟨v, vm₁, ⟨U', l2, c2, s2⟩, hW₁, X', ⟨g', mk, t, L, e1, e2, hq, h1, hL, h2, h3⟩, st⟩ | ⟨q, vm₁, ⟨U', l2, c2, s2⟩, hW₁, X', ⟨g', mk, t, L, E, ce, e1, e2, hq, hce, hcv, hcl, h1, hL, h2, h3⟩, st⟩
  · dsimp only [Pt.U, Pt.locs, Pt.cells, Pt.slots] at X' e1 e2 h1 h2 h3 st
    subst h1; subst h2; subst h3
    exact Or.inl ⟨v, (T.setVm vm₁).calling g' mk As.toArray, t, U', L, hT, X', hL, e1, e2, hq, st⟩
  · dsimp only [Pt.U, Pt.locs, Pt.cells, Pt.slots] at X' e1 e2 h1 h2 h3 st hcl
    subst h1; subst h2; subst h3
    exact Or.inr ⟨q, (T.setVm vm₁).calling g' mk As.toArray, t, U', L, E, ce, hT, X', hL, e1, e2, hq, hce, hcv, vx_cls hW₁ hcl, st⟩
end
end VXH
theorem vx_ofWH {l : Launch} {y : MethodName} {ws ws' : List Cond} {rm : Room} {Pc : Array Value → State → Prop} {Qc : Array Value → State → Outcome → State → Prop} {XC : String → State → State → Prop} {mc ms : Nat} {free : Addr → Prop} {cc : ByteArray} {maxL : Nat} {ret : Option FieldType} {hh : List (Nat × Nat × Nat × Nat)}
    (hy : plainName y.cls = true) (hw : ws = Cond.codeWith y cc maxL ret hh :: ws')
    (body : ∀ p e s m args below meth c s₁, BodyLoose p l y (headSpec ws rm) cc maxL ret e s m args below meth c s₁ → c.maxLocals = maxL → Pc args s →
      W p l e (headSpec ws rm).room s m args below meth c s.heap [] 0 0 (vx_MQ below Qc XC args s mc ms free) (entryFrame m args maxL)) : vx_Met l y ws rm Pc Qc XC mc ms free := by
  refine MetFree.of_bodyS (code := cc) (maxLocals := maxL) (ret := ret) hy ?_ ?_
  · intro args s m h hn
    obtain ⟨m9, meth, c, hn9, h1, h2, h3, h4, -, h5, h6, -⟩ := Cond.codeWith_spec (atoms_spec (ws := ws) h _ (by rw [hw]; exact List.mem_cons_self))
    cases hn.symm.trans hn9
    exact ⟨meth, c, h1, h2, h3, h4, h5, h6⟩
  · intro p e s m args below meth c s₁ B hml hP _
    have hh0 : s₁.heap = s.heap := by rw [B.state]; rfl
    obtain ⟨t, a1, o, b1, b2, b3⟩ := body p e s m args below meth c s₁ B hml hP s₁ hh0 (Stand.of_body B)
    exact ⟨t, o, a1, b1, b2, b3⟩
/-! ===== END ===== -/
end
section
/-! names, by program: classes (X0 ..), their fields, methods, the words of the tables -/
def wB : List Cond := lw_tbl.filter goodWord
theorem kwB {w : Cond} (i : Nat) (h : tables_1[i]? = some w) (hg : goodWord w = true) : w ∈ wB := List.mem_filter.mpr ⟨List.mem_append_right _ (List.mem_of_getElem? h), hg⟩
theorem kwP {w : Cond} (i : Nat) (h : (k2_sels lw_privs)[i]? = some w) (hg : goodWord w = true) : w ∈ wB := List.mem_filter.mpr ⟨List.mem_append_left _ (List.mem_of_getElem? h), hg⟩
theorem wB_good : ∀ w ∈ wB, goodWord w = true := fun w h => (List.mem_filter.mp h).2
theorem wB_tbl : ∀ w ∈ wB, w ∈ lw_tbl := fun w h => (List.mem_filter.mp h).1
def RX0 : String := "ObjectMerge$Area"
def TX0 : u_T := fun k => match k with
  | 0 => ("ObjectMerge$Area", "owner", "I", true)
  | 1 => ("ObjectMerge$Area", "x0", "J", true)
  | 2 => ("ObjectMerge$Area", "y0", "J", true)
  | 3 => ("ObjectMerge$Area", "x1", "J", true)
  | _ => ("ObjectMerge$Area", "y1", "J", true)
def tyX0 : Nat → FieldType := fun k => match k with
  | 0 => .int
  | 1 => .long
  | 2 => .long
  | 3 => .long
  | _ => .long
theorem nmX0 : ∀ a, a < 5 → ∀ b, b < 5 → a ≠ b → (TX0 a).2.1 ≠ (TX0 b).2.1 := by decide +kernel
theorem tyX0_ok : ∀ k, k < 5 → parseFieldDescriptor (TX0 k).2.2.1 = some (tyX0 k) := by decide +kernel
def RX1 : String := "ObjectMerge$Changes"
def TX1 : u_T := fun k => match k with
  | 0 => ("ObjectMerge$Changes", "objects", "[I", true)
  | 1 => ("ObjectMerge$Changes", "rows", "[LObjectMerge$Row;", true)
  | 2 => ("ObjectMerge$Changes", "next", "I", false)
  | _ => ("ObjectMerge$Changes", "count", "I", false)
def tyX1 : Nat → FieldType := fun k => match k with
  | 0 => .array .int
  | 1 => .array (.object "ObjectMerge$Row")
  | 2 => .int
  | _ => .int
theorem nmX1 : ∀ a, a < 4 → ∀ b, b < 4 → a ≠ b → (TX1 a).2.1 ≠ (TX1 b).2.1 := by decide +kernel
theorem tyX1_ok : ∀ k, k < 4 → parseFieldDescriptor (TX1 k).2.2.1 = some (tyX1 k) := by decide +kernel
def RX2 : String := "ObjectMerge$Conflicts"
def TX2 : u_T := fun k => match k with
  | 0 => ("ObjectMerge$Conflicts", "owner", "LObjectMerge$Session;", false)
  | 1 => ("ObjectMerge$Conflicts", "codes", "[I", true)
  | _ => ("ObjectMerge$Conflicts", "count", "I", false)
def tyX2 : Nat → FieldType := fun k => match k with
  | 0 => .object "ObjectMerge$Session"
  | 1 => .array .int
  | _ => .int
theorem nmX2 : ∀ a, a < 3 → ∀ b, b < 3 → a ≠ b → (TX2 a).2.1 ≠ (TX2 b).2.1 := by decide +kernel
theorem tyX2_ok : ∀ k, k < 3 → parseFieldDescriptor (TX2 k).2.2.1 = some (tyX2 k) := by decide +kernel
def RX3 : String := "ObjectMerge$Draw"
def TX3 : u_T := fun k => match k with
  | _ => ("ObjectMerge$Draw", "s", "J", false)
def tyX3 : Nat → FieldType := fun k => match k with
  | _ => .long
theorem nmX3 : ∀ a, a < 1 → ∀ b, b < 1 → a ≠ b → (TX3 a).2.1 ≠ (TX3 b).2.1 := by decide +kernel
theorem tyX3_ok : ∀ k, k < 1 → parseFieldDescriptor (TX3 k).2.2.1 = some (tyX3 k) := by decide +kernel
def RX4 : String := "ObjectMerge$Locks"
def TX4 : u_T := fun k => match k with
  | _ => ("ObjectMerge$Locks", "areas", "[LObjectMerge$Area;", true)
def tyX4 : Nat → FieldType := fun k => match k with
  | _ => .array (.object "ObjectMerge$Area")
theorem nmX4 : ∀ a, a < 1 → ∀ b, b < 1 → a ≠ b → (TX4 a).2.1 ≠ (TX4 b).2.1 := by decide +kernel
theorem tyX4_ok : ∀ k, k < 1 → parseFieldDescriptor (TX4 k).2.2.1 = some (tyX4 k) := by decide +kernel
def RX5 : String := "ObjectMerge$Row"
def TX5 : u_T := fun k => match k with
  | _ => ("ObjectMerge$Row", "values", "[J", true)
def tyX5 : Nat → FieldType := fun k => match k with
  | _ => .array .long
theorem nmX5 : ∀ a, a < 1 → ∀ b, b < 1 → a ≠ b → (TX5 a).2.1 ≠ (TX5 b).2.1 := by decide +kernel
theorem tyX5_ok : ∀ k, k < 1 → parseFieldDescriptor (TX5 k).2.2.1 = some (tyX5 k) := by decide +kernel
def RX6 : String := "ObjectMerge$Rule"
def TX6 : u_T := fun k => match k with
  | 0 => ("ObjectMerge$Rule", "first", "I", true)
  | 1 => ("ObjectMerge$Rule", "other", "I", true)
  | _ => ("ObjectMerge$Rule", "distance", "J", true)
def tyX6 : Nat → FieldType := fun k => match k with
  | 0 => .int
  | 1 => .int
  | _ => .long
theorem nmX6 : ∀ a, a < 3 → ∀ b, b < 3 → a ≠ b → (TX6 a).2.1 ≠ (TX6 b).2.1 := by decide +kernel
theorem tyX6_ok : ∀ k, k < 3 → parseFieldDescriptor (TX6 k).2.2.1 = some (tyX6 k) := by decide +kernel
def RX7 : String := "ObjectMerge$Session"
def TX7 : u_T := fun k => match k with
  | 0 => ("ObjectMerge$Session", "number", "I", true)
  | 1 => ("ObjectMerge$Session", "base", "LObjectMerge$State;", true)
  | 2 => ("ObjectMerge$Session", "now", "LObjectMerge$State;", true)
  | 3 => ("ObjectMerge$Session", "open", "Z", false)
  | 4 => ("ObjectMerge$Session", "changes", "LObjectMerge$Changes;", true)
  | _ => ("ObjectMerge$Session", "sides", "[B", true)
def tyX7 : Nat → FieldType := fun k => match k with
  | 0 => .int
  | 1 => .object "ObjectMerge$State"
  | 2 => .object "ObjectMerge$State"
  | 3 => .boolean
  | 4 => .object "ObjectMerge$Changes"
  | _ => .array .byte
theorem nmX7 : ∀ a, a < 6 → ∀ b, b < 6 → a ≠ b → (TX7 a).2.1 ≠ (TX7 b).2.1 := by decide +kernel
theorem tyX7_ok : ∀ k, k < 6 → parseFieldDescriptor (TX7 k).2.2.1 = some (tyX7 k) := by decide +kernel
def RX8 : String := "ObjectMerge$State"
def TX8 : u_T := fun k => match k with
  | _ => ("ObjectMerge$State", "rows", "[LObjectMerge$Row;", true)
def tyX8 : Nat → FieldType := fun k => match k with
  | _ => .array (.object "ObjectMerge$Row")
theorem nmX8 : ∀ a, a < 1 → ∀ b, b < 1 → a ≠ b → (TX8 a).2.1 ≠ (TX8 b).2.1 := by decide +kernel
theorem tyX8_ok : ∀ k, k < 1 → parseFieldDescriptor (TX8 k).2.2.1 = some (tyX8 k) := by decide +kernel
def RX9 : String := "ObjectMerge"
def TX9 : u_T := fun k => match k with
  | 0 => ("ObjectMerge", "versions", "[LObjectMerge$State;", true)
  | 1 => ("ObjectMerge", "versionCount", "I", false)
  | 2 => ("ObjectMerge", "head", "LObjectMerge$State;", false)
  | 3 => ("ObjectMerge", "sessions", "[LObjectMerge$Session;", true)
  | 4 => ("ObjectMerge", "sessionCount", "I", false)
  | 5 => ("ObjectMerge", "objectCount", "I", false)
  | 6 => ("ObjectMerge", "locks", "LObjectMerge$Locks;", true)
  | 7 => ("ObjectMerge", "rules", "[LObjectMerge$Rule;", true)
  | 8 => ("ObjectMerge", "ruleCount", "I", false)
  | 9 => ("ObjectMerge", "conflicts", "LObjectMerge$Conflicts;", true)
  | _ => ("ObjectMerge", "marks", "[I", true)
def tyX9 : Nat → FieldType := fun k => match k with
  | 0 => .array (.object "ObjectMerge$State")
  | 1 => .int
  | 2 => .object "ObjectMerge$State"
  | 3 => .array (.object "ObjectMerge$Session")
  | 4 => .int
  | 5 => .int
  | 6 => .object "ObjectMerge$Locks"
  | 7 => .array (.object "ObjectMerge$Rule")
  | 8 => .int
  | 9 => .object "ObjectMerge$Conflicts"
  | _ => .array .int
theorem nmX9 : ∀ a, a < 11 → ∀ b, b < 11 → a ≠ b → (TX9 a).2.1 ≠ (TX9 b).2.1 := by decide +kernel
theorem tyX9_ok : ∀ k, k < 11 → parseFieldDescriptor (TX9 k).2.2.1 = some (tyX9 k) := by decide +kernel
def RX10 : String := "ObjectMergeModel"
def TX10 : u_T := fun k => match k with
  | 0 => ("ObjectMergeModel", "thrown", "I", false)
  | 1 => ("ObjectMergeModel", "objects", "I", false)
  | 2 => ("ObjectMergeModel", "kinds", "[I", true)
  | 3 => ("ObjectMergeModel", "versions", "I", false)
  | 4 => ("ObjectMergeModel", "has", "[Z", true)
  | 5 => ("ObjectMergeModel", "fields", "[J", true)
  | 6 => ("ObjectMergeModel", "sessions", "I", false)
  | 7 => ("ObjectMergeModel", "bases", "[I", true)
  | 8 => ("ObjectMergeModel", "open", "[Z", true)
  | 9 => ("ObjectMergeModel", "own", "[Z", true)
  | 10 => ("ObjectMergeModel", "values", "[J", true)
  | 11 => ("ObjectMergeModel", "changes", "[I", true)
  | 12 => ("ObjectMergeModel", "changedObject", "[I", true)
  | 13 => ("ObjectMergeModel", "changedField", "[I", true)
  | 14 => ("ObjectMergeModel", "changedHad", "[Z", true)
  | 15 => ("ObjectMergeModel", "changedValue", "[J", true)
  | 16 => ("ObjectMergeModel", "settled", "[I", true)
  | 17 => ("ObjectMergeModel", "joined", "I", false)
  | 18 => ("ObjectMergeModel", "conflicts", "I", false)
  | 19 => ("ObjectMergeModel", "conflictAt", "[I", true)
  | 20 => ("ObjectMergeModel", "locks", "I", false)
  | 21 => ("ObjectMergeModel", "lockOf", "[I", true)
  | 22 => ("ObjectMergeModel", "areas", "[J", true)
  | 23 => ("ObjectMergeModel", "rules", "I", false)
  | 24 => ("ObjectMergeModel", "ruleA", "[I", true)
  | 25 => ("ObjectMergeModel", "ruleB", "[I", true)
  | 26 => ("ObjectMergeModel", "ruleDistance", "[J", true)
  | _ => ("ObjectMergeModel", "marks", "[I", true)
def tyX10 : Nat → FieldType := fun k => match k with
  | 0 => .int
  | 1 => .int
  | 2 => .array .int
  | 3 => .int
  | 4 => .array .boolean
  | 5 => .array .long
  | 6 => .int
  | 7 => .array .int
  | 8 => .array .boolean
  | 9 => .array .boolean
  | 10 => .array .long
  | 11 => .array .int
  | 12 => .array .int
  | 13 => .array .int
  | 14 => .array .boolean
  | 15 => .array .long
  | 16 => .array .int
  | 17 => .int
  | 18 => .int
  | 19 => .array .int
  | 20 => .int
  | 21 => .array .int
  | 22 => .array .long
  | 23 => .int
  | 24 => .array .int
  | 25 => .array .int
  | 26 => .array .long
  | _ => .array .int
theorem nmX10 : ∀ a, a < 28 → ∀ b, b < 28 → a ≠ b → (TX10 a).2.1 ≠ (TX10 b).2.1 := by decide +kernel
theorem tyX10_ok : ∀ k, k < 28 → parseFieldDescriptor (TX10 k).2.2.1 = some (tyX10 k) := by decide +kernel
def RL : String := "ObjectMergeLaw"
abbrev vwCl : List vw_C := [(RX0, TX0, 5), (RX1, TX1, 4), (RX2, TX2, 3), (RX3, TX3, 1), (RX4, TX4, 1), (RX5, TX5, 1), (RX6, TX6, 3), (RX7, TX7, 6), (RX8, TX8, 1), (RX9, TX9, 11), (RX10, TX10, 28)]
abbrev cX0_init : ByteArray := prog_2_method_1_code
def yX0_init : MethodName := ⟨RX0, "<init>", "(IJJJJ)V"⟩
abbrev cX0_holds : ByteArray := prog_2_method_2_code
def yX0_holds : MethodName := ⟨RX0, "holds", "(JJ)Z"⟩
abbrev cX0_meets : ByteArray := prog_2_method_3_code
def yX0_meets : MethodName := ⟨RX0, "meets", "(LObjectMerge$Area;)Z"⟩
abbrev cX1_init : ByteArray := prog_3_method_1_code
def yX1_init : MethodName := ⟨RX1, "<init>", "()V"⟩
abbrev cX1_keep : ByteArray := prog_3_method_2_code
def yX1_keep : MethodName := ⟨RX1, "keep", "(ILObjectMerge$Row;)V"⟩
abbrev cX1_stepBack : ByteArray := prog_3_method_3_code
def yX1_stepBack : MethodName := ⟨RX1, "stepBack", "()Z"⟩
abbrev cX1_changedObject : ByteArray := prog_3_method_4_code
def yX1_changedObject : MethodName := ⟨RX1, "changedObject", "()I"⟩
abbrev cX1_rowBefore : ByteArray := prog_3_method_5_code
def yX1_rowBefore : MethodName := ⟨RX1, "rowBefore", "()LObjectMerge$Row;"⟩
abbrev cX2_init : ByteArray := prog_4_method_1_code
def yX2_init : MethodName := ⟨RX2, "<init>", "()V"⟩
abbrev cX2_gather : ByteArray := prog_4_method_2_code
def yX2_gather : MethodName := ⟨RX2, "gather", "(LObjectMerge$Session;LObjectMerge$State;)V"⟩
abbrev cX2_gatherOf : ByteArray := prog_4_method_3_code
def yX2_gatherOf : MethodName := ⟨RX2, "gatherOf", "(ILObjectMerge$State;)V"⟩
abbrev cX2_unsettled : ByteArray := prog_4_method_4_code
def yX2_unsettled : MethodName := ⟨RX2, "unsettled", "()I"⟩
abbrev cX2_has : ByteArray := prog_4_method_5_code
def yX2_has : MethodName := ⟨RX2, "has", "(I)Z"⟩
abbrev cX2_objectOf : ByteArray := prog_4_method_6_code
def yX2_objectOf : MethodName := ⟨RX2, "objectOf", "(I)I"⟩
abbrev cX2_fieldOf : ByteArray := prog_4_method_7_code
def yX2_fieldOf : MethodName := ⟨RX2, "fieldOf", "(I)I"⟩
abbrev cX3_init : ByteArray := prog_5_method_1_code
def yX3_init : MethodName := ⟨RX3, "<init>", "(J)V"⟩
abbrev cX3_below : ByteArray := prog_5_method_2_code
def yX3_below : MethodName := ⟨RX3, "below", "(I)I"⟩
abbrev cX4_init : ByteArray := prog_6_method_1_code
def yX4_init : MethodName := ⟨RX4, "<init>", "()V"⟩
abbrev cX4_add : ByteArray := prog_6_method_2_code
def yX4_add : MethodName := ⟨RX4, "add", "(LObjectMerge$Area;)Z"⟩
abbrev cX4_bar : ByteArray := prog_6_method_3_code
def yX4_bar : MethodName := ⟨RX4, "bar", "(ILObjectMerge$Row;)Z"⟩
abbrev cX4_release : ByteArray := prog_6_method_4_code
def yX4_release : MethodName := ⟨RX4, "release", "(I)V"⟩
abbrev cX5_init : ByteArray := prog_7_method_1_code
def yX5_init : MethodName := ⟨RX5, "<init>", "()V"⟩
abbrev cX5_value : ByteArray := prog_7_method_2_code
def yX5_value : MethodName := ⟨RX5, "value", "(I)J"⟩
abbrev cX5_with : ByteArray := prog_7_method_3_code
def yX5_with : MethodName := ⟨RX5, "with", "(IJ)LObjectMerge$Row;"⟩
abbrev cX5_alike : ByteArray := prog_7_method_4_code
def yX5_alike : MethodName := ⟨RX5, "alike", "(LObjectMerge$Row;LObjectMerge$Row;)Z"⟩
abbrev cX5_differ : ByteArray := prog_7_method_5_code
def yX5_differ : MethodName := ⟨RX5, "differ", "(LObjectMerge$Row;LObjectMerge$Row;I)Z"⟩
abbrev cX6_init : ByteArray := prog_8_method_1_code
def yX6_init : MethodName := ⟨RX6, "<init>", "(IIJ)V"⟩
abbrev cX6_brokenIn : ByteArray := prog_8_method_2_code
def yX6_brokenIn : MethodName := ⟨RX6, "brokenIn", "(LObjectMerge$State;)Z"⟩
abbrev cX6_gap : ByteArray := prog_8_method_3_code
def yX6_gap : MethodName := ⟨RX6, "gap", "(JJ)J"⟩
abbrev cX7_init : ByteArray := prog_9_method_1_code
def yX7_init : MethodName := ⟨RX7, "<init>", "(ILObjectMerge$State;)V"⟩
abbrev cX7_change : ByteArray := prog_9_method_2_code
def yX7_change : MethodName := ⟨RX7, "change", "(ILObjectMerge$Row;)V"⟩
abbrev cX7_takeBack : ByteArray := prog_9_method_3_code
def yX7_takeBack : MethodName := ⟨RX7, "takeBack", "()Z"⟩
abbrev cX7_sideOf : ByteArray := prog_9_method_4_code
def yX7_sideOf : MethodName := ⟨RX7, "sideOf", "(II)I"⟩
abbrev cX7_choose : ByteArray := prog_9_method_5_code
def yX7_choose : MethodName := ⟨RX7, "choose", "(III)V"⟩
abbrev cX7_changed : ByteArray := prog_9_method_6_code
def yX7_changed : MethodName := ⟨RX7, "changed", "(I)Z"⟩
abbrev cX7_clashes : ByteArray := prog_9_method_7_code
def yX7_clashes : MethodName := ⟨RX7, "clashes", "(IILObjectMerge$State;)Z"⟩
abbrev cX7_merged : ByteArray := prog_9_method_8_code
def yX7_merged : MethodName := ⟨RX7, "merged", "(ILObjectMerge$State;)LObjectMerge$Row;"⟩
abbrev cX7_takes : ByteArray := prog_9_method_9_code
def yX7_takes : MethodName := ⟨RX7, "takes", "(IILObjectMerge$State;)Z"⟩
abbrev cX8_init : ByteArray := prog_10_method_1_code
def yX8_init : MethodName := ⟨RX8, "<init>", "()V"⟩
abbrev cX8_row : ByteArray := prog_10_method_2_code
def yX8_row : MethodName := ⟨RX8, "row", "(I)LObjectMerge$Row;"⟩
abbrev cX8_put : ByteArray := prog_10_method_3_code
def yX8_put : MethodName := ⟨RX8, "put", "(ILObjectMerge$Row;)V"⟩
abbrev cX8_copy : ByteArray := prog_10_method_4_code
def yX8_copy : MethodName := ⟨RX8, "copy", "()LObjectMerge$State;"⟩
abbrev cX9_init : ByteArray := prog_1_method_1_code
def yX9_init : MethodName := ⟨RX9, "<init>", "()V"⟩
abbrev cX9_object : ByteArray := prog_1_method_2_code
def yX9_object : MethodName := ⟨RX9, "object", "(I)I"⟩
abbrev cX9_session : ByteArray := prog_1_method_3_code
def yX9_session : MethodName := ⟨RX9, "session", "()I"⟩
abbrev cX9_set : ByteArray := prog_1_method_4_code
def yX9_set : MethodName := ⟨RX9, "set", "(IIIJ)Z"⟩
abbrev cX9_drop : ByteArray := prog_1_method_5_code
def yX9_drop : MethodName := ⟨RX9, "drop", "(II)Z"⟩
abbrev cX9_make : ByteArray := prog_1_method_6_code
def yX9_make : MethodName := ⟨RX9, "make", "(II)I"⟩
abbrev cX9_join : ByteArray := prog_1_method_7_code
def yX9_join : MethodName := ⟨RX9, "join", "(I)I"⟩
abbrev cX9_conflict : ByteArray := prog_1_method_8_code
def yX9_conflict : MethodName := ⟨RX9, "conflict", "(II)I"⟩
abbrev cX9_settle : ByteArray := prog_1_method_9_code
def yX9_settle : MethodName := ⟨RX9, "settle", "(II)Z"⟩
abbrev cX9_at : ByteArray := prog_1_method_10_code
def yX9_at : MethodName := ⟨RX9, "at", "(II)J"⟩
abbrev cX9_lock : ByteArray := prog_1_method_11_code
def yX9_lock : MethodName := ⟨RX9, "lock", "(IJJJJ)Z"⟩
abbrev cX9_apart : ByteArray := prog_1_method_12_code
def yX9_apart : MethodName := ⟨RX9, "apart", "(IIJ)Z"⟩
abbrev cX9_violation : ByteArray := prog_1_method_13_code
def yX9_violation : MethodName := ⟨RX9, "violation", "(II)I"⟩
abbrev cX9_version : ByteArray := prog_1_method_14_code
def yX9_version : MethodName := ⟨RX9, "version", "()I"⟩
abbrev cX9_difference : ByteArray := prog_1_method_15_code
def yX9_difference : MethodName := ⟨RX9, "difference", "(III)I"⟩
abbrev cX9_undo : ByteArray := prog_1_method_16_code
def yX9_undo : MethodName := ⟨RX9, "undo", "(I)Z"⟩
abbrev cX9_branch : ByteArray := prog_1_method_17_code
def yX9_branch : MethodName := ⟨RX9, "branch", "(I)I"⟩
abbrev cX9_play : ByteArray := prog_1_method_18_code
def yX9_play : MethodName := ⟨RX9, "play", "(JI)I"⟩
abbrev cX9_mark : ByteArray := prog_1_method_19_code
def yX9_mark : MethodName := ⟨RX9, "mark", "(II)I"⟩
abbrev cX9_sessionOf : ByteArray := prog_1_method_20_code
def yX9_sessionOf : MethodName := ⟨RX9, "sessionOf", "(I)LObjectMerge$Session;"⟩
abbrev cX9_versionOf : ByteArray := prog_1_method_21_code
def yX9_versionOf : MethodName := ⟨RX9, "versionOf", "(I)LObjectMerge$State;"⟩
abbrev cX9_sessionOfConflict : ByteArray := prog_1_method_22_code
def yX9_sessionOfConflict : MethodName := ⟨RX9, "sessionOfConflict", "(I)LObjectMerge$Session;"⟩
abbrev cX9_rowOf : ByteArray := prog_1_method_23_code
def yX9_rowOf : MethodName := ⟨RX9, "rowOf", "(LObjectMerge$State;I)LObjectMerge$Row;"⟩
abbrev cX9_checkObject : ByteArray := prog_1_method_24_code
def yX9_checkObject : MethodName := ⟨RX9, "checkObject", "(I)V"⟩
abbrev cX9_checkField : ByteArray := prog_1_method_25_code
def yX9_checkField : MethodName := ⟨RX9, "checkField", "(I)V"⟩
abbrev cX9_checkOpen : ByteArray := prog_1_method_26_code
def yX9_checkOpen : MethodName := ⟨RX9, "checkOpen", "(LObjectMerge$Session;)V"⟩
abbrev cX9_checkKind : ByteArray := prog_1_method_27_code
def yX9_checkKind : MethodName := ⟨RX9, "checkKind", "(I)V"⟩
abbrev cX9_newNumber : ByteArray := prog_1_method_28_code
def yX9_newNumber : MethodName := ⟨RX9, "newNumber", "()I"⟩
abbrev cX9_begin : ByteArray := prog_1_method_29_code
def yX9_begin : MethodName := ⟨RX9, "begin", "(LObjectMerge$State;)LObjectMerge$Session;"⟩
abbrev cX9_addVersion : ByteArray := prog_1_method_30_code
def yX9_addVersion : MethodName := ⟨RX9, "addVersion", "(LObjectMerge$State;)V"⟩
abbrev cX9_write : ByteArray := prog_1_method_31_code
def yX9_write : MethodName := ⟨RX9, "write", "(LObjectMerge$Session;IIJLObjectMerge$Row;)Z"⟩
abbrev cX9_playTurn : ByteArray := prog_1_method_32_code
def yX9_playTurn : MethodName := ⟨RX9, "playTurn", "(LObjectMerge$Session;LObjectMerge$Draw;)Z"⟩
abbrev cX9_tryJoin : ByteArray := prog_1_method_33_code
def yX9_tryJoin : MethodName := ⟨RX9, "tryJoin", "(LObjectMerge$Session;)I"⟩
abbrev cX9_takeIn : ByteArray := prog_1_method_34_code
def yX9_takeIn : MethodName := ⟨RX9, "takeIn", "(LObjectMerge$Session;)V"⟩
abbrev cX10_init : ByteArray := prog_12_method_1_code
def yX10_init : MethodName := ⟨RX10, "<init>", "()V"⟩
abbrev cX10_thrown : ByteArray := prog_12_method_2_code
def yX10_thrown : MethodName := ⟨RX10, "thrown", "()I"⟩
abbrev cX10_head : ByteArray := prog_12_method_3_code
def yX10_head : MethodName := ⟨RX10, "head", "()I"⟩
abbrev cX10_isKind : ByteArray := prog_12_method_4_code
def yX10_isKind : MethodName := ⟨RX10, "isKind", "(I)Z"⟩
abbrev cX10_isObject : ByteArray := prog_12_method_5_code
def yX10_isObject : MethodName := ⟨RX10, "isObject", "(I)Z"⟩
abbrev cX10_isSession : ByteArray := prog_12_method_6_code
def yX10_isSession : MethodName := ⟨RX10, "isSession", "(I)Z"⟩
abbrev cX10_isField : ByteArray := prog_12_method_7_code
def yX10_isField : MethodName := ⟨RX10, "isField", "(I)Z"⟩
abbrev cX10_copyHead : ByteArray := prog_12_method_8_code
def yX10_copyHead : MethodName := ⟨RX10, "copyHead", "()V"⟩
abbrev cX10_object : ByteArray := prog_12_method_9_code
def yX10_object : MethodName := ⟨RX10, "object", "(I)I"⟩
abbrev cX10_begin : ByteArray := prog_12_method_10_code
def yX10_begin : MethodName := ⟨RX10, "begin", "(I)I"⟩
abbrev cX10_session : ByteArray := prog_12_method_11_code
def yX10_session : MethodName := ⟨RX10, "session", "()I"⟩
abbrev cX10_branch : ByteArray := prog_12_method_12_code
def yX10_branch : MethodName := ⟨RX10, "branch", "(I)I"⟩
abbrev cX10_isBarred : ByteArray := prog_12_method_13_code
def yX10_isBarred : MethodName := ⟨RX10, "isBarred", "(II)Z"⟩
abbrev cX10_note : ByteArray := prog_12_method_14_code
def yX10_note : MethodName := ⟨RX10, "note", "(III)V"⟩
abbrev cX10_setsField : ByteArray := prog_12_method_15_code
def yX10_setsField : MethodName := ⟨RX10, "setsField", "(IIIJ)Z"⟩
abbrev cX10_set : ByteArray := prog_12_method_16_code
def yX10_set : MethodName := ⟨RX10, "set", "(IIIJ)Z"⟩
abbrev cX10_drop : ByteArray := prog_12_method_17_code
def yX10_drop : MethodName := ⟨RX10, "drop", "(II)Z"⟩
abbrev cX10_make : ByteArray := prog_12_method_18_code
def yX10_make : MethodName := ⟨RX10, "make", "(II)I"⟩
abbrev cX10_undo : ByteArray := prog_12_method_19_code
def yX10_undo : MethodName := ⟨RX10, "undo", "(I)Z"⟩
abbrev cX10_headHas : ByteArray := prog_12_method_20_code
def yX10_headHas : MethodName := ⟨RX10, "headHas", "(I)Z"⟩
abbrev cX10_baseHas : ByteArray := prog_12_method_21_code
def yX10_baseHas : MethodName := ⟨RX10, "baseHas", "(II)Z"⟩
abbrev cX10_headValue : ByteArray := prog_12_method_22_code
def yX10_headValue : MethodName := ⟨RX10, "headValue", "(II)J"⟩
abbrev cX10_baseValue : ByteArray := prog_12_method_23_code
def yX10_baseValue : MethodName := ⟨RX10, "baseValue", "(III)J"⟩
abbrev cX10_ownValue : ByteArray := prog_12_method_24_code
def yX10_ownValue : MethodName := ⟨RX10, "ownValue", "(III)J"⟩
abbrev cX10_isHeadAsBase : ByteArray := prog_12_method_25_code
def yX10_isHeadAsBase : MethodName := ⟨RX10, "isHeadAsBase", "(II)Z"⟩
abbrev cX10_isOwnAsBase : ByteArray := prog_12_method_26_code
def yX10_isOwnAsBase : MethodName := ⟨RX10, "isOwnAsBase", "(II)Z"⟩
abbrev cX10_add : ByteArray := prog_12_method_27_code
def yX10_add : MethodName := ⟨RX10, "add", "(II)V"⟩
abbrev cX10_sideOf : ByteArray := prog_12_method_28_code
def yX10_sideOf : MethodName := ⟨RX10, "sideOf", "(III)I"⟩
abbrev cX10_findConflicts : ByteArray := prog_12_method_29_code
def yX10_findConflicts : MethodName := ⟨RX10, "findConflicts", "(II)V"⟩
abbrev cX10_unsettled : ByteArray := prog_12_method_30_code
def yX10_unsettled : MethodName := ⟨RX10, "unsettled", "(I)I"⟩
abbrev cX10_isConflict : ByteArray := prog_12_method_31_code
def yX10_isConflict : MethodName := ⟨RX10, "isConflict", "(II)Z"⟩
abbrev cX10_takeAll : ByteArray := prog_12_method_32_code
def yX10_takeAll : MethodName := ⟨RX10, "takeAll", "(II)V"⟩
abbrev cX10_takeField : ByteArray := prog_12_method_33_code
def yX10_takeField : MethodName := ⟨RX10, "takeField", "(III)V"⟩
abbrev cX10_merge : ByteArray := prog_12_method_34_code
def yX10_merge : MethodName := ⟨RX10, "merge", "(II)V"⟩
abbrev cX10_dropMarks : ByteArray := prog_12_method_35_code
def yX10_dropMarks : MethodName := ⟨RX10, "dropMarks", "()V"⟩
abbrev cX10_dropLocks : ByteArray := prog_12_method_36_code
def yX10_dropLocks : MethodName := ⟨RX10, "dropLocks", "(I)V"⟩
abbrev cX10_joins : ByteArray := prog_12_method_37_code
def yX10_joins : MethodName := ⟨RX10, "joins", "(I)I"⟩
abbrev cX10_join : ByteArray := prog_12_method_38_code
def yX10_join : MethodName := ⟨RX10, "join", "(I)I"⟩
abbrev cX10_conflict : ByteArray := prog_12_method_39_code
def yX10_conflict : MethodName := ⟨RX10, "conflict", "(II)I"⟩
abbrev cX10_settle : ByteArray := prog_12_method_40_code
def yX10_settle : MethodName := ⟨RX10, "settle", "(II)Z"⟩
abbrev cX10_play : ByteArray := prog_12_method_41_code
def yX10_play : MethodName := ⟨RX10, "play", "(JI)I"⟩
abbrev cX10_next : ByteArray := prog_12_method_42_code
def yX10_next : MethodName := ⟨RX10, "next", "(J)J"⟩
abbrev cX10_at : ByteArray := prog_12_method_43_code
def yX10_at : MethodName := ⟨RX10, "at", "(II)J"⟩
abbrev cX10_version : ByteArray := prog_12_method_44_code
def yX10_version : MethodName := ⟨RX10, "version", "()I"⟩
abbrev cX10_mark : ByteArray := prog_12_method_45_code
def yX10_mark : MethodName := ⟨RX10, "mark", "(II)I"⟩
abbrev cX10_difference : ByteArray := prog_12_method_46_code
def yX10_difference : MethodName := ⟨RX10, "difference", "(III)I"⟩
abbrev cX10_lock : ByteArray := prog_12_method_47_code
def yX10_lock : MethodName := ⟨RX10, "lock", "(IJJJJ)Z"⟩
abbrev cX10_apart : ByteArray := prog_12_method_48_code
def yX10_apart : MethodName := ⟨RX10, "apart", "(IIJ)Z"⟩
abbrev cX10_far : ByteArray := prog_12_method_49_code
def yX10_far : MethodName := ⟨RX10, "far", "(JJ)J"⟩
abbrev cX10_isBroken : ByteArray := prog_12_method_50_code
def yX10_isBroken : MethodName := ⟨RX10, "isBroken", "(I)Z"⟩
abbrev cX10_violation : ByteArray := prog_12_method_51_code
def yX10_violation : MethodName := ⟨RX10, "violation", "(II)I"⟩
abbrev cL_object : ByteArray := method_3_code
def yL_object : MethodName := ⟨RL, "object", "(LObjectMerge;I[J)I"⟩
abbrev cL_set : ByteArray := method_4_code
def yL_set : MethodName := ⟨RL, "set", "(LObjectMerge;IIIJ[J)I"⟩
abbrev cL_drop : ByteArray := method_5_code
def yL_drop : MethodName := ⟨RL, "drop", "(LObjectMerge;II[J)I"⟩
abbrev cL_make : ByteArray := method_6_code
def yL_make : MethodName := ⟨RL, "make", "(LObjectMerge;II[J)I"⟩
abbrev cL_join : ByteArray := method_7_code
def yL_join : MethodName := ⟨RL, "join", "(LObjectMerge;I[J)I"⟩
abbrev cL_conflict : ByteArray := method_8_code
def yL_conflict : MethodName := ⟨RL, "conflict", "(LObjectMerge;II[J)I"⟩
abbrev cL_settle : ByteArray := method_9_code
def yL_settle : MethodName := ⟨RL, "settle", "(LObjectMerge;II[J)I"⟩
abbrev cL_at : ByteArray := method_10_code
def yL_at : MethodName := ⟨RL, "at", "(LObjectMerge;II[J)I"⟩
abbrev cL_lock : ByteArray := method_11_code
def yL_lock : MethodName := ⟨RL, "lock", "(LObjectMerge;IJJJJ[J)I"⟩
abbrev cL_apart : ByteArray := method_12_code
def yL_apart : MethodName := ⟨RL, "apart", "(LObjectMerge;IIJ[J)I"⟩
abbrev cL_violation : ByteArray := method_13_code
def yL_violation : MethodName := ⟨RL, "violation", "(LObjectMerge;II[J)I"⟩
abbrev cL_difference : ByteArray := method_14_code
def yL_difference : MethodName := ⟨RL, "difference", "(LObjectMerge;III[J)I"⟩
abbrev cL_undo : ByteArray := method_15_code
def yL_undo : MethodName := ⟨RL, "undo", "(LObjectMerge;I[J)I"⟩
abbrev cL_branch : ByteArray := method_16_code
def yL_branch : MethodName := ⟨RL, "branch", "(LObjectMerge;I[J)I"⟩
abbrev cL_play : ByteArray := method_17_code
def yL_play : MethodName := ⟨RL, "play", "(LObjectMerge;JI[J)I"⟩
abbrev cL_mark : ByteArray := method_18_code
def yL_mark : MethodName := ⟨RL, "mark", "(LObjectMerge;II[J)I"⟩
end
section
theorem kw_0 : (Jvm.Cond.initialized "ObjectMergeLaw") ∈ wB := kwB 0 (by decide +kernel) (by decide +kernel)
theorem kw_1 : (Jvm.Cond.initialized "ObjectMerge") ∈ wB := kwB 1 (by decide +kernel) (by decide +kernel)
theorem kw_2 : (Jvm.Cond.initialized "ObjectMerge$State") ∈ wB := kwB 2 (by decide +kernel) (by decide +kernel)
theorem kw_3 : (Jvm.Cond.initialized "ObjectMerge$Locks") ∈ wB := kwB 3 (by decide +kernel) (by decide +kernel)
theorem kw_4 : (Jvm.Cond.initialized "ObjectMerge$Conflicts") ∈ wB := kwB 4 (by decide +kernel) (by decide +kernel)
theorem kw_5 : (Jvm.Cond.initialized "ObjectMergeModel") ∈ wB := kwB 5 (by decide +kernel) (by decide +kernel)
theorem kw_6 : (Jvm.Cond.initialized "java/lang/Throwable") ∈ wB := kwB 6 (by decide +kernel) (by decide +kernel)
theorem kw_7 : (Jvm.Cond.initialized "java/lang/Exception") ∈ wB := kwB 7 (by decide +kernel) (by decide +kernel)
theorem kw_8 : (Jvm.Cond.initialized "java/lang/RuntimeException") ∈ wB := kwB 8 (by decide +kernel) (by decide +kernel)
theorem kw_9 : (Jvm.Cond.initialized "java/lang/IllegalArgumentException") ∈ wB := kwB 9 (by decide +kernel) (by decide +kernel)
theorem kw_10 : (Jvm.Cond.initialized "ObjectMerge$Row") ∈ wB := kwB 10 (by decide +kernel) (by decide +kernel)
theorem kw_11 : (Jvm.Cond.initialized "ObjectMerge$Session") ∈ wB := kwB 11 (by decide +kernel) (by decide +kernel)
theorem kw_12 : (Jvm.Cond.initialized "ObjectMerge$Changes") ∈ wB := kwB 12 (by decide +kernel) (by decide +kernel)
theorem kw_13 : (Jvm.Cond.initialized "java/lang/IndexOutOfBoundsException") ∈ wB := kwB 13 (by decide +kernel) (by decide +kernel)
theorem kw_14 : (Jvm.Cond.initialized "java/lang/IllegalStateException") ∈ wB := kwB 14 (by decide +kernel) (by decide +kernel)
theorem kw_15 : (Jvm.Cond.initialized "java/lang/Math") ∈ wB := kwB 15 (by decide +kernel) (by decide +kernel)
theorem kw_16 : (Jvm.Cond.initialized "ObjectMerge$Area") ∈ wB := kwB 16 (by decide +kernel) (by decide +kernel)
theorem kw_17 : (Jvm.Cond.initialized "ObjectMerge$Rule") ∈ wB := kwB 17 (by decide +kernel) (by decide +kernel)
theorem kw_18 : (Jvm.Cond.initialized "ObjectMerge$Draw") ∈ wB := kwB 18 (by decide +kernel) (by decide +kernel)
theorem kw_19 : (Jvm.Cond.initialized "java/lang/Integer") ∈ wB := kwB 19 (by decide +kernel) (by decide +kernel)
theorem kw_20 : (Jvm.Cond.classLink "ObjectMergeLaw" (8 : Nat) "ObjectMerge") ∈ wB := kwB 20 (by decide +kernel) (by decide +kernel)
theorem kw_21 : (Jvm.Cond.instantiable "ObjectMerge" (11 : Nat)) ∈ wB := kwB 21 (by decide +kernel) (by decide +kernel)
theorem kw_22 : (Jvm.Cond.methodLink "ObjectMergeLaw" (73 : Nat) ({ cls := "ObjectMerge", name := "<init>", desc := "()V" } : Jvm.MethodName)) ∈ wB := kwB 22 (by decide +kernel) (by decide +kernel)
theorem kw_23 : (Jvm.Cond.instanceMethod ({ cls := "ObjectMerge", name := "<init>", desc := "()V" } : Jvm.MethodName)) ∈ wB := kwB 23 (by decide +kernel) (by decide +kernel)
theorem kw_24 : (Jvm.Cond.code ({ cls := "ObjectMerge", name := "<init>", desc := "()V" } : Jvm.MethodName) prog_1_method_1_code (1 : Nat) (Option.none : Option Jvm.ClassFile.FieldType)) ∈ wB := kwB 24 (by decide +kernel) (by decide +kernel)
theorem kw_25 : (Jvm.Cond.methodLink "ObjectMerge" (1 : Nat) ({ cls := "java/lang/Object", name := "<init>", desc := "()V" } : Jvm.MethodName)) ∈ wB := kwB 25 (by decide +kernel) (by decide +kernel)
theorem kw_26 : (Jvm.Cond.instanceMethod ({ cls := "java/lang/Object", name := "<init>", desc := "()V" } : Jvm.MethodName)) ∈ wB := kwB 26 (by decide +kernel) (by decide +kernel)
theorem kw_27 : (Jvm.Cond.code ({ cls := "java/lang/Object", name := "<init>", desc := "()V" } : Jvm.MethodName) object_method_1_code (1 : Nat) (Option.none : Option Jvm.ClassFile.FieldType)) ∈ wB := kwB 27 (by decide +kernel) (by decide +kernel)
theorem kw_28 : (Jvm.Cond.classLink "ObjectMerge" (9 : Nat) "ObjectMerge$State") ∈ wB := kwB 28 (by decide +kernel) (by decide +kernel)
theorem kw_30 : (Jvm.Cond.instantiable "ObjectMerge$State" (1 : Nat)) ∈ wB := kwB 30 (by decide +kernel) (by decide +kernel)
theorem kw_32 : (Jvm.Cond.instanceMethod ({ cls := "ObjectMerge$State", name := "<init>", desc := "()V" } : Jvm.MethodName)) ∈ wB := kwB 32 (by decide +kernel) (by decide +kernel)
theorem kw_33 : (Jvm.Cond.code ({ cls := "ObjectMerge$State", name := "<init>", desc := "()V" } : Jvm.MethodName) prog_10_method_1_code (1 : Nat) (Option.none : Option Jvm.ClassFile.FieldType)) ∈ wB := kwB 33 (by decide +kernel) (by decide +kernel)
theorem kw_34 : (Jvm.Cond.methodLink "ObjectMerge$State" (3 : Nat) ({ cls := "java/lang/Object", name := "<init>", desc := "()V" } : Jvm.MethodName)) ∈ wB := kwB 34 (by decide +kernel) (by decide +kernel)
theorem kw_35 : (Jvm.Cond.classLink "ObjectMerge$State" (9 : Nat) "ObjectMerge$Row") ∈ wB := kwB 35 (by decide +kernel) (by decide +kernel)
theorem kw_37 : (Jvm.Cond.fieldLink "ObjectMerge$State" (11 : Nat) "ObjectMerge$State" "rows" "[LObjectMerge$Row;") ∈ wB := kwB 37 (by decide +kernel) (by decide +kernel)
theorem kw_38 : (Jvm.Cond.laysFinal "ObjectMerge$State" "ObjectMerge$State" "rows" "[LObjectMerge$Row;") ∈ wB := kwB 38 (by decide +kernel) (by decide +kernel)
theorem kw_41 : (Jvm.Cond.classLink "ObjectMerge" (20 : Nat) "ObjectMerge$Session") ∈ wB := kwB 41 (by decide +kernel) (by decide +kernel)
theorem kw_43 : (Jvm.Cond.classLink "ObjectMerge" (26 : Nat) "ObjectMerge$Locks") ∈ wB := kwB 43 (by decide +kernel) (by decide +kernel)
theorem kw_44 : (Jvm.Cond.instantiable "ObjectMerge$Locks" (1 : Nat)) ∈ wB := kwB 44 (by decide +kernel) (by decide +kernel)
theorem kw_46 : (Jvm.Cond.instanceMethod ({ cls := "ObjectMerge$Locks", name := "<init>", desc := "()V" } : Jvm.MethodName)) ∈ wB := kwB 46 (by decide +kernel) (by decide +kernel)
theorem kw_47 : (Jvm.Cond.code ({ cls := "ObjectMerge$Locks", name := "<init>", desc := "()V" } : Jvm.MethodName) prog_6_method_1_code (1 : Nat) (Option.none : Option Jvm.ClassFile.FieldType)) ∈ wB := kwB 47 (by decide +kernel) (by decide +kernel)
theorem kw_48 : (Jvm.Cond.methodLink "ObjectMerge$Locks" (3 : Nat) ({ cls := "java/lang/Object", name := "<init>", desc := "()V" } : Jvm.MethodName)) ∈ wB := kwB 48 (by decide +kernel) (by decide +kernel)
theorem kw_49 : (Jvm.Cond.classLink "ObjectMerge$Locks" (9 : Nat) "ObjectMerge$Area") ∈ wB := kwB 49 (by decide +kernel) (by decide +kernel)
theorem kw_51 : (Jvm.Cond.fieldLink "ObjectMerge$Locks" (11 : Nat) "ObjectMerge$Locks" "areas" "[LObjectMerge$Area;") ∈ wB := kwB 51 (by decide +kernel) (by decide +kernel)
theorem kw_52 : (Jvm.Cond.laysFinal "ObjectMerge$Locks" "ObjectMerge$Locks" "areas" "[LObjectMerge$Area;") ∈ wB := kwB 52 (by decide +kernel) (by decide +kernel)
theorem kw_55 : (Jvm.Cond.classLink "ObjectMerge" (33 : Nat) "ObjectMerge$Rule") ∈ wB := kwB 55 (by decide +kernel) (by decide +kernel)
theorem kw_57 : (Jvm.Cond.classLink "ObjectMerge" (39 : Nat) "ObjectMerge$Conflicts") ∈ wB := kwB 57 (by decide +kernel) (by decide +kernel)
theorem kw_58 : (Jvm.Cond.instantiable "ObjectMerge$Conflicts" (3 : Nat)) ∈ wB := kwB 58 (by decide +kernel) (by decide +kernel)
theorem kw_60 : (Jvm.Cond.instanceMethod ({ cls := "ObjectMerge$Conflicts", name := "<init>", desc := "()V" } : Jvm.MethodName)) ∈ wB := kwB 60 (by decide +kernel) (by decide +kernel)
theorem kw_61 : (Jvm.Cond.code ({ cls := "ObjectMerge$Conflicts", name := "<init>", desc := "()V" } : Jvm.MethodName) prog_4_method_1_code (1 : Nat) (Option.none : Option Jvm.ClassFile.FieldType)) ∈ wB := kwB 61 (by decide +kernel) (by decide +kernel)
theorem kw_62 : (Jvm.Cond.methodLink "ObjectMerge$Conflicts" (3 : Nat) ({ cls := "java/lang/Object", name := "<init>", desc := "()V" } : Jvm.MethodName)) ∈ wB := kwB 62 (by decide +kernel) (by decide +kernel)
theorem kw_63 : (Jvm.Cond.fieldLink "ObjectMerge$Conflicts" (15 : Nat) "ObjectMerge$Conflicts" "owner" "LObjectMerge$Session;") ∈ wB := kwB 63 (by decide +kernel) (by decide +kernel)
theorem kw_64 : (Jvm.Cond.fieldLink "ObjectMerge" (235 : Nat) "ObjectMerge$Conflicts" "owner" "LObjectMerge$Session;") ∈ wB := kwB 64 (by decide +kernel) (by decide +kernel)
theorem kw_65 : (Jvm.Cond.fieldLink "ObjectMerge$Conflicts" (9 : Nat) "ObjectMerge$Conflicts" "codes" "[I") ∈ wB := kwB 65 (by decide +kernel) (by decide +kernel)
theorem kw_66 : (Jvm.Cond.fieldLink "ObjectMerge$Conflicts" (19 : Nat) "ObjectMerge$Conflicts" "count" "I") ∈ wB := kwB 66 (by decide +kernel) (by decide +kernel)
theorem kw_67 : (Jvm.Cond.lays "ObjectMerge$Conflicts" "ObjectMerge$Conflicts" "owner" "LObjectMerge$Session;") ∈ wB := kwB 67 (by decide +kernel) (by decide +kernel)
theorem kw_69 : (Jvm.Cond.laysFinal "ObjectMerge$Conflicts" "ObjectMerge$Conflicts" "codes" "[I") ∈ wB := kwB 69 (by decide +kernel) (by decide +kernel)
theorem kw_71 : (Jvm.Cond.lays "ObjectMerge$Conflicts" "ObjectMerge$Conflicts" "count" "I") ∈ wB := kwB 71 (by decide +kernel) (by decide +kernel)
theorem kw_74 : (Jvm.Cond.arrayClass Jvm.ClassFile.FieldType.int) ∈ wB := kwB 74 (by decide +kernel) (by decide +kernel)
theorem kw_75 : (Jvm.Cond.fieldLink "ObjectMerge" (11 : Nat) "ObjectMerge" "versions" "[LObjectMerge$State;") ∈ wB := kwB 75 (by decide +kernel) (by decide +kernel)
theorem kw_76 : (Jvm.Cond.fieldLink "ObjectMerge" (50 : Nat) "ObjectMerge" "versionCount" "I") ∈ wB := kwB 76 (by decide +kernel) (by decide +kernel)
theorem kw_77 : (Jvm.Cond.fieldLink "ObjectMerge" (16 : Nat) "ObjectMerge" "head" "LObjectMerge$State;") ∈ wB := kwB 77 (by decide +kernel) (by decide +kernel)
theorem kw_78 : (Jvm.Cond.fieldLink "ObjectMerge" (22 : Nat) "ObjectMerge" "sessions" "[LObjectMerge$Session;") ∈ wB := kwB 78 (by decide +kernel) (by decide +kernel)
theorem kw_79 : (Jvm.Cond.fieldLink "ObjectMerge" (80 : Nat) "ObjectMerge" "sessionCount" "I") ∈ wB := kwB 79 (by decide +kernel) (by decide +kernel)
theorem kw_80 : (Jvm.Cond.fieldLink "ObjectMerge" (58 : Nat) "ObjectMerge" "objectCount" "I") ∈ wB := kwB 80 (by decide +kernel) (by decide +kernel)
theorem kw_81 : (Jvm.Cond.fieldLink "ObjectMerge" (29 : Nat) "ObjectMerge" "locks" "LObjectMerge$Locks;") ∈ wB := kwB 81 (by decide +kernel) (by decide +kernel)
theorem kw_82 : (Jvm.Cond.fieldLink "ObjectMerge" (35 : Nat) "ObjectMerge" "rules" "[LObjectMerge$Rule;") ∈ wB := kwB 82 (by decide +kernel) (by decide +kernel)
theorem kw_83 : (Jvm.Cond.fieldLink "ObjectMerge" (173 : Nat) "ObjectMerge" "ruleCount" "I") ∈ wB := kwB 83 (by decide +kernel) (by decide +kernel)
theorem kw_84 : (Jvm.Cond.fieldLink "ObjectMerge" (42 : Nat) "ObjectMerge" "conflicts" "LObjectMerge$Conflicts;") ∈ wB := kwB 84 (by decide +kernel) (by decide +kernel)
theorem kw_85 : (Jvm.Cond.fieldLink "ObjectMerge" (46 : Nat) "ObjectMerge" "marks" "[I") ∈ wB := kwB 85 (by decide +kernel) (by decide +kernel)
theorem kw_86 : (Jvm.Cond.laysFinal "ObjectMerge" "ObjectMerge" "versions" "[LObjectMerge$State;") ∈ wB := kwB 86 (by decide +kernel) (by decide +kernel)
theorem kw_88 : (Jvm.Cond.lays "ObjectMerge" "ObjectMerge" "versionCount" "I") ∈ wB := kwB 88 (by decide +kernel) (by decide +kernel)
theorem kw_90 : (Jvm.Cond.lays "ObjectMerge" "ObjectMerge" "head" "LObjectMerge$State;") ∈ wB := kwB 90 (by decide +kernel) (by decide +kernel)
theorem kw_92 : (Jvm.Cond.laysFinal "ObjectMerge" "ObjectMerge" "sessions" "[LObjectMerge$Session;") ∈ wB := kwB 92 (by decide +kernel) (by decide +kernel)
theorem kw_94 : (Jvm.Cond.lays "ObjectMerge" "ObjectMerge" "sessionCount" "I") ∈ wB := kwB 94 (by decide +kernel) (by decide +kernel)
theorem kw_96 : (Jvm.Cond.lays "ObjectMerge" "ObjectMerge" "objectCount" "I") ∈ wB := kwB 96 (by decide +kernel) (by decide +kernel)
theorem kw_98 : (Jvm.Cond.laysFinal "ObjectMerge" "ObjectMerge" "locks" "LObjectMerge$Locks;") ∈ wB := kwB 98 (by decide +kernel) (by decide +kernel)
theorem kw_100 : (Jvm.Cond.laysFinal "ObjectMerge" "ObjectMerge" "rules" "[LObjectMerge$Rule;") ∈ wB := kwB 100 (by decide +kernel) (by decide +kernel)
theorem kw_102 : (Jvm.Cond.lays "ObjectMerge" "ObjectMerge" "ruleCount" "I") ∈ wB := kwB 102 (by decide +kernel) (by decide +kernel)
theorem kw_104 : (Jvm.Cond.laysFinal "ObjectMerge" "ObjectMerge" "conflicts" "LObjectMerge$Conflicts;") ∈ wB := kwB 104 (by decide +kernel) (by decide +kernel)
theorem kw_106 : (Jvm.Cond.laysFinal "ObjectMerge" "ObjectMerge" "marks" "[I") ∈ wB := kwB 106 (by decide +kernel) (by decide +kernel)
theorem kw_109 : (Jvm.Cond.methodLink "ObjectMergeLaw" (87 : Nat) ({ cls := "ObjectMerge", name := "session", desc := "()I" } : Jvm.MethodName)) ∈ wB := kwB 109 (by decide +kernel) (by decide +kernel)
theorem kw_110 : (Jvm.Cond.instanceMethod ({ cls := "ObjectMerge", name := "session", desc := "()I" } : Jvm.MethodName)) ∈ wB := kwB 110 (by decide +kernel) (by decide +kernel)
theorem kw_111 : (Jvm.Cond.selects "ObjectMerge" ({ cls := "ObjectMerge", name := "session", desc := "()I" } : Jvm.MethodName) ({ cls := "ObjectMerge", name := "session", desc := "()I" } : Jvm.MethodName)) ∈ wB := kwB 111 (by decide +kernel) (by decide +kernel)
theorem kw_112 : (Jvm.Cond.code ({ cls := "ObjectMerge", name := "session", desc := "()I" } : Jvm.MethodName) prog_1_method_3_code (1 : Nat) (Option.some Jvm.ClassFile.FieldType.int)) ∈ wB := kwB 112 (by decide +kernel) (by decide +kernel)
theorem kw_113 : (Jvm.Cond.methodLink "ObjectMerge" (83 : Nat) ({ cls := "ObjectMerge", name := "begin", desc := "(LObjectMerge$State;)LObjectMerge$Session;" } : Jvm.MethodName)) ∈ wB := kwB 113 (by decide +kernel) (by decide +kernel)
theorem kw_115 : (Jvm.Cond.instanceMethod ({ cls := "ObjectMerge", name := "begin", desc := "(LObjectMerge$State;)LObjectMerge$Session;" } : Jvm.MethodName)) ∈ wB := kwB 115 (by decide +kernel) (by decide +kernel)
theorem kw_116 : (Jvm.Cond.code ({ cls := "ObjectMerge", name := "begin", desc := "(LObjectMerge$State;)LObjectMerge$Session;" } : Jvm.MethodName) prog_1_method_29_code (3 : Nat) (Option.some (Jvm.ClassFile.FieldType.object "ObjectMerge$Session"))) ∈ wB := kwB 116 (by decide +kernel) (by decide +kernel)
theorem kw_117 : (Jvm.Cond.instantiable "ObjectMerge$Session" (6 : Nat)) ∈ wB := kwB 117 (by decide +kernel) (by decide +kernel)
theorem kw_118 : (Jvm.Cond.methodLink "ObjectMerge" (258 : Nat) ({ cls := "ObjectMerge$Session", name := "<init>", desc := "(ILObjectMerge$State;)V" } : Jvm.MethodName)) ∈ wB := kwB 118 (by decide +kernel) (by decide +kernel)
theorem kw_119 : (Jvm.Cond.instanceMethod ({ cls := "ObjectMerge$Session", name := "<init>", desc := "(ILObjectMerge$State;)V" } : Jvm.MethodName)) ∈ wB := kwB 119 (by decide +kernel) (by decide +kernel)
theorem kw_120 : (Jvm.Cond.code ({ cls := "ObjectMerge$Session", name := "<init>", desc := "(ILObjectMerge$State;)V" } : Jvm.MethodName) prog_9_method_1_code (3 : Nat) (Option.none : Option Jvm.ClassFile.FieldType)) ∈ wB := kwB 120 (by decide +kernel) (by decide +kernel)
theorem kw_121 : (Jvm.Cond.methodLink "ObjectMerge$Session" (3 : Nat) ({ cls := "java/lang/Object", name := "<init>", desc := "()V" } : Jvm.MethodName)) ∈ wB := kwB 121 (by decide +kernel) (by decide +kernel)
theorem kw_122 : (Jvm.Cond.classLink "ObjectMerge$Session" (15 : Nat) "ObjectMerge$Changes") ∈ wB := kwB 122 (by decide +kernel) (by decide +kernel)
theorem kw_123 : (Jvm.Cond.instantiable "ObjectMerge$Changes" (4 : Nat)) ∈ wB := kwB 123 (by decide +kernel) (by decide +kernel)
theorem kw_125 : (Jvm.Cond.instanceMethod ({ cls := "ObjectMerge$Changes", name := "<init>", desc := "()V" } : Jvm.MethodName)) ∈ wB := kwB 125 (by decide +kernel) (by decide +kernel)
theorem kw_126 : (Jvm.Cond.code ({ cls := "ObjectMerge$Changes", name := "<init>", desc := "()V" } : Jvm.MethodName) prog_3_method_1_code (1 : Nat) (Option.none : Option Jvm.ClassFile.FieldType)) ∈ wB := kwB 126 (by decide +kernel) (by decide +kernel)
theorem kw_127 : (Jvm.Cond.methodLink "ObjectMerge$Changes" (3 : Nat) ({ cls := "java/lang/Object", name := "<init>", desc := "()V" } : Jvm.MethodName)) ∈ wB := kwB 127 (by decide +kernel) (by decide +kernel)
theorem kw_128 : (Jvm.Cond.classLink "ObjectMerge$Changes" (15 : Nat) "ObjectMerge$Row") ∈ wB := kwB 128 (by decide +kernel) (by decide +kernel)
theorem kw_129 : (Jvm.Cond.fieldLink "ObjectMerge$Changes" (9 : Nat) "ObjectMerge$Changes" "objects" "[I") ∈ wB := kwB 129 (by decide +kernel) (by decide +kernel)
theorem kw_130 : (Jvm.Cond.fieldLink "ObjectMerge$Changes" (17 : Nat) "ObjectMerge$Changes" "rows" "[LObjectMerge$Row;") ∈ wB := kwB 130 (by decide +kernel) (by decide +kernel)
theorem kw_131 : (Jvm.Cond.fieldLink "ObjectMerge$Changes" (21 : Nat) "ObjectMerge$Changes" "next" "I") ∈ wB := kwB 131 (by decide +kernel) (by decide +kernel)
theorem kw_132 : (Jvm.Cond.fieldLink "ObjectMerge$Changes" (25 : Nat) "ObjectMerge$Changes" "count" "I") ∈ wB := kwB 132 (by decide +kernel) (by decide +kernel)
theorem kw_133 : (Jvm.Cond.laysFinal "ObjectMerge$Changes" "ObjectMerge$Changes" "objects" "[I") ∈ wB := kwB 133 (by decide +kernel) (by decide +kernel)
theorem kw_135 : (Jvm.Cond.laysFinal "ObjectMerge$Changes" "ObjectMerge$Changes" "rows" "[LObjectMerge$Row;") ∈ wB := kwB 135 (by decide +kernel) (by decide +kernel)
theorem kw_137 : (Jvm.Cond.lays "ObjectMerge$Changes" "ObjectMerge$Changes" "next" "I") ∈ wB := kwB 137 (by decide +kernel) (by decide +kernel)
theorem kw_139 : (Jvm.Cond.lays "ObjectMerge$Changes" "ObjectMerge$Changes" "count" "I") ∈ wB := kwB 139 (by decide +kernel) (by decide +kernel)
theorem kw_142 : (Jvm.Cond.methodLink "ObjectMerge$Session" (34 : Nat) ({ cls := "ObjectMerge$State", name := "copy", desc := "()LObjectMerge$State;" } : Jvm.MethodName)) ∈ wB := kwB 142 (by decide +kernel) (by decide +kernel)
theorem kw_143 : (Jvm.Cond.instanceMethod ({ cls := "ObjectMerge$State", name := "copy", desc := "()LObjectMerge$State;" } : Jvm.MethodName)) ∈ wB := kwB 143 (by decide +kernel) (by decide +kernel)
theorem kw_144 : (Jvm.Cond.selects "ObjectMerge$State" ({ cls := "ObjectMerge$State", name := "copy", desc := "()LObjectMerge$State;" } : Jvm.MethodName) ({ cls := "ObjectMerge$State", name := "copy", desc := "()LObjectMerge$State;" } : Jvm.MethodName)) ∈ wB := kwB 144 (by decide +kernel) (by decide +kernel)
theorem kw_145 : (Jvm.Cond.code ({ cls := "ObjectMerge$State", name := "copy", desc := "()LObjectMerge$State;" } : Jvm.MethodName) prog_10_method_4_code (3 : Nat) (Option.some (Jvm.ClassFile.FieldType.object "ObjectMerge$State"))) ∈ wB := kwB 145 (by decide +kernel) (by decide +kernel)
theorem kw_146 : (Jvm.Cond.classLink "ObjectMerge$State" (12 : Nat) "ObjectMerge$State") ∈ wB := kwB 146 (by decide +kernel) (by decide +kernel)
theorem kw_147 : (Jvm.Cond.methodLink "ObjectMerge$State" (17 : Nat) ({ cls := "ObjectMerge$State", name := "<init>", desc := "()V" } : Jvm.MethodName)) ∈ wB := kwB 147 (by decide +kernel) (by decide +kernel)
theorem kw_148 : (Jvm.Cond.fieldLink "ObjectMerge$Session" (26 : Nat) "ObjectMerge$Session" "number" "I") ∈ wB := kwB 148 (by decide +kernel) (by decide +kernel)
theorem kw_149 : (Jvm.Cond.fieldLink "ObjectMerge" (87 : Nat) "ObjectMerge$Session" "number" "I") ∈ wB := kwB 149 (by decide +kernel) (by decide +kernel)
theorem kw_150 : (Jvm.Cond.fieldLink "ObjectMerge$Session" (30 : Nat) "ObjectMerge$Session" "base" "LObjectMerge$State;") ∈ wB := kwB 150 (by decide +kernel) (by decide +kernel)
theorem kw_151 : (Jvm.Cond.fieldLink "ObjectMerge$Session" (40 : Nat) "ObjectMerge$Session" "now" "LObjectMerge$State;") ∈ wB := kwB 151 (by decide +kernel) (by decide +kernel)
theorem kw_152 : (Jvm.Cond.fieldLink "ObjectMerge" (104 : Nat) "ObjectMerge$Session" "now" "LObjectMerge$State;") ∈ wB := kwB 152 (by decide +kernel) (by decide +kernel)
theorem kw_153 : (Jvm.Cond.fieldLink "ObjectMerge$Session" (9 : Nat) "ObjectMerge$Session" "open" "Z") ∈ wB := kwB 153 (by decide +kernel) (by decide +kernel)
theorem kw_154 : (Jvm.Cond.fieldLink "ObjectMerge" (250 : Nat) "ObjectMerge$Session" "open" "Z") ∈ wB := kwB 154 (by decide +kernel) (by decide +kernel)
theorem kw_155 : (Jvm.Cond.fieldLink "ObjectMerge$Session" (18 : Nat) "ObjectMerge$Session" "changes" "LObjectMerge$Changes;") ∈ wB := kwB 155 (by decide +kernel) (by decide +kernel)
theorem kw_156 : (Jvm.Cond.fieldLink "ObjectMerge$Session" (22 : Nat) "ObjectMerge$Session" "sides" "[B") ∈ wB := kwB 156 (by decide +kernel) (by decide +kernel)
theorem kw_157 : (Jvm.Cond.laysFinal "ObjectMerge$Session" "ObjectMerge$Session" "number" "I") ∈ wB := kwB 157 (by decide +kernel) (by decide +kernel)
theorem kw_159 : (Jvm.Cond.laysFinal "ObjectMerge$Session" "ObjectMerge$Session" "base" "LObjectMerge$State;") ∈ wB := kwB 159 (by decide +kernel) (by decide +kernel)
theorem kw_161 : (Jvm.Cond.laysFinal "ObjectMerge$Session" "ObjectMerge$Session" "now" "LObjectMerge$State;") ∈ wB := kwB 161 (by decide +kernel) (by decide +kernel)
theorem kw_163 : (Jvm.Cond.lays "ObjectMerge$Session" "ObjectMerge$Session" "open" "Z") ∈ wB := kwB 163 (by decide +kernel) (by decide +kernel)
theorem kw_165 : (Jvm.Cond.laysFinal "ObjectMerge$Session" "ObjectMerge$Session" "changes" "LObjectMerge$Changes;") ∈ wB := kwB 165 (by decide +kernel) (by decide +kernel)
theorem kw_167 : (Jvm.Cond.laysFinal "ObjectMerge$Session" "ObjectMerge$Session" "sides" "[B") ∈ wB := kwB 167 (by decide +kernel) (by decide +kernel)
theorem kw_170 : (Jvm.Cond.arrayClass Jvm.ClassFile.FieldType.byte) ∈ wB := kwB 170 (by decide +kernel) (by decide +kernel)
theorem kw_171 : (Jvm.Cond.methodLink "ObjectMergeLaw" (127 : Nat) ({ cls := "ObjectMerge", name := "version", desc := "()I" } : Jvm.MethodName)) ∈ wB := kwB 171 (by decide +kernel) (by decide +kernel)
theorem kw_172 : (Jvm.Cond.instanceMethod ({ cls := "ObjectMerge", name := "version", desc := "()I" } : Jvm.MethodName)) ∈ wB := kwB 172 (by decide +kernel) (by decide +kernel)
theorem kw_173 : (Jvm.Cond.selects "ObjectMerge" ({ cls := "ObjectMerge", name := "version", desc := "()I" } : Jvm.MethodName) ({ cls := "ObjectMerge", name := "version", desc := "()I" } : Jvm.MethodName)) ∈ wB := kwB 173 (by decide +kernel) (by decide +kernel)
theorem kw_174 : (Jvm.Cond.code ({ cls := "ObjectMerge", name := "version", desc := "()I" } : Jvm.MethodName) prog_1_method_14_code (1 : Nat) (Option.some Jvm.ClassFile.FieldType.int)) ∈ wB := kwB 174 (by decide +kernel) (by decide +kernel)
theorem kw_175 : (Jvm.Cond.methodLink "ObjectMergeLaw" (77 : Nat) ({ cls := "ObjectMergeLaw", name := "object", desc := "(LObjectMerge;I[J)I" } : Jvm.MethodName)) ∈ wB := kwB 175 (by decide +kernel) (by decide +kernel)
theorem kw_176 : (Jvm.Cond.static ({ cls := "ObjectMergeLaw", name := "object", desc := "(LObjectMerge;I[J)I" } : Jvm.MethodName)) ∈ wB := kwB 176 (by decide +kernel) (by decide +kernel)
theorem kw_177 : (Jvm.Cond.codeWith ({ cls := "ObjectMergeLaw", name := "object", desc := "(LObjectMerge;I[J)I" } : Jvm.MethodName) method_3_code (4 : Nat) (Option.some Jvm.ClassFile.FieldType.int) [((0 : Nat), (9 : Nat), (12 : Nat), (13 : Nat))]) ∈ wB := kwB 177 (by decide +kernel) (by decide +kernel)
theorem kw_178 : (Jvm.Cond.classLink "ObjectMergeLaw" (13 : Nat) "java/lang/IllegalArgumentException") ∈ wB := kwB 178 (by decide +kernel) (by decide +kernel)
theorem kw_179 : (Jvm.Cond.methodLink "ObjectMergeLaw" (7 : Nat) ({ cls := "ObjectMerge", name := "object", desc := "(I)I" } : Jvm.MethodName)) ∈ wB := kwB 179 (by decide +kernel) (by decide +kernel)
theorem kw_180 : (Jvm.Cond.instanceMethod ({ cls := "ObjectMerge", name := "object", desc := "(I)I" } : Jvm.MethodName)) ∈ wB := kwB 180 (by decide +kernel) (by decide +kernel)
theorem kw_181 : (Jvm.Cond.selects "ObjectMerge" ({ cls := "ObjectMerge", name := "object", desc := "(I)I" } : Jvm.MethodName) ({ cls := "ObjectMerge", name := "object", desc := "(I)I" } : Jvm.MethodName)) ∈ wB := kwB 181 (by decide +kernel) (by decide +kernel)
theorem kw_182 : (Jvm.Cond.code ({ cls := "ObjectMerge", name := "object", desc := "(I)I" } : Jvm.MethodName) prog_1_method_2_code (4 : Nat) (Option.some Jvm.ClassFile.FieldType.int)) ∈ wB := kwB 182 (by decide +kernel) (by decide +kernel)
theorem kw_183 : (Jvm.Cond.methodLink "ObjectMerge" (54 : Nat) ({ cls := "ObjectMerge", name := "checkKind", desc := "(I)V" } : Jvm.MethodName)) ∈ wB := kwB 183 (by decide +kernel) (by decide +kernel)
theorem kw_184 : (Jvm.Cond.static ({ cls := "ObjectMerge", name := "checkKind", desc := "(I)V" } : Jvm.MethodName)) ∈ wB := kwB 184 (by decide +kernel) (by decide +kernel)
theorem kw_185 : (Jvm.Cond.code ({ cls := "ObjectMerge", name := "checkKind", desc := "(I)V" } : Jvm.MethodName) prog_1_method_27_code (1 : Nat) (Option.none : Option Jvm.ClassFile.FieldType)) ∈ wB := kwB 185 (by decide +kernel) (by decide +kernel)
theorem kw_186 : (Jvm.Cond.classLink "ObjectMerge" (147 : Nat) "java/lang/IllegalArgumentException") ∈ wB := kwB 186 (by decide +kernel) (by decide +kernel)
theorem kw_187 : (Jvm.Cond.instantiable "java/lang/IllegalArgumentException" (6 : Nat)) ∈ wB := kwB 187 (by decide +kernel) (by decide +kernel)
theorem kw_195 : (Jvm.Cond.selects "java/lang/IllegalArgumentException" ({ cls := "java/lang/Throwable", name := "fillInStackTrace", desc := "(I)Ljava/lang/Throwable;" } : Jvm.MethodName) ({ cls := "java/lang/Throwable", name := "fillInStackTrace", desc := "(I)Ljava/lang/Throwable;" } : Jvm.MethodName)) ∈ wB := kwB 195 (by decide +kernel) (by decide +kernel)
theorem kw_196 : (Jvm.Cond.selects "java/lang/IllegalArgumentException" ({ cls := "java/lang/Throwable", name := "fillInStackTrace", desc := "()Ljava/lang/Throwable;" } : Jvm.MethodName) ({ cls := "java/lang/Throwable", name := "fillInStackTrace", desc := "()Ljava/lang/Throwable;" } : Jvm.MethodName)) ∈ wB := kwB 196 (by decide +kernel) (by decide +kernel)
theorem kw_197 : (Jvm.Cond.lays "java/lang/IllegalArgumentException" "java/lang/Throwable" "cause" "Ljava/lang/Throwable;") ∈ wB := kwB 197 (by decide +kernel) (by decide +kernel)
theorem kw_198 : (Jvm.Cond.lays "java/lang/Throwable" "java/lang/Throwable" "cause" "Ljava/lang/Throwable;") ∈ wB := kwB 198 (by decide +kernel) (by decide +kernel)
theorem kw_199 : (Jvm.Cond.lays "java/lang/IllegalArgumentException" "java/lang/Throwable" "stackTrace" "[Ljava/lang/StackTraceElement;") ∈ wB := kwB 199 (by decide +kernel) (by decide +kernel)
theorem kw_200 : (Jvm.Cond.lays "java/lang/Throwable" "java/lang/Throwable" "stackTrace" "[Ljava/lang/StackTraceElement;") ∈ wB := kwB 200 (by decide +kernel) (by decide +kernel)
theorem kw_201 : (Jvm.Cond.lays "java/lang/IllegalArgumentException" "java/lang/Throwable" "suppressedExceptions" "Ljava/util/List;") ∈ wB := kwB 201 (by decide +kernel) (by decide +kernel)
theorem kw_202 : (Jvm.Cond.lays "java/lang/Throwable" "java/lang/Throwable" "suppressedExceptions" "Ljava/util/List;") ∈ wB := kwB 202 (by decide +kernel) (by decide +kernel)
theorem kw_203 : (Jvm.Cond.lays "java/lang/IllegalArgumentException" "java/lang/Throwable" "detailMessage" "Ljava/lang/String;") ∈ wB := kwB 203 (by decide +kernel) (by decide +kernel)
theorem kw_204 : (Jvm.Cond.lays "java/lang/Throwable" "java/lang/Throwable" "detailMessage" "Ljava/lang/String;") ∈ wB := kwB 204 (by decide +kernel) (by decide +kernel)
theorem kw_205 : (Jvm.Cond.lays "java/lang/IllegalArgumentException" "java/lang/Throwable" "backtrace" "Ljava/lang/Object;") ∈ wB := kwB 205 (by decide +kernel) (by decide +kernel)
theorem kw_206 : (Jvm.Cond.lays "java/lang/Throwable" "java/lang/Throwable" "backtrace" "Ljava/lang/Object;") ∈ wB := kwB 206 (by decide +kernel) (by decide +kernel)
theorem kw_207 : (Jvm.Cond.fieldLink "java/lang/Throwable" (198 : Nat) "java/lang/Throwable" "backtrace" "Ljava/lang/Object;") ∈ wB := kwB 207 (by decide +kernel) (by decide +kernel)
theorem kw_209 : (Jvm.Cond.instanceMethod ({ cls := "java/lang/Throwable", name := "<init>", desc := "()V" } : Jvm.MethodName)) ∈ wB := kwB 209 (by decide +kernel) (by decide +kernel)
theorem kw_210 : (Jvm.Cond.code ({ cls := "java/lang/Throwable", name := "<init>", desc := "()V" } : Jvm.MethodName) prog_21_method_1_code (1 : Nat) (Option.none : Option Jvm.ClassFile.FieldType)) ∈ wB := kwB 210 (by decide +kernel) (by decide +kernel)
theorem kw_211 : (Jvm.Cond.methodLink "java/lang/Throwable" (1 : Nat) ({ cls := "java/lang/Object", name := "<init>", desc := "()V" } : Jvm.MethodName)) ∈ wB := kwB 211 (by decide +kernel) (by decide +kernel)
theorem kw_212 : (Jvm.Cond.fieldLink "java/lang/Throwable" (13 : Nat) "java/lang/Throwable" "UNASSIGNED_STACK" "[Ljava/lang/StackTraceElement;") ∈ wB := kwB 212 (by decide +kernel) (by decide +kernel)
theorem kw_214 : (Jvm.Cond.fieldLink "java/lang/Throwable" (20 : Nat) "java/lang/Throwable" "SUPPRESSED_SENTINEL" "Ljava/util/List;") ∈ wB := kwB 214 (by decide +kernel) (by decide +kernel)
theorem kw_216 : (Jvm.Cond.methodLink "java/lang/Throwable" (27 : Nat) ({ cls := "java/lang/Throwable", name := "fillInStackTrace", desc := "()Ljava/lang/Throwable;" } : Jvm.MethodName)) ∈ wB := kwB 216 (by decide +kernel) (by decide +kernel)
theorem kw_217 : (Jvm.Cond.instanceMethod ({ cls := "java/lang/Throwable", name := "fillInStackTrace", desc := "()Ljava/lang/Throwable;" } : Jvm.MethodName)) ∈ wB := kwB 217 (by decide +kernel) (by decide +kernel)
theorem kw_219 : (Jvm.Cond.selects "java/lang/IllegalStateException" ({ cls := "java/lang/Throwable", name := "fillInStackTrace", desc := "()Ljava/lang/Throwable;" } : Jvm.MethodName) ({ cls := "java/lang/Throwable", name := "fillInStackTrace", desc := "()Ljava/lang/Throwable;" } : Jvm.MethodName)) ∈ wB := kwB 219 (by decide +kernel) (by decide +kernel)
theorem kw_220 : (Jvm.Cond.selects "java/lang/IndexOutOfBoundsException" ({ cls := "java/lang/Throwable", name := "fillInStackTrace", desc := "()Ljava/lang/Throwable;" } : Jvm.MethodName) ({ cls := "java/lang/Throwable", name := "fillInStackTrace", desc := "()Ljava/lang/Throwable;" } : Jvm.MethodName)) ∈ wB := kwB 220 (by decide +kernel) (by decide +kernel)
theorem kw_222 : (Jvm.Cond.methodLink "java/lang/Throwable" (202 : Nat) ({ cls := "java/lang/Throwable", name := "fillInStackTrace", desc := "(I)Ljava/lang/Throwable;" } : Jvm.MethodName)) ∈ wB := kwB 222 (by decide +kernel) (by decide +kernel)
theorem kw_224 : (Jvm.Cond.instanceMethod ({ cls := "java/lang/Throwable", name := "fillInStackTrace", desc := "(I)Ljava/lang/Throwable;" } : Jvm.MethodName)) ∈ wB := kwB 224 (by decide +kernel) (by decide +kernel)
theorem kw_225 : (Jvm.Cond.instantiable "java/lang/Throwable" (6 : Nat)) ∈ wB := kwB 225 (by decide +kernel) (by decide +kernel)
theorem kw_228 : (Jvm.Cond.methodLink "ObjectMerge" (151 : Nat) ({ cls := "java/lang/IllegalArgumentException", name := "<init>", desc := "(Ljava/lang/String;)V" } : Jvm.MethodName)) ∈ wB := kwB 228 (by decide +kernel) (by decide +kernel)
theorem kw_229 : (Jvm.Cond.instanceMethod ({ cls := "java/lang/IllegalArgumentException", name := "<init>", desc := "(Ljava/lang/String;)V" } : Jvm.MethodName)) ∈ wB := kwB 229 (by decide +kernel) (by decide +kernel)
theorem kw_230 : (Jvm.Cond.code ({ cls := "java/lang/IllegalArgumentException", name := "<init>", desc := "(Ljava/lang/String;)V" } : Jvm.MethodName) prog_14_method_2_code (2 : Nat) (Option.none : Option Jvm.ClassFile.FieldType)) ∈ wB := kwB 230 (by decide +kernel) (by decide +kernel)
theorem kw_231 : (Jvm.Cond.methodLink "java/lang/IllegalArgumentException" (7 : Nat) ({ cls := "java/lang/RuntimeException", name := "<init>", desc := "(Ljava/lang/String;)V" } : Jvm.MethodName)) ∈ wB := kwB 231 (by decide +kernel) (by decide +kernel)
theorem kw_232 : (Jvm.Cond.instanceMethod ({ cls := "java/lang/RuntimeException", name := "<init>", desc := "(Ljava/lang/String;)V" } : Jvm.MethodName)) ∈ wB := kwB 232 (by decide +kernel) (by decide +kernel)
theorem kw_233 : (Jvm.Cond.code ({ cls := "java/lang/RuntimeException", name := "<init>", desc := "(Ljava/lang/String;)V" } : Jvm.MethodName) prog_19_method_2_code (2 : Nat) (Option.none : Option Jvm.ClassFile.FieldType)) ∈ wB := kwB 233 (by decide +kernel) (by decide +kernel)
theorem kw_234 : (Jvm.Cond.methodLink "java/lang/RuntimeException" (7 : Nat) ({ cls := "java/lang/Exception", name := "<init>", desc := "(Ljava/lang/String;)V" } : Jvm.MethodName)) ∈ wB := kwB 234 (by decide +kernel) (by decide +kernel)
theorem kw_235 : (Jvm.Cond.instanceMethod ({ cls := "java/lang/Exception", name := "<init>", desc := "(Ljava/lang/String;)V" } : Jvm.MethodName)) ∈ wB := kwB 235 (by decide +kernel) (by decide +kernel)
theorem kw_236 : (Jvm.Cond.code ({ cls := "java/lang/Exception", name := "<init>", desc := "(Ljava/lang/String;)V" } : Jvm.MethodName) prog_13_method_2_code (2 : Nat) (Option.none : Option Jvm.ClassFile.FieldType)) ∈ wB := kwB 236 (by decide +kernel) (by decide +kernel)
theorem kw_237 : (Jvm.Cond.methodLink "java/lang/Exception" (7 : Nat) ({ cls := "java/lang/Throwable", name := "<init>", desc := "(Ljava/lang/String;)V" } : Jvm.MethodName)) ∈ wB := kwB 237 (by decide +kernel) (by decide +kernel)
theorem kw_238 : (Jvm.Cond.instanceMethod ({ cls := "java/lang/Throwable", name := "<init>", desc := "(Ljava/lang/String;)V" } : Jvm.MethodName)) ∈ wB := kwB 238 (by decide +kernel) (by decide +kernel)
theorem kw_239 : (Jvm.Cond.code ({ cls := "java/lang/Throwable", name := "<init>", desc := "(Ljava/lang/String;)V" } : Jvm.MethodName) prog_21_method_2_code (2 : Nat) (Option.none : Option Jvm.ClassFile.FieldType)) ∈ wB := kwB 239 (by decide +kernel) (by decide +kernel)
theorem kw_240 : (Jvm.Cond.fieldLink "java/lang/Throwable" (198 : Nat) "java/lang/Throwable" "backtrace" "Ljava/lang/Object;") ∈ wB := kwB 240 (by decide +kernel) (by decide +kernel)
theorem kw_241 : (Jvm.Cond.fieldLink "java/lang/Throwable" (31 : Nat) "java/lang/Throwable" "detailMessage" "Ljava/lang/String;") ∈ wB := kwB 241 (by decide +kernel) (by decide +kernel)
theorem kw_242 : (Jvm.Cond.fieldLink "java/lang/Throwable" (7 : Nat) "java/lang/Throwable" "cause" "Ljava/lang/Throwable;") ∈ wB := kwB 242 (by decide +kernel) (by decide +kernel)
theorem kw_243 : (Jvm.Cond.fieldLink "java/lang/Throwable" (17 : Nat) "java/lang/Throwable" "stackTrace" "[Ljava/lang/StackTraceElement;") ∈ wB := kwB 243 (by decide +kernel) (by decide +kernel)
theorem kw_244 : (Jvm.Cond.fieldLink "java/lang/Throwable" (24 : Nat) "java/lang/Throwable" "suppressedExceptions" "Ljava/util/List;") ∈ wB := kwB 244 (by decide +kernel) (by decide +kernel)
theorem kw_249 : (Jvm.Cond.lays "java/lang/IllegalArgumentException" "java/lang/Throwable" "depth" "I") ∈ wB := kwB 249 (by decide +kernel) (by decide +kernel)
theorem kw_253 : (Jvm.Cond.methodLink "ObjectMerge" (61 : Nat) ({ cls := "ObjectMerge", name := "newNumber", desc := "()I" } : Jvm.MethodName)) ∈ wB := kwB 253 (by decide +kernel) (by decide +kernel)
theorem kw_255 : (Jvm.Cond.instanceMethod ({ cls := "ObjectMerge", name := "newNumber", desc := "()I" } : Jvm.MethodName)) ∈ wB := kwB 255 (by decide +kernel) (by decide +kernel)
theorem kw_256 : (Jvm.Cond.code ({ cls := "ObjectMerge", name := "newNumber", desc := "()I" } : Jvm.MethodName) prog_1_method_28_code (2 : Nat) (Option.some Jvm.ClassFile.FieldType.int)) ∈ wB := kwB 256 (by decide +kernel) (by decide +kernel)
theorem kw_257 : (Jvm.Cond.methodLink "ObjectMerge" (65 : Nat) ({ cls := "ObjectMerge$State", name := "copy", desc := "()LObjectMerge$State;" } : Jvm.MethodName)) ∈ wB := kwB 257 (by decide +kernel) (by decide +kernel)
theorem kw_258 : (Jvm.Cond.classLink "ObjectMerge" (69 : Nat) "ObjectMerge$Row") ∈ wB := kwB 258 (by decide +kernel) (by decide +kernel)
theorem kw_259 : (Jvm.Cond.instantiable "ObjectMerge$Row" (1 : Nat)) ∈ wB := kwB 259 (by decide +kernel) (by decide +kernel)
theorem kw_261 : (Jvm.Cond.instanceMethod ({ cls := "ObjectMerge$Row", name := "<init>", desc := "()V" } : Jvm.MethodName)) ∈ wB := kwB 261 (by decide +kernel) (by decide +kernel)
theorem kw_262 : (Jvm.Cond.code ({ cls := "ObjectMerge$Row", name := "<init>", desc := "()V" } : Jvm.MethodName) prog_7_method_1_code (1 : Nat) (Option.none : Option Jvm.ClassFile.FieldType)) ∈ wB := kwB 262 (by decide +kernel) (by decide +kernel)
theorem kw_263 : (Jvm.Cond.methodLink "ObjectMerge$Row" (3 : Nat) ({ cls := "java/lang/Object", name := "<init>", desc := "()V" } : Jvm.MethodName)) ∈ wB := kwB 263 (by decide +kernel) (by decide +kernel)
theorem kw_264 : (Jvm.Cond.fieldLink "ObjectMerge$Row" (9 : Nat) "ObjectMerge$Row" "values" "[J") ∈ wB := kwB 264 (by decide +kernel) (by decide +kernel)
theorem kw_265 : (Jvm.Cond.laysFinal "ObjectMerge$Row" "ObjectMerge$Row" "values" "[J") ∈ wB := kwB 265 (by decide +kernel) (by decide +kernel)
theorem kw_268 : (Jvm.Cond.arrayClass Jvm.ClassFile.FieldType.long) ∈ wB := kwB 268 (by decide +kernel) (by decide +kernel)
theorem kw_269 : (Jvm.Cond.methodLink "ObjectMerge" (72 : Nat) ({ cls := "ObjectMerge$State", name := "put", desc := "(ILObjectMerge$Row;)V" } : Jvm.MethodName)) ∈ wB := kwB 269 (by decide +kernel) (by decide +kernel)
theorem kw_270 : (Jvm.Cond.instanceMethod ({ cls := "ObjectMerge$State", name := "put", desc := "(ILObjectMerge$Row;)V" } : Jvm.MethodName)) ∈ wB := kwB 270 (by decide +kernel) (by decide +kernel)
theorem kw_271 : (Jvm.Cond.selects "ObjectMerge$State" ({ cls := "ObjectMerge$State", name := "put", desc := "(ILObjectMerge$Row;)V" } : Jvm.MethodName) ({ cls := "ObjectMerge$State", name := "put", desc := "(ILObjectMerge$Row;)V" } : Jvm.MethodName)) ∈ wB := kwB 271 (by decide +kernel) (by decide +kernel)
theorem kw_272 : (Jvm.Cond.code ({ cls := "ObjectMerge$State", name := "put", desc := "(ILObjectMerge$Row;)V" } : Jvm.MethodName) prog_10_method_3_code (3 : Nat) (Option.none : Option Jvm.ClassFile.FieldType)) ∈ wB := kwB 272 (by decide +kernel) (by decide +kernel)
theorem kw_273 : (Jvm.Cond.methodLink "ObjectMerge" (76 : Nat) ({ cls := "ObjectMerge", name := "addVersion", desc := "(LObjectMerge$State;)V" } : Jvm.MethodName)) ∈ wB := kwB 273 (by decide +kernel) (by decide +kernel)
theorem kw_275 : (Jvm.Cond.instanceMethod ({ cls := "ObjectMerge", name := "addVersion", desc := "(LObjectMerge$State;)V" } : Jvm.MethodName)) ∈ wB := kwB 275 (by decide +kernel) (by decide +kernel)
theorem kw_276 : (Jvm.Cond.code ({ cls := "ObjectMerge", name := "addVersion", desc := "(LObjectMerge$State;)V" } : Jvm.MethodName) prog_1_method_30_code (2 : Nat) (Option.none : Option Jvm.ClassFile.FieldType)) ∈ wB := kwB 276 (by decide +kernel) (by decide +kernel)
theorem kw_277 : (Jvm.Cond.methodLink "ObjectMergeLaw" (93 : Nat) ({ cls := "ObjectMergeLaw", name := "set", desc := "(LObjectMerge;IIIJ[J)I" } : Jvm.MethodName)) ∈ wB := kwB 277 (by decide +kernel) (by decide +kernel)
theorem kw_278 : (Jvm.Cond.static ({ cls := "ObjectMergeLaw", name := "set", desc := "(LObjectMerge;IIIJ[J)I" } : Jvm.MethodName)) ∈ wB := kwB 278 (by decide +kernel) (by decide +kernel)
theorem kw_279 : (Jvm.Cond.codeWith ({ cls := "ObjectMergeLaw", name := "set", desc := "(LObjectMerge;IIIJ[J)I" } : Jvm.MethodName) method_4_code (8 : Nat) (Option.some Jvm.ClassFile.FieldType.int) [((0 : Nat), (21 : Nat), (24 : Nat), (19 : Nat)), ((0 : Nat), (21 : Nat), (28 : Nat), (21 : Nat))]) ∈ wB := kwB 279 (by decide +kernel) (by decide +kernel)
theorem kw_280 : (Jvm.Cond.classLink "ObjectMergeLaw" (19 : Nat) "java/lang/IndexOutOfBoundsException") ∈ wB := kwB 280 (by decide +kernel) (by decide +kernel)
theorem kw_281 : (Jvm.Cond.classLink "ObjectMergeLaw" (21 : Nat) "java/lang/IllegalStateException") ∈ wB := kwB 281 (by decide +kernel) (by decide +kernel)
theorem kw_282 : (Jvm.Cond.methodLink "ObjectMergeLaw" (15 : Nat) ({ cls := "ObjectMerge", name := "set", desc := "(IIIJ)Z" } : Jvm.MethodName)) ∈ wB := kwB 282 (by decide +kernel) (by decide +kernel)
theorem kw_283 : (Jvm.Cond.instanceMethod ({ cls := "ObjectMerge", name := "set", desc := "(IIIJ)Z" } : Jvm.MethodName)) ∈ wB := kwB 283 (by decide +kernel) (by decide +kernel)
theorem kw_284 : (Jvm.Cond.selects "ObjectMerge" ({ cls := "ObjectMerge", name := "set", desc := "(IIIJ)Z" } : Jvm.MethodName) ({ cls := "ObjectMerge", name := "set", desc := "(IIIJ)Z" } : Jvm.MethodName)) ∈ wB := kwB 284 (by decide +kernel) (by decide +kernel)
theorem kw_285 : (Jvm.Cond.code ({ cls := "ObjectMerge", name := "set", desc := "(IIIJ)Z" } : Jvm.MethodName) prog_1_method_4_code (7 : Nat) (Option.some Jvm.ClassFile.FieldType.boolean)) ∈ wB := kwB 285 (by decide +kernel) (by decide +kernel)
theorem kw_286 : (Jvm.Cond.methodLink "ObjectMerge" (90 : Nat) ({ cls := "ObjectMerge", name := "sessionOf", desc := "(I)LObjectMerge$Session;" } : Jvm.MethodName)) ∈ wB := kwB 286 (by decide +kernel) (by decide +kernel)
theorem kw_288 : (Jvm.Cond.instanceMethod ({ cls := "ObjectMerge", name := "sessionOf", desc := "(I)LObjectMerge$Session;" } : Jvm.MethodName)) ∈ wB := kwB 288 (by decide +kernel) (by decide +kernel)
theorem kw_289 : (Jvm.Cond.code ({ cls := "ObjectMerge", name := "sessionOf", desc := "(I)LObjectMerge$Session;" } : Jvm.MethodName) prog_1_method_20_code (3 : Nat) (Option.some (Jvm.ClassFile.FieldType.object "ObjectMerge$Session"))) ∈ wB := kwB 289 (by decide +kernel) (by decide +kernel)
theorem kw_290 : (Jvm.Cond.classLink "ObjectMerge" (140 : Nat) "java/lang/IndexOutOfBoundsException") ∈ wB := kwB 290 (by decide +kernel) (by decide +kernel)
theorem kw_291 : (Jvm.Cond.instantiable "java/lang/IndexOutOfBoundsException" (6 : Nat)) ∈ wB := kwB 291 (by decide +kernel) (by decide +kernel)
theorem kw_293 : (Jvm.Cond.selects "java/lang/IndexOutOfBoundsException" ({ cls := "java/lang/Throwable", name := "fillInStackTrace", desc := "(I)Ljava/lang/Throwable;" } : Jvm.MethodName) ({ cls := "java/lang/Throwable", name := "fillInStackTrace", desc := "(I)Ljava/lang/Throwable;" } : Jvm.MethodName)) ∈ wB := kwB 293 (by decide +kernel) (by decide +kernel)
theorem kw_294 : (Jvm.Cond.lays "java/lang/IndexOutOfBoundsException" "java/lang/Throwable" "cause" "Ljava/lang/Throwable;") ∈ wB := kwB 294 (by decide +kernel) (by decide +kernel)
theorem kw_295 : (Jvm.Cond.lays "java/lang/IndexOutOfBoundsException" "java/lang/Throwable" "stackTrace" "[Ljava/lang/StackTraceElement;") ∈ wB := kwB 295 (by decide +kernel) (by decide +kernel)
theorem kw_296 : (Jvm.Cond.lays "java/lang/IndexOutOfBoundsException" "java/lang/Throwable" "suppressedExceptions" "Ljava/util/List;") ∈ wB := kwB 296 (by decide +kernel) (by decide +kernel)
theorem kw_297 : (Jvm.Cond.lays "java/lang/IndexOutOfBoundsException" "java/lang/Throwable" "detailMessage" "Ljava/lang/String;") ∈ wB := kwB 297 (by decide +kernel) (by decide +kernel)
theorem kw_298 : (Jvm.Cond.lays "java/lang/IndexOutOfBoundsException" "java/lang/Throwable" "backtrace" "Ljava/lang/Object;") ∈ wB := kwB 298 (by decide +kernel) (by decide +kernel)
theorem kw_300 : (Jvm.Cond.methodLink "ObjectMerge" (144 : Nat) ({ cls := "java/lang/IndexOutOfBoundsException", name := "<init>", desc := "(Ljava/lang/String;)V" } : Jvm.MethodName)) ∈ wB := kwB 300 (by decide +kernel) (by decide +kernel)
theorem kw_301 : (Jvm.Cond.instanceMethod ({ cls := "java/lang/IndexOutOfBoundsException", name := "<init>", desc := "(Ljava/lang/String;)V" } : Jvm.MethodName)) ∈ wB := kwB 301 (by decide +kernel) (by decide +kernel)
theorem kw_302 : (Jvm.Cond.code ({ cls := "java/lang/IndexOutOfBoundsException", name := "<init>", desc := "(Ljava/lang/String;)V" } : Jvm.MethodName) prog_16_method_2_code (2 : Nat) (Option.none : Option Jvm.ClassFile.FieldType)) ∈ wB := kwB 302 (by decide +kernel) (by decide +kernel)
theorem kw_303 : (Jvm.Cond.methodLink "java/lang/IndexOutOfBoundsException" (7 : Nat) ({ cls := "java/lang/RuntimeException", name := "<init>", desc := "(Ljava/lang/String;)V" } : Jvm.MethodName)) ∈ wB := kwB 303 (by decide +kernel) (by decide +kernel)
theorem kw_304 : (Jvm.Cond.lays "java/lang/IndexOutOfBoundsException" "java/lang/Throwable" "depth" "I") ∈ wB := kwB 304 (by decide +kernel) (by decide +kernel)
theorem kw_306 : (Jvm.Cond.methodLink "ObjectMerge" (94 : Nat) ({ cls := "ObjectMerge", name := "checkObject", desc := "(I)V" } : Jvm.MethodName)) ∈ wB := kwB 306 (by decide +kernel) (by decide +kernel)
theorem kw_308 : (Jvm.Cond.instanceMethod ({ cls := "ObjectMerge", name := "checkObject", desc := "(I)V" } : Jvm.MethodName)) ∈ wB := kwB 308 (by decide +kernel) (by decide +kernel)
theorem kw_309 : (Jvm.Cond.code ({ cls := "ObjectMerge", name := "checkObject", desc := "(I)V" } : Jvm.MethodName) prog_1_method_24_code (2 : Nat) (Option.none : Option Jvm.ClassFile.FieldType)) ∈ wB := kwB 309 (by decide +kernel) (by decide +kernel)
theorem kw_311 : (Jvm.Cond.methodLink "ObjectMerge" (97 : Nat) ({ cls := "ObjectMerge", name := "checkField", desc := "(I)V" } : Jvm.MethodName)) ∈ wB := kwB 311 (by decide +kernel) (by decide +kernel)
theorem kw_312 : (Jvm.Cond.static ({ cls := "ObjectMerge", name := "checkField", desc := "(I)V" } : Jvm.MethodName)) ∈ wB := kwB 312 (by decide +kernel) (by decide +kernel)
theorem kw_313 : (Jvm.Cond.code ({ cls := "ObjectMerge", name := "checkField", desc := "(I)V" } : Jvm.MethodName) prog_1_method_25_code (1 : Nat) (Option.none : Option Jvm.ClassFile.FieldType)) ∈ wB := kwB 313 (by decide +kernel) (by decide +kernel)
theorem kw_315 : (Jvm.Cond.methodLink "ObjectMerge" (100 : Nat) ({ cls := "ObjectMerge", name := "checkOpen", desc := "(LObjectMerge$Session;)V" } : Jvm.MethodName)) ∈ wB := kwB 315 (by decide +kernel) (by decide +kernel)
theorem kw_316 : (Jvm.Cond.static ({ cls := "ObjectMerge", name := "checkOpen", desc := "(LObjectMerge$Session;)V" } : Jvm.MethodName)) ∈ wB := kwB 316 (by decide +kernel) (by decide +kernel)
theorem kw_317 : (Jvm.Cond.code ({ cls := "ObjectMerge", name := "checkOpen", desc := "(LObjectMerge$Session;)V" } : Jvm.MethodName) prog_1_method_26_code (1 : Nat) (Option.none : Option Jvm.ClassFile.FieldType)) ∈ wB := kwB 317 (by decide +kernel) (by decide +kernel)
theorem kw_318 : (Jvm.Cond.classLink "ObjectMerge" (241 : Nat) "java/lang/IllegalStateException") ∈ wB := kwB 318 (by decide +kernel) (by decide +kernel)
theorem kw_319 : (Jvm.Cond.instantiable "java/lang/IllegalStateException" (6 : Nat)) ∈ wB := kwB 319 (by decide +kernel) (by decide +kernel)
theorem kw_321 : (Jvm.Cond.selects "java/lang/IllegalStateException" ({ cls := "java/lang/Throwable", name := "fillInStackTrace", desc := "(I)Ljava/lang/Throwable;" } : Jvm.MethodName) ({ cls := "java/lang/Throwable", name := "fillInStackTrace", desc := "(I)Ljava/lang/Throwable;" } : Jvm.MethodName)) ∈ wB := kwB 321 (by decide +kernel) (by decide +kernel)
theorem kw_322 : (Jvm.Cond.lays "java/lang/IllegalStateException" "java/lang/Throwable" "cause" "Ljava/lang/Throwable;") ∈ wB := kwB 322 (by decide +kernel) (by decide +kernel)
theorem kw_323 : (Jvm.Cond.lays "java/lang/IllegalStateException" "java/lang/Throwable" "stackTrace" "[Ljava/lang/StackTraceElement;") ∈ wB := kwB 323 (by decide +kernel) (by decide +kernel)
theorem kw_324 : (Jvm.Cond.lays "java/lang/IllegalStateException" "java/lang/Throwable" "suppressedExceptions" "Ljava/util/List;") ∈ wB := kwB 324 (by decide +kernel) (by decide +kernel)
theorem kw_325 : (Jvm.Cond.lays "java/lang/IllegalStateException" "java/lang/Throwable" "detailMessage" "Ljava/lang/String;") ∈ wB := kwB 325 (by decide +kernel) (by decide +kernel)
theorem kw_326 : (Jvm.Cond.lays "java/lang/IllegalStateException" "java/lang/Throwable" "backtrace" "Ljava/lang/Object;") ∈ wB := kwB 326 (by decide +kernel) (by decide +kernel)
theorem kw_328 : (Jvm.Cond.methodLink "ObjectMerge" (245 : Nat) ({ cls := "java/lang/IllegalStateException", name := "<init>", desc := "(Ljava/lang/String;)V" } : Jvm.MethodName)) ∈ wB := kwB 328 (by decide +kernel) (by decide +kernel)
theorem kw_329 : (Jvm.Cond.instanceMethod ({ cls := "java/lang/IllegalStateException", name := "<init>", desc := "(Ljava/lang/String;)V" } : Jvm.MethodName)) ∈ wB := kwB 329 (by decide +kernel) (by decide +kernel)
theorem kw_330 : (Jvm.Cond.code ({ cls := "java/lang/IllegalStateException", name := "<init>", desc := "(Ljava/lang/String;)V" } : Jvm.MethodName) prog_15_method_2_code (2 : Nat) (Option.none : Option Jvm.ClassFile.FieldType)) ∈ wB := kwB 330 (by decide +kernel) (by decide +kernel)
theorem kw_331 : (Jvm.Cond.methodLink "java/lang/IllegalStateException" (7 : Nat) ({ cls := "java/lang/RuntimeException", name := "<init>", desc := "(Ljava/lang/String;)V" } : Jvm.MethodName)) ∈ wB := kwB 331 (by decide +kernel) (by decide +kernel)
theorem kw_332 : (Jvm.Cond.lays "java/lang/IllegalStateException" "java/lang/Throwable" "depth" "I") ∈ wB := kwB 332 (by decide +kernel) (by decide +kernel)
theorem kw_334 : (Jvm.Cond.methodLink "ObjectMerge" (107 : Nat) ({ cls := "ObjectMerge", name := "rowOf", desc := "(LObjectMerge$State;I)LObjectMerge$Row;" } : Jvm.MethodName)) ∈ wB := kwB 334 (by decide +kernel) (by decide +kernel)
theorem kw_335 : (Jvm.Cond.static ({ cls := "ObjectMerge", name := "rowOf", desc := "(LObjectMerge$State;I)LObjectMerge$Row;" } : Jvm.MethodName)) ∈ wB := kwB 335 (by decide +kernel) (by decide +kernel)
theorem kw_336 : (Jvm.Cond.code ({ cls := "ObjectMerge", name := "rowOf", desc := "(LObjectMerge$State;I)LObjectMerge$Row;" } : Jvm.MethodName) prog_1_method_23_code (3 : Nat) (Option.some (Jvm.ClassFile.FieldType.object "ObjectMerge$Row"))) ∈ wB := kwB 336 (by decide +kernel) (by decide +kernel)
theorem kw_337 : (Jvm.Cond.methodLink "ObjectMerge" (195 : Nat) ({ cls := "ObjectMerge$State", name := "row", desc := "(I)LObjectMerge$Row;" } : Jvm.MethodName)) ∈ wB := kwB 337 (by decide +kernel) (by decide +kernel)
theorem kw_338 : (Jvm.Cond.instanceMethod ({ cls := "ObjectMerge$State", name := "row", desc := "(I)LObjectMerge$Row;" } : Jvm.MethodName)) ∈ wB := kwB 338 (by decide +kernel) (by decide +kernel)
theorem kw_339 : (Jvm.Cond.selects "ObjectMerge$State" ({ cls := "ObjectMerge$State", name := "row", desc := "(I)LObjectMerge$Row;" } : Jvm.MethodName) ({ cls := "ObjectMerge$State", name := "row", desc := "(I)LObjectMerge$Row;" } : Jvm.MethodName)) ∈ wB := kwB 339 (by decide +kernel) (by decide +kernel)
theorem kw_340 : (Jvm.Cond.code ({ cls := "ObjectMerge$State", name := "row", desc := "(I)LObjectMerge$Row;" } : Jvm.MethodName) prog_10_method_2_code (2 : Nat) (Option.some (Jvm.ClassFile.FieldType.object "ObjectMerge$Row"))) ∈ wB := kwB 340 (by decide +kernel) (by decide +kernel)
theorem kw_342 : (Jvm.Cond.methodLink "ObjectMerge" (111 : Nat) ({ cls := "ObjectMerge", name := "write", desc := "(LObjectMerge$Session;IIJLObjectMerge$Row;)Z" } : Jvm.MethodName)) ∈ wB := kwB 342 (by decide +kernel) (by decide +kernel)
theorem kw_344 : (Jvm.Cond.instanceMethod ({ cls := "ObjectMerge", name := "write", desc := "(LObjectMerge$Session;IIJLObjectMerge$Row;)Z" } : Jvm.MethodName)) ∈ wB := kwB 344 (by decide +kernel) (by decide +kernel)
theorem kw_345 : (Jvm.Cond.code ({ cls := "ObjectMerge", name := "write", desc := "(LObjectMerge$Session;IIJLObjectMerge$Row;)Z" } : Jvm.MethodName) prog_1_method_31_code (7 : Nat) (Option.some Jvm.ClassFile.FieldType.boolean)) ∈ wB := kwB 345 (by decide +kernel) (by decide +kernel)
theorem kw_346 : (Jvm.Cond.methodLink "ObjectMerge" (156 : Nat) ({ cls := "ObjectMerge$Row", name := "value", desc := "(I)J" } : Jvm.MethodName)) ∈ wB := kwB 346 (by decide +kernel) (by decide +kernel)
theorem kw_347 : (Jvm.Cond.instanceMethod ({ cls := "ObjectMerge$Row", name := "value", desc := "(I)J" } : Jvm.MethodName)) ∈ wB := kwB 347 (by decide +kernel) (by decide +kernel)
theorem kw_348 : (Jvm.Cond.selects "ObjectMerge$Row" ({ cls := "ObjectMerge$Row", name := "value", desc := "(I)J" } : Jvm.MethodName) ({ cls := "ObjectMerge$Row", name := "value", desc := "(I)J" } : Jvm.MethodName)) ∈ wB := kwB 348 (by decide +kernel) (by decide +kernel)
theorem kw_349 : (Jvm.Cond.code ({ cls := "ObjectMerge$Row", name := "value", desc := "(I)J" } : Jvm.MethodName) prog_7_method_2_code (2 : Nat) (Option.some Jvm.ClassFile.FieldType.long)) ∈ wB := kwB 349 (by decide +kernel) (by decide +kernel)
theorem kw_350 : (Jvm.Cond.methodLink "ObjectMerge" (115 : Nat) ({ cls := "ObjectMerge$Locks", name := "bar", desc := "(ILObjectMerge$Row;)Z" } : Jvm.MethodName)) ∈ wB := kwB 350 (by decide +kernel) (by decide +kernel)
theorem kw_351 : (Jvm.Cond.instanceMethod ({ cls := "ObjectMerge$Locks", name := "bar", desc := "(ILObjectMerge$Row;)Z" } : Jvm.MethodName)) ∈ wB := kwB 351 (by decide +kernel) (by decide +kernel)
theorem kw_352 : (Jvm.Cond.selects "ObjectMerge$Locks" ({ cls := "ObjectMerge$Locks", name := "bar", desc := "(ILObjectMerge$Row;)Z" } : Jvm.MethodName) ({ cls := "ObjectMerge$Locks", name := "bar", desc := "(ILObjectMerge$Row;)Z" } : Jvm.MethodName)) ∈ wB := kwB 352 (by decide +kernel) (by decide +kernel)
theorem kw_353 : (Jvm.Cond.code ({ cls := "ObjectMerge$Locks", name := "bar", desc := "(ILObjectMerge$Row;)Z" } : Jvm.MethodName) prog_6_method_3_code (5 : Nat) (Option.some Jvm.ClassFile.FieldType.boolean)) ∈ wB := kwB 353 (by decide +kernel) (by decide +kernel)
theorem kw_354 : (Jvm.Cond.methodLink "ObjectMerge$Locks" (25 : Nat) ({ cls := "ObjectMerge$Row", name := "value", desc := "(I)J" } : Jvm.MethodName)) ∈ wB := kwB 354 (by decide +kernel) (by decide +kernel)
theorem kw_355 : (Jvm.Cond.methodLink "ObjectMerge$Locks" (31 : Nat) ({ cls := "ObjectMerge$Area", name := "holds", desc := "(JJ)Z" } : Jvm.MethodName)) ∈ wB := kwB 355 (by decide +kernel) (by decide +kernel)
theorem kw_356 : (Jvm.Cond.instanceMethod ({ cls := "ObjectMerge$Area", name := "holds", desc := "(JJ)Z" } : Jvm.MethodName)) ∈ wB := kwB 356 (by decide +kernel) (by decide +kernel)
theorem kw_357 : (Jvm.Cond.selects "ObjectMerge$Area" ({ cls := "ObjectMerge$Area", name := "holds", desc := "(JJ)Z" } : Jvm.MethodName) ({ cls := "ObjectMerge$Area", name := "holds", desc := "(JJ)Z" } : Jvm.MethodName)) ∈ wB := kwB 357 (by decide +kernel) (by decide +kernel)
theorem kw_358 : (Jvm.Cond.code ({ cls := "ObjectMerge$Area", name := "holds", desc := "(JJ)Z" } : Jvm.MethodName) prog_2_method_2_code (5 : Nat) (Option.some Jvm.ClassFile.FieldType.boolean)) ∈ wB := kwB 358 (by decide +kernel) (by decide +kernel)
theorem kw_359 : (Jvm.Cond.methodLink "ObjectMerge" (261 : Nat) ({ cls := "ObjectMerge$Row", name := "with", desc := "(IJ)LObjectMerge$Row;" } : Jvm.MethodName)) ∈ wB := kwB 359 (by decide +kernel) (by decide +kernel)
theorem kw_360 : (Jvm.Cond.instanceMethod ({ cls := "ObjectMerge$Row", name := "with", desc := "(IJ)LObjectMerge$Row;" } : Jvm.MethodName)) ∈ wB := kwB 360 (by decide +kernel) (by decide +kernel)
theorem kw_361 : (Jvm.Cond.selects "ObjectMerge$Row" ({ cls := "ObjectMerge$Row", name := "with", desc := "(IJ)LObjectMerge$Row;" } : Jvm.MethodName) ({ cls := "ObjectMerge$Row", name := "with", desc := "(IJ)LObjectMerge$Row;" } : Jvm.MethodName)) ∈ wB := kwB 361 (by decide +kernel) (by decide +kernel)
theorem kw_362 : (Jvm.Cond.code ({ cls := "ObjectMerge$Row", name := "with", desc := "(IJ)LObjectMerge$Row;" } : Jvm.MethodName) prog_7_method_3_code (6 : Nat) (Option.some (Jvm.ClassFile.FieldType.object "ObjectMerge$Row"))) ∈ wB := kwB 362 (by decide +kernel) (by decide +kernel)
theorem kw_363 : (Jvm.Cond.classLink "ObjectMerge$Row" (10 : Nat) "ObjectMerge$Row") ∈ wB := kwB 363 (by decide +kernel) (by decide +kernel)
theorem kw_364 : (Jvm.Cond.methodLink "ObjectMerge$Row" (15 : Nat) ({ cls := "ObjectMerge$Row", name := "<init>", desc := "()V" } : Jvm.MethodName)) ∈ wB := kwB 364 (by decide +kernel) (by decide +kernel)
theorem kw_365 : (Jvm.Cond.methodLink "ObjectMerge" (119 : Nat) ({ cls := "ObjectMerge$Session", name := "change", desc := "(ILObjectMerge$Row;)V" } : Jvm.MethodName)) ∈ wB := kwB 365 (by decide +kernel) (by decide +kernel)
theorem kw_366 : (Jvm.Cond.instanceMethod ({ cls := "ObjectMerge$Session", name := "change", desc := "(ILObjectMerge$Row;)V" } : Jvm.MethodName)) ∈ wB := kwB 366 (by decide +kernel) (by decide +kernel)
theorem kw_367 : (Jvm.Cond.selects "ObjectMerge$Session" ({ cls := "ObjectMerge$Session", name := "change", desc := "(ILObjectMerge$Row;)V" } : Jvm.MethodName) ({ cls := "ObjectMerge$Session", name := "change", desc := "(ILObjectMerge$Row;)V" } : Jvm.MethodName)) ∈ wB := kwB 367 (by decide +kernel) (by decide +kernel)
theorem kw_368 : (Jvm.Cond.code ({ cls := "ObjectMerge$Session", name := "change", desc := "(ILObjectMerge$Row;)V" } : Jvm.MethodName) prog_9_method_2_code (3 : Nat) (Option.none : Option Jvm.ClassFile.FieldType)) ∈ wB := kwB 368 (by decide +kernel) (by decide +kernel)
theorem kw_369 : (Jvm.Cond.methodLink "ObjectMerge$Session" (43 : Nat) ({ cls := "ObjectMerge$State", name := "row", desc := "(I)LObjectMerge$Row;" } : Jvm.MethodName)) ∈ wB := kwB 369 (by decide +kernel) (by decide +kernel)
theorem kw_370 : (Jvm.Cond.methodLink "ObjectMerge$Session" (47 : Nat) ({ cls := "ObjectMerge$Changes", name := "keep", desc := "(ILObjectMerge$Row;)V" } : Jvm.MethodName)) ∈ wB := kwB 370 (by decide +kernel) (by decide +kernel)
theorem kw_371 : (Jvm.Cond.instanceMethod ({ cls := "ObjectMerge$Changes", name := "keep", desc := "(ILObjectMerge$Row;)V" } : Jvm.MethodName)) ∈ wB := kwB 371 (by decide +kernel) (by decide +kernel)
theorem kw_372 : (Jvm.Cond.selects "ObjectMerge$Changes" ({ cls := "ObjectMerge$Changes", name := "keep", desc := "(ILObjectMerge$Row;)V" } : Jvm.MethodName) ({ cls := "ObjectMerge$Changes", name := "keep", desc := "(ILObjectMerge$Row;)V" } : Jvm.MethodName)) ∈ wB := kwB 372 (by decide +kernel) (by decide +kernel)
theorem kw_373 : (Jvm.Cond.code ({ cls := "ObjectMerge$Changes", name := "keep", desc := "(ILObjectMerge$Row;)V" } : Jvm.MethodName) prog_3_method_2_code (3 : Nat) (Option.none : Option Jvm.ClassFile.FieldType)) ∈ wB := kwB 373 (by decide +kernel) (by decide +kernel)
theorem kw_374 : (Jvm.Cond.methodLink "ObjectMerge$Changes" (28 : Nat) ({ cls := "java/lang/Math", name := "min", desc := "(II)I" } : Jvm.MethodName)) ∈ wB := kwB 374 (by decide +kernel) (by decide +kernel)
theorem kw_375 : (Jvm.Cond.static ({ cls := "java/lang/Math", name := "min", desc := "(II)I" } : Jvm.MethodName)) ∈ wB := kwB 375 (by decide +kernel) (by decide +kernel)
theorem kw_376 : (Jvm.Cond.code ({ cls := "java/lang/Math", name := "min", desc := "(II)I" } : Jvm.MethodName) prog_18_method_69_code (2 : Nat) (Option.some Jvm.ClassFile.FieldType.int)) ∈ wB := kwB 376 (by decide +kernel) (by decide +kernel)
theorem kw_377 : (Jvm.Cond.methodLink "ObjectMerge$Session" (51 : Nat) ({ cls := "ObjectMerge$State", name := "put", desc := "(ILObjectMerge$Row;)V" } : Jvm.MethodName)) ∈ wB := kwB 377 (by decide +kernel) (by decide +kernel)
theorem kw_378 : (Jvm.Cond.methodLink "ObjectMergeLaw" (97 : Nat) ({ cls := "ObjectMergeLaw", name := "drop", desc := "(LObjectMerge;II[J)I" } : Jvm.MethodName)) ∈ wB := kwB 378 (by decide +kernel) (by decide +kernel)
theorem kw_379 : (Jvm.Cond.static ({ cls := "ObjectMergeLaw", name := "drop", desc := "(LObjectMerge;II[J)I" } : Jvm.MethodName)) ∈ wB := kwB 379 (by decide +kernel) (by decide +kernel)
theorem kw_380 : (Jvm.Cond.codeWith ({ cls := "ObjectMergeLaw", name := "drop", desc := "(LObjectMerge;II[J)I" } : Jvm.MethodName) method_5_code (5 : Nat) (Option.some Jvm.ClassFile.FieldType.int) [((0 : Nat), (17 : Nat), (20 : Nat), (19 : Nat)), ((0 : Nat), (17 : Nat), (24 : Nat), (21 : Nat))]) ∈ wB := kwB 380 (by decide +kernel) (by decide +kernel)
theorem kw_381 : (Jvm.Cond.methodLink "ObjectMergeLaw" (23 : Nat) ({ cls := "ObjectMerge", name := "drop", desc := "(II)Z" } : Jvm.MethodName)) ∈ wB := kwB 381 (by decide +kernel) (by decide +kernel)
theorem kw_382 : (Jvm.Cond.instanceMethod ({ cls := "ObjectMerge", name := "drop", desc := "(II)Z" } : Jvm.MethodName)) ∈ wB := kwB 382 (by decide +kernel) (by decide +kernel)
theorem kw_383 : (Jvm.Cond.selects "ObjectMerge" ({ cls := "ObjectMerge", name := "drop", desc := "(II)Z" } : Jvm.MethodName) ({ cls := "ObjectMerge", name := "drop", desc := "(II)Z" } : Jvm.MethodName)) ∈ wB := kwB 383 (by decide +kernel) (by decide +kernel)
theorem kw_384 : (Jvm.Cond.code ({ cls := "ObjectMerge", name := "drop", desc := "(II)Z" } : Jvm.MethodName) prog_1_method_5_code (4 : Nat) (Option.some Jvm.ClassFile.FieldType.boolean)) ∈ wB := kwB 384 (by decide +kernel) (by decide +kernel)
theorem kw_385 : (Jvm.Cond.methodLink "ObjectMergeLaw" (101 : Nat) ({ cls := "ObjectMergeLaw", name := "make", desc := "(LObjectMerge;II[J)I" } : Jvm.MethodName)) ∈ wB := kwB 385 (by decide +kernel) (by decide +kernel)
theorem kw_386 : (Jvm.Cond.static ({ cls := "ObjectMergeLaw", name := "make", desc := "(LObjectMerge;II[J)I" } : Jvm.MethodName)) ∈ wB := kwB 386 (by decide +kernel) (by decide +kernel)
theorem kw_387 : (Jvm.Cond.codeWith ({ cls := "ObjectMergeLaw", name := "make", desc := "(LObjectMerge;II[J)I" } : Jvm.MethodName) method_6_code (5 : Nat) (Option.some Jvm.ClassFile.FieldType.int) [((0 : Nat), (10 : Nat), (13 : Nat), (19 : Nat)), ((0 : Nat), (10 : Nat), (17 : Nat), (21 : Nat)), ((0 : Nat), (10 : Nat), (21 : Nat), (13 : Nat))]) ∈ wB := kwB 387 (by decide +kernel) (by decide +kernel)
theorem kw_388 : (Jvm.Cond.methodLink "ObjectMergeLaw" (27 : Nat) ({ cls := "ObjectMerge", name := "make", desc := "(II)I" } : Jvm.MethodName)) ∈ wB := kwB 388 (by decide +kernel) (by decide +kernel)
theorem kw_389 : (Jvm.Cond.instanceMethod ({ cls := "ObjectMerge", name := "make", desc := "(II)I" } : Jvm.MethodName)) ∈ wB := kwB 389 (by decide +kernel) (by decide +kernel)
theorem kw_390 : (Jvm.Cond.selects "ObjectMerge" ({ cls := "ObjectMerge", name := "make", desc := "(II)I" } : Jvm.MethodName) ({ cls := "ObjectMerge", name := "make", desc := "(II)I" } : Jvm.MethodName)) ∈ wB := kwB 390 (by decide +kernel) (by decide +kernel)
theorem kw_391 : (Jvm.Cond.code ({ cls := "ObjectMerge", name := "make", desc := "(II)I" } : Jvm.MethodName) prog_1_method_6_code (5 : Nat) (Option.some Jvm.ClassFile.FieldType.int)) ∈ wB := kwB 391 (by decide +kernel) (by decide +kernel)
theorem kw_392 : (Jvm.Cond.methodLink "ObjectMergeLaw" (104 : Nat) ({ cls := "ObjectMergeLaw", name := "join", desc := "(LObjectMerge;I[J)I" } : Jvm.MethodName)) ∈ wB := kwB 392 (by decide +kernel) (by decide +kernel)
theorem kw_393 : (Jvm.Cond.static ({ cls := "ObjectMergeLaw", name := "join", desc := "(LObjectMerge;I[J)I" } : Jvm.MethodName)) ∈ wB := kwB 393 (by decide +kernel) (by decide +kernel)
theorem kw_394 : (Jvm.Cond.codeWith ({ cls := "ObjectMergeLaw", name := "join", desc := "(LObjectMerge;I[J)I" } : Jvm.MethodName) method_7_code (4 : Nat) (Option.some Jvm.ClassFile.FieldType.int) [((0 : Nat), (9 : Nat), (12 : Nat), (19 : Nat)), ((0 : Nat), (9 : Nat), (15 : Nat), (21 : Nat))]) ∈ wB := kwB 394 (by decide +kernel) (by decide +kernel)
theorem kw_395 : (Jvm.Cond.methodLink "ObjectMergeLaw" (31 : Nat) ({ cls := "ObjectMerge", name := "join", desc := "(I)I" } : Jvm.MethodName)) ∈ wB := kwB 395 (by decide +kernel) (by decide +kernel)
theorem kw_396 : (Jvm.Cond.instanceMethod ({ cls := "ObjectMerge", name := "join", desc := "(I)I" } : Jvm.MethodName)) ∈ wB := kwB 396 (by decide +kernel) (by decide +kernel)
theorem kw_397 : (Jvm.Cond.selects "ObjectMerge" ({ cls := "ObjectMerge", name := "join", desc := "(I)I" } : Jvm.MethodName) ({ cls := "ObjectMerge", name := "join", desc := "(I)I" } : Jvm.MethodName)) ∈ wB := kwB 397 (by decide +kernel) (by decide +kernel)
theorem kw_398 : (Jvm.Cond.code ({ cls := "ObjectMerge", name := "join", desc := "(I)I" } : Jvm.MethodName) prog_1_method_7_code (3 : Nat) (Option.some Jvm.ClassFile.FieldType.int)) ∈ wB := kwB 398 (by decide +kernel) (by decide +kernel)
theorem kw_399 : (Jvm.Cond.methodLink "ObjectMerge" (122 : Nat) ({ cls := "ObjectMerge", name := "tryJoin", desc := "(LObjectMerge$Session;)I" } : Jvm.MethodName)) ∈ wB := kwB 399 (by decide +kernel) (by decide +kernel)
theorem kw_401 : (Jvm.Cond.instanceMethod ({ cls := "ObjectMerge", name := "tryJoin", desc := "(LObjectMerge$Session;)I" } : Jvm.MethodName)) ∈ wB := kwB 401 (by decide +kernel) (by decide +kernel)
theorem kw_402 : (Jvm.Cond.code ({ cls := "ObjectMerge", name := "tryJoin", desc := "(LObjectMerge$Session;)I" } : Jvm.MethodName) prog_1_method_33_code (3 : Nat) (Option.some Jvm.ClassFile.FieldType.int)) ∈ wB := kwB 402 (by decide +kernel) (by decide +kernel)
theorem kw_403 : (Jvm.Cond.methodLink "ObjectMerge" (268 : Nat) ({ cls := "ObjectMerge$Conflicts", name := "gather", desc := "(LObjectMerge$Session;LObjectMerge$State;)V" } : Jvm.MethodName)) ∈ wB := kwB 403 (by decide +kernel) (by decide +kernel)
theorem kw_404 : (Jvm.Cond.instanceMethod ({ cls := "ObjectMerge$Conflicts", name := "gather", desc := "(LObjectMerge$Session;LObjectMerge$State;)V" } : Jvm.MethodName)) ∈ wB := kwB 404 (by decide +kernel) (by decide +kernel)
theorem kw_405 : (Jvm.Cond.selects "ObjectMerge$Conflicts" ({ cls := "ObjectMerge$Conflicts", name := "gather", desc := "(LObjectMerge$Session;LObjectMerge$State;)V" } : Jvm.MethodName) ({ cls := "ObjectMerge$Conflicts", name := "gather", desc := "(LObjectMerge$Session;LObjectMerge$State;)V" } : Jvm.MethodName)) ∈ wB := kwB 405 (by decide +kernel) (by decide +kernel)
theorem kw_406 : (Jvm.Cond.code ({ cls := "ObjectMerge$Conflicts", name := "gather", desc := "(LObjectMerge$Session;LObjectMerge$State;)V" } : Jvm.MethodName) prog_4_method_2_code (4 : Nat) (Option.none : Option Jvm.ClassFile.FieldType)) ∈ wB := kwB 406 (by decide +kernel) (by decide +kernel)
theorem kw_407 : (Jvm.Cond.methodLink "ObjectMerge$Conflicts" (23 : Nat) ({ cls := "ObjectMerge$Session", name := "changed", desc := "(I)Z" } : Jvm.MethodName)) ∈ wB := kwB 407 (by decide +kernel) (by decide +kernel)
theorem kw_408 : (Jvm.Cond.instanceMethod ({ cls := "ObjectMerge$Session", name := "changed", desc := "(I)Z" } : Jvm.MethodName)) ∈ wB := kwB 408 (by decide +kernel) (by decide +kernel)
theorem kw_409 : (Jvm.Cond.selects "ObjectMerge$Session" ({ cls := "ObjectMerge$Session", name := "changed", desc := "(I)Z" } : Jvm.MethodName) ({ cls := "ObjectMerge$Session", name := "changed", desc := "(I)Z" } : Jvm.MethodName)) ∈ wB := kwB 409 (by decide +kernel) (by decide +kernel)
theorem kw_410 : (Jvm.Cond.code ({ cls := "ObjectMerge$Session", name := "changed", desc := "(I)Z" } : Jvm.MethodName) prog_9_method_6_code (2 : Nat) (Option.some Jvm.ClassFile.FieldType.boolean)) ∈ wB := kwB 410 (by decide +kernel) (by decide +kernel)
theorem kw_411 : (Jvm.Cond.methodLink "ObjectMerge$Session" (66 : Nat) ({ cls := "ObjectMerge$Row", name := "alike", desc := "(LObjectMerge$Row;LObjectMerge$Row;)Z" } : Jvm.MethodName)) ∈ wB := kwB 411 (by decide +kernel) (by decide +kernel)
theorem kw_412 : (Jvm.Cond.static ({ cls := "ObjectMerge$Row", name := "alike", desc := "(LObjectMerge$Row;LObjectMerge$Row;)Z" } : Jvm.MethodName)) ∈ wB := kwB 412 (by decide +kernel) (by decide +kernel)
theorem kw_413 : (Jvm.Cond.code ({ cls := "ObjectMerge$Row", name := "alike", desc := "(LObjectMerge$Row;LObjectMerge$Row;)Z" } : Jvm.MethodName) prog_7_method_4_code (3 : Nat) (Option.some Jvm.ClassFile.FieldType.boolean)) ∈ wB := kwB 413 (by decide +kernel) (by decide +kernel)
theorem kw_414 : (Jvm.Cond.methodLink "ObjectMerge$Conflicts" (29 : Nat) ({ cls := "ObjectMerge$Conflicts", name := "gatherOf", desc := "(ILObjectMerge$State;)V" } : Jvm.MethodName)) ∈ wB := kwB 414 (by decide +kernel) (by decide +kernel)
theorem kw_416 : (Jvm.Cond.instanceMethod ({ cls := "ObjectMerge$Conflicts", name := "gatherOf", desc := "(ILObjectMerge$State;)V" } : Jvm.MethodName)) ∈ wB := kwB 416 (by decide +kernel) (by decide +kernel)
theorem kw_417 : (Jvm.Cond.code ({ cls := "ObjectMerge$Conflicts", name := "gatherOf", desc := "(ILObjectMerge$State;)V" } : Jvm.MethodName) prog_4_method_3_code (4 : Nat) (Option.none : Option Jvm.ClassFile.FieldType)) ∈ wB := kwB 417 (by decide +kernel) (by decide +kernel)
theorem kw_418 : (Jvm.Cond.methodLink "ObjectMerge$Conflicts" (33 : Nat) ({ cls := "ObjectMerge$Session", name := "clashes", desc := "(IILObjectMerge$State;)Z" } : Jvm.MethodName)) ∈ wB := kwB 418 (by decide +kernel) (by decide +kernel)
theorem kw_419 : (Jvm.Cond.instanceMethod ({ cls := "ObjectMerge$Session", name := "clashes", desc := "(IILObjectMerge$State;)Z" } : Jvm.MethodName)) ∈ wB := kwB 419 (by decide +kernel) (by decide +kernel)
theorem kw_420 : (Jvm.Cond.selects "ObjectMerge$Session" ({ cls := "ObjectMerge$Session", name := "clashes", desc := "(IILObjectMerge$State;)Z" } : Jvm.MethodName) ({ cls := "ObjectMerge$Session", name := "clashes", desc := "(IILObjectMerge$State;)Z" } : Jvm.MethodName)) ∈ wB := kwB 420 (by decide +kernel) (by decide +kernel)
theorem kw_421 : (Jvm.Cond.code ({ cls := "ObjectMerge$Session", name := "clashes", desc := "(IILObjectMerge$State;)Z" } : Jvm.MethodName) prog_9_method_7_code (7 : Nat) (Option.some Jvm.ClassFile.FieldType.boolean)) ∈ wB := kwB 421 (by decide +kernel) (by decide +kernel)
theorem kw_422 : (Jvm.Cond.methodLink "ObjectMerge$Session" (72 : Nat) ({ cls := "ObjectMerge$Row", name := "differ", desc := "(LObjectMerge$Row;LObjectMerge$Row;I)Z" } : Jvm.MethodName)) ∈ wB := kwB 422 (by decide +kernel) (by decide +kernel)
theorem kw_423 : (Jvm.Cond.static ({ cls := "ObjectMerge$Row", name := "differ", desc := "(LObjectMerge$Row;LObjectMerge$Row;I)Z" } : Jvm.MethodName)) ∈ wB := kwB 423 (by decide +kernel) (by decide +kernel)
theorem kw_424 : (Jvm.Cond.code ({ cls := "ObjectMerge$Row", name := "differ", desc := "(LObjectMerge$Row;LObjectMerge$Row;I)Z" } : Jvm.MethodName) prog_7_method_5_code (3 : Nat) (Option.some Jvm.ClassFile.FieldType.boolean)) ∈ wB := kwB 424 (by decide +kernel) (by decide +kernel)
theorem kw_425 : (Jvm.Cond.methodLink "ObjectMerge" (272 : Nat) ({ cls := "ObjectMerge$Conflicts", name := "unsettled", desc := "()I" } : Jvm.MethodName)) ∈ wB := kwB 425 (by decide +kernel) (by decide +kernel)
theorem kw_426 : (Jvm.Cond.instanceMethod ({ cls := "ObjectMerge$Conflicts", name := "unsettled", desc := "()I" } : Jvm.MethodName)) ∈ wB := kwB 426 (by decide +kernel) (by decide +kernel)
theorem kw_427 : (Jvm.Cond.selects "ObjectMerge$Conflicts" ({ cls := "ObjectMerge$Conflicts", name := "unsettled", desc := "()I" } : Jvm.MethodName) ({ cls := "ObjectMerge$Conflicts", name := "unsettled", desc := "()I" } : Jvm.MethodName)) ∈ wB := kwB 427 (by decide +kernel) (by decide +kernel)
theorem kw_428 : (Jvm.Cond.code ({ cls := "ObjectMerge$Conflicts", name := "unsettled", desc := "()I" } : Jvm.MethodName) prog_4_method_4_code (3 : Nat) (Option.some Jvm.ClassFile.FieldType.int)) ∈ wB := kwB 428 (by decide +kernel) (by decide +kernel)
theorem kw_429 : (Jvm.Cond.methodLink "ObjectMerge$Conflicts" (37 : Nat) ({ cls := "ObjectMerge$Conflicts", name := "objectOf", desc := "(I)I" } : Jvm.MethodName)) ∈ wB := kwB 429 (by decide +kernel) (by decide +kernel)
theorem kw_430 : (Jvm.Cond.instanceMethod ({ cls := "ObjectMerge$Conflicts", name := "objectOf", desc := "(I)I" } : Jvm.MethodName)) ∈ wB := kwB 430 (by decide +kernel) (by decide +kernel)
theorem kw_431 : (Jvm.Cond.selects "ObjectMerge$Conflicts" ({ cls := "ObjectMerge$Conflicts", name := "objectOf", desc := "(I)I" } : Jvm.MethodName) ({ cls := "ObjectMerge$Conflicts", name := "objectOf", desc := "(I)I" } : Jvm.MethodName)) ∈ wB := kwB 431 (by decide +kernel) (by decide +kernel)
theorem kw_432 : (Jvm.Cond.code ({ cls := "ObjectMerge$Conflicts", name := "objectOf", desc := "(I)I" } : Jvm.MethodName) prog_4_method_6_code (2 : Nat) (Option.some Jvm.ClassFile.FieldType.int)) ∈ wB := kwB 432 (by decide +kernel) (by decide +kernel)
theorem kw_433 : (Jvm.Cond.methodLink "ObjectMerge$Conflicts" (48 : Nat) ({ cls := "ObjectMerge$Conflicts", name := "has", desc := "(I)Z" } : Jvm.MethodName)) ∈ wB := kwB 433 (by decide +kernel) (by decide +kernel)
theorem kw_434 : (Jvm.Cond.instanceMethod ({ cls := "ObjectMerge$Conflicts", name := "has", desc := "(I)Z" } : Jvm.MethodName)) ∈ wB := kwB 434 (by decide +kernel) (by decide +kernel)
theorem kw_435 : (Jvm.Cond.selects "ObjectMerge$Conflicts" ({ cls := "ObjectMerge$Conflicts", name := "has", desc := "(I)Z" } : Jvm.MethodName) ({ cls := "ObjectMerge$Conflicts", name := "has", desc := "(I)Z" } : Jvm.MethodName)) ∈ wB := kwB 435 (by decide +kernel) (by decide +kernel)
theorem kw_436 : (Jvm.Cond.code ({ cls := "ObjectMerge$Conflicts", name := "has", desc := "(I)Z" } : Jvm.MethodName) prog_4_method_5_code (2 : Nat) (Option.some Jvm.ClassFile.FieldType.boolean)) ∈ wB := kwB 436 (by decide +kernel) (by decide +kernel)
theorem kw_437 : (Jvm.Cond.methodLink "ObjectMerge$Conflicts" (41 : Nat) ({ cls := "ObjectMerge$Conflicts", name := "fieldOf", desc := "(I)I" } : Jvm.MethodName)) ∈ wB := kwB 437 (by decide +kernel) (by decide +kernel)
theorem kw_438 : (Jvm.Cond.instanceMethod ({ cls := "ObjectMerge$Conflicts", name := "fieldOf", desc := "(I)I" } : Jvm.MethodName)) ∈ wB := kwB 438 (by decide +kernel) (by decide +kernel)
theorem kw_439 : (Jvm.Cond.selects "ObjectMerge$Conflicts" ({ cls := "ObjectMerge$Conflicts", name := "fieldOf", desc := "(I)I" } : Jvm.MethodName) ({ cls := "ObjectMerge$Conflicts", name := "fieldOf", desc := "(I)I" } : Jvm.MethodName)) ∈ wB := kwB 439 (by decide +kernel) (by decide +kernel)
theorem kw_440 : (Jvm.Cond.code ({ cls := "ObjectMerge$Conflicts", name := "fieldOf", desc := "(I)I" } : Jvm.MethodName) prog_4_method_7_code (2 : Nat) (Option.some Jvm.ClassFile.FieldType.int)) ∈ wB := kwB 440 (by decide +kernel) (by decide +kernel)
theorem kw_441 : (Jvm.Cond.methodLink "ObjectMerge$Conflicts" (44 : Nat) ({ cls := "ObjectMerge$Session", name := "sideOf", desc := "(II)I" } : Jvm.MethodName)) ∈ wB := kwB 441 (by decide +kernel) (by decide +kernel)
theorem kw_442 : (Jvm.Cond.instanceMethod ({ cls := "ObjectMerge$Session", name := "sideOf", desc := "(II)I" } : Jvm.MethodName)) ∈ wB := kwB 442 (by decide +kernel) (by decide +kernel)
theorem kw_443 : (Jvm.Cond.selects "ObjectMerge$Session" ({ cls := "ObjectMerge$Session", name := "sideOf", desc := "(II)I" } : Jvm.MethodName) ({ cls := "ObjectMerge$Session", name := "sideOf", desc := "(II)I" } : Jvm.MethodName)) ∈ wB := kwB 443 (by decide +kernel) (by decide +kernel)
theorem kw_444 : (Jvm.Cond.code ({ cls := "ObjectMerge$Session", name := "sideOf", desc := "(II)I" } : Jvm.MethodName) prog_9_method_4_code (4 : Nat) (Option.some Jvm.ClassFile.FieldType.int)) ∈ wB := kwB 444 (by decide +kernel) (by decide +kernel)
theorem kw_445 : (Jvm.Cond.methodLink "ObjectMerge" (275 : Nat) ({ cls := "ObjectMerge", name := "takeIn", desc := "(LObjectMerge$Session;)V" } : Jvm.MethodName)) ∈ wB := kwB 445 (by decide +kernel) (by decide +kernel)
theorem kw_447 : (Jvm.Cond.instanceMethod ({ cls := "ObjectMerge", name := "takeIn", desc := "(LObjectMerge$Session;)V" } : Jvm.MethodName)) ∈ wB := kwB 447 (by decide +kernel) (by decide +kernel)
theorem kw_448 : (Jvm.Cond.code ({ cls := "ObjectMerge", name := "takeIn", desc := "(LObjectMerge$Session;)V" } : Jvm.MethodName) prog_1_method_34_code (5 : Nat) (Option.none : Option Jvm.ClassFile.FieldType)) ∈ wB := kwB 448 (by decide +kernel) (by decide +kernel)
theorem kw_449 : (Jvm.Cond.methodLink "ObjectMerge" (278 : Nat) ({ cls := "ObjectMerge$Session", name := "merged", desc := "(ILObjectMerge$State;)LObjectMerge$Row;" } : Jvm.MethodName)) ∈ wB := kwB 449 (by decide +kernel) (by decide +kernel)
theorem kw_450 : (Jvm.Cond.instanceMethod ({ cls := "ObjectMerge$Session", name := "merged", desc := "(ILObjectMerge$State;)LObjectMerge$Row;" } : Jvm.MethodName)) ∈ wB := kwB 450 (by decide +kernel) (by decide +kernel)
theorem kw_451 : (Jvm.Cond.selects "ObjectMerge$Session" ({ cls := "ObjectMerge$Session", name := "merged", desc := "(ILObjectMerge$State;)LObjectMerge$Row;" } : Jvm.MethodName) ({ cls := "ObjectMerge$Session", name := "merged", desc := "(ILObjectMerge$State;)LObjectMerge$Row;" } : Jvm.MethodName)) ∈ wB := kwB 451 (by decide +kernel) (by decide +kernel)
theorem kw_452 : (Jvm.Cond.code ({ cls := "ObjectMerge$Session", name := "merged", desc := "(ILObjectMerge$State;)LObjectMerge$Row;" } : Jvm.MethodName) prog_9_method_8_code (8 : Nat) (Option.some (Jvm.ClassFile.FieldType.object "ObjectMerge$Row"))) ∈ wB := kwB 452 (by decide +kernel) (by decide +kernel)
theorem kw_453 : (Jvm.Cond.methodLink "ObjectMerge$Session" (76 : Nat) ({ cls := "ObjectMerge$Session", name := "changed", desc := "(I)Z" } : Jvm.MethodName)) ∈ wB := kwB 453 (by decide +kernel) (by decide +kernel)
theorem kw_454 : (Jvm.Cond.methodLink "ObjectMerge$Session" (80 : Nat) ({ cls := "ObjectMerge$Session", name := "clashes", desc := "(IILObjectMerge$State;)Z" } : Jvm.MethodName)) ∈ wB := kwB 454 (by decide +kernel) (by decide +kernel)
theorem kw_455 : (Jvm.Cond.methodLink "ObjectMerge$Session" (84 : Nat) ({ cls := "ObjectMerge$Session", name := "sideOf", desc := "(II)I" } : Jvm.MethodName)) ∈ wB := kwB 455 (by decide +kernel) (by decide +kernel)
theorem kw_456 : (Jvm.Cond.methodLink "ObjectMerge$Session" (88 : Nat) ({ cls := "ObjectMerge$Session", name := "takes", desc := "(IILObjectMerge$State;)Z" } : Jvm.MethodName)) ∈ wB := kwB 456 (by decide +kernel) (by decide +kernel)
theorem kw_458 : (Jvm.Cond.instanceMethod ({ cls := "ObjectMerge$Session", name := "takes", desc := "(IILObjectMerge$State;)Z" } : Jvm.MethodName)) ∈ wB := kwB 458 (by decide +kernel) (by decide +kernel)
theorem kw_459 : (Jvm.Cond.code ({ cls := "ObjectMerge$Session", name := "takes", desc := "(IILObjectMerge$State;)Z" } : Jvm.MethodName) prog_9_method_9_code (5 : Nat) (Option.some Jvm.ClassFile.FieldType.boolean)) ∈ wB := kwB 459 (by decide +kernel) (by decide +kernel)
theorem kw_460 : (Jvm.Cond.methodLink "ObjectMerge$Session" (91 : Nat) ({ cls := "ObjectMerge$Row", name := "value", desc := "(I)J" } : Jvm.MethodName)) ∈ wB := kwB 460 (by decide +kernel) (by decide +kernel)
theorem kw_461 : (Jvm.Cond.methodLink "ObjectMerge$Session" (95 : Nat) ({ cls := "ObjectMerge$Row", name := "with", desc := "(IJ)LObjectMerge$Row;" } : Jvm.MethodName)) ∈ wB := kwB 461 (by decide +kernel) (by decide +kernel)
theorem kw_462 : (Jvm.Cond.methodLink "ObjectMerge" (282 : Nat) ({ cls := "ObjectMerge$Row", name := "alike", desc := "(LObjectMerge$Row;LObjectMerge$Row;)Z" } : Jvm.MethodName)) ∈ wB := kwB 462 (by decide +kernel) (by decide +kernel)
theorem kw_463 : (Jvm.Cond.methodLink "ObjectMerge" (286 : Nat) ({ cls := "ObjectMerge$Locks", name := "release", desc := "(I)V" } : Jvm.MethodName)) ∈ wB := kwB 463 (by decide +kernel) (by decide +kernel)
theorem kw_464 : (Jvm.Cond.instanceMethod ({ cls := "ObjectMerge$Locks", name := "release", desc := "(I)V" } : Jvm.MethodName)) ∈ wB := kwB 464 (by decide +kernel) (by decide +kernel)
theorem kw_465 : (Jvm.Cond.selects "ObjectMerge$Locks" ({ cls := "ObjectMerge$Locks", name := "release", desc := "(I)V" } : Jvm.MethodName) ({ cls := "ObjectMerge$Locks", name := "release", desc := "(I)V" } : Jvm.MethodName)) ∈ wB := kwB 465 (by decide +kernel) (by decide +kernel)
theorem kw_466 : (Jvm.Cond.code ({ cls := "ObjectMerge$Locks", name := "release", desc := "(I)V" } : Jvm.MethodName) prog_6_method_4_code (4 : Nat) (Option.none : Option Jvm.ClassFile.FieldType)) ∈ wB := kwB 466 (by decide +kernel) (by decide +kernel)
theorem kw_467 : (Jvm.Cond.methodLink "ObjectMergeLaw" (107 : Nat) ({ cls := "ObjectMergeLaw", name := "conflict", desc := "(LObjectMerge;II[J)I" } : Jvm.MethodName)) ∈ wB := kwB 467 (by decide +kernel) (by decide +kernel)
theorem kw_468 : (Jvm.Cond.static ({ cls := "ObjectMergeLaw", name := "conflict", desc := "(LObjectMerge;II[J)I" } : Jvm.MethodName)) ∈ wB := kwB 468 (by decide +kernel) (by decide +kernel)
theorem kw_469 : (Jvm.Cond.codeWith ({ cls := "ObjectMergeLaw", name := "conflict", desc := "(LObjectMerge;II[J)I" } : Jvm.MethodName) method_8_code (5 : Nat) (Option.some Jvm.ClassFile.FieldType.int) [((0 : Nat), (10 : Nat), (13 : Nat), (19 : Nat))]) ∈ wB := kwB 469 (by decide +kernel) (by decide +kernel)
theorem kw_470 : (Jvm.Cond.methodLink "ObjectMergeLaw" (34 : Nat) ({ cls := "ObjectMerge", name := "conflict", desc := "(II)I" } : Jvm.MethodName)) ∈ wB := kwB 470 (by decide +kernel) (by decide +kernel)
theorem kw_471 : (Jvm.Cond.instanceMethod ({ cls := "ObjectMerge", name := "conflict", desc := "(II)I" } : Jvm.MethodName)) ∈ wB := kwB 471 (by decide +kernel) (by decide +kernel)
theorem kw_472 : (Jvm.Cond.selects "ObjectMerge" ({ cls := "ObjectMerge", name := "conflict", desc := "(II)I" } : Jvm.MethodName) ({ cls := "ObjectMerge", name := "conflict", desc := "(II)I" } : Jvm.MethodName)) ∈ wB := kwB 472 (by decide +kernel) (by decide +kernel)
theorem kw_473 : (Jvm.Cond.code ({ cls := "ObjectMerge", name := "conflict", desc := "(II)I" } : Jvm.MethodName) prog_1_method_8_code (6 : Nat) (Option.some Jvm.ClassFile.FieldType.int)) ∈ wB := kwB 473 (by decide +kernel) (by decide +kernel)
theorem kw_474 : (Jvm.Cond.methodLink "ObjectMerge" (126 : Nat) ({ cls := "ObjectMerge", name := "sessionOfConflict", desc := "(I)LObjectMerge$Session;" } : Jvm.MethodName)) ∈ wB := kwB 474 (by decide +kernel) (by decide +kernel)
theorem kw_476 : (Jvm.Cond.instanceMethod ({ cls := "ObjectMerge", name := "sessionOfConflict", desc := "(I)LObjectMerge$Session;" } : Jvm.MethodName)) ∈ wB := kwB 476 (by decide +kernel) (by decide +kernel)
theorem kw_477 : (Jvm.Cond.code ({ cls := "ObjectMerge", name := "sessionOfConflict", desc := "(I)LObjectMerge$Session;" } : Jvm.MethodName) prog_1_method_22_code (3 : Nat) (Option.some (Jvm.ClassFile.FieldType.object "ObjectMerge$Session"))) ∈ wB := kwB 477 (by decide +kernel) (by decide +kernel)
theorem kw_478 : (Jvm.Cond.methodLink "ObjectMerge" (231 : Nat) ({ cls := "ObjectMerge$Conflicts", name := "has", desc := "(I)Z" } : Jvm.MethodName)) ∈ wB := kwB 478 (by decide +kernel) (by decide +kernel)
theorem kw_480 : (Jvm.Cond.methodLink "ObjectMerge" (129 : Nat) ({ cls := "ObjectMerge$Conflicts", name := "objectOf", desc := "(I)I" } : Jvm.MethodName)) ∈ wB := kwB 480 (by decide +kernel) (by decide +kernel)
theorem kw_481 : (Jvm.Cond.methodLink "ObjectMerge" (133 : Nat) ({ cls := "ObjectMerge$Conflicts", name := "fieldOf", desc := "(I)I" } : Jvm.MethodName)) ∈ wB := kwB 481 (by decide +kernel) (by decide +kernel)
theorem kw_482 : (Jvm.Cond.methodLink "ObjectMerge" (136 : Nat) ({ cls := "ObjectMerge$Session", name := "sideOf", desc := "(II)I" } : Jvm.MethodName)) ∈ wB := kwB 482 (by decide +kernel) (by decide +kernel)
theorem kw_484 : (Jvm.Cond.methodLink "ObjectMergeLaw" (110 : Nat) ({ cls := "ObjectMergeLaw", name := "settle", desc := "(LObjectMerge;II[J)I" } : Jvm.MethodName)) ∈ wB := kwB 484 (by decide +kernel) (by decide +kernel)
theorem kw_485 : (Jvm.Cond.static ({ cls := "ObjectMergeLaw", name := "settle", desc := "(LObjectMerge;II[J)I" } : Jvm.MethodName)) ∈ wB := kwB 485 (by decide +kernel) (by decide +kernel)
theorem kw_486 : (Jvm.Cond.codeWith ({ cls := "ObjectMergeLaw", name := "settle", desc := "(LObjectMerge;II[J)I" } : Jvm.MethodName) method_9_code (5 : Nat) (Option.some Jvm.ClassFile.FieldType.int) [((0 : Nat), (17 : Nat), (20 : Nat), (19 : Nat)), ((0 : Nat), (17 : Nat), (24 : Nat), (21 : Nat)), ((0 : Nat), (17 : Nat), (28 : Nat), (13 : Nat))]) ∈ wB := kwB 486 (by decide +kernel) (by decide +kernel)
theorem kw_487 : (Jvm.Cond.methodLink "ObjectMergeLaw" (37 : Nat) ({ cls := "ObjectMerge", name := "settle", desc := "(II)Z" } : Jvm.MethodName)) ∈ wB := kwB 487 (by decide +kernel) (by decide +kernel)
theorem kw_488 : (Jvm.Cond.instanceMethod ({ cls := "ObjectMerge", name := "settle", desc := "(II)Z" } : Jvm.MethodName)) ∈ wB := kwB 488 (by decide +kernel) (by decide +kernel)
theorem kw_489 : (Jvm.Cond.selects "ObjectMerge" ({ cls := "ObjectMerge", name := "settle", desc := "(II)Z" } : Jvm.MethodName) ({ cls := "ObjectMerge", name := "settle", desc := "(II)Z" } : Jvm.MethodName)) ∈ wB := kwB 489 (by decide +kernel) (by decide +kernel)
theorem kw_490 : (Jvm.Cond.code ({ cls := "ObjectMerge", name := "settle", desc := "(II)Z" } : Jvm.MethodName) prog_1_method_9_code (7 : Nat) (Option.some Jvm.ClassFile.FieldType.boolean)) ∈ wB := kwB 490 (by decide +kernel) (by decide +kernel)
theorem kw_492 : (Jvm.Cond.methodLink "ObjectMerge" (152 : Nat) ({ cls := "ObjectMerge$Session", name := "choose", desc := "(III)V" } : Jvm.MethodName)) ∈ wB := kwB 492 (by decide +kernel) (by decide +kernel)
theorem kw_493 : (Jvm.Cond.instanceMethod ({ cls := "ObjectMerge$Session", name := "choose", desc := "(III)V" } : Jvm.MethodName)) ∈ wB := kwB 493 (by decide +kernel) (by decide +kernel)
theorem kw_494 : (Jvm.Cond.selects "ObjectMerge$Session" ({ cls := "ObjectMerge$Session", name := "choose", desc := "(III)V" } : Jvm.MethodName) ({ cls := "ObjectMerge$Session", name := "choose", desc := "(III)V" } : Jvm.MethodName)) ∈ wB := kwB 494 (by decide +kernel) (by decide +kernel)
theorem kw_495 : (Jvm.Cond.code ({ cls := "ObjectMerge$Session", name := "choose", desc := "(III)V" } : Jvm.MethodName) prog_9_method_5_code (5 : Nat) (Option.none : Option Jvm.ClassFile.FieldType)) ∈ wB := kwB 495 (by decide +kernel) (by decide +kernel)
theorem kw_496 : (Jvm.Cond.methodLink "ObjectMergeLaw" (113 : Nat) ({ cls := "ObjectMergeLaw", name := "at", desc := "(LObjectMerge;II[J)I" } : Jvm.MethodName)) ∈ wB := kwB 496 (by decide +kernel) (by decide +kernel)
theorem kw_497 : (Jvm.Cond.static ({ cls := "ObjectMergeLaw", name := "at", desc := "(LObjectMerge;II[J)I" } : Jvm.MethodName)) ∈ wB := kwB 497 (by decide +kernel) (by decide +kernel)
theorem kw_498 : (Jvm.Cond.codeWith ({ cls := "ObjectMergeLaw", name := "at", desc := "(LObjectMerge;II[J)I" } : Jvm.MethodName) method_10_code (5 : Nat) (Option.some Jvm.ClassFile.FieldType.int) [((0 : Nat), (9 : Nat), (12 : Nat), (19 : Nat)), ((0 : Nat), (9 : Nat), (16 : Nat), (21 : Nat))]) ∈ wB := kwB 498 (by decide +kernel) (by decide +kernel)
theorem kw_499 : (Jvm.Cond.methodLink "ObjectMergeLaw" (40 : Nat) ({ cls := "ObjectMerge", name := "at", desc := "(II)J" } : Jvm.MethodName)) ∈ wB := kwB 499 (by decide +kernel) (by decide +kernel)
theorem kw_500 : (Jvm.Cond.instanceMethod ({ cls := "ObjectMerge", name := "at", desc := "(II)J" } : Jvm.MethodName)) ∈ wB := kwB 500 (by decide +kernel) (by decide +kernel)
theorem kw_501 : (Jvm.Cond.selects "ObjectMerge" ({ cls := "ObjectMerge", name := "at", desc := "(II)J" } : Jvm.MethodName) ({ cls := "ObjectMerge", name := "at", desc := "(II)J" } : Jvm.MethodName)) ∈ wB := kwB 501 (by decide +kernel) (by decide +kernel)
theorem kw_502 : (Jvm.Cond.code ({ cls := "ObjectMerge", name := "at", desc := "(II)J" } : Jvm.MethodName) prog_1_method_10_code (3 : Nat) (Option.some Jvm.ClassFile.FieldType.long)) ∈ wB := kwB 502 (by decide +kernel) (by decide +kernel)
theorem kw_503 : (Jvm.Cond.methodLink "ObjectMergeLaw" (116 : Nat) ({ cls := "ObjectMergeLaw", name := "lock", desc := "(LObjectMerge;IJJJJ[J)I" } : Jvm.MethodName)) ∈ wB := kwB 503 (by decide +kernel) (by decide +kernel)
theorem kw_504 : (Jvm.Cond.static ({ cls := "ObjectMergeLaw", name := "lock", desc := "(LObjectMerge;IJJJJ[J)I" } : Jvm.MethodName)) ∈ wB := kwB 504 (by decide +kernel) (by decide +kernel)
theorem kw_505 : (Jvm.Cond.codeWith ({ cls := "ObjectMergeLaw", name := "lock", desc := "(LObjectMerge;IJJJJ[J)I" } : Jvm.MethodName) method_11_code (12 : Nat) (Option.some Jvm.ClassFile.FieldType.int) [((0 : Nat), (24 : Nat), (27 : Nat), (19 : Nat)), ((0 : Nat), (24 : Nat), (31 : Nat), (21 : Nat))]) ∈ wB := kwB 505 (by decide +kernel) (by decide +kernel)
theorem kw_506 : (Jvm.Cond.methodLink "ObjectMergeLaw" (44 : Nat) ({ cls := "ObjectMerge", name := "lock", desc := "(IJJJJ)Z" } : Jvm.MethodName)) ∈ wB := kwB 506 (by decide +kernel) (by decide +kernel)
theorem kw_507 : (Jvm.Cond.instanceMethod ({ cls := "ObjectMerge", name := "lock", desc := "(IJJJJ)Z" } : Jvm.MethodName)) ∈ wB := kwB 507 (by decide +kernel) (by decide +kernel)
theorem kw_508 : (Jvm.Cond.selects "ObjectMerge" ({ cls := "ObjectMerge", name := "lock", desc := "(IJJJJ)Z" } : Jvm.MethodName) ({ cls := "ObjectMerge", name := "lock", desc := "(IJJJJ)Z" } : Jvm.MethodName)) ∈ wB := kwB 508 (by decide +kernel) (by decide +kernel)
theorem kw_509 : (Jvm.Cond.code ({ cls := "ObjectMerge", name := "lock", desc := "(IJJJJ)Z" } : Jvm.MethodName) prog_1_method_11_code (11 : Nat) (Option.some Jvm.ClassFile.FieldType.boolean)) ∈ wB := kwB 509 (by decide +kernel) (by decide +kernel)
theorem kw_510 : (Jvm.Cond.classLink "ObjectMerge" (160 : Nat) "ObjectMerge$Area") ∈ wB := kwB 510 (by decide +kernel) (by decide +kernel)
theorem kw_511 : (Jvm.Cond.instantiable "ObjectMerge$Area" (5 : Nat)) ∈ wB := kwB 511 (by decide +kernel) (by decide +kernel)
theorem kw_512 : (Jvm.Cond.methodLink "ObjectMerge" (162 : Nat) ({ cls := "ObjectMerge$Area", name := "<init>", desc := "(IJJJJ)V" } : Jvm.MethodName)) ∈ wB := kwB 512 (by decide +kernel) (by decide +kernel)
theorem kw_513 : (Jvm.Cond.instanceMethod ({ cls := "ObjectMerge$Area", name := "<init>", desc := "(IJJJJ)V" } : Jvm.MethodName)) ∈ wB := kwB 513 (by decide +kernel) (by decide +kernel)
theorem kw_514 : (Jvm.Cond.code ({ cls := "ObjectMerge$Area", name := "<init>", desc := "(IJJJJ)V" } : Jvm.MethodName) prog_2_method_1_code (10 : Nat) (Option.none : Option Jvm.ClassFile.FieldType)) ∈ wB := kwB 514 (by decide +kernel) (by decide +kernel)
theorem kw_515 : (Jvm.Cond.methodLink "ObjectMerge$Area" (1 : Nat) ({ cls := "java/lang/Object", name := "<init>", desc := "()V" } : Jvm.MethodName)) ∈ wB := kwB 515 (by decide +kernel) (by decide +kernel)
theorem kw_516 : (Jvm.Cond.fieldLink "ObjectMerge$Area" (7 : Nat) "ObjectMerge$Area" "owner" "I") ∈ wB := kwB 516 (by decide +kernel) (by decide +kernel)
theorem kw_517 : (Jvm.Cond.fieldLink "ObjectMerge$Locks" (17 : Nat) "ObjectMerge$Area" "owner" "I") ∈ wB := kwB 517 (by decide +kernel) (by decide +kernel)
theorem kw_518 : (Jvm.Cond.fieldLink "ObjectMerge$Area" (13 : Nat) "ObjectMerge$Area" "x0" "J") ∈ wB := kwB 518 (by decide +kernel) (by decide +kernel)
theorem kw_519 : (Jvm.Cond.fieldLink "ObjectMerge$Area" (17 : Nat) "ObjectMerge$Area" "y0" "J") ∈ wB := kwB 519 (by decide +kernel) (by decide +kernel)
theorem kw_520 : (Jvm.Cond.fieldLink "ObjectMerge$Area" (20 : Nat) "ObjectMerge$Area" "x1" "J") ∈ wB := kwB 520 (by decide +kernel) (by decide +kernel)
theorem kw_521 : (Jvm.Cond.fieldLink "ObjectMerge$Area" (23 : Nat) "ObjectMerge$Area" "y1" "J") ∈ wB := kwB 521 (by decide +kernel) (by decide +kernel)
theorem kw_522 : (Jvm.Cond.laysFinal "ObjectMerge$Area" "ObjectMerge$Area" "owner" "I") ∈ wB := kwB 522 (by decide +kernel) (by decide +kernel)
theorem kw_524 : (Jvm.Cond.laysFinal "ObjectMerge$Area" "ObjectMerge$Area" "x0" "J") ∈ wB := kwB 524 (by decide +kernel) (by decide +kernel)
theorem kw_526 : (Jvm.Cond.laysFinal "ObjectMerge$Area" "ObjectMerge$Area" "y0" "J") ∈ wB := kwB 526 (by decide +kernel) (by decide +kernel)
theorem kw_528 : (Jvm.Cond.laysFinal "ObjectMerge$Area" "ObjectMerge$Area" "x1" "J") ∈ wB := kwB 528 (by decide +kernel) (by decide +kernel)
theorem kw_530 : (Jvm.Cond.laysFinal "ObjectMerge$Area" "ObjectMerge$Area" "y1" "J") ∈ wB := kwB 530 (by decide +kernel) (by decide +kernel)
theorem kw_533 : (Jvm.Cond.methodLink "ObjectMerge" (165 : Nat) ({ cls := "ObjectMerge$Locks", name := "add", desc := "(LObjectMerge$Area;)Z" } : Jvm.MethodName)) ∈ wB := kwB 533 (by decide +kernel) (by decide +kernel)
theorem kw_534 : (Jvm.Cond.instanceMethod ({ cls := "ObjectMerge$Locks", name := "add", desc := "(LObjectMerge$Area;)Z" } : Jvm.MethodName)) ∈ wB := kwB 534 (by decide +kernel) (by decide +kernel)
theorem kw_535 : (Jvm.Cond.selects "ObjectMerge$Locks" ({ cls := "ObjectMerge$Locks", name := "add", desc := "(LObjectMerge$Area;)Z" } : Jvm.MethodName) ({ cls := "ObjectMerge$Locks", name := "add", desc := "(LObjectMerge$Area;)Z" } : Jvm.MethodName)) ∈ wB := kwB 535 (by decide +kernel) (by decide +kernel)
theorem kw_536 : (Jvm.Cond.code ({ cls := "ObjectMerge$Locks", name := "add", desc := "(LObjectMerge$Area;)Z" } : Jvm.MethodName) prog_6_method_2_code (5 : Nat) (Option.some Jvm.ClassFile.FieldType.boolean)) ∈ wB := kwB 536 (by decide +kernel) (by decide +kernel)
theorem kw_537 : (Jvm.Cond.methodLink "ObjectMerge$Locks" (21 : Nat) ({ cls := "ObjectMerge$Area", name := "meets", desc := "(LObjectMerge$Area;)Z" } : Jvm.MethodName)) ∈ wB := kwB 537 (by decide +kernel) (by decide +kernel)
theorem kw_538 : (Jvm.Cond.instanceMethod ({ cls := "ObjectMerge$Area", name := "meets", desc := "(LObjectMerge$Area;)Z" } : Jvm.MethodName)) ∈ wB := kwB 538 (by decide +kernel) (by decide +kernel)
theorem kw_539 : (Jvm.Cond.selects "ObjectMerge$Area" ({ cls := "ObjectMerge$Area", name := "meets", desc := "(LObjectMerge$Area;)Z" } : Jvm.MethodName) ({ cls := "ObjectMerge$Area", name := "meets", desc := "(LObjectMerge$Area;)Z" } : Jvm.MethodName)) ∈ wB := kwB 539 (by decide +kernel) (by decide +kernel)
theorem kw_540 : (Jvm.Cond.code ({ cls := "ObjectMerge$Area", name := "meets", desc := "(LObjectMerge$Area;)Z" } : Jvm.MethodName) prog_2_method_3_code (2 : Nat) (Option.some Jvm.ClassFile.FieldType.boolean)) ∈ wB := kwB 540 (by decide +kernel) (by decide +kernel)
theorem kw_541 : (Jvm.Cond.methodLink "ObjectMergeLaw" (120 : Nat) ({ cls := "ObjectMergeLaw", name := "apart", desc := "(LObjectMerge;IIJ[J)I" } : Jvm.MethodName)) ∈ wB := kwB 541 (by decide +kernel) (by decide +kernel)
theorem kw_542 : (Jvm.Cond.static ({ cls := "ObjectMergeLaw", name := "apart", desc := "(LObjectMerge;IIJ[J)I" } : Jvm.MethodName)) ∈ wB := kwB 542 (by decide +kernel) (by decide +kernel)
theorem kw_543 : (Jvm.Cond.codeWith ({ cls := "ObjectMergeLaw", name := "apart", desc := "(LObjectMerge;IIJ[J)I" } : Jvm.MethodName) method_12_code (7 : Nat) (Option.some Jvm.ClassFile.FieldType.int) [((0 : Nat), (19 : Nat), (22 : Nat), (19 : Nat)), ((0 : Nat), (19 : Nat), (26 : Nat), (13 : Nat))]) ∈ wB := kwB 543 (by decide +kernel) (by decide +kernel)
theorem kw_544 : (Jvm.Cond.methodLink "ObjectMergeLaw" (48 : Nat) ({ cls := "ObjectMerge", name := "apart", desc := "(IIJ)Z" } : Jvm.MethodName)) ∈ wB := kwB 544 (by decide +kernel) (by decide +kernel)
theorem kw_545 : (Jvm.Cond.instanceMethod ({ cls := "ObjectMerge", name := "apart", desc := "(IIJ)Z" } : Jvm.MethodName)) ∈ wB := kwB 545 (by decide +kernel) (by decide +kernel)
theorem kw_546 : (Jvm.Cond.selects "ObjectMerge" ({ cls := "ObjectMerge", name := "apart", desc := "(IIJ)Z" } : Jvm.MethodName) ({ cls := "ObjectMerge", name := "apart", desc := "(IIJ)Z" } : Jvm.MethodName)) ∈ wB := kwB 546 (by decide +kernel) (by decide +kernel)
theorem kw_547 : (Jvm.Cond.code ({ cls := "ObjectMerge", name := "apart", desc := "(IIJ)Z" } : Jvm.MethodName) prog_1_method_12_code (5 : Nat) (Option.some Jvm.ClassFile.FieldType.boolean)) ∈ wB := kwB 547 (by decide +kernel) (by decide +kernel)
theorem kw_548 : (Jvm.Cond.constantLong "ObjectMerge" (169 : Nat) (1000000000 : Int64)) ∈ wB := kwB 548 (by decide +kernel) (by decide +kernel)
theorem kw_550 : (Jvm.Cond.instantiable "ObjectMerge$Rule" (3 : Nat)) ∈ wB := kwB 550 (by decide +kernel) (by decide +kernel)
theorem kw_551 : (Jvm.Cond.methodLink "ObjectMerge" (176 : Nat) ({ cls := "ObjectMerge$Rule", name := "<init>", desc := "(IIJ)V" } : Jvm.MethodName)) ∈ wB := kwB 551 (by decide +kernel) (by decide +kernel)
theorem kw_552 : (Jvm.Cond.instanceMethod ({ cls := "ObjectMerge$Rule", name := "<init>", desc := "(IIJ)V" } : Jvm.MethodName)) ∈ wB := kwB 552 (by decide +kernel) (by decide +kernel)
theorem kw_553 : (Jvm.Cond.code ({ cls := "ObjectMerge$Rule", name := "<init>", desc := "(IIJ)V" } : Jvm.MethodName) prog_8_method_1_code (5 : Nat) (Option.none : Option Jvm.ClassFile.FieldType)) ∈ wB := kwB 553 (by decide +kernel) (by decide +kernel)
theorem kw_554 : (Jvm.Cond.methodLink "ObjectMerge$Rule" (3 : Nat) ({ cls := "java/lang/Object", name := "<init>", desc := "()V" } : Jvm.MethodName)) ∈ wB := kwB 554 (by decide +kernel) (by decide +kernel)
theorem kw_555 : (Jvm.Cond.fieldLink "ObjectMerge$Rule" (9 : Nat) "ObjectMerge$Rule" "first" "I") ∈ wB := kwB 555 (by decide +kernel) (by decide +kernel)
theorem kw_556 : (Jvm.Cond.fieldLink "ObjectMerge" (185 : Nat) "ObjectMerge$Rule" "first" "I") ∈ wB := kwB 556 (by decide +kernel) (by decide +kernel)
theorem kw_557 : (Jvm.Cond.fieldLink "ObjectMerge$Rule" (15 : Nat) "ObjectMerge$Rule" "other" "I") ∈ wB := kwB 557 (by decide +kernel) (by decide +kernel)
theorem kw_558 : (Jvm.Cond.fieldLink "ObjectMerge" (188 : Nat) "ObjectMerge$Rule" "other" "I") ∈ wB := kwB 558 (by decide +kernel) (by decide +kernel)
theorem kw_559 : (Jvm.Cond.fieldLink "ObjectMerge$Rule" (18 : Nat) "ObjectMerge$Rule" "distance" "J") ∈ wB := kwB 559 (by decide +kernel) (by decide +kernel)
theorem kw_560 : (Jvm.Cond.laysFinal "ObjectMerge$Rule" "ObjectMerge$Rule" "first" "I") ∈ wB := kwB 560 (by decide +kernel) (by decide +kernel)
theorem kw_562 : (Jvm.Cond.laysFinal "ObjectMerge$Rule" "ObjectMerge$Rule" "other" "I") ∈ wB := kwB 562 (by decide +kernel) (by decide +kernel)
theorem kw_564 : (Jvm.Cond.laysFinal "ObjectMerge$Rule" "ObjectMerge$Rule" "distance" "J") ∈ wB := kwB 564 (by decide +kernel) (by decide +kernel)
theorem kw_567 : (Jvm.Cond.methodLink "ObjectMergeLaw" (124 : Nat) ({ cls := "ObjectMergeLaw", name := "violation", desc := "(LObjectMerge;II[J)I" } : Jvm.MethodName)) ∈ wB := kwB 567 (by decide +kernel) (by decide +kernel)
theorem kw_568 : (Jvm.Cond.static ({ cls := "ObjectMergeLaw", name := "violation", desc := "(LObjectMerge;II[J)I" } : Jvm.MethodName)) ∈ wB := kwB 568 (by decide +kernel) (by decide +kernel)
theorem kw_569 : (Jvm.Cond.codeWith ({ cls := "ObjectMergeLaw", name := "violation", desc := "(LObjectMerge;II[J)I" } : Jvm.MethodName) method_13_code (5 : Nat) (Option.some Jvm.ClassFile.FieldType.int) [((0 : Nat), (10 : Nat), (13 : Nat), (19 : Nat))]) ∈ wB := kwB 569 (by decide +kernel) (by decide +kernel)
theorem kw_570 : (Jvm.Cond.methodLink "ObjectMergeLaw" (52 : Nat) ({ cls := "ObjectMerge", name := "violation", desc := "(II)I" } : Jvm.MethodName)) ∈ wB := kwB 570 (by decide +kernel) (by decide +kernel)
theorem kw_571 : (Jvm.Cond.instanceMethod ({ cls := "ObjectMerge", name := "violation", desc := "(II)I" } : Jvm.MethodName)) ∈ wB := kwB 571 (by decide +kernel) (by decide +kernel)
theorem kw_572 : (Jvm.Cond.selects "ObjectMerge" ({ cls := "ObjectMerge", name := "violation", desc := "(II)I" } : Jvm.MethodName) ({ cls := "ObjectMerge", name := "violation", desc := "(II)I" } : Jvm.MethodName)) ∈ wB := kwB 572 (by decide +kernel) (by decide +kernel)
theorem kw_573 : (Jvm.Cond.code ({ cls := "ObjectMerge", name := "violation", desc := "(II)I" } : Jvm.MethodName) prog_1_method_13_code (6 : Nat) (Option.some Jvm.ClassFile.FieldType.int)) ∈ wB := kwB 573 (by decide +kernel) (by decide +kernel)
theorem kw_575 : (Jvm.Cond.methodLink "ObjectMerge" (181 : Nat) ({ cls := "ObjectMerge$Rule", name := "brokenIn", desc := "(LObjectMerge$State;)Z" } : Jvm.MethodName)) ∈ wB := kwB 575 (by decide +kernel) (by decide +kernel)
theorem kw_576 : (Jvm.Cond.instanceMethod ({ cls := "ObjectMerge$Rule", name := "brokenIn", desc := "(LObjectMerge$State;)Z" } : Jvm.MethodName)) ∈ wB := kwB 576 (by decide +kernel) (by decide +kernel)
theorem kw_577 : (Jvm.Cond.selects "ObjectMerge$Rule" ({ cls := "ObjectMerge$Rule", name := "brokenIn", desc := "(LObjectMerge$State;)Z" } : Jvm.MethodName) ({ cls := "ObjectMerge$Rule", name := "brokenIn", desc := "(LObjectMerge$State;)Z" } : Jvm.MethodName)) ∈ wB := kwB 577 (by decide +kernel) (by decide +kernel)
theorem kw_578 : (Jvm.Cond.code ({ cls := "ObjectMerge$Rule", name := "brokenIn", desc := "(LObjectMerge$State;)Z" } : Jvm.MethodName) prog_8_method_2_code (4 : Nat) (Option.some Jvm.ClassFile.FieldType.boolean)) ∈ wB := kwB 578 (by decide +kernel) (by decide +kernel)
theorem kw_579 : (Jvm.Cond.methodLink "ObjectMerge$Rule" (22 : Nat) ({ cls := "ObjectMerge$State", name := "row", desc := "(I)LObjectMerge$Row;" } : Jvm.MethodName)) ∈ wB := kwB 579 (by decide +kernel) (by decide +kernel)
theorem kw_580 : (Jvm.Cond.methodLink "ObjectMerge$Rule" (28 : Nat) ({ cls := "ObjectMerge$Row", name := "value", desc := "(I)J" } : Jvm.MethodName)) ∈ wB := kwB 580 (by decide +kernel) (by decide +kernel)
theorem kw_581 : (Jvm.Cond.methodLink "ObjectMerge$Rule" (34 : Nat) ({ cls := "ObjectMerge$Rule", name := "gap", desc := "(JJ)J" } : Jvm.MethodName)) ∈ wB := kwB 581 (by decide +kernel) (by decide +kernel)
theorem kw_582 : (Jvm.Cond.static ({ cls := "ObjectMerge$Rule", name := "gap", desc := "(JJ)J" } : Jvm.MethodName)) ∈ wB := kwB 582 (by decide +kernel) (by decide +kernel)
theorem kw_583 : (Jvm.Cond.code ({ cls := "ObjectMerge$Rule", name := "gap", desc := "(JJ)J" } : Jvm.MethodName) prog_8_method_3_code (6 : Nat) (Option.some Jvm.ClassFile.FieldType.long)) ∈ wB := kwB 583 (by decide +kernel) (by decide +kernel)
theorem kw_584 : (Jvm.Cond.methodLink "ObjectMerge$Rule" (38 : Nat) ({ cls := "java/lang/Math", name := "max", desc := "(JJ)J" } : Jvm.MethodName)) ∈ wB := kwB 584 (by decide +kernel) (by decide +kernel)
theorem kw_585 : (Jvm.Cond.static ({ cls := "java/lang/Math", name := "max", desc := "(JJ)J" } : Jvm.MethodName)) ∈ wB := kwB 585 (by decide +kernel) (by decide +kernel)
theorem kw_586 : (Jvm.Cond.code ({ cls := "java/lang/Math", name := "max", desc := "(JJ)J" } : Jvm.MethodName) prog_18_method_66_code (4 : Nat) (Option.some Jvm.ClassFile.FieldType.long)) ∈ wB := kwB 586 (by decide +kernel) (by decide +kernel)
theorem kw_587 : (Jvm.Cond.methodLink "ObjectMerge$Rule" (43 : Nat) ({ cls := "java/lang/Math", name := "min", desc := "(JJ)J" } : Jvm.MethodName)) ∈ wB := kwB 587 (by decide +kernel) (by decide +kernel)
theorem kw_588 : (Jvm.Cond.static ({ cls := "java/lang/Math", name := "min", desc := "(JJ)J" } : Jvm.MethodName)) ∈ wB := kwB 588 (by decide +kernel) (by decide +kernel)
theorem kw_589 : (Jvm.Cond.code ({ cls := "java/lang/Math", name := "min", desc := "(JJ)J" } : Jvm.MethodName) prog_18_method_70_code (4 : Nat) (Option.some Jvm.ClassFile.FieldType.long)) ∈ wB := kwB 589 (by decide +kernel) (by decide +kernel)
theorem kw_590 : (Jvm.Cond.constantLong "ObjectMerge$Rule" (46 : Nat) (1000000000 : Int64)) ∈ wB := kwB 590 (by decide +kernel) (by decide +kernel)
theorem kw_591 : (Jvm.Cond.methodLink "ObjectMergeLaw" (131 : Nat) ({ cls := "ObjectMergeLaw", name := "difference", desc := "(LObjectMerge;III[J)I" } : Jvm.MethodName)) ∈ wB := kwB 591 (by decide +kernel) (by decide +kernel)
theorem kw_592 : (Jvm.Cond.static ({ cls := "ObjectMergeLaw", name := "difference", desc := "(LObjectMerge;III[J)I" } : Jvm.MethodName)) ∈ wB := kwB 592 (by decide +kernel) (by decide +kernel)
theorem kw_593 : (Jvm.Cond.codeWith ({ cls := "ObjectMergeLaw", name := "difference", desc := "(LObjectMerge;III[J)I" } : Jvm.MethodName) method_14_code (6 : Nat) (Option.some Jvm.ClassFile.FieldType.int) [((0 : Nat), (12 : Nat), (15 : Nat), (19 : Nat))]) ∈ wB := kwB 593 (by decide +kernel) (by decide +kernel)
theorem kw_594 : (Jvm.Cond.methodLink "ObjectMergeLaw" (55 : Nat) ({ cls := "ObjectMerge", name := "difference", desc := "(III)I" } : Jvm.MethodName)) ∈ wB := kwB 594 (by decide +kernel) (by decide +kernel)
theorem kw_595 : (Jvm.Cond.instanceMethod ({ cls := "ObjectMerge", name := "difference", desc := "(III)I" } : Jvm.MethodName)) ∈ wB := kwB 595 (by decide +kernel) (by decide +kernel)
theorem kw_596 : (Jvm.Cond.selects "ObjectMerge" ({ cls := "ObjectMerge", name := "difference", desc := "(III)I" } : Jvm.MethodName) ({ cls := "ObjectMerge", name := "difference", desc := "(III)I" } : Jvm.MethodName)) ∈ wB := kwB 596 (by decide +kernel) (by decide +kernel)
theorem kw_597 : (Jvm.Cond.code ({ cls := "ObjectMerge", name := "difference", desc := "(III)I" } : Jvm.MethodName) prog_1_method_15_code (9 : Nat) (Option.some Jvm.ClassFile.FieldType.int)) ∈ wB := kwB 597 (by decide +kernel) (by decide +kernel)
theorem kw_598 : (Jvm.Cond.methodLink "ObjectMerge" (191 : Nat) ({ cls := "ObjectMerge", name := "versionOf", desc := "(I)LObjectMerge$State;" } : Jvm.MethodName)) ∈ wB := kwB 598 (by decide +kernel) (by decide +kernel)
theorem kw_600 : (Jvm.Cond.instanceMethod ({ cls := "ObjectMerge", name := "versionOf", desc := "(I)LObjectMerge$State;" } : Jvm.MethodName)) ∈ wB := kwB 600 (by decide +kernel) (by decide +kernel)
theorem kw_601 : (Jvm.Cond.code ({ cls := "ObjectMerge", name := "versionOf", desc := "(I)LObjectMerge$State;" } : Jvm.MethodName) prog_1_method_21_code (3 : Nat) (Option.some (Jvm.ClassFile.FieldType.object "ObjectMerge$State"))) ∈ wB := kwB 601 (by decide +kernel) (by decide +kernel)
theorem kw_603 : (Jvm.Cond.methodLink "ObjectMerge" (199 : Nat) ({ cls := "ObjectMerge$Row", name := "differ", desc := "(LObjectMerge$Row;LObjectMerge$Row;I)Z" } : Jvm.MethodName)) ∈ wB := kwB 603 (by decide +kernel) (by decide +kernel)
theorem kw_604 : (Jvm.Cond.methodLink "ObjectMergeLaw" (135 : Nat) ({ cls := "ObjectMergeLaw", name := "undo", desc := "(LObjectMerge;I[J)I" } : Jvm.MethodName)) ∈ wB := kwB 604 (by decide +kernel) (by decide +kernel)
theorem kw_605 : (Jvm.Cond.static ({ cls := "ObjectMergeLaw", name := "undo", desc := "(LObjectMerge;I[J)I" } : Jvm.MethodName)) ∈ wB := kwB 605 (by decide +kernel) (by decide +kernel)
theorem kw_606 : (Jvm.Cond.codeWith ({ cls := "ObjectMergeLaw", name := "undo", desc := "(LObjectMerge;I[J)I" } : Jvm.MethodName) method_15_code (4 : Nat) (Option.some Jvm.ClassFile.FieldType.int) [((0 : Nat), (16 : Nat), (19 : Nat), (19 : Nat)), ((0 : Nat), (16 : Nat), (22 : Nat), (21 : Nat))]) ∈ wB := kwB 606 (by decide +kernel) (by decide +kernel)
theorem kw_607 : (Jvm.Cond.methodLink "ObjectMergeLaw" (59 : Nat) ({ cls := "ObjectMerge", name := "undo", desc := "(I)Z" } : Jvm.MethodName)) ∈ wB := kwB 607 (by decide +kernel) (by decide +kernel)
theorem kw_608 : (Jvm.Cond.instanceMethod ({ cls := "ObjectMerge", name := "undo", desc := "(I)Z" } : Jvm.MethodName)) ∈ wB := kwB 608 (by decide +kernel) (by decide +kernel)
theorem kw_609 : (Jvm.Cond.selects "ObjectMerge" ({ cls := "ObjectMerge", name := "undo", desc := "(I)Z" } : Jvm.MethodName) ({ cls := "ObjectMerge", name := "undo", desc := "(I)Z" } : Jvm.MethodName)) ∈ wB := kwB 609 (by decide +kernel) (by decide +kernel)
theorem kw_610 : (Jvm.Cond.code ({ cls := "ObjectMerge", name := "undo", desc := "(I)Z" } : Jvm.MethodName) prog_1_method_16_code (3 : Nat) (Option.some Jvm.ClassFile.FieldType.boolean)) ∈ wB := kwB 610 (by decide +kernel) (by decide +kernel)
theorem kw_611 : (Jvm.Cond.methodLink "ObjectMerge" (203 : Nat) ({ cls := "ObjectMerge$Session", name := "takeBack", desc := "()Z" } : Jvm.MethodName)) ∈ wB := kwB 611 (by decide +kernel) (by decide +kernel)
theorem kw_612 : (Jvm.Cond.instanceMethod ({ cls := "ObjectMerge$Session", name := "takeBack", desc := "()Z" } : Jvm.MethodName)) ∈ wB := kwB 612 (by decide +kernel) (by decide +kernel)
theorem kw_613 : (Jvm.Cond.selects "ObjectMerge$Session" ({ cls := "ObjectMerge$Session", name := "takeBack", desc := "()Z" } : Jvm.MethodName) ({ cls := "ObjectMerge$Session", name := "takeBack", desc := "()Z" } : Jvm.MethodName)) ∈ wB := kwB 613 (by decide +kernel) (by decide +kernel)
theorem kw_614 : (Jvm.Cond.code ({ cls := "ObjectMerge$Session", name := "takeBack", desc := "()Z" } : Jvm.MethodName) prog_9_method_3_code (1 : Nat) (Option.some Jvm.ClassFile.FieldType.boolean)) ∈ wB := kwB 614 (by decide +kernel) (by decide +kernel)
theorem kw_615 : (Jvm.Cond.methodLink "ObjectMerge$Session" (54 : Nat) ({ cls := "ObjectMerge$Changes", name := "stepBack", desc := "()Z" } : Jvm.MethodName)) ∈ wB := kwB 615 (by decide +kernel) (by decide +kernel)
theorem kw_616 : (Jvm.Cond.instanceMethod ({ cls := "ObjectMerge$Changes", name := "stepBack", desc := "()Z" } : Jvm.MethodName)) ∈ wB := kwB 616 (by decide +kernel) (by decide +kernel)
theorem kw_617 : (Jvm.Cond.selects "ObjectMerge$Changes" ({ cls := "ObjectMerge$Changes", name := "stepBack", desc := "()Z" } : Jvm.MethodName) ({ cls := "ObjectMerge$Changes", name := "stepBack", desc := "()Z" } : Jvm.MethodName)) ∈ wB := kwB 617 (by decide +kernel) (by decide +kernel)
theorem kw_618 : (Jvm.Cond.code ({ cls := "ObjectMerge$Changes", name := "stepBack", desc := "()Z" } : Jvm.MethodName) prog_3_method_3_code (1 : Nat) (Option.some Jvm.ClassFile.FieldType.boolean)) ∈ wB := kwB 618 (by decide +kernel) (by decide +kernel)
theorem kw_619 : (Jvm.Cond.methodLink "ObjectMerge$Session" (58 : Nat) ({ cls := "ObjectMerge$Changes", name := "changedObject", desc := "()I" } : Jvm.MethodName)) ∈ wB := kwB 619 (by decide +kernel) (by decide +kernel)
theorem kw_620 : (Jvm.Cond.instanceMethod ({ cls := "ObjectMerge$Changes", name := "changedObject", desc := "()I" } : Jvm.MethodName)) ∈ wB := kwB 620 (by decide +kernel) (by decide +kernel)
theorem kw_621 : (Jvm.Cond.selects "ObjectMerge$Changes" ({ cls := "ObjectMerge$Changes", name := "changedObject", desc := "()I" } : Jvm.MethodName) ({ cls := "ObjectMerge$Changes", name := "changedObject", desc := "()I" } : Jvm.MethodName)) ∈ wB := kwB 621 (by decide +kernel) (by decide +kernel)
theorem kw_622 : (Jvm.Cond.code ({ cls := "ObjectMerge$Changes", name := "changedObject", desc := "()I" } : Jvm.MethodName) prog_3_method_4_code (1 : Nat) (Option.some Jvm.ClassFile.FieldType.int)) ∈ wB := kwB 622 (by decide +kernel) (by decide +kernel)
theorem kw_623 : (Jvm.Cond.methodLink "ObjectMerge$Session" (62 : Nat) ({ cls := "ObjectMerge$Changes", name := "rowBefore", desc := "()LObjectMerge$Row;" } : Jvm.MethodName)) ∈ wB := kwB 623 (by decide +kernel) (by decide +kernel)
theorem kw_624 : (Jvm.Cond.instanceMethod ({ cls := "ObjectMerge$Changes", name := "rowBefore", desc := "()LObjectMerge$Row;" } : Jvm.MethodName)) ∈ wB := kwB 624 (by decide +kernel) (by decide +kernel)
theorem kw_625 : (Jvm.Cond.selects "ObjectMerge$Changes" ({ cls := "ObjectMerge$Changes", name := "rowBefore", desc := "()LObjectMerge$Row;" } : Jvm.MethodName) ({ cls := "ObjectMerge$Changes", name := "rowBefore", desc := "()LObjectMerge$Row;" } : Jvm.MethodName)) ∈ wB := kwB 625 (by decide +kernel) (by decide +kernel)
theorem kw_626 : (Jvm.Cond.code ({ cls := "ObjectMerge$Changes", name := "rowBefore", desc := "()LObjectMerge$Row;" } : Jvm.MethodName) prog_3_method_5_code (1 : Nat) (Option.some (Jvm.ClassFile.FieldType.object "ObjectMerge$Row"))) ∈ wB := kwB 626 (by decide +kernel) (by decide +kernel)
theorem kw_627 : (Jvm.Cond.methodLink "ObjectMergeLaw" (138 : Nat) ({ cls := "ObjectMergeLaw", name := "branch", desc := "(LObjectMerge;I[J)I" } : Jvm.MethodName)) ∈ wB := kwB 627 (by decide +kernel) (by decide +kernel)
theorem kw_628 : (Jvm.Cond.static ({ cls := "ObjectMergeLaw", name := "branch", desc := "(LObjectMerge;I[J)I" } : Jvm.MethodName)) ∈ wB := kwB 628 (by decide +kernel) (by decide +kernel)
theorem kw_629 : (Jvm.Cond.codeWith ({ cls := "ObjectMergeLaw", name := "branch", desc := "(LObjectMerge;I[J)I" } : Jvm.MethodName) method_16_code (4 : Nat) (Option.some Jvm.ClassFile.FieldType.int) [((0 : Nat), (9 : Nat), (12 : Nat), (19 : Nat))]) ∈ wB := kwB 629 (by decide +kernel) (by decide +kernel)
theorem kw_630 : (Jvm.Cond.methodLink "ObjectMergeLaw" (63 : Nat) ({ cls := "ObjectMerge", name := "branch", desc := "(I)I" } : Jvm.MethodName)) ∈ wB := kwB 630 (by decide +kernel) (by decide +kernel)
theorem kw_631 : (Jvm.Cond.instanceMethod ({ cls := "ObjectMerge", name := "branch", desc := "(I)I" } : Jvm.MethodName)) ∈ wB := kwB 631 (by decide +kernel) (by decide +kernel)
theorem kw_632 : (Jvm.Cond.selects "ObjectMerge" ({ cls := "ObjectMerge", name := "branch", desc := "(I)I" } : Jvm.MethodName) ({ cls := "ObjectMerge", name := "branch", desc := "(I)I" } : Jvm.MethodName)) ∈ wB := kwB 632 (by decide +kernel) (by decide +kernel)
theorem kw_633 : (Jvm.Cond.code ({ cls := "ObjectMerge", name := "branch", desc := "(I)I" } : Jvm.MethodName) prog_1_method_17_code (3 : Nat) (Option.some Jvm.ClassFile.FieldType.int)) ∈ wB := kwB 633 (by decide +kernel) (by decide +kernel)
theorem kw_634 : (Jvm.Cond.methodLink "ObjectMergeLaw" (141 : Nat) ({ cls := "ObjectMergeLaw", name := "play", desc := "(LObjectMerge;JI[J)I" } : Jvm.MethodName)) ∈ wB := kwB 634 (by decide +kernel) (by decide +kernel)
theorem kw_635 : (Jvm.Cond.static ({ cls := "ObjectMergeLaw", name := "play", desc := "(LObjectMerge;JI[J)I" } : Jvm.MethodName)) ∈ wB := kwB 635 (by decide +kernel) (by decide +kernel)
theorem kw_636 : (Jvm.Cond.codeWith ({ cls := "ObjectMergeLaw", name := "play", desc := "(LObjectMerge;JI[J)I" } : Jvm.MethodName) method_17_code (6 : Nat) (Option.some Jvm.ClassFile.FieldType.int) [((0 : Nat), (11 : Nat), (14 : Nat), (13 : Nat))]) ∈ wB := kwB 636 (by decide +kernel) (by decide +kernel)
theorem kw_637 : (Jvm.Cond.methodLink "ObjectMergeLaw" (66 : Nat) ({ cls := "ObjectMerge", name := "play", desc := "(JI)I" } : Jvm.MethodName)) ∈ wB := kwB 637 (by decide +kernel) (by decide +kernel)
theorem kw_638 : (Jvm.Cond.instanceMethod ({ cls := "ObjectMerge", name := "play", desc := "(JI)I" } : Jvm.MethodName)) ∈ wB := kwB 638 (by decide +kernel) (by decide +kernel)
theorem kw_639 : (Jvm.Cond.selects "ObjectMerge" ({ cls := "ObjectMerge", name := "play", desc := "(JI)I" } : Jvm.MethodName) ({ cls := "ObjectMerge", name := "play", desc := "(JI)I" } : Jvm.MethodName)) ∈ wB := kwB 639 (by decide +kernel) (by decide +kernel)
theorem kw_640 : (Jvm.Cond.code ({ cls := "ObjectMerge", name := "play", desc := "(JI)I" } : Jvm.MethodName) prog_1_method_18_code (8 : Nat) (Option.some Jvm.ClassFile.FieldType.int)) ∈ wB := kwB 640 (by decide +kernel) (by decide +kernel)
theorem kw_642 : (Jvm.Cond.classLink "ObjectMerge" (209 : Nat) "ObjectMerge$Draw") ∈ wB := kwB 642 (by decide +kernel) (by decide +kernel)
theorem kw_643 : (Jvm.Cond.instantiable "ObjectMerge$Draw" (1 : Nat)) ∈ wB := kwB 643 (by decide +kernel) (by decide +kernel)
theorem kw_644 : (Jvm.Cond.methodLink "ObjectMerge" (211 : Nat) ({ cls := "ObjectMerge$Draw", name := "<init>", desc := "(J)V" } : Jvm.MethodName)) ∈ wB := kwB 644 (by decide +kernel) (by decide +kernel)
theorem kw_645 : (Jvm.Cond.instanceMethod ({ cls := "ObjectMerge$Draw", name := "<init>", desc := "(J)V" } : Jvm.MethodName)) ∈ wB := kwB 645 (by decide +kernel) (by decide +kernel)
theorem kw_646 : (Jvm.Cond.code ({ cls := "ObjectMerge$Draw", name := "<init>", desc := "(J)V" } : Jvm.MethodName) prog_5_method_1_code (3 : Nat) (Option.none : Option Jvm.ClassFile.FieldType)) ∈ wB := kwB 646 (by decide +kernel) (by decide +kernel)
theorem kw_647 : (Jvm.Cond.methodLink "ObjectMerge$Draw" (1 : Nat) ({ cls := "java/lang/Object", name := "<init>", desc := "()V" } : Jvm.MethodName)) ∈ wB := kwB 647 (by decide +kernel) (by decide +kernel)
theorem kw_648 : (Jvm.Cond.fieldLink "ObjectMerge$Draw" (7 : Nat) "ObjectMerge$Draw" "s" "J") ∈ wB := kwB 648 (by decide +kernel) (by decide +kernel)
theorem kw_649 : (Jvm.Cond.lays "ObjectMerge$Draw" "ObjectMerge$Draw" "s" "J") ∈ wB := kwB 649 (by decide +kernel) (by decide +kernel)
theorem kw_652 : (Jvm.Cond.methodLink "ObjectMerge" (214 : Nat) ({ cls := "ObjectMerge", name := "playTurn", desc := "(LObjectMerge$Session;LObjectMerge$Draw;)Z" } : Jvm.MethodName)) ∈ wB := kwB 652 (by decide +kernel) (by decide +kernel)
theorem kw_654 : (Jvm.Cond.instanceMethod ({ cls := "ObjectMerge", name := "playTurn", desc := "(LObjectMerge$Session;LObjectMerge$Draw;)Z" } : Jvm.MethodName)) ∈ wB := kwB 654 (by decide +kernel) (by decide +kernel)
theorem kw_655 : (Jvm.Cond.code ({ cls := "ObjectMerge", name := "playTurn", desc := "(LObjectMerge$Session;LObjectMerge$Draw;)Z" } : Jvm.MethodName) prog_1_method_32_code (8 : Nat) (Option.some Jvm.ClassFile.FieldType.boolean)) ∈ wB := kwB 655 (by decide +kernel) (by decide +kernel)
theorem kw_656 : (Jvm.Cond.methodLink "ObjectMerge" (265 : Nat) ({ cls := "ObjectMerge$Draw", name := "below", desc := "(I)I" } : Jvm.MethodName)) ∈ wB := kwB 656 (by decide +kernel) (by decide +kernel)
theorem kw_657 : (Jvm.Cond.instanceMethod ({ cls := "ObjectMerge$Draw", name := "below", desc := "(I)I" } : Jvm.MethodName)) ∈ wB := kwB 657 (by decide +kernel) (by decide +kernel)
theorem kw_658 : (Jvm.Cond.selects "ObjectMerge$Draw" ({ cls := "ObjectMerge$Draw", name := "below", desc := "(I)I" } : Jvm.MethodName) ({ cls := "ObjectMerge$Draw", name := "below", desc := "(I)I" } : Jvm.MethodName)) ∈ wB := kwB 658 (by decide +kernel) (by decide +kernel)
theorem kw_659 : (Jvm.Cond.code ({ cls := "ObjectMerge$Draw", name := "below", desc := "(I)I" } : Jvm.MethodName) prog_5_method_2_code (2 : Nat) (Option.some Jvm.ClassFile.FieldType.int)) ∈ wB := kwB 659 (by decide +kernel) (by decide +kernel)
theorem kw_660 : (Jvm.Cond.constantLong "ObjectMerge$Draw" (13 : Nat) (6364136223846793005 : Int64)) ∈ wB := kwB 660 (by decide +kernel) (by decide +kernel)
theorem kw_661 : (Jvm.Cond.constantLong "ObjectMerge$Draw" (15 : Nat) (1442695040888963407 : Int64)) ∈ wB := kwB 661 (by decide +kernel) (by decide +kernel)
theorem kw_662 : (Jvm.Cond.methodLink "ObjectMergeLaw" (145 : Nat) ({ cls := "ObjectMergeLaw", name := "mark", desc := "(LObjectMerge;II[J)I" } : Jvm.MethodName)) ∈ wB := kwB 662 (by decide +kernel) (by decide +kernel)
theorem kw_663 : (Jvm.Cond.static ({ cls := "ObjectMergeLaw", name := "mark", desc := "(LObjectMerge;II[J)I" } : Jvm.MethodName)) ∈ wB := kwB 663 (by decide +kernel) (by decide +kernel)
theorem kw_664 : (Jvm.Cond.codeWith ({ cls := "ObjectMergeLaw", name := "mark", desc := "(LObjectMerge;II[J)I" } : Jvm.MethodName) method_18_code (5 : Nat) (Option.some Jvm.ClassFile.FieldType.int) [((0 : Nat), (10 : Nat), (13 : Nat), (19 : Nat)), ((0 : Nat), (10 : Nat), (17 : Nat), (13 : Nat))]) ∈ wB := kwB 664 (by decide +kernel) (by decide +kernel)
theorem kw_665 : (Jvm.Cond.methodLink "ObjectMergeLaw" (70 : Nat) ({ cls := "ObjectMerge", name := "mark", desc := "(II)I" } : Jvm.MethodName)) ∈ wB := kwB 665 (by decide +kernel) (by decide +kernel)
theorem kw_666 : (Jvm.Cond.instanceMethod ({ cls := "ObjectMerge", name := "mark", desc := "(II)I" } : Jvm.MethodName)) ∈ wB := kwB 666 (by decide +kernel) (by decide +kernel)
theorem kw_667 : (Jvm.Cond.selects "ObjectMerge" ({ cls := "ObjectMerge", name := "mark", desc := "(II)I" } : Jvm.MethodName) ({ cls := "ObjectMerge", name := "mark", desc := "(II)I" } : Jvm.MethodName)) ∈ wB := kwB 667 (by decide +kernel) (by decide +kernel)
theorem kw_668 : (Jvm.Cond.code ({ cls := "ObjectMerge", name := "mark", desc := "(II)I" } : Jvm.MethodName) prog_1_method_19_code (3 : Nat) (Option.some Jvm.ClassFile.FieldType.int)) ∈ wB := kwB 668 (by decide +kernel) (by decide +kernel)
theorem kw_671 : (Jvm.Cond.methodLink "ObjectMerge" (222 : Nat) ({ cls := "java/lang/Integer", name := "bitCount", desc := "(I)I" } : Jvm.MethodName)) ∈ wB := kwB 671 (by decide +kernel) (by decide +kernel)
theorem kw_672 : (Jvm.Cond.static ({ cls := "java/lang/Integer", name := "bitCount", desc := "(I)I" } : Jvm.MethodName)) ∈ wB := kwB 672 (by decide +kernel) (by decide +kernel)
theorem kw_673 : (Jvm.Cond.code ({ cls := "java/lang/Integer", name := "bitCount", desc := "(I)I" } : Jvm.MethodName) prog_17_method_49_code (1 : Nat) (Option.some Jvm.ClassFile.FieldType.int)) ∈ wB := kwB 673 (by decide +kernel) (by decide +kernel)
theorem kw_674 : (Jvm.Cond.constant "java/lang/Integer" (265 : Nat) (1431655765 : Int32)) ∈ wB := kwB 674 (by decide +kernel) (by decide +kernel)
theorem kw_675 : (Jvm.Cond.constant "java/lang/Integer" (266 : Nat) (858993459 : Int32)) ∈ wB := kwB 675 (by decide +kernel) (by decide +kernel)
theorem kw_676 : (Jvm.Cond.constant "java/lang/Integer" (267 : Nat) (252645135 : Int32)) ∈ wB := kwB 676 (by decide +kernel) (by decide +kernel)
theorem kw_677 : (Jvm.Cond.classLink "ObjectMergeLaw" (74 : Nat) "ObjectMergeModel") ∈ wB := kwB 677 (by decide +kernel) (by decide +kernel)
theorem kw_678 : (Jvm.Cond.instantiable "ObjectMergeModel" (28 : Nat)) ∈ wB := kwB 678 (by decide +kernel) (by decide +kernel)
theorem kw_679 : (Jvm.Cond.methodLink "ObjectMergeLaw" (76 : Nat) ({ cls := "ObjectMergeModel", name := "<init>", desc := "()V" } : Jvm.MethodName)) ∈ wB := kwB 679 (by decide +kernel) (by decide +kernel)
theorem kw_680 : (Jvm.Cond.instanceMethod ({ cls := "ObjectMergeModel", name := "<init>", desc := "()V" } : Jvm.MethodName)) ∈ wB := kwB 680 (by decide +kernel) (by decide +kernel)
theorem kw_681 : (Jvm.Cond.code ({ cls := "ObjectMergeModel", name := "<init>", desc := "()V" } : Jvm.MethodName) prog_12_method_1_code (1 : Nat) (Option.none : Option Jvm.ClassFile.FieldType)) ∈ wB := kwB 681 (by decide +kernel) (by decide +kernel)
theorem kw_682 : (Jvm.Cond.methodLink "ObjectMergeModel" (1 : Nat) ({ cls := "java/lang/Object", name := "<init>", desc := "()V" } : Jvm.MethodName)) ∈ wB := kwB 682 (by decide +kernel) (by decide +kernel)
theorem kw_683 : (Jvm.Cond.fieldLink "ObjectMergeModel" (76 : Nat) "ObjectMergeModel" "thrown" "I") ∈ wB := kwB 683 (by decide +kernel) (by decide +kernel)
theorem kw_684 : (Jvm.Cond.fieldLink "ObjectMergeModel" (79 : Nat) "ObjectMergeModel" "objects" "I") ∈ wB := kwB 684 (by decide +kernel) (by decide +kernel)
theorem kw_685 : (Jvm.Cond.fieldLink "ObjectMergeModel" (7 : Nat) "ObjectMergeModel" "kinds" "[I") ∈ wB := kwB 685 (by decide +kernel) (by decide +kernel)
theorem kw_686 : (Jvm.Cond.fieldLink "ObjectMergeModel" (13 : Nat) "ObjectMergeModel" "versions" "I") ∈ wB := kwB 686 (by decide +kernel) (by decide +kernel)
theorem kw_687 : (Jvm.Cond.fieldLink "ObjectMergeModel" (17 : Nat) "ObjectMergeModel" "has" "[Z") ∈ wB := kwB 687 (by decide +kernel) (by decide +kernel)
theorem kw_688 : (Jvm.Cond.fieldLink "ObjectMergeModel" (21 : Nat) "ObjectMergeModel" "fields" "[J") ∈ wB := kwB 688 (by decide +kernel) (by decide +kernel)
theorem kw_689 : (Jvm.Cond.fieldLink "ObjectMergeModel" (82 : Nat) "ObjectMergeModel" "sessions" "I") ∈ wB := kwB 689 (by decide +kernel) (by decide +kernel)
theorem kw_690 : (Jvm.Cond.fieldLink "ObjectMergeModel" (25 : Nat) "ObjectMergeModel" "bases" "[I") ∈ wB := kwB 690 (by decide +kernel) (by decide +kernel)
theorem kw_691 : (Jvm.Cond.fieldLink "ObjectMergeModel" (28 : Nat) "ObjectMergeModel" "open" "[Z") ∈ wB := kwB 691 (by decide +kernel) (by decide +kernel)
theorem kw_692 : (Jvm.Cond.fieldLink "ObjectMergeModel" (31 : Nat) "ObjectMergeModel" "own" "[Z") ∈ wB := kwB 692 (by decide +kernel) (by decide +kernel)
theorem kw_693 : (Jvm.Cond.fieldLink "ObjectMergeModel" (34 : Nat) "ObjectMergeModel" "values" "[J") ∈ wB := kwB 693 (by decide +kernel) (by decide +kernel)
theorem kw_694 : (Jvm.Cond.fieldLink "ObjectMergeModel" (37 : Nat) "ObjectMergeModel" "changes" "[I") ∈ wB := kwB 694 (by decide +kernel) (by decide +kernel)
theorem kw_695 : (Jvm.Cond.fieldLink "ObjectMergeModel" (40 : Nat) "ObjectMergeModel" "changedObject" "[I") ∈ wB := kwB 695 (by decide +kernel) (by decide +kernel)
theorem kw_696 : (Jvm.Cond.fieldLink "ObjectMergeModel" (43 : Nat) "ObjectMergeModel" "changedField" "[I") ∈ wB := kwB 696 (by decide +kernel) (by decide +kernel)
theorem kw_697 : (Jvm.Cond.fieldLink "ObjectMergeModel" (46 : Nat) "ObjectMergeModel" "changedHad" "[Z") ∈ wB := kwB 697 (by decide +kernel) (by decide +kernel)
theorem kw_698 : (Jvm.Cond.fieldLink "ObjectMergeModel" (49 : Nat) "ObjectMergeModel" "changedValue" "[J") ∈ wB := kwB 698 (by decide +kernel) (by decide +kernel)
theorem kw_699 : (Jvm.Cond.fieldLink "ObjectMergeModel" (52 : Nat) "ObjectMergeModel" "settled" "[I") ∈ wB := kwB 699 (by decide +kernel) (by decide +kernel)
theorem kw_700 : (Jvm.Cond.fieldLink "ObjectMergeModel" (167 : Nat) "ObjectMergeModel" "joined" "I") ∈ wB := kwB 700 (by decide +kernel) (by decide +kernel)
theorem kw_701 : (Jvm.Cond.fieldLink "ObjectMergeModel" (135 : Nat) "ObjectMergeModel" "conflicts" "I") ∈ wB := kwB 701 (by decide +kernel) (by decide +kernel)
theorem kw_702 : (Jvm.Cond.fieldLink "ObjectMergeModel" (55 : Nat) "ObjectMergeModel" "conflictAt" "[I") ∈ wB := kwB 702 (by decide +kernel) (by decide +kernel)
theorem kw_703 : (Jvm.Cond.fieldLink "ObjectMergeModel" (100 : Nat) "ObjectMergeModel" "locks" "I") ∈ wB := kwB 703 (by decide +kernel) (by decide +kernel)
theorem kw_704 : (Jvm.Cond.fieldLink "ObjectMergeModel" (58 : Nat) "ObjectMergeModel" "lockOf" "[I") ∈ wB := kwB 704 (by decide +kernel) (by decide +kernel)
theorem kw_705 : (Jvm.Cond.fieldLink "ObjectMergeModel" (61 : Nat) "ObjectMergeModel" "areas" "[J") ∈ wB := kwB 705 (by decide +kernel) (by decide +kernel)
theorem kw_706 : (Jvm.Cond.fieldLink "ObjectMergeModel" (203 : Nat) "ObjectMergeModel" "rules" "I") ∈ wB := kwB 706 (by decide +kernel) (by decide +kernel)
theorem kw_707 : (Jvm.Cond.fieldLink "ObjectMergeModel" (64 : Nat) "ObjectMergeModel" "ruleA" "[I") ∈ wB := kwB 707 (by decide +kernel) (by decide +kernel)
theorem kw_708 : (Jvm.Cond.fieldLink "ObjectMergeModel" (67 : Nat) "ObjectMergeModel" "ruleB" "[I") ∈ wB := kwB 708 (by decide +kernel) (by decide +kernel)
theorem kw_709 : (Jvm.Cond.fieldLink "ObjectMergeModel" (70 : Nat) "ObjectMergeModel" "ruleDistance" "[J") ∈ wB := kwB 709 (by decide +kernel) (by decide +kernel)
theorem kw_710 : (Jvm.Cond.fieldLink "ObjectMergeModel" (73 : Nat) "ObjectMergeModel" "marks" "[I") ∈ wB := kwB 710 (by decide +kernel) (by decide +kernel)
theorem kw_711 : (Jvm.Cond.lays "ObjectMergeModel" "ObjectMergeModel" "thrown" "I") ∈ wB := kwB 711 (by decide +kernel) (by decide +kernel)
theorem kw_713 : (Jvm.Cond.lays "ObjectMergeModel" "ObjectMergeModel" "objects" "I") ∈ wB := kwB 713 (by decide +kernel) (by decide +kernel)
theorem kw_715 : (Jvm.Cond.laysFinal "ObjectMergeModel" "ObjectMergeModel" "kinds" "[I") ∈ wB := kwB 715 (by decide +kernel) (by decide +kernel)
theorem kw_717 : (Jvm.Cond.lays "ObjectMergeModel" "ObjectMergeModel" "versions" "I") ∈ wB := kwB 717 (by decide +kernel) (by decide +kernel)
theorem kw_719 : (Jvm.Cond.laysFinal "ObjectMergeModel" "ObjectMergeModel" "has" "[Z") ∈ wB := kwB 719 (by decide +kernel) (by decide +kernel)
theorem kw_721 : (Jvm.Cond.laysFinal "ObjectMergeModel" "ObjectMergeModel" "fields" "[J") ∈ wB := kwB 721 (by decide +kernel) (by decide +kernel)
theorem kw_723 : (Jvm.Cond.lays "ObjectMergeModel" "ObjectMergeModel" "sessions" "I") ∈ wB := kwB 723 (by decide +kernel) (by decide +kernel)
theorem kw_725 : (Jvm.Cond.laysFinal "ObjectMergeModel" "ObjectMergeModel" "bases" "[I") ∈ wB := kwB 725 (by decide +kernel) (by decide +kernel)
theorem kw_727 : (Jvm.Cond.laysFinal "ObjectMergeModel" "ObjectMergeModel" "open" "[Z") ∈ wB := kwB 727 (by decide +kernel) (by decide +kernel)
theorem kw_729 : (Jvm.Cond.laysFinal "ObjectMergeModel" "ObjectMergeModel" "own" "[Z") ∈ wB := kwB 729 (by decide +kernel) (by decide +kernel)
theorem kw_731 : (Jvm.Cond.laysFinal "ObjectMergeModel" "ObjectMergeModel" "values" "[J") ∈ wB := kwB 731 (by decide +kernel) (by decide +kernel)
theorem kw_733 : (Jvm.Cond.laysFinal "ObjectMergeModel" "ObjectMergeModel" "changes" "[I") ∈ wB := kwB 733 (by decide +kernel) (by decide +kernel)
theorem kw_735 : (Jvm.Cond.laysFinal "ObjectMergeModel" "ObjectMergeModel" "changedObject" "[I") ∈ wB := kwB 735 (by decide +kernel) (by decide +kernel)
theorem kw_737 : (Jvm.Cond.laysFinal "ObjectMergeModel" "ObjectMergeModel" "changedField" "[I") ∈ wB := kwB 737 (by decide +kernel) (by decide +kernel)
theorem kw_739 : (Jvm.Cond.laysFinal "ObjectMergeModel" "ObjectMergeModel" "changedHad" "[Z") ∈ wB := kwB 739 (by decide +kernel) (by decide +kernel)
theorem kw_741 : (Jvm.Cond.laysFinal "ObjectMergeModel" "ObjectMergeModel" "changedValue" "[J") ∈ wB := kwB 741 (by decide +kernel) (by decide +kernel)
theorem kw_743 : (Jvm.Cond.laysFinal "ObjectMergeModel" "ObjectMergeModel" "settled" "[I") ∈ wB := kwB 743 (by decide +kernel) (by decide +kernel)
theorem kw_745 : (Jvm.Cond.lays "ObjectMergeModel" "ObjectMergeModel" "joined" "I") ∈ wB := kwB 745 (by decide +kernel) (by decide +kernel)
theorem kw_747 : (Jvm.Cond.lays "ObjectMergeModel" "ObjectMergeModel" "conflicts" "I") ∈ wB := kwB 747 (by decide +kernel) (by decide +kernel)
theorem kw_749 : (Jvm.Cond.laysFinal "ObjectMergeModel" "ObjectMergeModel" "conflictAt" "[I") ∈ wB := kwB 749 (by decide +kernel) (by decide +kernel)
theorem kw_751 : (Jvm.Cond.lays "ObjectMergeModel" "ObjectMergeModel" "locks" "I") ∈ wB := kwB 751 (by decide +kernel) (by decide +kernel)
theorem kw_753 : (Jvm.Cond.laysFinal "ObjectMergeModel" "ObjectMergeModel" "lockOf" "[I") ∈ wB := kwB 753 (by decide +kernel) (by decide +kernel)
theorem kw_755 : (Jvm.Cond.laysFinal "ObjectMergeModel" "ObjectMergeModel" "areas" "[J") ∈ wB := kwB 755 (by decide +kernel) (by decide +kernel)
theorem kw_757 : (Jvm.Cond.lays "ObjectMergeModel" "ObjectMergeModel" "rules" "I") ∈ wB := kwB 757 (by decide +kernel) (by decide +kernel)
theorem kw_759 : (Jvm.Cond.laysFinal "ObjectMergeModel" "ObjectMergeModel" "ruleA" "[I") ∈ wB := kwB 759 (by decide +kernel) (by decide +kernel)
theorem kw_761 : (Jvm.Cond.laysFinal "ObjectMergeModel" "ObjectMergeModel" "ruleB" "[I") ∈ wB := kwB 761 (by decide +kernel) (by decide +kernel)
theorem kw_763 : (Jvm.Cond.laysFinal "ObjectMergeModel" "ObjectMergeModel" "ruleDistance" "[J") ∈ wB := kwB 763 (by decide +kernel) (by decide +kernel)
theorem kw_765 : (Jvm.Cond.laysFinal "ObjectMergeModel" "ObjectMergeModel" "marks" "[I") ∈ wB := kwB 765 (by decide +kernel) (by decide +kernel)
theorem kw_768 : (Jvm.Cond.arrayClass Jvm.ClassFile.FieldType.boolean) ∈ wB := kwB 768 (by decide +kernel) (by decide +kernel)
theorem kw_769 : (Jvm.Cond.methodLink "ObjectMergeLaw" (83 : Nat) ({ cls := "ObjectMergeModel", name := "thrown", desc := "()I" } : Jvm.MethodName)) ∈ wB := kwB 769 (by decide +kernel) (by decide +kernel)
theorem kw_770 : (Jvm.Cond.instanceMethod ({ cls := "ObjectMergeModel", name := "thrown", desc := "()I" } : Jvm.MethodName)) ∈ wB := kwB 770 (by decide +kernel) (by decide +kernel)
theorem kw_771 : (Jvm.Cond.selects "ObjectMergeModel" ({ cls := "ObjectMergeModel", name := "thrown", desc := "()I" } : Jvm.MethodName) ({ cls := "ObjectMergeModel", name := "thrown", desc := "()I" } : Jvm.MethodName)) ∈ wB := kwB 771 (by decide +kernel) (by decide +kernel)
theorem kw_772 : (Jvm.Cond.code ({ cls := "ObjectMergeModel", name := "thrown", desc := "()I" } : Jvm.MethodName) prog_12_method_2_code (1 : Nat) (Option.some Jvm.ClassFile.FieldType.int)) ∈ wB := kwB 772 (by decide +kernel) (by decide +kernel)
theorem kw_773 : (Jvm.Cond.methodLink "ObjectMergeLaw" (82 : Nat) ({ cls := "ObjectMergeModel", name := "object", desc := "(I)I" } : Jvm.MethodName)) ∈ wB := kwB 773 (by decide +kernel) (by decide +kernel)
theorem kw_774 : (Jvm.Cond.instanceMethod ({ cls := "ObjectMergeModel", name := "object", desc := "(I)I" } : Jvm.MethodName)) ∈ wB := kwB 774 (by decide +kernel) (by decide +kernel)
theorem kw_775 : (Jvm.Cond.selects "ObjectMergeModel" ({ cls := "ObjectMergeModel", name := "object", desc := "(I)I" } : Jvm.MethodName) ({ cls := "ObjectMergeModel", name := "object", desc := "(I)I" } : Jvm.MethodName)) ∈ wB := kwB 775 (by decide +kernel) (by decide +kernel)
theorem kw_776 : (Jvm.Cond.code ({ cls := "ObjectMergeModel", name := "object", desc := "(I)I" } : Jvm.MethodName) prog_12_method_9_code (2 : Nat) (Option.some Jvm.ClassFile.FieldType.int)) ∈ wB := kwB 776 (by decide +kernel) (by decide +kernel)
theorem kw_777 : (Jvm.Cond.methodLink "ObjectMergeModel" (85 : Nat) ({ cls := "ObjectMergeModel", name := "isKind", desc := "(I)Z" } : Jvm.MethodName)) ∈ wB := kwB 777 (by decide +kernel) (by decide +kernel)
theorem kw_778 : (Jvm.Cond.static ({ cls := "ObjectMergeModel", name := "isKind", desc := "(I)Z" } : Jvm.MethodName)) ∈ wB := kwB 778 (by decide +kernel) (by decide +kernel)
theorem kw_779 : (Jvm.Cond.code ({ cls := "ObjectMergeModel", name := "isKind", desc := "(I)Z" } : Jvm.MethodName) prog_12_method_4_code (1 : Nat) (Option.some Jvm.ClassFile.FieldType.boolean)) ∈ wB := kwB 779 (by decide +kernel) (by decide +kernel)
theorem kw_780 : (Jvm.Cond.methodLink "ObjectMergeModel" (89 : Nat) ({ cls := "ObjectMergeModel", name := "copyHead", desc := "()V" } : Jvm.MethodName)) ∈ wB := kwB 780 (by decide +kernel) (by decide +kernel)
theorem kw_782 : (Jvm.Cond.instanceMethod ({ cls := "ObjectMergeModel", name := "copyHead", desc := "()V" } : Jvm.MethodName)) ∈ wB := kwB 782 (by decide +kernel) (by decide +kernel)
theorem kw_783 : (Jvm.Cond.code ({ cls := "ObjectMergeModel", name := "copyHead", desc := "()V" } : Jvm.MethodName) prog_12_method_8_code (4 : Nat) (Option.none : Option Jvm.ClassFile.FieldType)) ∈ wB := kwB 783 (by decide +kernel) (by decide +kernel)
theorem kw_784 : (Jvm.Cond.methodLink "ObjectMergeModel" (92 : Nat) ({ cls := "ObjectMergeModel", name := "head", desc := "()I" } : Jvm.MethodName)) ∈ wB := kwB 784 (by decide +kernel) (by decide +kernel)
theorem kw_786 : (Jvm.Cond.instanceMethod ({ cls := "ObjectMergeModel", name := "head", desc := "()I" } : Jvm.MethodName)) ∈ wB := kwB 786 (by decide +kernel) (by decide +kernel)
theorem kw_787 : (Jvm.Cond.code ({ cls := "ObjectMergeModel", name := "head", desc := "()I" } : Jvm.MethodName) prog_12_method_3_code (1 : Nat) (Option.some Jvm.ClassFile.FieldType.int)) ∈ wB := kwB 787 (by decide +kernel) (by decide +kernel)
theorem kw_788 : (Jvm.Cond.methodLink "ObjectMergeLaw" (90 : Nat) ({ cls := "ObjectMergeModel", name := "session", desc := "()I" } : Jvm.MethodName)) ∈ wB := kwB 788 (by decide +kernel) (by decide +kernel)
theorem kw_789 : (Jvm.Cond.instanceMethod ({ cls := "ObjectMergeModel", name := "session", desc := "()I" } : Jvm.MethodName)) ∈ wB := kwB 789 (by decide +kernel) (by decide +kernel)
theorem kw_790 : (Jvm.Cond.selects "ObjectMergeModel" ({ cls := "ObjectMergeModel", name := "session", desc := "()I" } : Jvm.MethodName) ({ cls := "ObjectMergeModel", name := "session", desc := "()I" } : Jvm.MethodName)) ∈ wB := kwB 790 (by decide +kernel) (by decide +kernel)
theorem kw_791 : (Jvm.Cond.code ({ cls := "ObjectMergeModel", name := "session", desc := "()I" } : Jvm.MethodName) prog_12_method_11_code (1 : Nat) (Option.some Jvm.ClassFile.FieldType.int)) ∈ wB := kwB 791 (by decide +kernel) (by decide +kernel)
theorem kw_792 : (Jvm.Cond.methodLink "ObjectMergeModel" (96 : Nat) ({ cls := "ObjectMergeModel", name := "begin", desc := "(I)I" } : Jvm.MethodName)) ∈ wB := kwB 792 (by decide +kernel) (by decide +kernel)
theorem kw_794 : (Jvm.Cond.instanceMethod ({ cls := "ObjectMergeModel", name := "begin", desc := "(I)I" } : Jvm.MethodName)) ∈ wB := kwB 794 (by decide +kernel) (by decide +kernel)
theorem kw_795 : (Jvm.Cond.code ({ cls := "ObjectMergeModel", name := "begin", desc := "(I)I" } : Jvm.MethodName) prog_12_method_10_code (3 : Nat) (Option.some Jvm.ClassFile.FieldType.int)) ∈ wB := kwB 795 (by decide +kernel) (by decide +kernel)
theorem kw_796 : (Jvm.Cond.methodLink "ObjectMergeLaw" (140 : Nat) ({ cls := "ObjectMergeModel", name := "branch", desc := "(I)I" } : Jvm.MethodName)) ∈ wB := kwB 796 (by decide +kernel) (by decide +kernel)
theorem kw_797 : (Jvm.Cond.instanceMethod ({ cls := "ObjectMergeModel", name := "branch", desc := "(I)I" } : Jvm.MethodName)) ∈ wB := kwB 797 (by decide +kernel) (by decide +kernel)
theorem kw_798 : (Jvm.Cond.selects "ObjectMergeModel" ({ cls := "ObjectMergeModel", name := "branch", desc := "(I)I" } : Jvm.MethodName) ({ cls := "ObjectMergeModel", name := "branch", desc := "(I)I" } : Jvm.MethodName)) ∈ wB := kwB 798 (by decide +kernel) (by decide +kernel)
theorem kw_799 : (Jvm.Cond.code ({ cls := "ObjectMergeModel", name := "branch", desc := "(I)I" } : Jvm.MethodName) prog_12_method_12_code (2 : Nat) (Option.some Jvm.ClassFile.FieldType.int)) ∈ wB := kwB 799 (by decide +kernel) (by decide +kernel)
theorem kw_800 : (Jvm.Cond.methodLink "ObjectMergeLaw" (96 : Nat) ({ cls := "ObjectMergeModel", name := "set", desc := "(IIIJ)Z" } : Jvm.MethodName)) ∈ wB := kwB 800 (by decide +kernel) (by decide +kernel)
theorem kw_801 : (Jvm.Cond.instanceMethod ({ cls := "ObjectMergeModel", name := "set", desc := "(IIIJ)Z" } : Jvm.MethodName)) ∈ wB := kwB 801 (by decide +kernel) (by decide +kernel)
theorem kw_802 : (Jvm.Cond.selects "ObjectMergeModel" ({ cls := "ObjectMergeModel", name := "set", desc := "(IIIJ)Z" } : Jvm.MethodName) ({ cls := "ObjectMergeModel", name := "set", desc := "(IIIJ)Z" } : Jvm.MethodName)) ∈ wB := kwB 802 (by decide +kernel) (by decide +kernel)
theorem kw_803 : (Jvm.Cond.code ({ cls := "ObjectMergeModel", name := "set", desc := "(IIIJ)Z" } : Jvm.MethodName) prog_12_method_16_code (7 : Nat) (Option.some Jvm.ClassFile.FieldType.boolean)) ∈ wB := kwB 803 (by decide +kernel) (by decide +kernel)
theorem kw_804 : (Jvm.Cond.methodLink "ObjectMergeModel" (111 : Nat) ({ cls := "ObjectMergeModel", name := "isSession", desc := "(I)Z" } : Jvm.MethodName)) ∈ wB := kwB 804 (by decide +kernel) (by decide +kernel)
theorem kw_806 : (Jvm.Cond.instanceMethod ({ cls := "ObjectMergeModel", name := "isSession", desc := "(I)Z" } : Jvm.MethodName)) ∈ wB := kwB 806 (by decide +kernel) (by decide +kernel)
theorem kw_807 : (Jvm.Cond.code ({ cls := "ObjectMergeModel", name := "isSession", desc := "(I)Z" } : Jvm.MethodName) prog_12_method_6_code (2 : Nat) (Option.some Jvm.ClassFile.FieldType.boolean)) ∈ wB := kwB 807 (by decide +kernel) (by decide +kernel)
theorem kw_808 : (Jvm.Cond.methodLink "ObjectMergeModel" (114 : Nat) ({ cls := "ObjectMergeModel", name := "isObject", desc := "(I)Z" } : Jvm.MethodName)) ∈ wB := kwB 808 (by decide +kernel) (by decide +kernel)
theorem kw_810 : (Jvm.Cond.instanceMethod ({ cls := "ObjectMergeModel", name := "isObject", desc := "(I)Z" } : Jvm.MethodName)) ∈ wB := kwB 810 (by decide +kernel) (by decide +kernel)
theorem kw_811 : (Jvm.Cond.code ({ cls := "ObjectMergeModel", name := "isObject", desc := "(I)Z" } : Jvm.MethodName) prog_12_method_5_code (2 : Nat) (Option.some Jvm.ClassFile.FieldType.boolean)) ∈ wB := kwB 811 (by decide +kernel) (by decide +kernel)
theorem kw_812 : (Jvm.Cond.methodLink "ObjectMergeModel" (117 : Nat) ({ cls := "ObjectMergeModel", name := "isField", desc := "(I)Z" } : Jvm.MethodName)) ∈ wB := kwB 812 (by decide +kernel) (by decide +kernel)
theorem kw_813 : (Jvm.Cond.static ({ cls := "ObjectMergeModel", name := "isField", desc := "(I)Z" } : Jvm.MethodName)) ∈ wB := kwB 813 (by decide +kernel) (by decide +kernel)
theorem kw_814 : (Jvm.Cond.code ({ cls := "ObjectMergeModel", name := "isField", desc := "(I)Z" } : Jvm.MethodName) prog_12_method_7_code (1 : Nat) (Option.some Jvm.ClassFile.FieldType.boolean)) ∈ wB := kwB 814 (by decide +kernel) (by decide +kernel)
theorem kw_815 : (Jvm.Cond.methodLink "ObjectMergeModel" (120 : Nat) ({ cls := "ObjectMergeModel", name := "setsField", desc := "(IIIJ)Z" } : Jvm.MethodName)) ∈ wB := kwB 815 (by decide +kernel) (by decide +kernel)
theorem kw_817 : (Jvm.Cond.instanceMethod ({ cls := "ObjectMergeModel", name := "setsField", desc := "(IIIJ)Z" } : Jvm.MethodName)) ∈ wB := kwB 817 (by decide +kernel) (by decide +kernel)
theorem kw_818 : (Jvm.Cond.code ({ cls := "ObjectMergeModel", name := "setsField", desc := "(IIIJ)Z" } : Jvm.MethodName) prog_12_method_15_code (7 : Nat) (Option.some Jvm.ClassFile.FieldType.boolean)) ∈ wB := kwB 818 (by decide +kernel) (by decide +kernel)
theorem kw_819 : (Jvm.Cond.methodLink "ObjectMergeModel" (103 : Nat) ({ cls := "ObjectMergeModel", name := "isBarred", desc := "(II)Z" } : Jvm.MethodName)) ∈ wB := kwB 819 (by decide +kernel) (by decide +kernel)
theorem kw_821 : (Jvm.Cond.instanceMethod ({ cls := "ObjectMergeModel", name := "isBarred", desc := "(II)Z" } : Jvm.MethodName)) ∈ wB := kwB 821 (by decide +kernel) (by decide +kernel)
theorem kw_822 : (Jvm.Cond.code ({ cls := "ObjectMergeModel", name := "isBarred", desc := "(II)Z" } : Jvm.MethodName) prog_12_method_13_code (9 : Nat) (Option.some Jvm.ClassFile.FieldType.boolean)) ∈ wB := kwB 822 (by decide +kernel) (by decide +kernel)
theorem kw_823 : (Jvm.Cond.methodLink "ObjectMergeModel" (107 : Nat) ({ cls := "ObjectMergeModel", name := "note", desc := "(III)V" } : Jvm.MethodName)) ∈ wB := kwB 823 (by decide +kernel) (by decide +kernel)
theorem kw_825 : (Jvm.Cond.instanceMethod ({ cls := "ObjectMergeModel", name := "note", desc := "(III)V" } : Jvm.MethodName)) ∈ wB := kwB 825 (by decide +kernel) (by decide +kernel)
theorem kw_826 : (Jvm.Cond.code ({ cls := "ObjectMergeModel", name := "note", desc := "(III)V" } : Jvm.MethodName) prog_12_method_14_code (6 : Nat) (Option.none : Option Jvm.ClassFile.FieldType)) ∈ wB := kwB 826 (by decide +kernel) (by decide +kernel)
theorem kw_827 : (Jvm.Cond.methodLink "ObjectMergeLaw" (100 : Nat) ({ cls := "ObjectMergeModel", name := "drop", desc := "(II)Z" } : Jvm.MethodName)) ∈ wB := kwB 827 (by decide +kernel) (by decide +kernel)
theorem kw_828 : (Jvm.Cond.instanceMethod ({ cls := "ObjectMergeModel", name := "drop", desc := "(II)Z" } : Jvm.MethodName)) ∈ wB := kwB 828 (by decide +kernel) (by decide +kernel)
theorem kw_829 : (Jvm.Cond.selects "ObjectMergeModel" ({ cls := "ObjectMergeModel", name := "drop", desc := "(II)Z" } : Jvm.MethodName) ({ cls := "ObjectMergeModel", name := "drop", desc := "(II)Z" } : Jvm.MethodName)) ∈ wB := kwB 829 (by decide +kernel) (by decide +kernel)
theorem kw_830 : (Jvm.Cond.code ({ cls := "ObjectMergeModel", name := "drop", desc := "(II)Z" } : Jvm.MethodName) prog_12_method_17_code (4 : Nat) (Option.some Jvm.ClassFile.FieldType.boolean)) ∈ wB := kwB 830 (by decide +kernel) (by decide +kernel)
theorem kw_831 : (Jvm.Cond.methodLink "ObjectMergeLaw" (103 : Nat) ({ cls := "ObjectMergeModel", name := "make", desc := "(II)I" } : Jvm.MethodName)) ∈ wB := kwB 831 (by decide +kernel) (by decide +kernel)
theorem kw_832 : (Jvm.Cond.instanceMethod ({ cls := "ObjectMergeModel", name := "make", desc := "(II)I" } : Jvm.MethodName)) ∈ wB := kwB 832 (by decide +kernel) (by decide +kernel)
theorem kw_833 : (Jvm.Cond.selects "ObjectMergeModel" ({ cls := "ObjectMergeModel", name := "make", desc := "(II)I" } : Jvm.MethodName) ({ cls := "ObjectMergeModel", name := "make", desc := "(II)I" } : Jvm.MethodName)) ∈ wB := kwB 833 (by decide +kernel) (by decide +kernel)
theorem kw_834 : (Jvm.Cond.code ({ cls := "ObjectMergeModel", name := "make", desc := "(II)I" } : Jvm.MethodName) prog_12_method_18_code (3 : Nat) (Option.some Jvm.ClassFile.FieldType.int)) ∈ wB := kwB 834 (by decide +kernel) (by decide +kernel)
theorem kw_835 : (Jvm.Cond.methodLink "ObjectMergeLaw" (137 : Nat) ({ cls := "ObjectMergeModel", name := "undo", desc := "(I)Z" } : Jvm.MethodName)) ∈ wB := kwB 835 (by decide +kernel) (by decide +kernel)
theorem kw_836 : (Jvm.Cond.instanceMethod ({ cls := "ObjectMergeModel", name := "undo", desc := "(I)Z" } : Jvm.MethodName)) ∈ wB := kwB 836 (by decide +kernel) (by decide +kernel)
theorem kw_837 : (Jvm.Cond.selects "ObjectMergeModel" ({ cls := "ObjectMergeModel", name := "undo", desc := "(I)Z" } : Jvm.MethodName) ({ cls := "ObjectMergeModel", name := "undo", desc := "(I)Z" } : Jvm.MethodName)) ∈ wB := kwB 837 (by decide +kernel) (by decide +kernel)
theorem kw_838 : (Jvm.Cond.code ({ cls := "ObjectMergeModel", name := "undo", desc := "(I)Z" } : Jvm.MethodName) prog_12_method_19_code (4 : Nat) (Option.some Jvm.ClassFile.FieldType.boolean)) ∈ wB := kwB 838 (by decide +kernel) (by decide +kernel)
theorem kw_839 : (Jvm.Cond.methodLink "ObjectMergeLaw" (106 : Nat) ({ cls := "ObjectMergeModel", name := "join", desc := "(I)I" } : Jvm.MethodName)) ∈ wB := kwB 839 (by decide +kernel) (by decide +kernel)
theorem kw_840 : (Jvm.Cond.instanceMethod ({ cls := "ObjectMergeModel", name := "join", desc := "(I)I" } : Jvm.MethodName)) ∈ wB := kwB 840 (by decide +kernel) (by decide +kernel)
theorem kw_841 : (Jvm.Cond.selects "ObjectMergeModel" ({ cls := "ObjectMergeModel", name := "join", desc := "(I)I" } : Jvm.MethodName) ({ cls := "ObjectMergeModel", name := "join", desc := "(I)I" } : Jvm.MethodName)) ∈ wB := kwB 841 (by decide +kernel) (by decide +kernel)
theorem kw_842 : (Jvm.Cond.code ({ cls := "ObjectMergeModel", name := "join", desc := "(I)I" } : Jvm.MethodName) prog_12_method_38_code (2 : Nat) (Option.some Jvm.ClassFile.FieldType.int)) ∈ wB := kwB 842 (by decide +kernel) (by decide +kernel)
theorem kw_843 : (Jvm.Cond.methodLink "ObjectMergeModel" (186 : Nat) ({ cls := "ObjectMergeModel", name := "joins", desc := "(I)I" } : Jvm.MethodName)) ∈ wB := kwB 843 (by decide +kernel) (by decide +kernel)
theorem kw_845 : (Jvm.Cond.instanceMethod ({ cls := "ObjectMergeModel", name := "joins", desc := "(I)I" } : Jvm.MethodName)) ∈ wB := kwB 845 (by decide +kernel) (by decide +kernel)
theorem kw_846 : (Jvm.Cond.code ({ cls := "ObjectMergeModel", name := "joins", desc := "(I)I" } : Jvm.MethodName) prog_12_method_37_code (4 : Nat) (Option.some Jvm.ClassFile.FieldType.int)) ∈ wB := kwB 846 (by decide +kernel) (by decide +kernel)
theorem kw_847 : (Jvm.Cond.methodLink "ObjectMergeModel" (170 : Nat) ({ cls := "ObjectMergeModel", name := "findConflicts", desc := "(II)V" } : Jvm.MethodName)) ∈ wB := kwB 847 (by decide +kernel) (by decide +kernel)
theorem kw_849 : (Jvm.Cond.instanceMethod ({ cls := "ObjectMergeModel", name := "findConflicts", desc := "(II)V" } : Jvm.MethodName)) ∈ wB := kwB 849 (by decide +kernel) (by decide +kernel)
theorem kw_850 : (Jvm.Cond.code ({ cls := "ObjectMergeModel", name := "findConflicts", desc := "(II)V" } : Jvm.MethodName) prog_12_method_29_code (11 : Nat) (Option.none : Option Jvm.ClassFile.FieldType)) ∈ wB := kwB 850 (by decide +kernel) (by decide +kernel)
theorem kw_851 : (Jvm.Cond.methodLink "ObjectMergeModel" (138 : Nat) ({ cls := "ObjectMergeModel", name := "baseHas", desc := "(II)Z" } : Jvm.MethodName)) ∈ wB := kwB 851 (by decide +kernel) (by decide +kernel)
theorem kw_853 : (Jvm.Cond.instanceMethod ({ cls := "ObjectMergeModel", name := "baseHas", desc := "(II)Z" } : Jvm.MethodName)) ∈ wB := kwB 853 (by decide +kernel) (by decide +kernel)
theorem kw_854 : (Jvm.Cond.code ({ cls := "ObjectMergeModel", name := "baseHas", desc := "(II)Z" } : Jvm.MethodName) prog_12_method_21_code (3 : Nat) (Option.some Jvm.ClassFile.FieldType.boolean)) ∈ wB := kwB 854 (by decide +kernel) (by decide +kernel)
theorem kw_855 : (Jvm.Cond.methodLink "ObjectMergeModel" (141 : Nat) ({ cls := "ObjectMergeModel", name := "isOwnAsBase", desc := "(II)Z" } : Jvm.MethodName)) ∈ wB := kwB 855 (by decide +kernel) (by decide +kernel)
theorem kw_857 : (Jvm.Cond.instanceMethod ({ cls := "ObjectMergeModel", name := "isOwnAsBase", desc := "(II)Z" } : Jvm.MethodName)) ∈ wB := kwB 857 (by decide +kernel) (by decide +kernel)
theorem kw_858 : (Jvm.Cond.code ({ cls := "ObjectMergeModel", name := "isOwnAsBase", desc := "(II)Z" } : Jvm.MethodName) prog_12_method_26_code (5 : Nat) (Option.some Jvm.ClassFile.FieldType.boolean)) ∈ wB := kwB 858 (by decide +kernel) (by decide +kernel)
theorem kw_859 : (Jvm.Cond.methodLink "ObjectMergeModel" (132 : Nat) ({ cls := "ObjectMergeModel", name := "ownValue", desc := "(III)J" } : Jvm.MethodName)) ∈ wB := kwB 859 (by decide +kernel) (by decide +kernel)
theorem kw_861 : (Jvm.Cond.instanceMethod ({ cls := "ObjectMergeModel", name := "ownValue", desc := "(III)J" } : Jvm.MethodName)) ∈ wB := kwB 861 (by decide +kernel) (by decide +kernel)
theorem kw_862 : (Jvm.Cond.code ({ cls := "ObjectMergeModel", name := "ownValue", desc := "(III)J" } : Jvm.MethodName) prog_12_method_24_code (4 : Nat) (Option.some Jvm.ClassFile.FieldType.long)) ∈ wB := kwB 862 (by decide +kernel) (by decide +kernel)
theorem kw_863 : (Jvm.Cond.methodLink "ObjectMergeModel" (128 : Nat) ({ cls := "ObjectMergeModel", name := "baseValue", desc := "(III)J" } : Jvm.MethodName)) ∈ wB := kwB 863 (by decide +kernel) (by decide +kernel)
theorem kw_865 : (Jvm.Cond.instanceMethod ({ cls := "ObjectMergeModel", name := "baseValue", desc := "(III)J" } : Jvm.MethodName)) ∈ wB := kwB 865 (by decide +kernel) (by decide +kernel)
theorem kw_866 : (Jvm.Cond.code ({ cls := "ObjectMergeModel", name := "baseValue", desc := "(III)J" } : Jvm.MethodName) prog_12_method_23_code (4 : Nat) (Option.some Jvm.ClassFile.FieldType.long)) ∈ wB := kwB 866 (by decide +kernel) (by decide +kernel)
theorem kw_867 : (Jvm.Cond.methodLink "ObjectMergeModel" (144 : Nat) ({ cls := "ObjectMergeModel", name := "headHas", desc := "(I)Z" } : Jvm.MethodName)) ∈ wB := kwB 867 (by decide +kernel) (by decide +kernel)
theorem kw_869 : (Jvm.Cond.instanceMethod ({ cls := "ObjectMergeModel", name := "headHas", desc := "(I)Z" } : Jvm.MethodName)) ∈ wB := kwB 869 (by decide +kernel) (by decide +kernel)
theorem kw_870 : (Jvm.Cond.code ({ cls := "ObjectMergeModel", name := "headHas", desc := "(I)Z" } : Jvm.MethodName) prog_12_method_20_code (2 : Nat) (Option.some Jvm.ClassFile.FieldType.boolean)) ∈ wB := kwB 870 (by decide +kernel) (by decide +kernel)
theorem kw_871 : (Jvm.Cond.methodLink "ObjectMergeModel" (147 : Nat) ({ cls := "ObjectMergeModel", name := "isHeadAsBase", desc := "(II)Z" } : Jvm.MethodName)) ∈ wB := kwB 871 (by decide +kernel) (by decide +kernel)
theorem kw_873 : (Jvm.Cond.instanceMethod ({ cls := "ObjectMergeModel", name := "isHeadAsBase", desc := "(II)Z" } : Jvm.MethodName)) ∈ wB := kwB 873 (by decide +kernel) (by decide +kernel)
theorem kw_874 : (Jvm.Cond.code ({ cls := "ObjectMergeModel", name := "isHeadAsBase", desc := "(II)Z" } : Jvm.MethodName) prog_12_method_25_code (5 : Nat) (Option.some Jvm.ClassFile.FieldType.boolean)) ∈ wB := kwB 874 (by decide +kernel) (by decide +kernel)
theorem kw_875 : (Jvm.Cond.methodLink "ObjectMergeModel" (124 : Nat) ({ cls := "ObjectMergeModel", name := "headValue", desc := "(II)J" } : Jvm.MethodName)) ∈ wB := kwB 875 (by decide +kernel) (by decide +kernel)
theorem kw_877 : (Jvm.Cond.instanceMethod ({ cls := "ObjectMergeModel", name := "headValue", desc := "(II)J" } : Jvm.MethodName)) ∈ wB := kwB 877 (by decide +kernel) (by decide +kernel)
theorem kw_878 : (Jvm.Cond.code ({ cls := "ObjectMergeModel", name := "headValue", desc := "(II)J" } : Jvm.MethodName) prog_12_method_22_code (3 : Nat) (Option.some Jvm.ClassFile.FieldType.long)) ∈ wB := kwB 878 (by decide +kernel) (by decide +kernel)
theorem kw_879 : (Jvm.Cond.methodLink "ObjectMergeModel" (150 : Nat) ({ cls := "ObjectMergeModel", name := "add", desc := "(II)V" } : Jvm.MethodName)) ∈ wB := kwB 879 (by decide +kernel) (by decide +kernel)
theorem kw_881 : (Jvm.Cond.instanceMethod ({ cls := "ObjectMergeModel", name := "add", desc := "(II)V" } : Jvm.MethodName)) ∈ wB := kwB 881 (by decide +kernel) (by decide +kernel)
theorem kw_882 : (Jvm.Cond.code ({ cls := "ObjectMergeModel", name := "add", desc := "(II)V" } : Jvm.MethodName) prog_12_method_27_code (3 : Nat) (Option.none : Option Jvm.ClassFile.FieldType)) ∈ wB := kwB 882 (by decide +kernel) (by decide +kernel)
theorem kw_883 : (Jvm.Cond.methodLink "ObjectMergeModel" (173 : Nat) ({ cls := "ObjectMergeModel", name := "unsettled", desc := "(I)I" } : Jvm.MethodName)) ∈ wB := kwB 883 (by decide +kernel) (by decide +kernel)
theorem kw_885 : (Jvm.Cond.instanceMethod ({ cls := "ObjectMergeModel", name := "unsettled", desc := "(I)I" } : Jvm.MethodName)) ∈ wB := kwB 885 (by decide +kernel) (by decide +kernel)
theorem kw_886 : (Jvm.Cond.code ({ cls := "ObjectMergeModel", name := "unsettled", desc := "(I)I" } : Jvm.MethodName) prog_12_method_30_code (4 : Nat) (Option.some Jvm.ClassFile.FieldType.int)) ∈ wB := kwB 886 (by decide +kernel) (by decide +kernel)
theorem kw_887 : (Jvm.Cond.methodLink "ObjectMergeModel" (154 : Nat) ({ cls := "ObjectMergeModel", name := "sideOf", desc := "(III)I" } : Jvm.MethodName)) ∈ wB := kwB 887 (by decide +kernel) (by decide +kernel)
theorem kw_889 : (Jvm.Cond.instanceMethod ({ cls := "ObjectMergeModel", name := "sideOf", desc := "(III)I" } : Jvm.MethodName)) ∈ wB := kwB 889 (by decide +kernel) (by decide +kernel)
theorem kw_890 : (Jvm.Cond.code ({ cls := "ObjectMergeModel", name := "sideOf", desc := "(III)I" } : Jvm.MethodName) prog_12_method_28_code (4 : Nat) (Option.some Jvm.ClassFile.FieldType.int)) ∈ wB := kwB 890 (by decide +kernel) (by decide +kernel)
theorem kw_891 : (Jvm.Cond.methodLink "ObjectMergeModel" (176 : Nat) ({ cls := "ObjectMergeModel", name := "merge", desc := "(II)V" } : Jvm.MethodName)) ∈ wB := kwB 891 (by decide +kernel) (by decide +kernel)
theorem kw_893 : (Jvm.Cond.instanceMethod ({ cls := "ObjectMergeModel", name := "merge", desc := "(II)V" } : Jvm.MethodName)) ∈ wB := kwB 893 (by decide +kernel) (by decide +kernel)
theorem kw_894 : (Jvm.Cond.code ({ cls := "ObjectMergeModel", name := "merge", desc := "(II)V" } : Jvm.MethodName) prog_12_method_34_code (6 : Nat) (Option.none : Option Jvm.ClassFile.FieldType)) ∈ wB := kwB 894 (by decide +kernel) (by decide +kernel)
theorem kw_895 : (Jvm.Cond.methodLink "ObjectMergeModel" (161 : Nat) ({ cls := "ObjectMergeModel", name := "takeAll", desc := "(II)V" } : Jvm.MethodName)) ∈ wB := kwB 895 (by decide +kernel) (by decide +kernel)
theorem kw_897 : (Jvm.Cond.instanceMethod ({ cls := "ObjectMergeModel", name := "takeAll", desc := "(II)V" } : Jvm.MethodName)) ∈ wB := kwB 897 (by decide +kernel) (by decide +kernel)
theorem kw_898 : (Jvm.Cond.code ({ cls := "ObjectMergeModel", name := "takeAll", desc := "(II)V" } : Jvm.MethodName) prog_12_method_32_code (4 : Nat) (Option.none : Option Jvm.ClassFile.FieldType)) ∈ wB := kwB 898 (by decide +kernel) (by decide +kernel)
theorem kw_899 : (Jvm.Cond.methodLink "ObjectMergeModel" (158 : Nat) ({ cls := "ObjectMergeModel", name := "takeField", desc := "(III)V" } : Jvm.MethodName)) ∈ wB := kwB 899 (by decide +kernel) (by decide +kernel)
theorem kw_901 : (Jvm.Cond.instanceMethod ({ cls := "ObjectMergeModel", name := "takeField", desc := "(III)V" } : Jvm.MethodName)) ∈ wB := kwB 901 (by decide +kernel) (by decide +kernel)
theorem kw_902 : (Jvm.Cond.code ({ cls := "ObjectMergeModel", name := "takeField", desc := "(III)V" } : Jvm.MethodName) prog_12_method_33_code (4 : Nat) (Option.none : Option Jvm.ClassFile.FieldType)) ∈ wB := kwB 902 (by decide +kernel) (by decide +kernel)
theorem kw_903 : (Jvm.Cond.methodLink "ObjectMergeModel" (164 : Nat) ({ cls := "ObjectMergeModel", name := "isConflict", desc := "(II)Z" } : Jvm.MethodName)) ∈ wB := kwB 903 (by decide +kernel) (by decide +kernel)
theorem kw_905 : (Jvm.Cond.instanceMethod ({ cls := "ObjectMergeModel", name := "isConflict", desc := "(II)Z" } : Jvm.MethodName)) ∈ wB := kwB 905 (by decide +kernel) (by decide +kernel)
theorem kw_906 : (Jvm.Cond.code ({ cls := "ObjectMergeModel", name := "isConflict", desc := "(II)Z" } : Jvm.MethodName) prog_12_method_31_code (5 : Nat) (Option.some Jvm.ClassFile.FieldType.boolean)) ∈ wB := kwB 906 (by decide +kernel) (by decide +kernel)
theorem kw_907 : (Jvm.Cond.methodLink "ObjectMergeModel" (179 : Nat) ({ cls := "ObjectMergeModel", name := "dropMarks", desc := "()V" } : Jvm.MethodName)) ∈ wB := kwB 907 (by decide +kernel) (by decide +kernel)
theorem kw_909 : (Jvm.Cond.instanceMethod ({ cls := "ObjectMergeModel", name := "dropMarks", desc := "()V" } : Jvm.MethodName)) ∈ wB := kwB 909 (by decide +kernel) (by decide +kernel)
theorem kw_910 : (Jvm.Cond.code ({ cls := "ObjectMergeModel", name := "dropMarks", desc := "()V" } : Jvm.MethodName) prog_12_method_35_code (5 : Nat) (Option.none : Option Jvm.ClassFile.FieldType)) ∈ wB := kwB 910 (by decide +kernel) (by decide +kernel)
theorem kw_911 : (Jvm.Cond.methodLink "ObjectMergeModel" (182 : Nat) ({ cls := "ObjectMergeModel", name := "dropLocks", desc := "(I)V" } : Jvm.MethodName)) ∈ wB := kwB 911 (by decide +kernel) (by decide +kernel)
theorem kw_913 : (Jvm.Cond.instanceMethod ({ cls := "ObjectMergeModel", name := "dropLocks", desc := "(I)V" } : Jvm.MethodName)) ∈ wB := kwB 913 (by decide +kernel) (by decide +kernel)
theorem kw_914 : (Jvm.Cond.code ({ cls := "ObjectMergeModel", name := "dropLocks", desc := "(I)V" } : Jvm.MethodName) prog_12_method_36_code (5 : Nat) (Option.none : Option Jvm.ClassFile.FieldType)) ∈ wB := kwB 914 (by decide +kernel) (by decide +kernel)
theorem kw_915 : (Jvm.Cond.methodLink "ObjectMergeLaw" (109 : Nat) ({ cls := "ObjectMergeModel", name := "conflict", desc := "(II)I" } : Jvm.MethodName)) ∈ wB := kwB 915 (by decide +kernel) (by decide +kernel)
theorem kw_916 : (Jvm.Cond.instanceMethod ({ cls := "ObjectMergeModel", name := "conflict", desc := "(II)I" } : Jvm.MethodName)) ∈ wB := kwB 916 (by decide +kernel) (by decide +kernel)
theorem kw_917 : (Jvm.Cond.selects "ObjectMergeModel" ({ cls := "ObjectMergeModel", name := "conflict", desc := "(II)I" } : Jvm.MethodName) ({ cls := "ObjectMergeModel", name := "conflict", desc := "(II)I" } : Jvm.MethodName)) ∈ wB := kwB 917 (by decide +kernel) (by decide +kernel)
theorem kw_918 : (Jvm.Cond.code ({ cls := "ObjectMergeModel", name := "conflict", desc := "(II)I" } : Jvm.MethodName) prog_12_method_39_code (5 : Nat) (Option.some Jvm.ClassFile.FieldType.int)) ∈ wB := kwB 918 (by decide +kernel) (by decide +kernel)
theorem kw_919 : (Jvm.Cond.methodLink "ObjectMergeLaw" (112 : Nat) ({ cls := "ObjectMergeModel", name := "settle", desc := "(II)Z" } : Jvm.MethodName)) ∈ wB := kwB 919 (by decide +kernel) (by decide +kernel)
theorem kw_920 : (Jvm.Cond.instanceMethod ({ cls := "ObjectMergeModel", name := "settle", desc := "(II)Z" } : Jvm.MethodName)) ∈ wB := kwB 920 (by decide +kernel) (by decide +kernel)
theorem kw_921 : (Jvm.Cond.selects "ObjectMergeModel" ({ cls := "ObjectMergeModel", name := "settle", desc := "(II)Z" } : Jvm.MethodName) ({ cls := "ObjectMergeModel", name := "settle", desc := "(II)Z" } : Jvm.MethodName)) ∈ wB := kwB 921 (by decide +kernel) (by decide +kernel)
theorem kw_922 : (Jvm.Cond.code ({ cls := "ObjectMergeModel", name := "settle", desc := "(II)Z" } : Jvm.MethodName) prog_12_method_40_code (5 : Nat) (Option.some Jvm.ClassFile.FieldType.boolean)) ∈ wB := kwB 922 (by decide +kernel) (by decide +kernel)
theorem kw_923 : (Jvm.Cond.methodLink "ObjectMergeLaw" (144 : Nat) ({ cls := "ObjectMergeModel", name := "play", desc := "(JI)I" } : Jvm.MethodName)) ∈ wB := kwB 923 (by decide +kernel) (by decide +kernel)
theorem kw_924 : (Jvm.Cond.instanceMethod ({ cls := "ObjectMergeModel", name := "play", desc := "(JI)I" } : Jvm.MethodName)) ∈ wB := kwB 924 (by decide +kernel) (by decide +kernel)
theorem kw_925 : (Jvm.Cond.selects "ObjectMergeModel" ({ cls := "ObjectMergeModel", name := "play", desc := "(JI)I" } : Jvm.MethodName) ({ cls := "ObjectMergeModel", name := "play", desc := "(JI)I" } : Jvm.MethodName)) ∈ wB := kwB 925 (by decide +kernel) (by decide +kernel)
theorem kw_926 : (Jvm.Cond.code ({ cls := "ObjectMergeModel", name := "play", desc := "(JI)I" } : Jvm.MethodName) prog_12_method_41_code (11 : Nat) (Option.some Jvm.ClassFile.FieldType.int)) ∈ wB := kwB 926 (by decide +kernel) (by decide +kernel)
theorem kw_927 : (Jvm.Cond.methodLink "ObjectMergeModel" (189 : Nat) ({ cls := "ObjectMergeModel", name := "next", desc := "(J)J" } : Jvm.MethodName)) ∈ wB := kwB 927 (by decide +kernel) (by decide +kernel)
theorem kw_928 : (Jvm.Cond.static ({ cls := "ObjectMergeModel", name := "next", desc := "(J)J" } : Jvm.MethodName)) ∈ wB := kwB 928 (by decide +kernel) (by decide +kernel)
theorem kw_929 : (Jvm.Cond.code ({ cls := "ObjectMergeModel", name := "next", desc := "(J)J" } : Jvm.MethodName) prog_12_method_42_code (2 : Nat) (Option.some Jvm.ClassFile.FieldType.long)) ∈ wB := kwB 929 (by decide +kernel) (by decide +kernel)
theorem kw_930 : (Jvm.Cond.constantLong "ObjectMergeModel" (197 : Nat) (6364136223846793005 : Int64)) ∈ wB := kwB 930 (by decide +kernel) (by decide +kernel)
theorem kw_931 : (Jvm.Cond.constantLong "ObjectMergeModel" (199 : Nat) (1442695040888963407 : Int64)) ∈ wB := kwB 931 (by decide +kernel) (by decide +kernel)
theorem kw_932 : (Jvm.Cond.constantLong "ObjectMergeModel" (193 : Nat) (6 : Int64)) ∈ wB := kwB 932 (by decide +kernel) (by decide +kernel)
theorem kw_933 : (Jvm.Cond.constantLong "ObjectMergeModel" (195 : Nat) (100 : Int64)) ∈ wB := kwB 933 (by decide +kernel) (by decide +kernel)
theorem kw_934 : (Jvm.Cond.methodLink "ObjectMergeLaw" (115 : Nat) ({ cls := "ObjectMergeModel", name := "at", desc := "(II)J" } : Jvm.MethodName)) ∈ wB := kwB 934 (by decide +kernel) (by decide +kernel)
theorem kw_935 : (Jvm.Cond.instanceMethod ({ cls := "ObjectMergeModel", name := "at", desc := "(II)J" } : Jvm.MethodName)) ∈ wB := kwB 935 (by decide +kernel) (by decide +kernel)
theorem kw_936 : (Jvm.Cond.selects "ObjectMergeModel" ({ cls := "ObjectMergeModel", name := "at", desc := "(II)J" } : Jvm.MethodName) ({ cls := "ObjectMergeModel", name := "at", desc := "(II)J" } : Jvm.MethodName)) ∈ wB := kwB 936 (by decide +kernel) (by decide +kernel)
theorem kw_937 : (Jvm.Cond.code ({ cls := "ObjectMergeModel", name := "at", desc := "(II)J" } : Jvm.MethodName) prog_12_method_43_code (4 : Nat) (Option.some Jvm.ClassFile.FieldType.long)) ∈ wB := kwB 937 (by decide +kernel) (by decide +kernel)
theorem kw_938 : (Jvm.Cond.methodLink "ObjectMergeLaw" (130 : Nat) ({ cls := "ObjectMergeModel", name := "version", desc := "()I" } : Jvm.MethodName)) ∈ wB := kwB 938 (by decide +kernel) (by decide +kernel)
theorem kw_939 : (Jvm.Cond.instanceMethod ({ cls := "ObjectMergeModel", name := "version", desc := "()I" } : Jvm.MethodName)) ∈ wB := kwB 939 (by decide +kernel) (by decide +kernel)
theorem kw_940 : (Jvm.Cond.selects "ObjectMergeModel" ({ cls := "ObjectMergeModel", name := "version", desc := "()I" } : Jvm.MethodName) ({ cls := "ObjectMergeModel", name := "version", desc := "()I" } : Jvm.MethodName)) ∈ wB := kwB 940 (by decide +kernel) (by decide +kernel)
theorem kw_941 : (Jvm.Cond.code ({ cls := "ObjectMergeModel", name := "version", desc := "()I" } : Jvm.MethodName) prog_12_method_44_code (1 : Nat) (Option.some Jvm.ClassFile.FieldType.int)) ∈ wB := kwB 941 (by decide +kernel) (by decide +kernel)
theorem kw_942 : (Jvm.Cond.methodLink "ObjectMergeLaw" (147 : Nat) ({ cls := "ObjectMergeModel", name := "mark", desc := "(II)I" } : Jvm.MethodName)) ∈ wB := kwB 942 (by decide +kernel) (by decide +kernel)
theorem kw_943 : (Jvm.Cond.instanceMethod ({ cls := "ObjectMergeModel", name := "mark", desc := "(II)I" } : Jvm.MethodName)) ∈ wB := kwB 943 (by decide +kernel) (by decide +kernel)
theorem kw_944 : (Jvm.Cond.selects "ObjectMergeModel" ({ cls := "ObjectMergeModel", name := "mark", desc := "(II)I" } : Jvm.MethodName) ({ cls := "ObjectMergeModel", name := "mark", desc := "(II)I" } : Jvm.MethodName)) ∈ wB := kwB 944 (by decide +kernel) (by decide +kernel)
theorem kw_945 : (Jvm.Cond.code ({ cls := "ObjectMergeModel", name := "mark", desc := "(II)I" } : Jvm.MethodName) prog_12_method_45_code (5 : Nat) (Option.some Jvm.ClassFile.FieldType.int)) ∈ wB := kwB 945 (by decide +kernel) (by decide +kernel)
theorem kw_946 : (Jvm.Cond.methodLink "ObjectMergeLaw" (134 : Nat) ({ cls := "ObjectMergeModel", name := "difference", desc := "(III)I" } : Jvm.MethodName)) ∈ wB := kwB 946 (by decide +kernel) (by decide +kernel)
theorem kw_947 : (Jvm.Cond.instanceMethod ({ cls := "ObjectMergeModel", name := "difference", desc := "(III)I" } : Jvm.MethodName)) ∈ wB := kwB 947 (by decide +kernel) (by decide +kernel)
theorem kw_948 : (Jvm.Cond.selects "ObjectMergeModel" ({ cls := "ObjectMergeModel", name := "difference", desc := "(III)I" } : Jvm.MethodName) ({ cls := "ObjectMergeModel", name := "difference", desc := "(III)I" } : Jvm.MethodName)) ∈ wB := kwB 948 (by decide +kernel) (by decide +kernel)
theorem kw_949 : (Jvm.Cond.code ({ cls := "ObjectMergeModel", name := "difference", desc := "(III)I" } : Jvm.MethodName) prog_12_method_46_code (11 : Nat) (Option.some Jvm.ClassFile.FieldType.int)) ∈ wB := kwB 949 (by decide +kernel) (by decide +kernel)
theorem kw_950 : (Jvm.Cond.methodLink "ObjectMergeLaw" (119 : Nat) ({ cls := "ObjectMergeModel", name := "lock", desc := "(IJJJJ)Z" } : Jvm.MethodName)) ∈ wB := kwB 950 (by decide +kernel) (by decide +kernel)
theorem kw_951 : (Jvm.Cond.instanceMethod ({ cls := "ObjectMergeModel", name := "lock", desc := "(IJJJJ)Z" } : Jvm.MethodName)) ∈ wB := kwB 951 (by decide +kernel) (by decide +kernel)
theorem kw_952 : (Jvm.Cond.selects "ObjectMergeModel" ({ cls := "ObjectMergeModel", name := "lock", desc := "(IJJJJ)Z" } : Jvm.MethodName) ({ cls := "ObjectMergeModel", name := "lock", desc := "(IJJJJ)Z" } : Jvm.MethodName)) ∈ wB := kwB 952 (by decide +kernel) (by decide +kernel)
theorem kw_953 : (Jvm.Cond.code ({ cls := "ObjectMergeModel", name := "lock", desc := "(IJJJJ)Z" } : Jvm.MethodName) prog_12_method_47_code (12 : Nat) (Option.some Jvm.ClassFile.FieldType.boolean)) ∈ wB := kwB 953 (by decide +kernel) (by decide +kernel)
theorem kw_954 : (Jvm.Cond.methodLink "ObjectMergeLaw" (123 : Nat) ({ cls := "ObjectMergeModel", name := "apart", desc := "(IIJ)Z" } : Jvm.MethodName)) ∈ wB := kwB 954 (by decide +kernel) (by decide +kernel)
theorem kw_955 : (Jvm.Cond.instanceMethod ({ cls := "ObjectMergeModel", name := "apart", desc := "(IIJ)Z" } : Jvm.MethodName)) ∈ wB := kwB 955 (by decide +kernel) (by decide +kernel)
theorem kw_956 : (Jvm.Cond.selects "ObjectMergeModel" ({ cls := "ObjectMergeModel", name := "apart", desc := "(IIJ)Z" } : Jvm.MethodName) ({ cls := "ObjectMergeModel", name := "apart", desc := "(IIJ)Z" } : Jvm.MethodName)) ∈ wB := kwB 956 (by decide +kernel) (by decide +kernel)
theorem kw_957 : (Jvm.Cond.code ({ cls := "ObjectMergeModel", name := "apart", desc := "(IIJ)Z" } : Jvm.MethodName) prog_12_method_48_code (5 : Nat) (Option.some Jvm.ClassFile.FieldType.boolean)) ∈ wB := kwB 957 (by decide +kernel) (by decide +kernel)
theorem kw_958 : (Jvm.Cond.constantLong "ObjectMergeModel" (201 : Nat) (1000000000 : Int64)) ∈ wB := kwB 958 (by decide +kernel) (by decide +kernel)
theorem kw_959 : (Jvm.Cond.methodLink "ObjectMergeLaw" (126 : Nat) ({ cls := "ObjectMergeModel", name := "violation", desc := "(II)I" } : Jvm.MethodName)) ∈ wB := kwB 959 (by decide +kernel) (by decide +kernel)
theorem kw_960 : (Jvm.Cond.instanceMethod ({ cls := "ObjectMergeModel", name := "violation", desc := "(II)I" } : Jvm.MethodName)) ∈ wB := kwB 960 (by decide +kernel) (by decide +kernel)
theorem kw_961 : (Jvm.Cond.selects "ObjectMergeModel" ({ cls := "ObjectMergeModel", name := "violation", desc := "(II)I" } : Jvm.MethodName) ({ cls := "ObjectMergeModel", name := "violation", desc := "(II)I" } : Jvm.MethodName)) ∈ wB := kwB 961 (by decide +kernel) (by decide +kernel)
theorem kw_962 : (Jvm.Cond.code ({ cls := "ObjectMergeModel", name := "violation", desc := "(II)I" } : Jvm.MethodName) prog_12_method_51_code (5 : Nat) (Option.some Jvm.ClassFile.FieldType.int)) ∈ wB := kwB 962 (by decide +kernel) (by decide +kernel)
theorem kw_963 : (Jvm.Cond.methodLink "ObjectMergeModel" (212 : Nat) ({ cls := "ObjectMergeModel", name := "isBroken", desc := "(I)Z" } : Jvm.MethodName)) ∈ wB := kwB 963 (by decide +kernel) (by decide +kernel)
theorem kw_965 : (Jvm.Cond.instanceMethod ({ cls := "ObjectMergeModel", name := "isBroken", desc := "(I)Z" } : Jvm.MethodName)) ∈ wB := kwB 965 (by decide +kernel) (by decide +kernel)
theorem kw_966 : (Jvm.Cond.code ({ cls := "ObjectMergeModel", name := "isBroken", desc := "(I)Z" } : Jvm.MethodName) prog_12_method_50_code (4 : Nat) (Option.some Jvm.ClassFile.FieldType.boolean)) ∈ wB := kwB 966 (by decide +kernel) (by decide +kernel)
theorem kw_967 : (Jvm.Cond.methodLink "ObjectMergeModel" (208 : Nat) ({ cls := "ObjectMergeModel", name := "far", desc := "(JJ)J" } : Jvm.MethodName)) ∈ wB := kwB 967 (by decide +kernel) (by decide +kernel)
theorem kw_968 : (Jvm.Cond.static ({ cls := "ObjectMergeModel", name := "far", desc := "(JJ)J" } : Jvm.MethodName)) ∈ wB := kwB 968 (by decide +kernel) (by decide +kernel)
theorem kw_969 : (Jvm.Cond.code ({ cls := "ObjectMergeModel", name := "far", desc := "(JJ)J" } : Jvm.MethodName) prog_12_method_49_code (10 : Nat) (Option.some Jvm.ClassFile.FieldType.long)) ∈ wB := kwB 969 (by decide +kernel) (by decide +kernel)
theorem kw_970 : (Jvm.Cond.constantLong "ObjectMergeModel" (206 : Nat) (2000000000 : Int64)) ∈ wB := kwB 970 (by decide +kernel) (by decide +kernel)
theorem kw_971 : (Jvm.Cond.constantLong "ObjectMergeLaw" (91 : Nat) (4294967295 : Int64)) ∈ wB := kwB 971 (by decide +kernel) (by decide +kernel)
theorem kp_0 : Cond.selects "ObjectMerge" ⟨"ObjectMerge", "begin", "(LObjectMerge$State;)LObjectMerge$Session;"⟩ ⟨"ObjectMerge", "begin", "(LObjectMerge$State;)LObjectMerge$Session;"⟩ ∈ wB := kwP 0 (by decide +kernel) (by decide +kernel)
theorem kp_1 : Cond.selects "java/lang/Throwable" ⟨"java/lang/Throwable", "fillInStackTrace", "(I)Ljava/lang/Throwable;"⟩ ⟨"java/lang/Throwable", "fillInStackTrace", "(I)Ljava/lang/Throwable;"⟩ ∈ wB := kwP 1 (by decide +kernel) (by decide +kernel)
theorem kp_2 : Cond.selects "ObjectMerge" ⟨"ObjectMerge", "newNumber", "()I"⟩ ⟨"ObjectMerge", "newNumber", "()I"⟩ ∈ wB := kwP 2 (by decide +kernel) (by decide +kernel)
theorem kp_3 : Cond.selects "ObjectMerge" ⟨"ObjectMerge", "addVersion", "(LObjectMerge$State;)V"⟩ ⟨"ObjectMerge", "addVersion", "(LObjectMerge$State;)V"⟩ ∈ wB := kwP 3 (by decide +kernel) (by decide +kernel)
theorem kp_4 : Cond.selects "ObjectMerge" ⟨"ObjectMerge", "sessionOf", "(I)LObjectMerge$Session;"⟩ ⟨"ObjectMerge", "sessionOf", "(I)LObjectMerge$Session;"⟩ ∈ wB := kwP 4 (by decide +kernel) (by decide +kernel)
theorem kp_5 : Cond.selects "ObjectMerge" ⟨"ObjectMerge", "checkObject", "(I)V"⟩ ⟨"ObjectMerge", "checkObject", "(I)V"⟩ ∈ wB := kwP 5 (by decide +kernel) (by decide +kernel)
theorem kp_6 : Cond.selects "ObjectMerge" ⟨"ObjectMerge", "write", "(LObjectMerge$Session;IIJLObjectMerge$Row;)Z"⟩ ⟨"ObjectMerge", "write", "(LObjectMerge$Session;IIJLObjectMerge$Row;)Z"⟩ ∈ wB := kwP 6 (by decide +kernel) (by decide +kernel)
theorem kp_7 : Cond.selects "ObjectMerge" ⟨"ObjectMerge", "tryJoin", "(LObjectMerge$Session;)I"⟩ ⟨"ObjectMerge", "tryJoin", "(LObjectMerge$Session;)I"⟩ ∈ wB := kwP 7 (by decide +kernel) (by decide +kernel)
theorem kp_8 : Cond.selects "ObjectMerge$Conflicts" ⟨"ObjectMerge$Conflicts", "gatherOf", "(ILObjectMerge$State;)V"⟩ ⟨"ObjectMerge$Conflicts", "gatherOf", "(ILObjectMerge$State;)V"⟩ ∈ wB := kwP 8 (by decide +kernel) (by decide +kernel)
theorem kp_9 : Cond.selects "ObjectMerge" ⟨"ObjectMerge", "takeIn", "(LObjectMerge$Session;)V"⟩ ⟨"ObjectMerge", "takeIn", "(LObjectMerge$Session;)V"⟩ ∈ wB := kwP 9 (by decide +kernel) (by decide +kernel)
theorem kp_10 : Cond.selects "ObjectMerge$Session" ⟨"ObjectMerge$Session", "takes", "(IILObjectMerge$State;)Z"⟩ ⟨"ObjectMerge$Session", "takes", "(IILObjectMerge$State;)Z"⟩ ∈ wB := kwP 10 (by decide +kernel) (by decide +kernel)
theorem kp_11 : Cond.selects "ObjectMerge" ⟨"ObjectMerge", "sessionOfConflict", "(I)LObjectMerge$Session;"⟩ ⟨"ObjectMerge", "sessionOfConflict", "(I)LObjectMerge$Session;"⟩ ∈ wB := kwP 11 (by decide +kernel) (by decide +kernel)
theorem kp_12 : Cond.selects "ObjectMerge" ⟨"ObjectMerge", "versionOf", "(I)LObjectMerge$State;"⟩ ⟨"ObjectMerge", "versionOf", "(I)LObjectMerge$State;"⟩ ∈ wB := kwP 12 (by decide +kernel) (by decide +kernel)
theorem kp_13 : Cond.selects "ObjectMerge" ⟨"ObjectMerge", "playTurn", "(LObjectMerge$Session;LObjectMerge$Draw;)Z"⟩ ⟨"ObjectMerge", "playTurn", "(LObjectMerge$Session;LObjectMerge$Draw;)Z"⟩ ∈ wB := kwP 13 (by decide +kernel) (by decide +kernel)
theorem kp_14 : Cond.selects "ObjectMergeModel" ⟨"ObjectMergeModel", "copyHead", "()V"⟩ ⟨"ObjectMergeModel", "copyHead", "()V"⟩ ∈ wB := kwP 14 (by decide +kernel) (by decide +kernel)
theorem kp_15 : Cond.selects "ObjectMergeModel" ⟨"ObjectMergeModel", "head", "()I"⟩ ⟨"ObjectMergeModel", "head", "()I"⟩ ∈ wB := kwP 15 (by decide +kernel) (by decide +kernel)
theorem kp_16 : Cond.selects "ObjectMergeModel" ⟨"ObjectMergeModel", "begin", "(I)I"⟩ ⟨"ObjectMergeModel", "begin", "(I)I"⟩ ∈ wB := kwP 16 (by decide +kernel) (by decide +kernel)
theorem kp_17 : Cond.selects "ObjectMergeModel" ⟨"ObjectMergeModel", "isSession", "(I)Z"⟩ ⟨"ObjectMergeModel", "isSession", "(I)Z"⟩ ∈ wB := kwP 17 (by decide +kernel) (by decide +kernel)
theorem kp_18 : Cond.selects "ObjectMergeModel" ⟨"ObjectMergeModel", "isObject", "(I)Z"⟩ ⟨"ObjectMergeModel", "isObject", "(I)Z"⟩ ∈ wB := kwP 18 (by decide +kernel) (by decide +kernel)
theorem kp_19 : Cond.selects "ObjectMergeModel" ⟨"ObjectMergeModel", "setsField", "(IIIJ)Z"⟩ ⟨"ObjectMergeModel", "setsField", "(IIIJ)Z"⟩ ∈ wB := kwP 19 (by decide +kernel) (by decide +kernel)
theorem kp_20 : Cond.selects "ObjectMergeModel" ⟨"ObjectMergeModel", "isBarred", "(II)Z"⟩ ⟨"ObjectMergeModel", "isBarred", "(II)Z"⟩ ∈ wB := kwP 20 (by decide +kernel) (by decide +kernel)
theorem kp_21 : Cond.selects "ObjectMergeModel" ⟨"ObjectMergeModel", "note", "(III)V"⟩ ⟨"ObjectMergeModel", "note", "(III)V"⟩ ∈ wB := kwP 21 (by decide +kernel) (by decide +kernel)
theorem kp_22 : Cond.selects "ObjectMergeModel" ⟨"ObjectMergeModel", "joins", "(I)I"⟩ ⟨"ObjectMergeModel", "joins", "(I)I"⟩ ∈ wB := kwP 22 (by decide +kernel) (by decide +kernel)
theorem kp_23 : Cond.selects "ObjectMergeModel" ⟨"ObjectMergeModel", "findConflicts", "(II)V"⟩ ⟨"ObjectMergeModel", "findConflicts", "(II)V"⟩ ∈ wB := kwP 23 (by decide +kernel) (by decide +kernel)
theorem kp_24 : Cond.selects "ObjectMergeModel" ⟨"ObjectMergeModel", "baseHas", "(II)Z"⟩ ⟨"ObjectMergeModel", "baseHas", "(II)Z"⟩ ∈ wB := kwP 24 (by decide +kernel) (by decide +kernel)
theorem kp_25 : Cond.selects "ObjectMergeModel" ⟨"ObjectMergeModel", "isOwnAsBase", "(II)Z"⟩ ⟨"ObjectMergeModel", "isOwnAsBase", "(II)Z"⟩ ∈ wB := kwP 25 (by decide +kernel) (by decide +kernel)
theorem kp_26 : Cond.selects "ObjectMergeModel" ⟨"ObjectMergeModel", "ownValue", "(III)J"⟩ ⟨"ObjectMergeModel", "ownValue", "(III)J"⟩ ∈ wB := kwP 26 (by decide +kernel) (by decide +kernel)
theorem kp_27 : Cond.selects "ObjectMergeModel" ⟨"ObjectMergeModel", "baseValue", "(III)J"⟩ ⟨"ObjectMergeModel", "baseValue", "(III)J"⟩ ∈ wB := kwP 27 (by decide +kernel) (by decide +kernel)
theorem kp_28 : Cond.selects "ObjectMergeModel" ⟨"ObjectMergeModel", "headHas", "(I)Z"⟩ ⟨"ObjectMergeModel", "headHas", "(I)Z"⟩ ∈ wB := kwP 28 (by decide +kernel) (by decide +kernel)
theorem kp_29 : Cond.selects "ObjectMergeModel" ⟨"ObjectMergeModel", "isHeadAsBase", "(II)Z"⟩ ⟨"ObjectMergeModel", "isHeadAsBase", "(II)Z"⟩ ∈ wB := kwP 29 (by decide +kernel) (by decide +kernel)
theorem kp_30 : Cond.selects "ObjectMergeModel" ⟨"ObjectMergeModel", "headValue", "(II)J"⟩ ⟨"ObjectMergeModel", "headValue", "(II)J"⟩ ∈ wB := kwP 30 (by decide +kernel) (by decide +kernel)
theorem kp_31 : Cond.selects "ObjectMergeModel" ⟨"ObjectMergeModel", "add", "(II)V"⟩ ⟨"ObjectMergeModel", "add", "(II)V"⟩ ∈ wB := kwP 31 (by decide +kernel) (by decide +kernel)
theorem kp_32 : Cond.selects "ObjectMergeModel" ⟨"ObjectMergeModel", "unsettled", "(I)I"⟩ ⟨"ObjectMergeModel", "unsettled", "(I)I"⟩ ∈ wB := kwP 32 (by decide +kernel) (by decide +kernel)
theorem kp_33 : Cond.selects "ObjectMergeModel" ⟨"ObjectMergeModel", "sideOf", "(III)I"⟩ ⟨"ObjectMergeModel", "sideOf", "(III)I"⟩ ∈ wB := kwP 33 (by decide +kernel) (by decide +kernel)
theorem kp_34 : Cond.selects "ObjectMergeModel" ⟨"ObjectMergeModel", "merge", "(II)V"⟩ ⟨"ObjectMergeModel", "merge", "(II)V"⟩ ∈ wB := kwP 34 (by decide +kernel) (by decide +kernel)
theorem kp_35 : Cond.selects "ObjectMergeModel" ⟨"ObjectMergeModel", "takeAll", "(II)V"⟩ ⟨"ObjectMergeModel", "takeAll", "(II)V"⟩ ∈ wB := kwP 35 (by decide +kernel) (by decide +kernel)
theorem kp_36 : Cond.selects "ObjectMergeModel" ⟨"ObjectMergeModel", "takeField", "(III)V"⟩ ⟨"ObjectMergeModel", "takeField", "(III)V"⟩ ∈ wB := kwP 36 (by decide +kernel) (by decide +kernel)
theorem kp_37 : Cond.selects "ObjectMergeModel" ⟨"ObjectMergeModel", "isConflict", "(II)Z"⟩ ⟨"ObjectMergeModel", "isConflict", "(II)Z"⟩ ∈ wB := kwP 37 (by decide +kernel) (by decide +kernel)
theorem kp_38 : Cond.selects "ObjectMergeModel" ⟨"ObjectMergeModel", "dropMarks", "()V"⟩ ⟨"ObjectMergeModel", "dropMarks", "()V"⟩ ∈ wB := kwP 38 (by decide +kernel) (by decide +kernel)
theorem kp_39 : Cond.selects "ObjectMergeModel" ⟨"ObjectMergeModel", "dropLocks", "(I)V"⟩ ⟨"ObjectMergeModel", "dropLocks", "(I)V"⟩ ∈ wB := kwP 39 (by decide +kernel) (by decide +kernel)
theorem kp_40 : Cond.selects "ObjectMergeModel" ⟨"ObjectMergeModel", "isBroken", "(I)Z"⟩ ⟨"ObjectMergeModel", "isBroken", "(I)Z"⟩ ∈ wB := kwP 40 (by decide +kernel) (by decide +kernel)
theorem inX0 : ∀ w ∈ u_ws RX0 TX0 5, w ∈ wB := by
  intro w hw
  obtain ⟨k, hk, rfl⟩ := List.mem_map.mp hw
  have hk := List.mem_range.mp hk
  rcases (show k = 0 ∨ k = 1 ∨ k = 2 ∨ k = 3 ∨ k = 4 by omega) with rfl | rfl | rfl | rfl | rfl
  · exact kw_522
  · exact kw_524
  · exact kw_526
  · exact kw_528
  · exact kw_530
theorem inX1 : ∀ w ∈ u_ws RX1 TX1 4, w ∈ wB := by
  intro w hw
  obtain ⟨k, hk, rfl⟩ := List.mem_map.mp hw
  have hk := List.mem_range.mp hk
  rcases (show k = 0 ∨ k = 1 ∨ k = 2 ∨ k = 3 by omega) with rfl | rfl | rfl | rfl
  · exact kw_133
  · exact kw_135
  · exact kw_137
  · exact kw_139
theorem inX2 : ∀ w ∈ u_ws RX2 TX2 3, w ∈ wB := by
  intro w hw
  obtain ⟨k, hk, rfl⟩ := List.mem_map.mp hw
  have hk := List.mem_range.mp hk
  rcases (show k = 0 ∨ k = 1 ∨ k = 2 by omega) with rfl | rfl | rfl
  · exact kw_67
  · exact kw_69
  · exact kw_71
theorem inX3 : ∀ w ∈ u_ws RX3 TX3 1, w ∈ wB := by
  intro w hw
  obtain ⟨k, hk, rfl⟩ := List.mem_map.mp hw
  have hk := List.mem_range.mp hk
  rcases (show k = 0 by omega) with rfl
  · exact kw_649
theorem inX4 : ∀ w ∈ u_ws RX4 TX4 1, w ∈ wB := by
  intro w hw
  obtain ⟨k, hk, rfl⟩ := List.mem_map.mp hw
  have hk := List.mem_range.mp hk
  rcases (show k = 0 by omega) with rfl
  · exact kw_52
theorem inX5 : ∀ w ∈ u_ws RX5 TX5 1, w ∈ wB := by
  intro w hw
  obtain ⟨k, hk, rfl⟩ := List.mem_map.mp hw
  have hk := List.mem_range.mp hk
  rcases (show k = 0 by omega) with rfl
  · exact kw_265
theorem inX6 : ∀ w ∈ u_ws RX6 TX6 3, w ∈ wB := by
  intro w hw
  obtain ⟨k, hk, rfl⟩ := List.mem_map.mp hw
  have hk := List.mem_range.mp hk
  rcases (show k = 0 ∨ k = 1 ∨ k = 2 by omega) with rfl | rfl | rfl
  · exact kw_560
  · exact kw_562
  · exact kw_564
theorem inX7 : ∀ w ∈ u_ws RX7 TX7 6, w ∈ wB := by
  intro w hw
  obtain ⟨k, hk, rfl⟩ := List.mem_map.mp hw
  have hk := List.mem_range.mp hk
  rcases (show k = 0 ∨ k = 1 ∨ k = 2 ∨ k = 3 ∨ k = 4 ∨ k = 5 by omega) with rfl | rfl | rfl | rfl | rfl | rfl
  · exact kw_157
  · exact kw_159
  · exact kw_161
  · exact kw_163
  · exact kw_165
  · exact kw_167
theorem inX8 : ∀ w ∈ u_ws RX8 TX8 1, w ∈ wB := by
  intro w hw
  obtain ⟨k, hk, rfl⟩ := List.mem_map.mp hw
  have hk := List.mem_range.mp hk
  rcases (show k = 0 by omega) with rfl
  · exact kw_38
theorem inX9 : ∀ w ∈ u_ws RX9 TX9 11, w ∈ wB := by
  intro w hw
  obtain ⟨k, hk, rfl⟩ := List.mem_map.mp hw
  have hk := List.mem_range.mp hk
  rcases (show k = 0 ∨ k = 1 ∨ k = 2 ∨ k = 3 ∨ k = 4 ∨ k = 5 ∨ k = 6 ∨ k = 7 ∨ k = 8 ∨ k = 9 ∨ k = 10 by omega) with rfl | rfl | rfl | rfl | rfl | rfl | rfl | rfl | rfl | rfl | rfl
  · exact kw_86
  · exact kw_88
  · exact kw_90
  · exact kw_92
  · exact kw_94
  · exact kw_96
  · exact kw_98
  · exact kw_100
  · exact kw_102
  · exact kw_104
  · exact kw_106
theorem inX10 : ∀ w ∈ u_ws RX10 TX10 28, w ∈ wB := by
  intro w hw
  obtain ⟨k, hk, rfl⟩ := List.mem_map.mp hw
  have hk := List.mem_range.mp hk
  rcases (show k = 0 ∨ k = 1 ∨ k = 2 ∨ k = 3 ∨ k = 4 ∨ k = 5 ∨ k = 6 ∨ k = 7 ∨ k = 8 ∨ k = 9 ∨ k = 10 ∨ k = 11 ∨ k = 12 ∨ k = 13 ∨ k = 14 ∨ k = 15 ∨ k = 16 ∨ k = 17 ∨ k = 18 ∨ k = 19 ∨ k = 20 ∨ k = 21 ∨ k = 22 ∨ k = 23 ∨ k = 24 ∨ k = 25 ∨ k = 26 ∨ k = 27 by omega) with rfl | rfl | rfl | rfl | rfl | rfl | rfl | rfl | rfl | rfl | rfl | rfl | rfl | rfl | rfl | rfl | rfl | rfl | rfl | rfl | rfl | rfl | rfl | rfl | rfl | rfl | rfl | rfl
  · exact kw_711
  · exact kw_713
  · exact kw_715
  · exact kw_717
  · exact kw_719
  · exact kw_721
  · exact kw_723
  · exact kw_725
  · exact kw_727
  · exact kw_729
  · exact kw_731
  · exact kw_733
  · exact kw_735
  · exact kw_737
  · exact kw_739
  · exact kw_741
  · exact kw_743
  · exact kw_745
  · exact kw_747
  · exact kw_749
  · exact kw_751
  · exact kw_753
  · exact kw_755
  · exact kw_757
  · exact kw_759
  · exact kw_761
  · exact kw_763
  · exact kw_765
end
section
theorem dX0_init_0 : decode cX0_init 0 = .ok (.aload_n 0, 1) := by decide +kernel
theorem dX0_init_1 : decode cX0_init 1 = .ok (.invokespecial 1, 3) := by decide +kernel
theorem dX0_init_4 : decode cX0_init 4 = .ok (.aload_n 0, 1) := by decide +kernel
theorem dX0_init_5 : decode cX0_init 5 = .ok (.iload_n 1, 1) := by decide +kernel
theorem dX0_init_6 : decode cX0_init 6 = .ok (.putfield 7, 3) := by decide +kernel
theorem dX0_init_9 : decode cX0_init 9 = .ok (.aload_n 0, 1) := by decide +kernel
theorem dX0_init_10 : decode cX0_init 10 = .ok (.lload_n 2, 1) := by decide +kernel
theorem dX0_init_11 : decode cX0_init 11 = .ok (.putfield 13, 3) := by decide +kernel
theorem dX0_init_14 : decode cX0_init 14 = .ok (.aload_n 0, 1) := by decide +kernel
theorem dX0_init_15 : decode cX0_init 15 = .ok (.lload 4, 2) := by decide +kernel
theorem dX0_init_17 : decode cX0_init 17 = .ok (.putfield 17, 3) := by decide +kernel
theorem dX0_init_20 : decode cX0_init 20 = .ok (.aload_n 0, 1) := by decide +kernel
theorem dX0_init_21 : decode cX0_init 21 = .ok (.lload 6, 2) := by decide +kernel
theorem dX0_init_23 : decode cX0_init 23 = .ok (.putfield 20, 3) := by decide +kernel
theorem dX0_init_26 : decode cX0_init 26 = .ok (.aload_n 0, 1) := by decide +kernel
theorem dX0_init_27 : decode cX0_init 27 = .ok (.lload 8, 2) := by decide +kernel
theorem dX0_init_29 : decode cX0_init 29 = .ok (.putfield 23, 3) := by decide +kernel
theorem dX0_init_32 : decode cX0_init 32 = .ok (.return_, 1) := by decide +kernel
theorem dX0_holds_0 : decode cX0_holds 0 = .ok (.aload_n 0, 1) := by decide +kernel
theorem dX0_holds_1 : decode cX0_holds 1 = .ok (.getfield 13, 3) := by decide +kernel
theorem dX0_holds_4 : decode cX0_holds 4 = .ok (.lload_n 1, 1) := by decide +kernel
theorem dX0_holds_5 : decode cX0_holds 5 = .ok (.lcmp, 1) := by decide +kernel
theorem dX0_holds_6 : decode cX0_holds 6 = .ok (.ifCond .gt 34, 3) := by decide +kernel
theorem dX0_holds_9 : decode cX0_holds 9 = .ok (.lload_n 1, 1) := by decide +kernel
theorem dX0_holds_10 : decode cX0_holds 10 = .ok (.aload_n 0, 1) := by decide +kernel
theorem dX0_holds_11 : decode cX0_holds 11 = .ok (.getfield 20, 3) := by decide +kernel
theorem dX0_holds_14 : decode cX0_holds 14 = .ok (.lcmp, 1) := by decide +kernel
theorem dX0_holds_15 : decode cX0_holds 15 = .ok (.ifCond .gt 25, 3) := by decide +kernel
theorem dX0_holds_18 : decode cX0_holds 18 = .ok (.aload_n 0, 1) := by decide +kernel
theorem dX0_holds_19 : decode cX0_holds 19 = .ok (.getfield 17, 3) := by decide +kernel
theorem dX0_holds_22 : decode cX0_holds 22 = .ok (.lload_n 3, 1) := by decide +kernel
theorem dX0_holds_23 : decode cX0_holds 23 = .ok (.lcmp, 1) := by decide +kernel
theorem dX0_holds_24 : decode cX0_holds 24 = .ok (.ifCond .gt 16, 3) := by decide +kernel
theorem dX0_holds_27 : decode cX0_holds 27 = .ok (.lload_n 3, 1) := by decide +kernel
theorem dX0_holds_28 : decode cX0_holds 28 = .ok (.aload_n 0, 1) := by decide +kernel
theorem dX0_holds_29 : decode cX0_holds 29 = .ok (.getfield 23, 3) := by decide +kernel
theorem dX0_holds_32 : decode cX0_holds 32 = .ok (.lcmp, 1) := by decide +kernel
theorem dX0_holds_33 : decode cX0_holds 33 = .ok (.ifCond .gt 7, 3) := by decide +kernel
theorem dX0_holds_36 : decode cX0_holds 36 = .ok (.iconst 1, 1) := by decide +kernel
theorem dX0_holds_37 : decode cX0_holds 37 = .ok (.goto 4, 3) := by decide +kernel
theorem dX0_holds_40 : decode cX0_holds 40 = .ok (.iconst 0, 1) := by decide +kernel
theorem dX0_holds_41 : decode cX0_holds 41 = .ok (.ireturn, 1) := by decide +kernel
theorem dX0_meets_0 : decode cX0_meets 0 = .ok (.aload_n 0, 1) := by decide +kernel
theorem dX0_meets_1 : decode cX0_meets 1 = .ok (.getfield 13, 3) := by decide +kernel
theorem dX0_meets_4 : decode cX0_meets 4 = .ok (.aload_n 1, 1) := by decide +kernel
theorem dX0_meets_5 : decode cX0_meets 5 = .ok (.getfield 20, 3) := by decide +kernel
theorem dX0_meets_8 : decode cX0_meets 8 = .ok (.lcmp, 1) := by decide +kernel
theorem dX0_meets_9 : decode cX0_meets 9 = .ok (.ifCond .gt 43, 3) := by decide +kernel
theorem dX0_meets_12 : decode cX0_meets 12 = .ok (.aload_n 1, 1) := by decide +kernel
theorem dX0_meets_13 : decode cX0_meets 13 = .ok (.getfield 13, 3) := by decide +kernel
theorem dX0_meets_16 : decode cX0_meets 16 = .ok (.aload_n 0, 1) := by decide +kernel
theorem dX0_meets_17 : decode cX0_meets 17 = .ok (.getfield 20, 3) := by decide +kernel
theorem dX0_meets_20 : decode cX0_meets 20 = .ok (.lcmp, 1) := by decide +kernel
theorem dX0_meets_21 : decode cX0_meets 21 = .ok (.ifCond .gt 31, 3) := by decide +kernel
theorem dX0_meets_24 : decode cX0_meets 24 = .ok (.aload_n 0, 1) := by decide +kernel
theorem dX0_meets_25 : decode cX0_meets 25 = .ok (.getfield 17, 3) := by decide +kernel
theorem dX0_meets_28 : decode cX0_meets 28 = .ok (.aload_n 1, 1) := by decide +kernel
theorem dX0_meets_29 : decode cX0_meets 29 = .ok (.getfield 23, 3) := by decide +kernel
theorem dX0_meets_32 : decode cX0_meets 32 = .ok (.lcmp, 1) := by decide +kernel
theorem dX0_meets_33 : decode cX0_meets 33 = .ok (.ifCond .gt 19, 3) := by decide +kernel
theorem dX0_meets_36 : decode cX0_meets 36 = .ok (.aload_n 1, 1) := by decide +kernel
theorem dX0_meets_37 : decode cX0_meets 37 = .ok (.getfield 17, 3) := by decide +kernel
theorem dX0_meets_40 : decode cX0_meets 40 = .ok (.aload_n 0, 1) := by decide +kernel
theorem dX0_meets_41 : decode cX0_meets 41 = .ok (.getfield 23, 3) := by decide +kernel
theorem dX0_meets_44 : decode cX0_meets 44 = .ok (.lcmp, 1) := by decide +kernel
theorem dX0_meets_45 : decode cX0_meets 45 = .ok (.ifCond .gt 7, 3) := by decide +kernel
theorem dX0_meets_48 : decode cX0_meets 48 = .ok (.iconst 1, 1) := by decide +kernel
theorem dX0_meets_49 : decode cX0_meets 49 = .ok (.goto 4, 3) := by decide +kernel
theorem dX0_meets_52 : decode cX0_meets 52 = .ok (.iconst 0, 1) := by decide +kernel
theorem dX0_meets_53 : decode cX0_meets 53 = .ok (.ireturn, 1) := by decide +kernel
theorem dX1_init_0 : decode cX1_init 0 = .ok (.aload_n 0, 1) := by decide +kernel
theorem dX1_init_1 : decode cX1_init 1 = .ok (.invokespecial 3, 3) := by decide +kernel
theorem dX1_init_4 : decode cX1_init 4 = .ok (.aload_n 0, 1) := by decide +kernel
theorem dX1_init_5 : decode cX1_init 5 = .ok (.bipush 40, 2) := by decide +kernel
theorem dX1_init_7 : decode cX1_init 7 = .ok (.newarray .int, 2) := by decide +kernel
theorem dX1_init_9 : decode cX1_init 9 = .ok (.putfield 9, 3) := by decide +kernel
theorem dX1_init_12 : decode cX1_init 12 = .ok (.aload_n 0, 1) := by decide +kernel
theorem dX1_init_13 : decode cX1_init 13 = .ok (.bipush 40, 2) := by decide +kernel
theorem dX1_init_15 : decode cX1_init 15 = .ok (.anewarray 15, 3) := by decide +kernel
theorem dX1_init_18 : decode cX1_init 18 = .ok (.putfield 17, 3) := by decide +kernel
theorem dX1_init_21 : decode cX1_init 21 = .ok (.return_, 1) := by decide +kernel
theorem dX1_keep_0 : decode cX1_keep 0 = .ok (.aload_n 0, 1) := by decide +kernel
theorem dX1_keep_1 : decode cX1_keep 1 = .ok (.getfield 9, 3) := by decide +kernel
theorem dX1_keep_4 : decode cX1_keep 4 = .ok (.aload_n 0, 1) := by decide +kernel
theorem dX1_keep_5 : decode cX1_keep 5 = .ok (.getfield 21, 3) := by decide +kernel
theorem dX1_keep_8 : decode cX1_keep 8 = .ok (.iload_n 1, 1) := by decide +kernel
theorem dX1_keep_9 : decode cX1_keep 9 = .ok (.iastore, 1) := by decide +kernel
theorem dX1_keep_10 : decode cX1_keep 10 = .ok (.aload_n 0, 1) := by decide +kernel
theorem dX1_keep_11 : decode cX1_keep 11 = .ok (.getfield 17, 3) := by decide +kernel
theorem dX1_keep_14 : decode cX1_keep 14 = .ok (.aload_n 0, 1) := by decide +kernel
theorem dX1_keep_15 : decode cX1_keep 15 = .ok (.getfield 21, 3) := by decide +kernel
theorem dX1_keep_18 : decode cX1_keep 18 = .ok (.aload_n 2, 1) := by decide +kernel
theorem dX1_keep_19 : decode cX1_keep 19 = .ok (.aastore, 1) := by decide +kernel
theorem dX1_keep_20 : decode cX1_keep 20 = .ok (.aload_n 0, 1) := by decide +kernel
theorem dX1_keep_21 : decode cX1_keep 21 = .ok (.aload_n 0, 1) := by decide +kernel
theorem dX1_keep_22 : decode cX1_keep 22 = .ok (.getfield 21, 3) := by decide +kernel
theorem dX1_keep_25 : decode cX1_keep 25 = .ok (.iconst 1, 1) := by decide +kernel
theorem dX1_keep_26 : decode cX1_keep 26 = .ok (.iadd, 1) := by decide +kernel
theorem dX1_keep_27 : decode cX1_keep 27 = .ok (.bipush 40, 2) := by decide +kernel
theorem dX1_keep_29 : decode cX1_keep 29 = .ok (.if_icmp .lt 7, 3) := by decide +kernel
theorem dX1_keep_32 : decode cX1_keep 32 = .ok (.iconst 0, 1) := by decide +kernel
theorem dX1_keep_33 : decode cX1_keep 33 = .ok (.goto 9, 3) := by decide +kernel
theorem dX1_keep_36 : decode cX1_keep 36 = .ok (.aload_n 0, 1) := by decide +kernel
theorem dX1_keep_37 : decode cX1_keep 37 = .ok (.getfield 21, 3) := by decide +kernel
theorem dX1_keep_40 : decode cX1_keep 40 = .ok (.iconst 1, 1) := by decide +kernel
theorem dX1_keep_41 : decode cX1_keep 41 = .ok (.iadd, 1) := by decide +kernel
theorem dX1_keep_42 : decode cX1_keep 42 = .ok (.putfield 21, 3) := by decide +kernel
theorem dX1_keep_45 : decode cX1_keep 45 = .ok (.aload_n 0, 1) := by decide +kernel
theorem dX1_keep_46 : decode cX1_keep 46 = .ok (.aload_n 0, 1) := by decide +kernel
theorem dX1_keep_47 : decode cX1_keep 47 = .ok (.getfield 25, 3) := by decide +kernel
theorem dX1_keep_50 : decode cX1_keep 50 = .ok (.iconst 1, 1) := by decide +kernel
theorem dX1_keep_51 : decode cX1_keep 51 = .ok (.iadd, 1) := by decide +kernel
theorem dX1_keep_52 : decode cX1_keep 52 = .ok (.bipush 40, 2) := by decide +kernel
theorem dX1_keep_54 : decode cX1_keep 54 = .ok (.invokestatic 28, 3) := by decide +kernel
theorem dX1_keep_57 : decode cX1_keep 57 = .ok (.putfield 25, 3) := by decide +kernel
theorem dX1_keep_60 : decode cX1_keep 60 = .ok (.return_, 1) := by decide +kernel
theorem dX1_stepBack_0 : decode cX1_stepBack 0 = .ok (.aload_n 0, 1) := by decide +kernel
theorem dX1_stepBack_1 : decode cX1_stepBack 1 = .ok (.getfield 25, 3) := by decide +kernel
theorem dX1_stepBack_4 : decode cX1_stepBack 4 = .ok (.ifCond .ne 5, 3) := by decide +kernel
theorem dX1_stepBack_7 : decode cX1_stepBack 7 = .ok (.iconst 0, 1) := by decide +kernel
theorem dX1_stepBack_8 : decode cX1_stepBack 8 = .ok (.ireturn, 1) := by decide +kernel
theorem dX1_stepBack_9 : decode cX1_stepBack 9 = .ok (.aload_n 0, 1) := by decide +kernel
theorem dX1_stepBack_10 : decode cX1_stepBack 10 = .ok (.dup, 1) := by decide +kernel
theorem dX1_stepBack_11 : decode cX1_stepBack 11 = .ok (.getfield 25, 3) := by decide +kernel
theorem dX1_stepBack_14 : decode cX1_stepBack 14 = .ok (.iconst 1, 1) := by decide +kernel
theorem dX1_stepBack_15 : decode cX1_stepBack 15 = .ok (.isub, 1) := by decide +kernel
theorem dX1_stepBack_16 : decode cX1_stepBack 16 = .ok (.putfield 25, 3) := by decide +kernel
theorem dX1_stepBack_19 : decode cX1_stepBack 19 = .ok (.aload_n 0, 1) := by decide +kernel
theorem dX1_stepBack_20 : decode cX1_stepBack 20 = .ok (.aload_n 0, 1) := by decide +kernel
theorem dX1_stepBack_21 : decode cX1_stepBack 21 = .ok (.getfield 21, 3) := by decide +kernel
theorem dX1_stepBack_24 : decode cX1_stepBack 24 = .ok (.ifCond .ne 8, 3) := by decide +kernel
theorem dX1_stepBack_27 : decode cX1_stepBack 27 = .ok (.bipush 39, 2) := by decide +kernel
theorem dX1_stepBack_29 : decode cX1_stepBack 29 = .ok (.goto 9, 3) := by decide +kernel
theorem dX1_stepBack_32 : decode cX1_stepBack 32 = .ok (.aload_n 0, 1) := by decide +kernel
theorem dX1_stepBack_33 : decode cX1_stepBack 33 = .ok (.getfield 21, 3) := by decide +kernel
theorem dX1_stepBack_36 : decode cX1_stepBack 36 = .ok (.iconst 1, 1) := by decide +kernel
theorem dX1_stepBack_37 : decode cX1_stepBack 37 = .ok (.isub, 1) := by decide +kernel
theorem dX1_stepBack_38 : decode cX1_stepBack 38 = .ok (.putfield 21, 3) := by decide +kernel
theorem dX1_stepBack_41 : decode cX1_stepBack 41 = .ok (.iconst 1, 1) := by decide +kernel
theorem dX1_stepBack_42 : decode cX1_stepBack 42 = .ok (.ireturn, 1) := by decide +kernel
theorem dX1_changedObject_0 : decode cX1_changedObject 0 = .ok (.aload_n 0, 1) := by decide +kernel
theorem dX1_changedObject_1 : decode cX1_changedObject 1 = .ok (.getfield 9, 3) := by decide +kernel
theorem dX1_changedObject_4 : decode cX1_changedObject 4 = .ok (.aload_n 0, 1) := by decide +kernel
theorem dX1_changedObject_5 : decode cX1_changedObject 5 = .ok (.getfield 21, 3) := by decide +kernel
theorem dX1_changedObject_8 : decode cX1_changedObject 8 = .ok (.iaload, 1) := by decide +kernel
theorem dX1_changedObject_9 : decode cX1_changedObject 9 = .ok (.ireturn, 1) := by decide +kernel
theorem dX1_rowBefore_0 : decode cX1_rowBefore 0 = .ok (.aload_n 0, 1) := by decide +kernel
theorem dX1_rowBefore_1 : decode cX1_rowBefore 1 = .ok (.getfield 17, 3) := by decide +kernel
theorem dX1_rowBefore_4 : decode cX1_rowBefore 4 = .ok (.aload_n 0, 1) := by decide +kernel
theorem dX1_rowBefore_5 : decode cX1_rowBefore 5 = .ok (.getfield 21, 3) := by decide +kernel
theorem dX1_rowBefore_8 : decode cX1_rowBefore 8 = .ok (.aaload, 1) := by decide +kernel
theorem dX1_rowBefore_9 : decode cX1_rowBefore 9 = .ok (.areturn, 1) := by decide +kernel
theorem dX2_init_0 : decode cX2_init 0 = .ok (.aload_n 0, 1) := by decide +kernel
theorem dX2_init_1 : decode cX2_init 1 = .ok (.invokespecial 3, 3) := by decide +kernel
theorem dX2_init_4 : decode cX2_init 4 = .ok (.aload_n 0, 1) := by decide +kernel
theorem dX2_init_5 : decode cX2_init 5 = .ok (.sipush 360, 3) := by decide +kernel
theorem dX2_init_8 : decode cX2_init 8 = .ok (.newarray .int, 2) := by decide +kernel
theorem dX2_init_10 : decode cX2_init 10 = .ok (.putfield 9, 3) := by decide +kernel
theorem dX2_init_13 : decode cX2_init 13 = .ok (.return_, 1) := by decide +kernel
theorem dX2_gather_0 : decode cX2_gather 0 = .ok (.aload_n 0, 1) := by decide +kernel
theorem dX2_gather_1 : decode cX2_gather 1 = .ok (.aload_n 1, 1) := by decide +kernel
theorem dX2_gather_2 : decode cX2_gather 2 = .ok (.putfield 15, 3) := by decide +kernel
theorem dX2_gather_5 : decode cX2_gather 5 = .ok (.aload_n 0, 1) := by decide +kernel
theorem dX2_gather_6 : decode cX2_gather 6 = .ok (.iconst 0, 1) := by decide +kernel
theorem dX2_gather_7 : decode cX2_gather 7 = .ok (.putfield 19, 3) := by decide +kernel
theorem dX2_gather_10 : decode cX2_gather 10 = .ok (.iconst 0, 1) := by decide +kernel
theorem dX2_gather_11 : decode cX2_gather 11 = .ok (.istore_n 3, 1) := by decide +kernel
theorem dX2_gather_12 : decode cX2_gather 12 = .ok (.iload_n 3, 1) := by decide +kernel
theorem dX2_gather_13 : decode cX2_gather 13 = .ok (.bipush 60, 2) := by decide +kernel
theorem dX2_gather_15 : decode cX2_gather 15 = .ok (.if_icmp .ge 23, 3) := by decide +kernel
theorem dX2_gather_18 : decode cX2_gather 18 = .ok (.aload_n 1, 1) := by decide +kernel
theorem dX2_gather_19 : decode cX2_gather 19 = .ok (.iload_n 3, 1) := by decide +kernel
theorem dX2_gather_20 : decode cX2_gather 20 = .ok (.invokevirtual 23, 3) := by decide +kernel
theorem dX2_gather_23 : decode cX2_gather 23 = .ok (.ifCond .eq 9, 3) := by decide +kernel
theorem dX2_gather_26 : decode cX2_gather 26 = .ok (.aload_n 0, 1) := by decide +kernel
theorem dX2_gather_27 : decode cX2_gather 27 = .ok (.iload_n 3, 1) := by decide +kernel
theorem dX2_gather_28 : decode cX2_gather 28 = .ok (.aload_n 2, 1) := by decide +kernel
theorem dX2_gather_29 : decode cX2_gather 29 = .ok (.invokevirtual 29, 3) := by decide +kernel
theorem dX2_gather_32 : decode cX2_gather 32 = .ok (.iinc 3 1, 3) := by decide +kernel
theorem dX2_gather_35 : decode cX2_gather 35 = .ok (.goto (-23), 3) := by decide +kernel
theorem dX2_gather_38 : decode cX2_gather 38 = .ok (.return_, 1) := by decide +kernel
theorem dX2_gatherOf_0 : decode cX2_gatherOf 0 = .ok (.iconst 0, 1) := by decide +kernel
theorem dX2_gatherOf_1 : decode cX2_gatherOf 1 = .ok (.istore_n 3, 1) := by decide +kernel
theorem dX2_gatherOf_2 : decode cX2_gatherOf 2 = .ok (.iload_n 3, 1) := by decide +kernel
theorem dX2_gatherOf_3 : decode cX2_gatherOf 3 = .ok (.bipush 7, 2) := by decide +kernel
theorem dX2_gatherOf_5 : decode cX2_gatherOf 5 = .ok (.if_icmp .ge 66, 3) := by decide +kernel
theorem dX2_gatherOf_8 : decode cX2_gatherOf 8 = .ok (.aload_n 0, 1) := by decide +kernel
theorem dX2_gatherOf_9 : decode cX2_gatherOf 9 = .ok (.getfield 15, 3) := by decide +kernel
theorem dX2_gatherOf_12 : decode cX2_gatherOf 12 = .ok (.ifnull 53, 3) := by decide +kernel
theorem dX2_gatherOf_15 : decode cX2_gatherOf 15 = .ok (.aload_n 0, 1) := by decide +kernel
theorem dX2_gatherOf_16 : decode cX2_gatherOf 16 = .ok (.getfield 15, 3) := by decide +kernel
theorem dX2_gatherOf_19 : decode cX2_gatherOf 19 = .ok (.iload_n 1, 1) := by decide +kernel
theorem dX2_gatherOf_20 : decode cX2_gatherOf 20 = .ok (.iload_n 3, 1) := by decide +kernel
theorem dX2_gatherOf_21 : decode cX2_gatherOf 21 = .ok (.aload_n 2, 1) := by decide +kernel
theorem dX2_gatherOf_22 : decode cX2_gatherOf 22 = .ok (.invokevirtual 33, 3) := by decide +kernel
theorem dX2_gatherOf_25 : decode cX2_gatherOf 25 = .ok (.ifCond .eq 40, 3) := by decide +kernel
theorem dX2_gatherOf_28 : decode cX2_gatherOf 28 = .ok (.aload_n 0, 1) := by decide +kernel
theorem dX2_gatherOf_29 : decode cX2_gatherOf 29 = .ok (.getfield 19, 3) := by decide +kernel
theorem dX2_gatherOf_32 : decode cX2_gatherOf 32 = .ok (.aload_n 0, 1) := by decide +kernel
theorem dX2_gatherOf_33 : decode cX2_gatherOf 33 = .ok (.getfield 9, 3) := by decide +kernel
theorem dX2_gatherOf_36 : decode cX2_gatherOf 36 = .ok (.arraylength, 1) := by decide +kernel
theorem dX2_gatherOf_37 : decode cX2_gatherOf 37 = .ok (.if_icmp .ge 28, 3) := by decide +kernel
theorem dX2_gatherOf_40 : decode cX2_gatherOf 40 = .ok (.aload_n 0, 1) := by decide +kernel
theorem dX2_gatherOf_41 : decode cX2_gatherOf 41 = .ok (.getfield 9, 3) := by decide +kernel
theorem dX2_gatherOf_44 : decode cX2_gatherOf 44 = .ok (.aload_n 0, 1) := by decide +kernel
theorem dX2_gatherOf_45 : decode cX2_gatherOf 45 = .ok (.getfield 19, 3) := by decide +kernel
theorem dX2_gatherOf_48 : decode cX2_gatherOf 48 = .ok (.bipush 8, 2) := by decide +kernel
theorem dX2_gatherOf_50 : decode cX2_gatherOf 50 = .ok (.iload_n 1, 1) := by decide +kernel
theorem dX2_gatherOf_51 : decode cX2_gatherOf 51 = .ok (.imul, 1) := by decide +kernel
theorem dX2_gatherOf_52 : decode cX2_gatherOf 52 = .ok (.iload_n 3, 1) := by decide +kernel
theorem dX2_gatherOf_53 : decode cX2_gatherOf 53 = .ok (.iadd, 1) := by decide +kernel
theorem dX2_gatherOf_54 : decode cX2_gatherOf 54 = .ok (.iastore, 1) := by decide +kernel
theorem dX2_gatherOf_55 : decode cX2_gatherOf 55 = .ok (.aload_n 0, 1) := by decide +kernel
theorem dX2_gatherOf_56 : decode cX2_gatherOf 56 = .ok (.dup, 1) := by decide +kernel
theorem dX2_gatherOf_57 : decode cX2_gatherOf 57 = .ok (.getfield 19, 3) := by decide +kernel
theorem dX2_gatherOf_60 : decode cX2_gatherOf 60 = .ok (.iconst 1, 1) := by decide +kernel
theorem dX2_gatherOf_61 : decode cX2_gatherOf 61 = .ok (.iadd, 1) := by decide +kernel
theorem dX2_gatherOf_62 : decode cX2_gatherOf 62 = .ok (.putfield 19, 3) := by decide +kernel
theorem dX2_gatherOf_65 : decode cX2_gatherOf 65 = .ok (.iinc 3 1, 3) := by decide +kernel
theorem dX2_gatherOf_68 : decode cX2_gatherOf 68 = .ok (.goto (-66), 3) := by decide +kernel
theorem dX2_gatherOf_71 : decode cX2_gatherOf 71 = .ok (.return_, 1) := by decide +kernel
theorem dX2_unsettled_0 : decode cX2_unsettled 0 = .ok (.iconst 0, 1) := by decide +kernel
theorem dX2_unsettled_1 : decode cX2_unsettled 1 = .ok (.istore_n 1, 1) := by decide +kernel
theorem dX2_unsettled_2 : decode cX2_unsettled 2 = .ok (.iconst 0, 1) := by decide +kernel
theorem dX2_unsettled_3 : decode cX2_unsettled 3 = .ok (.istore_n 2, 1) := by decide +kernel
theorem dX2_unsettled_4 : decode cX2_unsettled 4 = .ok (.iload_n 2, 1) := by decide +kernel
theorem dX2_unsettled_5 : decode cX2_unsettled 5 = .ok (.aload_n 0, 1) := by decide +kernel
theorem dX2_unsettled_6 : decode cX2_unsettled 6 = .ok (.getfield 19, 3) := by decide +kernel
theorem dX2_unsettled_9 : decode cX2_unsettled 9 = .ok (.if_icmp .ge 40, 3) := by decide +kernel
theorem dX2_unsettled_12 : decode cX2_unsettled 12 = .ok (.aload_n 0, 1) := by decide +kernel
theorem dX2_unsettled_13 : decode cX2_unsettled 13 = .ok (.getfield 15, 3) := by decide +kernel
theorem dX2_unsettled_16 : decode cX2_unsettled 16 = .ok (.ifnull 27, 3) := by decide +kernel
theorem dX2_unsettled_19 : decode cX2_unsettled 19 = .ok (.aload_n 0, 1) := by decide +kernel
theorem dX2_unsettled_20 : decode cX2_unsettled 20 = .ok (.getfield 15, 3) := by decide +kernel
theorem dX2_unsettled_23 : decode cX2_unsettled 23 = .ok (.aload_n 0, 1) := by decide +kernel
theorem dX2_unsettled_24 : decode cX2_unsettled 24 = .ok (.iload_n 2, 1) := by decide +kernel
theorem dX2_unsettled_25 : decode cX2_unsettled 25 = .ok (.invokevirtual 37, 3) := by decide +kernel
theorem dX2_unsettled_28 : decode cX2_unsettled 28 = .ok (.aload_n 0, 1) := by decide +kernel
theorem dX2_unsettled_29 : decode cX2_unsettled 29 = .ok (.iload_n 2, 1) := by decide +kernel
theorem dX2_unsettled_30 : decode cX2_unsettled 30 = .ok (.invokevirtual 41, 3) := by decide +kernel
theorem dX2_unsettled_33 : decode cX2_unsettled 33 = .ok (.invokevirtual 44, 3) := by decide +kernel
theorem dX2_unsettled_36 : decode cX2_unsettled 36 = .ok (.iconst (-1), 1) := by decide +kernel
theorem dX2_unsettled_37 : decode cX2_unsettled 37 = .ok (.if_icmp .ne 6, 3) := by decide +kernel
theorem dX2_unsettled_40 : decode cX2_unsettled 40 = .ok (.iinc 1 1, 3) := by decide +kernel
theorem dX2_unsettled_43 : decode cX2_unsettled 43 = .ok (.iinc 2 1, 3) := by decide +kernel
theorem dX2_unsettled_46 : decode cX2_unsettled 46 = .ok (.goto (-42), 3) := by decide +kernel
theorem dX2_unsettled_49 : decode cX2_unsettled 49 = .ok (.iload_n 1, 1) := by decide +kernel
theorem dX2_unsettled_50 : decode cX2_unsettled 50 = .ok (.ireturn, 1) := by decide +kernel
theorem dX2_has_0 : decode cX2_has 0 = .ok (.iload_n 1, 1) := by decide +kernel
theorem dX2_has_1 : decode cX2_has 1 = .ok (.ifCond .lt 15, 3) := by decide +kernel
theorem dX2_has_4 : decode cX2_has 4 = .ok (.iload_n 1, 1) := by decide +kernel
theorem dX2_has_5 : decode cX2_has 5 = .ok (.aload_n 0, 1) := by decide +kernel
theorem dX2_has_6 : decode cX2_has 6 = .ok (.getfield 19, 3) := by decide +kernel
theorem dX2_has_9 : decode cX2_has 9 = .ok (.if_icmp .ge 7, 3) := by decide +kernel
theorem dX2_has_12 : decode cX2_has 12 = .ok (.iconst 1, 1) := by decide +kernel
theorem dX2_has_13 : decode cX2_has 13 = .ok (.goto 4, 3) := by decide +kernel
theorem dX2_has_16 : decode cX2_has 16 = .ok (.iconst 0, 1) := by decide +kernel
theorem dX2_has_17 : decode cX2_has 17 = .ok (.ireturn, 1) := by decide +kernel
theorem dX2_objectOf_0 : decode cX2_objectOf 0 = .ok (.aload_n 0, 1) := by decide +kernel
theorem dX2_objectOf_1 : decode cX2_objectOf 1 = .ok (.iload_n 1, 1) := by decide +kernel
theorem dX2_objectOf_2 : decode cX2_objectOf 2 = .ok (.invokevirtual 48, 3) := by decide +kernel
theorem dX2_objectOf_5 : decode cX2_objectOf 5 = .ok (.ifCond .eq 15, 3) := by decide +kernel
theorem dX2_objectOf_8 : decode cX2_objectOf 8 = .ok (.aload_n 0, 1) := by decide +kernel
theorem dX2_objectOf_9 : decode cX2_objectOf 9 = .ok (.getfield 9, 3) := by decide +kernel
theorem dX2_objectOf_12 : decode cX2_objectOf 12 = .ok (.iload_n 1, 1) := by decide +kernel
theorem dX2_objectOf_13 : decode cX2_objectOf 13 = .ok (.iaload, 1) := by decide +kernel
theorem dX2_objectOf_14 : decode cX2_objectOf 14 = .ok (.bipush 8, 2) := by decide +kernel
theorem dX2_objectOf_16 : decode cX2_objectOf 16 = .ok (.idiv, 1) := by decide +kernel
theorem dX2_objectOf_17 : decode cX2_objectOf 17 = .ok (.goto 4, 3) := by decide +kernel
theorem dX2_objectOf_20 : decode cX2_objectOf 20 = .ok (.iconst (-1), 1) := by decide +kernel
theorem dX2_objectOf_21 : decode cX2_objectOf 21 = .ok (.ireturn, 1) := by decide +kernel
theorem dX2_fieldOf_0 : decode cX2_fieldOf 0 = .ok (.aload_n 0, 1) := by decide +kernel
theorem dX2_fieldOf_1 : decode cX2_fieldOf 1 = .ok (.iload_n 1, 1) := by decide +kernel
theorem dX2_fieldOf_2 : decode cX2_fieldOf 2 = .ok (.invokevirtual 48, 3) := by decide +kernel
theorem dX2_fieldOf_5 : decode cX2_fieldOf 5 = .ok (.ifCond .eq 15, 3) := by decide +kernel
theorem dX2_fieldOf_8 : decode cX2_fieldOf 8 = .ok (.aload_n 0, 1) := by decide +kernel
theorem dX2_fieldOf_9 : decode cX2_fieldOf 9 = .ok (.getfield 9, 3) := by decide +kernel
theorem dX2_fieldOf_12 : decode cX2_fieldOf 12 = .ok (.iload_n 1, 1) := by decide +kernel
theorem dX2_fieldOf_13 : decode cX2_fieldOf 13 = .ok (.iaload, 1) := by decide +kernel
theorem dX2_fieldOf_14 : decode cX2_fieldOf 14 = .ok (.bipush 8, 2) := by decide +kernel
theorem dX2_fieldOf_16 : decode cX2_fieldOf 16 = .ok (.irem, 1) := by decide +kernel
theorem dX2_fieldOf_17 : decode cX2_fieldOf 17 = .ok (.goto 4, 3) := by decide +kernel
theorem dX2_fieldOf_20 : decode cX2_fieldOf 20 = .ok (.iconst (-1), 1) := by decide +kernel
theorem dX2_fieldOf_21 : decode cX2_fieldOf 21 = .ok (.ireturn, 1) := by decide +kernel
theorem dX3_init_0 : decode cX3_init 0 = .ok (.aload_n 0, 1) := by decide +kernel
theorem dX3_init_1 : decode cX3_init 1 = .ok (.invokespecial 1, 3) := by decide +kernel
theorem dX3_init_4 : decode cX3_init 4 = .ok (.aload_n 0, 1) := by decide +kernel
theorem dX3_init_5 : decode cX3_init 5 = .ok (.lload_n 1, 1) := by decide +kernel
theorem dX3_init_6 : decode cX3_init 6 = .ok (.putfield 7, 3) := by decide +kernel
theorem dX3_init_9 : decode cX3_init 9 = .ok (.return_, 1) := by decide +kernel
theorem dX3_below_0 : decode cX3_below 0 = .ok (.aload_n 0, 1) := by decide +kernel
theorem dX3_below_1 : decode cX3_below 1 = .ok (.aload_n 0, 1) := by decide +kernel
theorem dX3_below_2 : decode cX3_below 2 = .ok (.getfield 7, 3) := by decide +kernel
theorem dX3_below_5 : decode cX3_below 5 = .ok (.ldc2_w 13, 3) := by decide +kernel
theorem dX3_below_8 : decode cX3_below 8 = .ok (.lmul, 1) := by decide +kernel
theorem dX3_below_9 : decode cX3_below 9 = .ok (.ldc2_w 15, 3) := by decide +kernel
theorem dX3_below_12 : decode cX3_below 12 = .ok (.ladd, 1) := by decide +kernel
theorem dX3_below_13 : decode cX3_below 13 = .ok (.putfield 7, 3) := by decide +kernel
theorem dX3_below_16 : decode cX3_below 16 = .ok (.iload_n 1, 1) := by decide +kernel
theorem dX3_below_17 : decode cX3_below 17 = .ok (.ifCond .gt 7, 3) := by decide +kernel
theorem dX3_below_20 : decode cX3_below 20 = .ok (.iconst 0, 1) := by decide +kernel
theorem dX3_below_21 : decode cX3_below 21 = .ok (.goto 14, 3) := by decide +kernel
theorem dX3_below_24 : decode cX3_below 24 = .ok (.aload_n 0, 1) := by decide +kernel
theorem dX3_below_25 : decode cX3_below 25 = .ok (.getfield 7, 3) := by decide +kernel
theorem dX3_below_28 : decode cX3_below 28 = .ok (.bipush 33, 2) := by decide +kernel
theorem dX3_below_30 : decode cX3_below 30 = .ok (.lushr, 1) := by decide +kernel
theorem dX3_below_31 : decode cX3_below 31 = .ok (.iload_n 1, 1) := by decide +kernel
theorem dX3_below_32 : decode cX3_below 32 = .ok (.i2l, 1) := by decide +kernel
theorem dX3_below_33 : decode cX3_below 33 = .ok (.lrem, 1) := by decide +kernel
theorem dX3_below_34 : decode cX3_below 34 = .ok (.l2i, 1) := by decide +kernel
theorem dX3_below_35 : decode cX3_below 35 = .ok (.ireturn, 1) := by decide +kernel
theorem dX4_init_0 : decode cX4_init 0 = .ok (.aload_n 0, 1) := by decide +kernel
theorem dX4_init_1 : decode cX4_init 1 = .ok (.invokespecial 3, 3) := by decide +kernel
theorem dX4_init_4 : decode cX4_init 4 = .ok (.aload_n 0, 1) := by decide +kernel
theorem dX4_init_5 : decode cX4_init 5 = .ok (.bipush 10, 2) := by decide +kernel
theorem dX4_init_7 : decode cX4_init 7 = .ok (.anewarray 9, 3) := by decide +kernel
theorem dX4_init_10 : decode cX4_init 10 = .ok (.putfield 11, 3) := by decide +kernel
theorem dX4_init_13 : decode cX4_init 13 = .ok (.return_, 1) := by decide +kernel
theorem dX4_add_0 : decode cX4_add 0 = .ok (.iconst (-1), 1) := by decide +kernel
theorem dX4_add_1 : decode cX4_add 1 = .ok (.istore_n 2, 1) := by decide +kernel
theorem dX4_add_2 : decode cX4_add 2 = .ok (.iconst 0, 1) := by decide +kernel
theorem dX4_add_3 : decode cX4_add 3 = .ok (.istore_n 3, 1) := by decide +kernel
theorem dX4_add_4 : decode cX4_add 4 = .ok (.iload_n 3, 1) := by decide +kernel
theorem dX4_add_5 : decode cX4_add 5 = .ok (.bipush 10, 2) := by decide +kernel
theorem dX4_add_7 : decode cX4_add 7 = .ok (.if_icmp .ge 50, 3) := by decide +kernel
theorem dX4_add_10 : decode cX4_add 10 = .ok (.aload_n 0, 1) := by decide +kernel
theorem dX4_add_11 : decode cX4_add 11 = .ok (.getfield 11, 3) := by decide +kernel
theorem dX4_add_14 : decode cX4_add 14 = .ok (.iload_n 3, 1) := by decide +kernel
theorem dX4_add_15 : decode cX4_add 15 = .ok (.aaload, 1) := by decide +kernel
theorem dX4_add_16 : decode cX4_add 16 = .ok (.astore 4, 2) := by decide +kernel
theorem dX4_add_18 : decode cX4_add 18 = .ok (.aload 4, 2) := by decide +kernel
theorem dX4_add_20 : decode cX4_add 20 = .ok (.ifnonnull 8, 3) := by decide +kernel
theorem dX4_add_23 : decode cX4_add 23 = .ok (.iload_n 3, 1) := by decide +kernel
theorem dX4_add_24 : decode cX4_add 24 = .ok (.istore_n 2, 1) := by decide +kernel
theorem dX4_add_25 : decode cX4_add 25 = .ok (.goto 26, 3) := by decide +kernel
theorem dX4_add_28 : decode cX4_add 28 = .ok (.aload 4, 2) := by decide +kernel
theorem dX4_add_30 : decode cX4_add 30 = .ok (.getfield 17, 3) := by decide +kernel
theorem dX4_add_33 : decode cX4_add 33 = .ok (.aload_n 1, 1) := by decide +kernel
theorem dX4_add_34 : decode cX4_add 34 = .ok (.getfield 17, 3) := by decide +kernel
theorem dX4_add_37 : decode cX4_add 37 = .ok (.if_icmp .eq 14, 3) := by decide +kernel
theorem dX4_add_40 : decode cX4_add 40 = .ok (.aload 4, 2) := by decide +kernel
theorem dX4_add_42 : decode cX4_add 42 = .ok (.aload_n 1, 1) := by decide +kernel
theorem dX4_add_43 : decode cX4_add 43 = .ok (.invokevirtual 21, 3) := by decide +kernel
theorem dX4_add_46 : decode cX4_add 46 = .ok (.ifCond .eq 5, 3) := by decide +kernel
theorem dX4_add_49 : decode cX4_add 49 = .ok (.iconst 0, 1) := by decide +kernel
theorem dX4_add_50 : decode cX4_add 50 = .ok (.ireturn, 1) := by decide +kernel
theorem dX4_add_51 : decode cX4_add 51 = .ok (.iinc 3 1, 3) := by decide +kernel
theorem dX4_add_54 : decode cX4_add 54 = .ok (.goto (-50), 3) := by decide +kernel
theorem dX4_add_57 : decode cX4_add 57 = .ok (.iload_n 2, 1) := by decide +kernel
theorem dX4_add_58 : decode cX4_add 58 = .ok (.ifCond .ge 5, 3) := by decide +kernel
theorem dX4_add_61 : decode cX4_add 61 = .ok (.iconst 0, 1) := by decide +kernel
theorem dX4_add_62 : decode cX4_add 62 = .ok (.ireturn, 1) := by decide +kernel
theorem dX4_add_63 : decode cX4_add 63 = .ok (.aload_n 0, 1) := by decide +kernel
theorem dX4_add_64 : decode cX4_add 64 = .ok (.getfield 11, 3) := by decide +kernel
theorem dX4_add_67 : decode cX4_add 67 = .ok (.iload_n 2, 1) := by decide +kernel
theorem dX4_add_68 : decode cX4_add 68 = .ok (.aload_n 1, 1) := by decide +kernel
theorem dX4_add_69 : decode cX4_add 69 = .ok (.aastore, 1) := by decide +kernel
theorem dX4_add_70 : decode cX4_add 70 = .ok (.iconst 1, 1) := by decide +kernel
theorem dX4_add_71 : decode cX4_add 71 = .ok (.ireturn, 1) := by decide +kernel
theorem dX4_bar_0 : decode cX4_bar 0 = .ok (.iconst 0, 1) := by decide +kernel
theorem dX4_bar_1 : decode cX4_bar 1 = .ok (.istore_n 3, 1) := by decide +kernel
theorem dX4_bar_2 : decode cX4_bar 2 = .ok (.iload_n 3, 1) := by decide +kernel
theorem dX4_bar_3 : decode cX4_bar 3 = .ok (.bipush 10, 2) := by decide +kernel
theorem dX4_bar_5 : decode cX4_bar 5 = .ok (.if_icmp .ge 51, 3) := by decide +kernel
theorem dX4_bar_8 : decode cX4_bar 8 = .ok (.aload_n 0, 1) := by decide +kernel
theorem dX4_bar_9 : decode cX4_bar 9 = .ok (.getfield 11, 3) := by decide +kernel
theorem dX4_bar_12 : decode cX4_bar 12 = .ok (.iload_n 3, 1) := by decide +kernel
theorem dX4_bar_13 : decode cX4_bar 13 = .ok (.aaload, 1) := by decide +kernel
theorem dX4_bar_14 : decode cX4_bar 14 = .ok (.astore 4, 2) := by decide +kernel
theorem dX4_bar_16 : decode cX4_bar 16 = .ok (.aload 4, 2) := by decide +kernel
theorem dX4_bar_18 : decode cX4_bar 18 = .ok (.ifnull 32, 3) := by decide +kernel
theorem dX4_bar_21 : decode cX4_bar 21 = .ok (.aload 4, 2) := by decide +kernel
theorem dX4_bar_23 : decode cX4_bar 23 = .ok (.getfield 17, 3) := by decide +kernel
theorem dX4_bar_26 : decode cX4_bar 26 = .ok (.iload_n 1, 1) := by decide +kernel
theorem dX4_bar_27 : decode cX4_bar 27 = .ok (.if_icmp .eq 23, 3) := by decide +kernel
theorem dX4_bar_30 : decode cX4_bar 30 = .ok (.aload 4, 2) := by decide +kernel
theorem dX4_bar_32 : decode cX4_bar 32 = .ok (.aload_n 2, 1) := by decide +kernel
theorem dX4_bar_33 : decode cX4_bar 33 = .ok (.iconst 0, 1) := by decide +kernel
theorem dX4_bar_34 : decode cX4_bar 34 = .ok (.invokevirtual 25, 3) := by decide +kernel
theorem dX4_bar_37 : decode cX4_bar 37 = .ok (.aload_n 2, 1) := by decide +kernel
theorem dX4_bar_38 : decode cX4_bar 38 = .ok (.iconst 1, 1) := by decide +kernel
theorem dX4_bar_39 : decode cX4_bar 39 = .ok (.invokevirtual 25, 3) := by decide +kernel
theorem dX4_bar_42 : decode cX4_bar 42 = .ok (.invokevirtual 31, 3) := by decide +kernel
theorem dX4_bar_45 : decode cX4_bar 45 = .ok (.ifCond .eq 5, 3) := by decide +kernel
theorem dX4_bar_48 : decode cX4_bar 48 = .ok (.iconst 1, 1) := by decide +kernel
theorem dX4_bar_49 : decode cX4_bar 49 = .ok (.ireturn, 1) := by decide +kernel
theorem dX4_bar_50 : decode cX4_bar 50 = .ok (.iinc 3 1, 3) := by decide +kernel
theorem dX4_bar_53 : decode cX4_bar 53 = .ok (.goto (-51), 3) := by decide +kernel
theorem dX4_bar_56 : decode cX4_bar 56 = .ok (.iconst 0, 1) := by decide +kernel
theorem dX4_bar_57 : decode cX4_bar 57 = .ok (.ireturn, 1) := by decide +kernel
theorem dX4_release_0 : decode cX4_release 0 = .ok (.iconst 0, 1) := by decide +kernel
theorem dX4_release_1 : decode cX4_release 1 = .ok (.istore_n 2, 1) := by decide +kernel
theorem dX4_release_2 : decode cX4_release 2 = .ok (.iload_n 2, 1) := by decide +kernel
theorem dX4_release_3 : decode cX4_release 3 = .ok (.bipush 10, 2) := by decide +kernel
theorem dX4_release_5 : decode cX4_release 5 = .ok (.if_icmp .ge 35, 3) := by decide +kernel
theorem dX4_release_8 : decode cX4_release 8 = .ok (.aload_n 0, 1) := by decide +kernel
theorem dX4_release_9 : decode cX4_release 9 = .ok (.getfield 11, 3) := by decide +kernel
theorem dX4_release_12 : decode cX4_release 12 = .ok (.iload_n 2, 1) := by decide +kernel
theorem dX4_release_13 : decode cX4_release 13 = .ok (.aaload, 1) := by decide +kernel
theorem dX4_release_14 : decode cX4_release 14 = .ok (.astore_n 3, 1) := by decide +kernel
theorem dX4_release_15 : decode cX4_release 15 = .ok (.aload_n 3, 1) := by decide +kernel
theorem dX4_release_16 : decode cX4_release 16 = .ok (.ifnull 18, 3) := by decide +kernel
theorem dX4_release_19 : decode cX4_release 19 = .ok (.aload_n 3, 1) := by decide +kernel
theorem dX4_release_20 : decode cX4_release 20 = .ok (.getfield 17, 3) := by decide +kernel
theorem dX4_release_23 : decode cX4_release 23 = .ok (.iload_n 1, 1) := by decide +kernel
theorem dX4_release_24 : decode cX4_release 24 = .ok (.if_icmp .ne 10, 3) := by decide +kernel
theorem dX4_release_27 : decode cX4_release 27 = .ok (.aload_n 0, 1) := by decide +kernel
theorem dX4_release_28 : decode cX4_release 28 = .ok (.getfield 11, 3) := by decide +kernel
theorem dX4_release_31 : decode cX4_release 31 = .ok (.iload_n 2, 1) := by decide +kernel
theorem dX4_release_32 : decode cX4_release 32 = .ok (.aconst_null, 1) := by decide +kernel
theorem dX4_release_33 : decode cX4_release 33 = .ok (.aastore, 1) := by decide +kernel
theorem dX4_release_34 : decode cX4_release 34 = .ok (.iinc 2 1, 3) := by decide +kernel
theorem dX4_release_37 : decode cX4_release 37 = .ok (.goto (-35), 3) := by decide +kernel
theorem dX4_release_40 : decode cX4_release 40 = .ok (.return_, 1) := by decide +kernel
theorem dX5_init_0 : decode cX5_init 0 = .ok (.aload_n 0, 1) := by decide +kernel
theorem dX5_init_1 : decode cX5_init 1 = .ok (.invokespecial 3, 3) := by decide +kernel
theorem dX5_init_4 : decode cX5_init 4 = .ok (.aload_n 0, 1) := by decide +kernel
theorem dX5_init_5 : decode cX5_init 5 = .ok (.bipush 6, 2) := by decide +kernel
theorem dX5_init_7 : decode cX5_init 7 = .ok (.newarray .long, 2) := by decide +kernel
theorem dX5_init_9 : decode cX5_init 9 = .ok (.putfield 9, 3) := by decide +kernel
theorem dX5_init_12 : decode cX5_init 12 = .ok (.return_, 1) := by decide +kernel
theorem dX5_value_0 : decode cX5_value 0 = .ok (.iload_n 1, 1) := by decide +kernel
theorem dX5_value_1 : decode cX5_value 1 = .ok (.ifCond .lt 9, 3) := by decide +kernel
theorem dX5_value_4 : decode cX5_value 4 = .ok (.iload_n 1, 1) := by decide +kernel
theorem dX5_value_5 : decode cX5_value 5 = .ok (.bipush 6, 2) := by decide +kernel
theorem dX5_value_7 : decode cX5_value 7 = .ok (.if_icmp .lt 7, 3) := by decide +kernel
theorem dX5_value_10 : decode cX5_value 10 = .ok (.lconst 0, 1) := by decide +kernel
theorem dX5_value_11 : decode cX5_value 11 = .ok (.goto 9, 3) := by decide +kernel
theorem dX5_value_14 : decode cX5_value 14 = .ok (.aload_n 0, 1) := by decide +kernel
theorem dX5_value_15 : decode cX5_value 15 = .ok (.getfield 9, 3) := by decide +kernel
theorem dX5_value_18 : decode cX5_value 18 = .ok (.iload_n 1, 1) := by decide +kernel
theorem dX5_value_19 : decode cX5_value 19 = .ok (.laload, 1) := by decide +kernel
theorem dX5_value_20 : decode cX5_value 20 = .ok (.lreturn, 1) := by decide +kernel
theorem dX5_with_0 : decode cX5_with 0 = .ok (.new 10, 3) := by decide +kernel
theorem dX5_with_3 : decode cX5_with 3 = .ok (.dup, 1) := by decide +kernel
theorem dX5_with_4 : decode cX5_with 4 = .ok (.invokespecial 15, 3) := by decide +kernel
theorem dX5_with_7 : decode cX5_with 7 = .ok (.astore 4, 2) := by decide +kernel
theorem dX5_with_9 : decode cX5_with 9 = .ok (.iconst 0, 1) := by decide +kernel
theorem dX5_with_10 : decode cX5_with 10 = .ok (.istore 5, 2) := by decide +kernel
theorem dX5_with_12 : decode cX5_with 12 = .ok (.iload 5, 2) := by decide +kernel
theorem dX5_with_14 : decode cX5_with 14 = .ok (.bipush 6, 2) := by decide +kernel
theorem dX5_with_16 : decode cX5_with 16 = .ok (.if_icmp .ge 34, 3) := by decide +kernel
theorem dX5_with_19 : decode cX5_with 19 = .ok (.aload 4, 2) := by decide +kernel
theorem dX5_with_21 : decode cX5_with 21 = .ok (.getfield 9, 3) := by decide +kernel
theorem dX5_with_24 : decode cX5_with 24 = .ok (.iload 5, 2) := by decide +kernel
theorem dX5_with_26 : decode cX5_with 26 = .ok (.iload 5, 2) := by decide +kernel
theorem dX5_with_28 : decode cX5_with 28 = .ok (.iload_n 1, 1) := by decide +kernel
theorem dX5_with_29 : decode cX5_with 29 = .ok (.if_icmp .ne 7, 3) := by decide +kernel
theorem dX5_with_32 : decode cX5_with 32 = .ok (.lload_n 2, 1) := by decide +kernel
theorem dX5_with_33 : decode cX5_with 33 = .ok (.goto 10, 3) := by decide +kernel
theorem dX5_with_36 : decode cX5_with 36 = .ok (.aload_n 0, 1) := by decide +kernel
theorem dX5_with_37 : decode cX5_with 37 = .ok (.getfield 9, 3) := by decide +kernel
theorem dX5_with_40 : decode cX5_with 40 = .ok (.iload 5, 2) := by decide +kernel
theorem dX5_with_42 : decode cX5_with 42 = .ok (.laload, 1) := by decide +kernel
theorem dX5_with_43 : decode cX5_with 43 = .ok (.lastore, 1) := by decide +kernel
theorem dX5_with_44 : decode cX5_with 44 = .ok (.iinc 5 1, 3) := by decide +kernel
theorem dX5_with_47 : decode cX5_with 47 = .ok (.goto (-35), 3) := by decide +kernel
theorem dX5_with_50 : decode cX5_with 50 = .ok (.aload 4, 2) := by decide +kernel
theorem dX5_with_52 : decode cX5_with 52 = .ok (.areturn, 1) := by decide +kernel
theorem dX5_alike_0 : decode cX5_alike 0 = .ok (.aload_n 0, 1) := by decide +kernel
theorem dX5_alike_1 : decode cX5_alike 1 = .ok (.aload_n 1, 1) := by decide +kernel
theorem dX5_alike_2 : decode cX5_alike 2 = .ok (.if_acmp .ne 5, 3) := by decide +kernel
theorem dX5_alike_5 : decode cX5_alike 5 = .ok (.iconst 1, 1) := by decide +kernel
theorem dX5_alike_6 : decode cX5_alike 6 = .ok (.ireturn, 1) := by decide +kernel
theorem dX5_alike_7 : decode cX5_alike 7 = .ok (.aload_n 0, 1) := by decide +kernel
theorem dX5_alike_8 : decode cX5_alike 8 = .ok (.ifnull 7, 3) := by decide +kernel
theorem dX5_alike_11 : decode cX5_alike 11 = .ok (.aload_n 1, 1) := by decide +kernel
theorem dX5_alike_12 : decode cX5_alike 12 = .ok (.ifnonnull 5, 3) := by decide +kernel
theorem dX5_alike_15 : decode cX5_alike 15 = .ok (.iconst 0, 1) := by decide +kernel
theorem dX5_alike_16 : decode cX5_alike 16 = .ok (.ireturn, 1) := by decide +kernel
theorem dX5_alike_17 : decode cX5_alike 17 = .ok (.iconst 0, 1) := by decide +kernel
theorem dX5_alike_18 : decode cX5_alike 18 = .ok (.istore_n 2, 1) := by decide +kernel
theorem dX5_alike_19 : decode cX5_alike 19 = .ok (.iload_n 2, 1) := by decide +kernel
theorem dX5_alike_20 : decode cX5_alike 20 = .ok (.bipush 6, 2) := by decide +kernel
theorem dX5_alike_22 : decode cX5_alike 22 = .ok (.if_icmp .ge 27, 3) := by decide +kernel
theorem dX5_alike_25 : decode cX5_alike 25 = .ok (.aload_n 0, 1) := by decide +kernel
theorem dX5_alike_26 : decode cX5_alike 26 = .ok (.getfield 9, 3) := by decide +kernel
theorem dX5_alike_29 : decode cX5_alike 29 = .ok (.iload_n 2, 1) := by decide +kernel
theorem dX5_alike_30 : decode cX5_alike 30 = .ok (.laload, 1) := by decide +kernel
theorem dX5_alike_31 : decode cX5_alike 31 = .ok (.aload_n 1, 1) := by decide +kernel
theorem dX5_alike_32 : decode cX5_alike 32 = .ok (.getfield 9, 3) := by decide +kernel
theorem dX5_alike_35 : decode cX5_alike 35 = .ok (.iload_n 2, 1) := by decide +kernel
theorem dX5_alike_36 : decode cX5_alike 36 = .ok (.laload, 1) := by decide +kernel
theorem dX5_alike_37 : decode cX5_alike 37 = .ok (.lcmp, 1) := by decide +kernel
theorem dX5_alike_38 : decode cX5_alike 38 = .ok (.ifCond .eq 5, 3) := by decide +kernel
theorem dX5_alike_41 : decode cX5_alike 41 = .ok (.iconst 0, 1) := by decide +kernel
theorem dX5_alike_42 : decode cX5_alike 42 = .ok (.ireturn, 1) := by decide +kernel
theorem dX5_alike_43 : decode cX5_alike 43 = .ok (.iinc 2 1, 3) := by decide +kernel
theorem dX5_alike_46 : decode cX5_alike 46 = .ok (.goto (-27), 3) := by decide +kernel
theorem dX5_alike_49 : decode cX5_alike 49 = .ok (.iconst 1, 1) := by decide +kernel
theorem dX5_alike_50 : decode cX5_alike 50 = .ok (.ireturn, 1) := by decide +kernel
theorem dX5_differ_0 : decode cX5_differ 0 = .ok (.aload_n 0, 1) := by decide +kernel
theorem dX5_differ_1 : decode cX5_differ 1 = .ok (.ifnull 7, 3) := by decide +kernel
theorem dX5_differ_4 : decode cX5_differ 4 = .ok (.aload_n 1, 1) := by decide +kernel
theorem dX5_differ_5 : decode cX5_differ 5 = .ok (.ifnonnull 20, 3) := by decide +kernel
theorem dX5_differ_8 : decode cX5_differ 8 = .ok (.iload_n 2, 1) := by decide +kernel
theorem dX5_differ_9 : decode cX5_differ 9 = .ok (.bipush 6, 2) := by decide +kernel
theorem dX5_differ_11 : decode cX5_differ 11 = .ok (.if_icmp .ne 12, 3) := by decide +kernel
theorem dX5_differ_14 : decode cX5_differ 14 = .ok (.aload_n 0, 1) := by decide +kernel
theorem dX5_differ_15 : decode cX5_differ 15 = .ok (.aload_n 1, 1) := by decide +kernel
theorem dX5_differ_16 : decode cX5_differ 16 = .ok (.if_acmp .eq 7, 3) := by decide +kernel
theorem dX5_differ_19 : decode cX5_differ 19 = .ok (.iconst 1, 1) := by decide +kernel
theorem dX5_differ_20 : decode cX5_differ 20 = .ok (.goto 4, 3) := by decide +kernel
theorem dX5_differ_23 : decode cX5_differ 23 = .ok (.iconst 0, 1) := by decide +kernel
theorem dX5_differ_24 : decode cX5_differ 24 = .ok (.ireturn, 1) := by decide +kernel
theorem dX5_differ_25 : decode cX5_differ 25 = .ok (.iload_n 2, 1) := by decide +kernel
theorem dX5_differ_26 : decode cX5_differ 26 = .ok (.ifCond .lt 29, 3) := by decide +kernel
theorem dX5_differ_29 : decode cX5_differ 29 = .ok (.iload_n 2, 1) := by decide +kernel
theorem dX5_differ_30 : decode cX5_differ 30 = .ok (.bipush 6, 2) := by decide +kernel
theorem dX5_differ_32 : decode cX5_differ 32 = .ok (.if_icmp .ge 23, 3) := by decide +kernel
theorem dX5_differ_35 : decode cX5_differ 35 = .ok (.aload_n 0, 1) := by decide +kernel
theorem dX5_differ_36 : decode cX5_differ 36 = .ok (.getfield 9, 3) := by decide +kernel
theorem dX5_differ_39 : decode cX5_differ 39 = .ok (.iload_n 2, 1) := by decide +kernel
theorem dX5_differ_40 : decode cX5_differ 40 = .ok (.laload, 1) := by decide +kernel
theorem dX5_differ_41 : decode cX5_differ 41 = .ok (.aload_n 1, 1) := by decide +kernel
theorem dX5_differ_42 : decode cX5_differ 42 = .ok (.getfield 9, 3) := by decide +kernel
theorem dX5_differ_45 : decode cX5_differ 45 = .ok (.iload_n 2, 1) := by decide +kernel
theorem dX5_differ_46 : decode cX5_differ 46 = .ok (.laload, 1) := by decide +kernel
theorem dX5_differ_47 : decode cX5_differ 47 = .ok (.lcmp, 1) := by decide +kernel
theorem dX5_differ_48 : decode cX5_differ 48 = .ok (.ifCond .eq 7, 3) := by decide +kernel
theorem dX5_differ_51 : decode cX5_differ 51 = .ok (.iconst 1, 1) := by decide +kernel
theorem dX5_differ_52 : decode cX5_differ 52 = .ok (.goto 4, 3) := by decide +kernel
theorem dX5_differ_55 : decode cX5_differ 55 = .ok (.iconst 0, 1) := by decide +kernel
theorem dX5_differ_56 : decode cX5_differ 56 = .ok (.ireturn, 1) := by decide +kernel
theorem dX6_init_0 : decode cX6_init 0 = .ok (.aload_n 0, 1) := by decide +kernel
theorem dX6_init_1 : decode cX6_init 1 = .ok (.invokespecial 3, 3) := by decide +kernel
theorem dX6_init_4 : decode cX6_init 4 = .ok (.aload_n 0, 1) := by decide +kernel
theorem dX6_init_5 : decode cX6_init 5 = .ok (.iload_n 1, 1) := by decide +kernel
theorem dX6_init_6 : decode cX6_init 6 = .ok (.putfield 9, 3) := by decide +kernel
theorem dX6_init_9 : decode cX6_init 9 = .ok (.aload_n 0, 1) := by decide +kernel
theorem dX6_init_10 : decode cX6_init 10 = .ok (.iload_n 2, 1) := by decide +kernel
theorem dX6_init_11 : decode cX6_init 11 = .ok (.putfield 15, 3) := by decide +kernel
theorem dX6_init_14 : decode cX6_init 14 = .ok (.aload_n 0, 1) := by decide +kernel
theorem dX6_init_15 : decode cX6_init 15 = .ok (.lload_n 3, 1) := by decide +kernel
theorem dX6_init_16 : decode cX6_init 16 = .ok (.putfield 18, 3) := by decide +kernel
theorem dX6_init_19 : decode cX6_init 19 = .ok (.return_, 1) := by decide +kernel
theorem dX6_brokenIn_0 : decode cX6_brokenIn 0 = .ok (.aload_n 1, 1) := by decide +kernel
theorem dX6_brokenIn_1 : decode cX6_brokenIn 1 = .ok (.aload_n 0, 1) := by decide +kernel
theorem dX6_brokenIn_2 : decode cX6_brokenIn 2 = .ok (.getfield 9, 3) := by decide +kernel
theorem dX6_brokenIn_5 : decode cX6_brokenIn 5 = .ok (.invokevirtual 22, 3) := by decide +kernel
theorem dX6_brokenIn_8 : decode cX6_brokenIn 8 = .ok (.astore_n 2, 1) := by decide +kernel
theorem dX6_brokenIn_9 : decode cX6_brokenIn 9 = .ok (.aload_n 1, 1) := by decide +kernel
theorem dX6_brokenIn_10 : decode cX6_brokenIn 10 = .ok (.aload_n 0, 1) := by decide +kernel
theorem dX6_brokenIn_11 : decode cX6_brokenIn 11 = .ok (.getfield 15, 3) := by decide +kernel
theorem dX6_brokenIn_14 : decode cX6_brokenIn 14 = .ok (.invokevirtual 22, 3) := by decide +kernel
theorem dX6_brokenIn_17 : decode cX6_brokenIn 17 = .ok (.astore_n 3, 1) := by decide +kernel
theorem dX6_brokenIn_18 : decode cX6_brokenIn 18 = .ok (.aload_n 2, 1) := by decide +kernel
theorem dX6_brokenIn_19 : decode cX6_brokenIn 19 = .ok (.ifnull 7, 3) := by decide +kernel
theorem dX6_brokenIn_22 : decode cX6_brokenIn 22 = .ok (.aload_n 3, 1) := by decide +kernel
theorem dX6_brokenIn_23 : decode cX6_brokenIn 23 = .ok (.ifnonnull 5, 3) := by decide +kernel
theorem dX6_brokenIn_26 : decode cX6_brokenIn 26 = .ok (.iconst 0, 1) := by decide +kernel
theorem dX6_brokenIn_27 : decode cX6_brokenIn 27 = .ok (.ireturn, 1) := by decide +kernel
theorem dX6_brokenIn_28 : decode cX6_brokenIn 28 = .ok (.aload_n 2, 1) := by decide +kernel
theorem dX6_brokenIn_29 : decode cX6_brokenIn 29 = .ok (.iconst 0, 1) := by decide +kernel
theorem dX6_brokenIn_30 : decode cX6_brokenIn 30 = .ok (.invokevirtual 28, 3) := by decide +kernel
theorem dX6_brokenIn_33 : decode cX6_brokenIn 33 = .ok (.aload_n 3, 1) := by decide +kernel
theorem dX6_brokenIn_34 : decode cX6_brokenIn 34 = .ok (.iconst 0, 1) := by decide +kernel
theorem dX6_brokenIn_35 : decode cX6_brokenIn 35 = .ok (.invokevirtual 28, 3) := by decide +kernel
theorem dX6_brokenIn_38 : decode cX6_brokenIn 38 = .ok (.invokestatic 34, 3) := by decide +kernel
theorem dX6_brokenIn_41 : decode cX6_brokenIn 41 = .ok (.aload_n 2, 1) := by decide +kernel
theorem dX6_brokenIn_42 : decode cX6_brokenIn 42 = .ok (.iconst 1, 1) := by decide +kernel
theorem dX6_brokenIn_43 : decode cX6_brokenIn 43 = .ok (.invokevirtual 28, 3) := by decide +kernel
theorem dX6_brokenIn_46 : decode cX6_brokenIn 46 = .ok (.aload_n 3, 1) := by decide +kernel
theorem dX6_brokenIn_47 : decode cX6_brokenIn 47 = .ok (.iconst 1, 1) := by decide +kernel
theorem dX6_brokenIn_48 : decode cX6_brokenIn 48 = .ok (.invokevirtual 28, 3) := by decide +kernel
theorem dX6_brokenIn_51 : decode cX6_brokenIn 51 = .ok (.invokestatic 34, 3) := by decide +kernel
theorem dX6_brokenIn_54 : decode cX6_brokenIn 54 = .ok (.ladd, 1) := by decide +kernel
theorem dX6_brokenIn_55 : decode cX6_brokenIn 55 = .ok (.aload_n 0, 1) := by decide +kernel
theorem dX6_brokenIn_56 : decode cX6_brokenIn 56 = .ok (.getfield 18, 3) := by decide +kernel
theorem dX6_brokenIn_59 : decode cX6_brokenIn 59 = .ok (.lcmp, 1) := by decide +kernel
theorem dX6_brokenIn_60 : decode cX6_brokenIn 60 = .ok (.ifCond .ge 7, 3) := by decide +kernel
theorem dX6_brokenIn_63 : decode cX6_brokenIn 63 = .ok (.iconst 1, 1) := by decide +kernel
theorem dX6_brokenIn_64 : decode cX6_brokenIn 64 = .ok (.goto 4, 3) := by decide +kernel
theorem dX6_brokenIn_67 : decode cX6_brokenIn 67 = .ok (.iconst 0, 1) := by decide +kernel
theorem dX6_brokenIn_68 : decode cX6_brokenIn 68 = .ok (.ireturn, 1) := by decide +kernel
theorem dX6_gap_0 : decode cX6_gap 0 = .ok (.lload_n 0, 1) := by decide +kernel
theorem dX6_gap_1 : decode cX6_gap 1 = .ok (.lload_n 2, 1) := by decide +kernel
theorem dX6_gap_2 : decode cX6_gap 2 = .ok (.invokestatic 38, 3) := by decide +kernel
theorem dX6_gap_5 : decode cX6_gap 5 = .ok (.lload_n 0, 1) := by decide +kernel
theorem dX6_gap_6 : decode cX6_gap 6 = .ok (.lload_n 2, 1) := by decide +kernel
theorem dX6_gap_7 : decode cX6_gap 7 = .ok (.invokestatic 43, 3) := by decide +kernel
theorem dX6_gap_10 : decode cX6_gap 10 = .ok (.lsub, 1) := by decide +kernel
theorem dX6_gap_11 : decode cX6_gap 11 = .ok (.lstore 4, 2) := by decide +kernel
theorem dX6_gap_13 : decode cX6_gap 13 = .ok (.lload 4, 2) := by decide +kernel
theorem dX6_gap_15 : decode cX6_gap 15 = .ok (.lconst 0, 1) := by decide +kernel
theorem dX6_gap_16 : decode cX6_gap 16 = .ok (.lcmp, 1) := by decide +kernel
theorem dX6_gap_17 : decode cX6_gap 17 = .ok (.ifCond .ge 9, 3) := by decide +kernel
theorem dX6_gap_20 : decode cX6_gap 20 = .ok (.ldc2_w 46, 3) := by decide +kernel
theorem dX6_gap_23 : decode cX6_gap 23 = .ok (.goto 11, 3) := by decide +kernel
theorem dX6_gap_26 : decode cX6_gap 26 = .ok (.lload 4, 2) := by decide +kernel
theorem dX6_gap_28 : decode cX6_gap 28 = .ok (.ldc2_w 46, 3) := by decide +kernel
theorem dX6_gap_31 : decode cX6_gap 31 = .ok (.invokestatic 43, 3) := by decide +kernel
theorem dX6_gap_34 : decode cX6_gap 34 = .ok (.lreturn, 1) := by decide +kernel
theorem dX7_init_0 : decode cX7_init 0 = .ok (.aload_n 0, 1) := by decide +kernel
theorem dX7_init_1 : decode cX7_init 1 = .ok (.invokespecial 3, 3) := by decide +kernel
theorem dX7_init_4 : decode cX7_init 4 = .ok (.aload_n 0, 1) := by decide +kernel
theorem dX7_init_5 : decode cX7_init 5 = .ok (.iconst 1, 1) := by decide +kernel
theorem dX7_init_6 : decode cX7_init 6 = .ok (.putfield 9, 3) := by decide +kernel
theorem dX7_init_9 : decode cX7_init 9 = .ok (.aload_n 0, 1) := by decide +kernel
theorem dX7_init_10 : decode cX7_init 10 = .ok (.new 15, 3) := by decide +kernel
theorem dX7_init_13 : decode cX7_init 13 = .ok (.dup, 1) := by decide +kernel
theorem dX7_init_14 : decode cX7_init 14 = .ok (.invokespecial 17, 3) := by decide +kernel
theorem dX7_init_17 : decode cX7_init 17 = .ok (.putfield 18, 3) := by decide +kernel
theorem dX7_init_20 : decode cX7_init 20 = .ok (.aload_n 0, 1) := by decide +kernel
theorem dX7_init_21 : decode cX7_init 21 = .ok (.sipush 420, 3) := by decide +kernel
theorem dX7_init_24 : decode cX7_init 24 = .ok (.newarray .byte, 2) := by decide +kernel
theorem dX7_init_26 : decode cX7_init 26 = .ok (.putfield 22, 3) := by decide +kernel
theorem dX7_init_29 : decode cX7_init 29 = .ok (.aload_n 0, 1) := by decide +kernel
theorem dX7_init_30 : decode cX7_init 30 = .ok (.iload_n 1, 1) := by decide +kernel
theorem dX7_init_31 : decode cX7_init 31 = .ok (.putfield 26, 3) := by decide +kernel
theorem dX7_init_34 : decode cX7_init 34 = .ok (.aload_n 0, 1) := by decide +kernel
theorem dX7_init_35 : decode cX7_init 35 = .ok (.aload_n 2, 1) := by decide +kernel
theorem dX7_init_36 : decode cX7_init 36 = .ok (.putfield 30, 3) := by decide +kernel
theorem dX7_init_39 : decode cX7_init 39 = .ok (.aload_n 0, 1) := by decide +kernel
theorem dX7_init_40 : decode cX7_init 40 = .ok (.aload_n 2, 1) := by decide +kernel
theorem dX7_init_41 : decode cX7_init 41 = .ok (.invokevirtual 34, 3) := by decide +kernel
theorem dX7_init_44 : decode cX7_init 44 = .ok (.putfield 40, 3) := by decide +kernel
theorem dX7_init_47 : decode cX7_init 47 = .ok (.return_, 1) := by decide +kernel
theorem dX7_change_0 : decode cX7_change 0 = .ok (.aload_n 0, 1) := by decide +kernel
theorem dX7_change_1 : decode cX7_change 1 = .ok (.getfield 18, 3) := by decide +kernel
theorem dX7_change_4 : decode cX7_change 4 = .ok (.iload_n 1, 1) := by decide +kernel
theorem dX7_change_5 : decode cX7_change 5 = .ok (.aload_n 0, 1) := by decide +kernel
theorem dX7_change_6 : decode cX7_change 6 = .ok (.getfield 40, 3) := by decide +kernel
theorem dX7_change_9 : decode cX7_change 9 = .ok (.iload_n 1, 1) := by decide +kernel
theorem dX7_change_10 : decode cX7_change 10 = .ok (.invokevirtual 43, 3) := by decide +kernel
theorem dX7_change_13 : decode cX7_change 13 = .ok (.invokevirtual 47, 3) := by decide +kernel
theorem dX7_change_16 : decode cX7_change 16 = .ok (.aload_n 0, 1) := by decide +kernel
theorem dX7_change_17 : decode cX7_change 17 = .ok (.getfield 40, 3) := by decide +kernel
theorem dX7_change_20 : decode cX7_change 20 = .ok (.iload_n 1, 1) := by decide +kernel
theorem dX7_change_21 : decode cX7_change 21 = .ok (.aload_n 2, 1) := by decide +kernel
theorem dX7_change_22 : decode cX7_change 22 = .ok (.invokevirtual 51, 3) := by decide +kernel
theorem dX7_change_25 : decode cX7_change 25 = .ok (.return_, 1) := by decide +kernel
theorem dX7_takeBack_0 : decode cX7_takeBack 0 = .ok (.aload_n 0, 1) := by decide +kernel
theorem dX7_takeBack_1 : decode cX7_takeBack 1 = .ok (.getfield 18, 3) := by decide +kernel
theorem dX7_takeBack_4 : decode cX7_takeBack 4 = .ok (.invokevirtual 54, 3) := by decide +kernel
theorem dX7_takeBack_7 : decode cX7_takeBack 7 = .ok (.ifCond .ne 5, 3) := by decide +kernel
theorem dX7_takeBack_10 : decode cX7_takeBack 10 = .ok (.iconst 0, 1) := by decide +kernel
theorem dX7_takeBack_11 : decode cX7_takeBack 11 = .ok (.ireturn, 1) := by decide +kernel
theorem dX7_takeBack_12 : decode cX7_takeBack 12 = .ok (.aload_n 0, 1) := by decide +kernel
theorem dX7_takeBack_13 : decode cX7_takeBack 13 = .ok (.getfield 40, 3) := by decide +kernel
theorem dX7_takeBack_16 : decode cX7_takeBack 16 = .ok (.aload_n 0, 1) := by decide +kernel
theorem dX7_takeBack_17 : decode cX7_takeBack 17 = .ok (.getfield 18, 3) := by decide +kernel
theorem dX7_takeBack_20 : decode cX7_takeBack 20 = .ok (.invokevirtual 58, 3) := by decide +kernel
theorem dX7_takeBack_23 : decode cX7_takeBack 23 = .ok (.aload_n 0, 1) := by decide +kernel
theorem dX7_takeBack_24 : decode cX7_takeBack 24 = .ok (.getfield 18, 3) := by decide +kernel
theorem dX7_takeBack_27 : decode cX7_takeBack 27 = .ok (.invokevirtual 62, 3) := by decide +kernel
theorem dX7_takeBack_30 : decode cX7_takeBack 30 = .ok (.invokevirtual 51, 3) := by decide +kernel
theorem dX7_takeBack_33 : decode cX7_takeBack 33 = .ok (.iconst 1, 1) := by decide +kernel
theorem dX7_takeBack_34 : decode cX7_takeBack 34 = .ok (.ireturn, 1) := by decide +kernel
theorem dX7_sideOf_0 : decode cX7_sideOf 0 = .ok (.iload_n 1, 1) := by decide +kernel
theorem dX7_sideOf_1 : decode cX7_sideOf 1 = .ok (.bipush 7, 2) := by decide +kernel
theorem dX7_sideOf_3 : decode cX7_sideOf 3 = .ok (.imul, 1) := by decide +kernel
theorem dX7_sideOf_4 : decode cX7_sideOf 4 = .ok (.iload_n 2, 1) := by decide +kernel
theorem dX7_sideOf_5 : decode cX7_sideOf 5 = .ok (.iadd, 1) := by decide +kernel
theorem dX7_sideOf_6 : decode cX7_sideOf 6 = .ok (.istore_n 3, 1) := by decide +kernel
theorem dX7_sideOf_7 : decode cX7_sideOf 7 = .ok (.iload_n 3, 1) := by decide +kernel
theorem dX7_sideOf_8 : decode cX7_sideOf 8 = .ok (.ifCond .lt 12, 3) := by decide +kernel
theorem dX7_sideOf_11 : decode cX7_sideOf 11 = .ok (.iload_n 3, 1) := by decide +kernel
theorem dX7_sideOf_12 : decode cX7_sideOf 12 = .ok (.aload_n 0, 1) := by decide +kernel
theorem dX7_sideOf_13 : decode cX7_sideOf 13 = .ok (.getfield 22, 3) := by decide +kernel
theorem dX7_sideOf_16 : decode cX7_sideOf 16 = .ok (.arraylength, 1) := by decide +kernel
theorem dX7_sideOf_17 : decode cX7_sideOf 17 = .ok (.if_icmp .lt 7, 3) := by decide +kernel
theorem dX7_sideOf_20 : decode cX7_sideOf 20 = .ok (.iconst (-1), 1) := by decide +kernel
theorem dX7_sideOf_21 : decode cX7_sideOf 21 = .ok (.goto 11, 3) := by decide +kernel
theorem dX7_sideOf_24 : decode cX7_sideOf 24 = .ok (.aload_n 0, 1) := by decide +kernel
theorem dX7_sideOf_25 : decode cX7_sideOf 25 = .ok (.getfield 22, 3) := by decide +kernel
theorem dX7_sideOf_28 : decode cX7_sideOf 28 = .ok (.iload_n 3, 1) := by decide +kernel
theorem dX7_sideOf_29 : decode cX7_sideOf 29 = .ok (.baload, 1) := by decide +kernel
theorem dX7_sideOf_30 : decode cX7_sideOf 30 = .ok (.iconst 1, 1) := by decide +kernel
theorem dX7_sideOf_31 : decode cX7_sideOf 31 = .ok (.isub, 1) := by decide +kernel
theorem dX7_sideOf_32 : decode cX7_sideOf 32 = .ok (.ireturn, 1) := by decide +kernel
theorem dX7_choose_0 : decode cX7_choose 0 = .ok (.iload_n 1, 1) := by decide +kernel
theorem dX7_choose_1 : decode cX7_choose 1 = .ok (.bipush 7, 2) := by decide +kernel
theorem dX7_choose_3 : decode cX7_choose 3 = .ok (.imul, 1) := by decide +kernel
theorem dX7_choose_4 : decode cX7_choose 4 = .ok (.iload_n 2, 1) := by decide +kernel
theorem dX7_choose_5 : decode cX7_choose 5 = .ok (.iadd, 1) := by decide +kernel
theorem dX7_choose_6 : decode cX7_choose 6 = .ok (.istore 4, 2) := by decide +kernel
theorem dX7_choose_8 : decode cX7_choose 8 = .ok (.iload 4, 2) := by decide +kernel
theorem dX7_choose_10 : decode cX7_choose 10 = .ok (.ifCond .lt 24, 3) := by decide +kernel
theorem dX7_choose_13 : decode cX7_choose 13 = .ok (.iload 4, 2) := by decide +kernel
theorem dX7_choose_15 : decode cX7_choose 15 = .ok (.aload_n 0, 1) := by decide +kernel
theorem dX7_choose_16 : decode cX7_choose 16 = .ok (.getfield 22, 3) := by decide +kernel
theorem dX7_choose_19 : decode cX7_choose 19 = .ok (.arraylength, 1) := by decide +kernel
theorem dX7_choose_20 : decode cX7_choose 20 = .ok (.if_icmp .ge 14, 3) := by decide +kernel
theorem dX7_choose_23 : decode cX7_choose 23 = .ok (.aload_n 0, 1) := by decide +kernel
theorem dX7_choose_24 : decode cX7_choose 24 = .ok (.getfield 22, 3) := by decide +kernel
theorem dX7_choose_27 : decode cX7_choose 27 = .ok (.iload 4, 2) := by decide +kernel
theorem dX7_choose_29 : decode cX7_choose 29 = .ok (.iload_n 3, 1) := by decide +kernel
theorem dX7_choose_30 : decode cX7_choose 30 = .ok (.iconst 1, 1) := by decide +kernel
theorem dX7_choose_31 : decode cX7_choose 31 = .ok (.iadd, 1) := by decide +kernel
theorem dX7_choose_32 : decode cX7_choose 32 = .ok (.i2b, 1) := by decide +kernel
theorem dX7_choose_33 : decode cX7_choose 33 = .ok (.bastore, 1) := by decide +kernel
theorem dX7_choose_34 : decode cX7_choose 34 = .ok (.return_, 1) := by decide +kernel
theorem dX7_changed_0 : decode cX7_changed 0 = .ok (.aload_n 0, 1) := by decide +kernel
theorem dX7_changed_1 : decode cX7_changed 1 = .ok (.getfield 30, 3) := by decide +kernel
theorem dX7_changed_4 : decode cX7_changed 4 = .ok (.iload_n 1, 1) := by decide +kernel
theorem dX7_changed_5 : decode cX7_changed 5 = .ok (.invokevirtual 43, 3) := by decide +kernel
theorem dX7_changed_8 : decode cX7_changed 8 = .ok (.aload_n 0, 1) := by decide +kernel
theorem dX7_changed_9 : decode cX7_changed 9 = .ok (.getfield 40, 3) := by decide +kernel
theorem dX7_changed_12 : decode cX7_changed 12 = .ok (.iload_n 1, 1) := by decide +kernel
theorem dX7_changed_13 : decode cX7_changed 13 = .ok (.invokevirtual 43, 3) := by decide +kernel
theorem dX7_changed_16 : decode cX7_changed 16 = .ok (.invokestatic 66, 3) := by decide +kernel
theorem dX7_changed_19 : decode cX7_changed 19 = .ok (.ifCond .ne 7, 3) := by decide +kernel
theorem dX7_changed_22 : decode cX7_changed 22 = .ok (.iconst 1, 1) := by decide +kernel
theorem dX7_changed_23 : decode cX7_changed 23 = .ok (.goto 4, 3) := by decide +kernel
theorem dX7_changed_26 : decode cX7_changed 26 = .ok (.iconst 0, 1) := by decide +kernel
theorem dX7_changed_27 : decode cX7_changed 27 = .ok (.ireturn, 1) := by decide +kernel
theorem dX7_clashes_0 : decode cX7_clashes 0 = .ok (.aload_n 0, 1) := by decide +kernel
theorem dX7_clashes_1 : decode cX7_clashes 1 = .ok (.getfield 30, 3) := by decide +kernel
theorem dX7_clashes_4 : decode cX7_clashes 4 = .ok (.iload_n 1, 1) := by decide +kernel
theorem dX7_clashes_5 : decode cX7_clashes 5 = .ok (.invokevirtual 43, 3) := by decide +kernel
theorem dX7_clashes_8 : decode cX7_clashes 8 = .ok (.astore 4, 2) := by decide +kernel
theorem dX7_clashes_10 : decode cX7_clashes 10 = .ok (.aload_n 0, 1) := by decide +kernel
theorem dX7_clashes_11 : decode cX7_clashes 11 = .ok (.getfield 40, 3) := by decide +kernel
theorem dX7_clashes_14 : decode cX7_clashes 14 = .ok (.iload_n 1, 1) := by decide +kernel
theorem dX7_clashes_15 : decode cX7_clashes 15 = .ok (.invokevirtual 43, 3) := by decide +kernel
theorem dX7_clashes_18 : decode cX7_clashes 18 = .ok (.astore 5, 2) := by decide +kernel
theorem dX7_clashes_20 : decode cX7_clashes 20 = .ok (.aload_n 3, 1) := by decide +kernel
theorem dX7_clashes_21 : decode cX7_clashes 21 = .ok (.iload_n 1, 1) := by decide +kernel
theorem dX7_clashes_22 : decode cX7_clashes 22 = .ok (.invokevirtual 43, 3) := by decide +kernel
theorem dX7_clashes_25 : decode cX7_clashes 25 = .ok (.astore 6, 2) := by decide +kernel
theorem dX7_clashes_27 : decode cX7_clashes 27 = .ok (.aload 4, 2) := by decide +kernel
theorem dX7_clashes_29 : decode cX7_clashes 29 = .ok (.ifnonnull 5, 3) := by decide +kernel
theorem dX7_clashes_32 : decode cX7_clashes 32 = .ok (.iconst 0, 1) := by decide +kernel
theorem dX7_clashes_33 : decode cX7_clashes 33 = .ok (.ireturn, 1) := by decide +kernel
theorem dX7_clashes_34 : decode cX7_clashes 34 = .ok (.iload_n 2, 1) := by decide +kernel
theorem dX7_clashes_35 : decode cX7_clashes 35 = .ok (.bipush 6, 2) := by decide +kernel
theorem dX7_clashes_37 : decode cX7_clashes 37 = .ok (.if_icmp .ne 42, 3) := by decide +kernel
theorem dX7_clashes_40 : decode cX7_clashes 40 = .ok (.aload 5, 2) := by decide +kernel
theorem dX7_clashes_42 : decode cX7_clashes 42 = .ok (.ifnonnull 26, 3) := by decide +kernel
theorem dX7_clashes_45 : decode cX7_clashes 45 = .ok (.aload 6, 2) := by decide +kernel
theorem dX7_clashes_47 : decode cX7_clashes 47 = .ok (.ifnull 17, 3) := by decide +kernel
theorem dX7_clashes_50 : decode cX7_clashes 50 = .ok (.aload 6, 2) := by decide +kernel
theorem dX7_clashes_52 : decode cX7_clashes 52 = .ok (.aload 4, 2) := by decide +kernel
theorem dX7_clashes_54 : decode cX7_clashes 54 = .ok (.invokestatic 66, 3) := by decide +kernel
theorem dX7_clashes_57 : decode cX7_clashes 57 = .ok (.ifCond .ne 7, 3) := by decide +kernel
theorem dX7_clashes_60 : decode cX7_clashes 60 = .ok (.iconst 1, 1) := by decide +kernel
theorem dX7_clashes_61 : decode cX7_clashes 61 = .ok (.goto 17, 3) := by decide +kernel
theorem dX7_clashes_64 : decode cX7_clashes 64 = .ok (.iconst 0, 1) := by decide +kernel
theorem dX7_clashes_65 : decode cX7_clashes 65 = .ok (.goto 13, 3) := by decide +kernel
theorem dX7_clashes_68 : decode cX7_clashes 68 = .ok (.aload 6, 2) := by decide +kernel
theorem dX7_clashes_70 : decode cX7_clashes 70 = .ok (.ifnonnull 7, 3) := by decide +kernel
theorem dX7_clashes_73 : decode cX7_clashes 73 = .ok (.iconst 1, 1) := by decide +kernel
theorem dX7_clashes_74 : decode cX7_clashes 74 = .ok (.goto 4, 3) := by decide +kernel
theorem dX7_clashes_77 : decode cX7_clashes 77 = .ok (.iconst 0, 1) := by decide +kernel
theorem dX7_clashes_78 : decode cX7_clashes 78 = .ok (.ireturn, 1) := by decide +kernel
theorem dX7_clashes_79 : decode cX7_clashes 79 = .ok (.aload 5, 2) := by decide +kernel
theorem dX7_clashes_81 : decode cX7_clashes 81 = .ok (.aload 4, 2) := by decide +kernel
theorem dX7_clashes_83 : decode cX7_clashes 83 = .ok (.iload_n 2, 1) := by decide +kernel
theorem dX7_clashes_84 : decode cX7_clashes 84 = .ok (.invokestatic 72, 3) := by decide +kernel
theorem dX7_clashes_87 : decode cX7_clashes 87 = .ok (.ifCond .eq 29, 3) := by decide +kernel
theorem dX7_clashes_90 : decode cX7_clashes 90 = .ok (.aload 6, 2) := by decide +kernel
theorem dX7_clashes_92 : decode cX7_clashes 92 = .ok (.aload 4, 2) := by decide +kernel
theorem dX7_clashes_94 : decode cX7_clashes 94 = .ok (.iload_n 2, 1) := by decide +kernel
theorem dX7_clashes_95 : decode cX7_clashes 95 = .ok (.invokestatic 72, 3) := by decide +kernel
theorem dX7_clashes_98 : decode cX7_clashes 98 = .ok (.ifCond .eq 18, 3) := by decide +kernel
theorem dX7_clashes_101 : decode cX7_clashes 101 = .ok (.aload 6, 2) := by decide +kernel
theorem dX7_clashes_103 : decode cX7_clashes 103 = .ok (.aload 5, 2) := by decide +kernel
theorem dX7_clashes_105 : decode cX7_clashes 105 = .ok (.iload_n 2, 1) := by decide +kernel
theorem dX7_clashes_106 : decode cX7_clashes 106 = .ok (.invokestatic 72, 3) := by decide +kernel
theorem dX7_clashes_109 : decode cX7_clashes 109 = .ok (.ifCond .eq 7, 3) := by decide +kernel
theorem dX7_clashes_112 : decode cX7_clashes 112 = .ok (.iconst 1, 1) := by decide +kernel
theorem dX7_clashes_113 : decode cX7_clashes 113 = .ok (.goto 4, 3) := by decide +kernel
theorem dX7_clashes_116 : decode cX7_clashes 116 = .ok (.iconst 0, 1) := by decide +kernel
theorem dX7_clashes_117 : decode cX7_clashes 117 = .ok (.ireturn, 1) := by decide +kernel
theorem dX7_merged_0 : decode cX7_merged 0 = .ok (.aload_n 0, 1) := by decide +kernel
theorem dX7_merged_1 : decode cX7_merged 1 = .ok (.getfield 30, 3) := by decide +kernel
theorem dX7_merged_4 : decode cX7_merged 4 = .ok (.iload_n 1, 1) := by decide +kernel
theorem dX7_merged_5 : decode cX7_merged 5 = .ok (.invokevirtual 43, 3) := by decide +kernel
theorem dX7_merged_8 : decode cX7_merged 8 = .ok (.astore_n 3, 1) := by decide +kernel
theorem dX7_merged_9 : decode cX7_merged 9 = .ok (.aload_n 0, 1) := by decide +kernel
theorem dX7_merged_10 : decode cX7_merged 10 = .ok (.getfield 40, 3) := by decide +kernel
theorem dX7_merged_13 : decode cX7_merged 13 = .ok (.iload_n 1, 1) := by decide +kernel
theorem dX7_merged_14 : decode cX7_merged 14 = .ok (.invokevirtual 43, 3) := by decide +kernel
theorem dX7_merged_17 : decode cX7_merged 17 = .ok (.astore 4, 2) := by decide +kernel
theorem dX7_merged_19 : decode cX7_merged 19 = .ok (.aload_n 2, 1) := by decide +kernel
theorem dX7_merged_20 : decode cX7_merged 20 = .ok (.iload_n 1, 1) := by decide +kernel
theorem dX7_merged_21 : decode cX7_merged 21 = .ok (.invokevirtual 43, 3) := by decide +kernel
theorem dX7_merged_24 : decode cX7_merged 24 = .ok (.astore 5, 2) := by decide +kernel
theorem dX7_merged_26 : decode cX7_merged 26 = .ok (.aload_n 0, 1) := by decide +kernel
theorem dX7_merged_27 : decode cX7_merged 27 = .ok (.iload_n 1, 1) := by decide +kernel
theorem dX7_merged_28 : decode cX7_merged 28 = .ok (.invokevirtual 76, 3) := by decide +kernel
theorem dX7_merged_31 : decode cX7_merged 31 = .ok (.ifCond .ne 6, 3) := by decide +kernel
theorem dX7_merged_34 : decode cX7_merged 34 = .ok (.aload 5, 2) := by decide +kernel
theorem dX7_merged_36 : decode cX7_merged 36 = .ok (.areturn, 1) := by decide +kernel
theorem dX7_merged_37 : decode cX7_merged 37 = .ok (.aload_n 0, 1) := by decide +kernel
theorem dX7_merged_38 : decode cX7_merged 38 = .ok (.iload_n 1, 1) := by decide +kernel
theorem dX7_merged_39 : decode cX7_merged 39 = .ok (.bipush 6, 2) := by decide +kernel
theorem dX7_merged_41 : decode cX7_merged 41 = .ok (.aload_n 2, 1) := by decide +kernel
theorem dX7_merged_42 : decode cX7_merged 42 = .ok (.invokevirtual 80, 3) := by decide +kernel
theorem dX7_merged_45 : decode cX7_merged 45 = .ok (.ifCond .eq 22, 3) := by decide +kernel
theorem dX7_merged_48 : decode cX7_merged 48 = .ok (.aload_n 0, 1) := by decide +kernel
theorem dX7_merged_49 : decode cX7_merged 49 = .ok (.iload_n 1, 1) := by decide +kernel
theorem dX7_merged_50 : decode cX7_merged 50 = .ok (.bipush 6, 2) := by decide +kernel
theorem dX7_merged_52 : decode cX7_merged 52 = .ok (.invokevirtual 84, 3) := by decide +kernel
theorem dX7_merged_55 : decode cX7_merged 55 = .ok (.iconst 1, 1) := by decide +kernel
theorem dX7_merged_56 : decode cX7_merged 56 = .ok (.if_icmp .ne 8, 3) := by decide +kernel
theorem dX7_merged_59 : decode cX7_merged 59 = .ok (.aload 4, 2) := by decide +kernel
theorem dX7_merged_61 : decode cX7_merged 61 = .ok (.goto 5, 3) := by decide +kernel
theorem dX7_merged_64 : decode cX7_merged 64 = .ok (.aload 5, 2) := by decide +kernel
theorem dX7_merged_66 : decode cX7_merged 66 = .ok (.areturn, 1) := by decide +kernel
theorem dX7_merged_67 : decode cX7_merged 67 = .ok (.aload 4, 2) := by decide +kernel
theorem dX7_merged_69 : decode cX7_merged 69 = .ok (.ifnull 17, 3) := by decide +kernel
theorem dX7_merged_72 : decode cX7_merged 72 = .ok (.aload 5, 2) := by decide +kernel
theorem dX7_merged_74 : decode cX7_merged 74 = .ok (.ifnull 12, 3) := by decide +kernel
theorem dX7_merged_77 : decode cX7_merged 77 = .ok (.aload 5, 2) := by decide +kernel
theorem dX7_merged_79 : decode cX7_merged 79 = .ok (.aload_n 3, 1) := by decide +kernel
theorem dX7_merged_80 : decode cX7_merged 80 = .ok (.invokestatic 66, 3) := by decide +kernel
theorem dX7_merged_83 : decode cX7_merged 83 = .ok (.ifCond .eq 6, 3) := by decide +kernel
theorem dX7_merged_86 : decode cX7_merged 86 = .ok (.aload 4, 2) := by decide +kernel
theorem dX7_merged_88 : decode cX7_merged 88 = .ok (.areturn, 1) := by decide +kernel
theorem dX7_merged_89 : decode cX7_merged 89 = .ok (.aload 5, 2) := by decide +kernel
theorem dX7_merged_91 : decode cX7_merged 91 = .ok (.astore 6, 2) := by decide +kernel
theorem dX7_merged_93 : decode cX7_merged 93 = .ok (.iconst 0, 1) := by decide +kernel
theorem dX7_merged_94 : decode cX7_merged 94 = .ok (.istore 7, 2) := by decide +kernel
theorem dX7_merged_96 : decode cX7_merged 96 = .ok (.iload 7, 2) := by decide +kernel
theorem dX7_merged_98 : decode cX7_merged 98 = .ok (.bipush 6, 2) := by decide +kernel
theorem dX7_merged_100 : decode cX7_merged 100 = .ok (.if_icmp .ge 36, 3) := by decide +kernel
theorem dX7_merged_103 : decode cX7_merged 103 = .ok (.aload_n 0, 1) := by decide +kernel
theorem dX7_merged_104 : decode cX7_merged 104 = .ok (.iload_n 1, 1) := by decide +kernel
theorem dX7_merged_105 : decode cX7_merged 105 = .ok (.iload 7, 2) := by decide +kernel
theorem dX7_merged_107 : decode cX7_merged 107 = .ok (.aload_n 2, 1) := by decide +kernel
theorem dX7_merged_108 : decode cX7_merged 108 = .ok (.invokevirtual 88, 3) := by decide +kernel
theorem dX7_merged_111 : decode cX7_merged 111 = .ok (.ifCond .eq 19, 3) := by decide +kernel
theorem dX7_merged_114 : decode cX7_merged 114 = .ok (.aload 6, 2) := by decide +kernel
theorem dX7_merged_116 : decode cX7_merged 116 = .ok (.iload 7, 2) := by decide +kernel
theorem dX7_merged_118 : decode cX7_merged 118 = .ok (.aload 4, 2) := by decide +kernel
theorem dX7_merged_120 : decode cX7_merged 120 = .ok (.iload 7, 2) := by decide +kernel
theorem dX7_merged_122 : decode cX7_merged 122 = .ok (.invokevirtual 91, 3) := by decide +kernel
theorem dX7_merged_125 : decode cX7_merged 125 = .ok (.invokevirtual 95, 3) := by decide +kernel
theorem dX7_merged_128 : decode cX7_merged 128 = .ok (.astore 6, 2) := by decide +kernel
theorem dX7_merged_130 : decode cX7_merged 130 = .ok (.iinc 7 1, 3) := by decide +kernel
theorem dX7_merged_133 : decode cX7_merged 133 = .ok (.goto (-37), 3) := by decide +kernel
theorem dX7_merged_136 : decode cX7_merged 136 = .ok (.aload 6, 2) := by decide +kernel
theorem dX7_merged_138 : decode cX7_merged 138 = .ok (.areturn, 1) := by decide +kernel
theorem dX7_takes_0 : decode cX7_takes 0 = .ok (.aload_n 0, 1) := by decide +kernel
theorem dX7_takes_1 : decode cX7_takes 1 = .ok (.getfield 40, 3) := by decide +kernel
theorem dX7_takes_4 : decode cX7_takes 4 = .ok (.iload_n 1, 1) := by decide +kernel
theorem dX7_takes_5 : decode cX7_takes 5 = .ok (.invokevirtual 43, 3) := by decide +kernel
theorem dX7_takes_8 : decode cX7_takes 8 = .ok (.astore 4, 2) := by decide +kernel
theorem dX7_takes_10 : decode cX7_takes 10 = .ok (.aload 4, 2) := by decide +kernel
theorem dX7_takes_12 : decode cX7_takes 12 = .ok (.aload_n 0, 1) := by decide +kernel
theorem dX7_takes_13 : decode cX7_takes 13 = .ok (.getfield 30, 3) := by decide +kernel
theorem dX7_takes_16 : decode cX7_takes 16 = .ok (.iload_n 1, 1) := by decide +kernel
theorem dX7_takes_17 : decode cX7_takes 17 = .ok (.invokevirtual 43, 3) := by decide +kernel
theorem dX7_takes_20 : decode cX7_takes 20 = .ok (.iload_n 2, 1) := by decide +kernel
theorem dX7_takes_21 : decode cX7_takes 21 = .ok (.invokestatic 72, 3) := by decide +kernel
theorem dX7_takes_24 : decode cX7_takes 24 = .ok (.ifCond .eq 41, 3) := by decide +kernel
theorem dX7_takes_27 : decode cX7_takes 27 = .ok (.aload 4, 2) := by decide +kernel
theorem dX7_takes_29 : decode cX7_takes 29 = .ok (.aload_n 3, 1) := by decide +kernel
theorem dX7_takes_30 : decode cX7_takes 30 = .ok (.iload_n 1, 1) := by decide +kernel
theorem dX7_takes_31 : decode cX7_takes 31 = .ok (.invokevirtual 43, 3) := by decide +kernel
theorem dX7_takes_34 : decode cX7_takes 34 = .ok (.iload_n 2, 1) := by decide +kernel
theorem dX7_takes_35 : decode cX7_takes 35 = .ok (.invokestatic 72, 3) := by decide +kernel
theorem dX7_takes_38 : decode cX7_takes 38 = .ok (.ifCond .eq 27, 3) := by decide +kernel
theorem dX7_takes_41 : decode cX7_takes 41 = .ok (.aload_n 0, 1) := by decide +kernel
theorem dX7_takes_42 : decode cX7_takes 42 = .ok (.iload_n 1, 1) := by decide +kernel
theorem dX7_takes_43 : decode cX7_takes 43 = .ok (.iload_n 2, 1) := by decide +kernel
theorem dX7_takes_44 : decode cX7_takes 44 = .ok (.aload_n 3, 1) := by decide +kernel
theorem dX7_takes_45 : decode cX7_takes 45 = .ok (.invokevirtual 80, 3) := by decide +kernel
theorem dX7_takes_48 : decode cX7_takes 48 = .ok (.ifCond .eq 13, 3) := by decide +kernel
theorem dX7_takes_51 : decode cX7_takes 51 = .ok (.aload_n 0, 1) := by decide +kernel
theorem dX7_takes_52 : decode cX7_takes 52 = .ok (.iload_n 1, 1) := by decide +kernel
theorem dX7_takes_53 : decode cX7_takes 53 = .ok (.iload_n 2, 1) := by decide +kernel
theorem dX7_takes_54 : decode cX7_takes 54 = .ok (.invokevirtual 84, 3) := by decide +kernel
theorem dX7_takes_57 : decode cX7_takes 57 = .ok (.iconst 1, 1) := by decide +kernel
theorem dX7_takes_58 : decode cX7_takes 58 = .ok (.if_icmp .ne 7, 3) := by decide +kernel
theorem dX7_takes_61 : decode cX7_takes 61 = .ok (.iconst 1, 1) := by decide +kernel
theorem dX7_takes_62 : decode cX7_takes 62 = .ok (.goto 4, 3) := by decide +kernel
theorem dX7_takes_65 : decode cX7_takes 65 = .ok (.iconst 0, 1) := by decide +kernel
theorem dX7_takes_66 : decode cX7_takes 66 = .ok (.ireturn, 1) := by decide +kernel
theorem dX8_init_0 : decode cX8_init 0 = .ok (.aload_n 0, 1) := by decide +kernel
theorem dX8_init_1 : decode cX8_init 1 = .ok (.invokespecial 3, 3) := by decide +kernel
theorem dX8_init_4 : decode cX8_init 4 = .ok (.aload_n 0, 1) := by decide +kernel
theorem dX8_init_5 : decode cX8_init 5 = .ok (.bipush 60, 2) := by decide +kernel
theorem dX8_init_7 : decode cX8_init 7 = .ok (.anewarray 9, 3) := by decide +kernel
theorem dX8_init_10 : decode cX8_init 10 = .ok (.putfield 11, 3) := by decide +kernel
theorem dX8_init_13 : decode cX8_init 13 = .ok (.return_, 1) := by decide +kernel
theorem dX8_row_0 : decode cX8_row 0 = .ok (.iload_n 1, 1) := by decide +kernel
theorem dX8_row_1 : decode cX8_row 1 = .ok (.ifCond .lt 9, 3) := by decide +kernel
theorem dX8_row_4 : decode cX8_row 4 = .ok (.iload_n 1, 1) := by decide +kernel
theorem dX8_row_5 : decode cX8_row 5 = .ok (.bipush 60, 2) := by decide +kernel
theorem dX8_row_7 : decode cX8_row 7 = .ok (.if_icmp .lt 7, 3) := by decide +kernel
theorem dX8_row_10 : decode cX8_row 10 = .ok (.aconst_null, 1) := by decide +kernel
theorem dX8_row_11 : decode cX8_row 11 = .ok (.goto 9, 3) := by decide +kernel
theorem dX8_row_14 : decode cX8_row 14 = .ok (.aload_n 0, 1) := by decide +kernel
theorem dX8_row_15 : decode cX8_row 15 = .ok (.getfield 11, 3) := by decide +kernel
theorem dX8_row_18 : decode cX8_row 18 = .ok (.iload_n 1, 1) := by decide +kernel
theorem dX8_row_19 : decode cX8_row 19 = .ok (.aaload, 1) := by decide +kernel
theorem dX8_row_20 : decode cX8_row 20 = .ok (.areturn, 1) := by decide +kernel
theorem dX8_put_0 : decode cX8_put 0 = .ok (.iload_n 1, 1) := by decide +kernel
theorem dX8_put_1 : decode cX8_put 1 = .ok (.ifCond .lt 16, 3) := by decide +kernel
theorem dX8_put_4 : decode cX8_put 4 = .ok (.iload_n 1, 1) := by decide +kernel
theorem dX8_put_5 : decode cX8_put 5 = .ok (.bipush 60, 2) := by decide +kernel
theorem dX8_put_7 : decode cX8_put 7 = .ok (.if_icmp .ge 10, 3) := by decide +kernel
theorem dX8_put_10 : decode cX8_put 10 = .ok (.aload_n 0, 1) := by decide +kernel
theorem dX8_put_11 : decode cX8_put 11 = .ok (.getfield 11, 3) := by decide +kernel
theorem dX8_put_14 : decode cX8_put 14 = .ok (.iload_n 1, 1) := by decide +kernel
theorem dX8_put_15 : decode cX8_put 15 = .ok (.aload_n 2, 1) := by decide +kernel
theorem dX8_put_16 : decode cX8_put 16 = .ok (.aastore, 1) := by decide +kernel
theorem dX8_put_17 : decode cX8_put 17 = .ok (.return_, 1) := by decide +kernel
theorem dX8_copy_0 : decode cX8_copy 0 = .ok (.new 12, 3) := by decide +kernel
theorem dX8_copy_3 : decode cX8_copy 3 = .ok (.dup, 1) := by decide +kernel
theorem dX8_copy_4 : decode cX8_copy 4 = .ok (.invokespecial 17, 3) := by decide +kernel
theorem dX8_copy_7 : decode cX8_copy 7 = .ok (.astore_n 1, 1) := by decide +kernel
theorem dX8_copy_8 : decode cX8_copy 8 = .ok (.iconst 0, 1) := by decide +kernel
theorem dX8_copy_9 : decode cX8_copy 9 = .ok (.istore_n 2, 1) := by decide +kernel
theorem dX8_copy_10 : decode cX8_copy 10 = .ok (.iload_n 2, 1) := by decide +kernel
theorem dX8_copy_11 : decode cX8_copy 11 = .ok (.bipush 60, 2) := by decide +kernel
theorem dX8_copy_13 : decode cX8_copy 13 = .ok (.if_icmp .ge 21, 3) := by decide +kernel
theorem dX8_copy_16 : decode cX8_copy 16 = .ok (.aload_n 1, 1) := by decide +kernel
theorem dX8_copy_17 : decode cX8_copy 17 = .ok (.getfield 11, 3) := by decide +kernel
theorem dX8_copy_20 : decode cX8_copy 20 = .ok (.iload_n 2, 1) := by decide +kernel
theorem dX8_copy_21 : decode cX8_copy 21 = .ok (.aload_n 0, 1) := by decide +kernel
theorem dX8_copy_22 : decode cX8_copy 22 = .ok (.getfield 11, 3) := by decide +kernel
theorem dX8_copy_25 : decode cX8_copy 25 = .ok (.iload_n 2, 1) := by decide +kernel
theorem dX8_copy_26 : decode cX8_copy 26 = .ok (.aaload, 1) := by decide +kernel
theorem dX8_copy_27 : decode cX8_copy 27 = .ok (.aastore, 1) := by decide +kernel
theorem dX8_copy_28 : decode cX8_copy 28 = .ok (.iinc 2 1, 3) := by decide +kernel
theorem dX8_copy_31 : decode cX8_copy 31 = .ok (.goto (-21), 3) := by decide +kernel
theorem dX8_copy_34 : decode cX8_copy 34 = .ok (.aload_n 1, 1) := by decide +kernel
theorem dX8_copy_35 : decode cX8_copy 35 = .ok (.areturn, 1) := by decide +kernel
end
section
theorem dX9_init_0 : decode cX9_init 0 = .ok (.aload_n 0, 1) := by decide +kernel
theorem dX9_init_1 : decode cX9_init 1 = .ok (.invokespecial 1, 3) := by decide +kernel
theorem dX9_init_4 : decode cX9_init 4 = .ok (.aload_n 0, 1) := by decide +kernel
theorem dX9_init_5 : decode cX9_init 5 = .ok (.bipush 40, 2) := by decide +kernel
theorem dX9_init_7 : decode cX9_init 7 = .ok (.anewarray 9, 3) := by decide +kernel
theorem dX9_init_10 : decode cX9_init 10 = .ok (.putfield 11, 3) := by decide +kernel
theorem dX9_init_13 : decode cX9_init 13 = .ok (.aload_n 0, 1) := by decide +kernel
theorem dX9_init_14 : decode cX9_init 14 = .ok (.new 9, 3) := by decide +kernel
theorem dX9_init_17 : decode cX9_init 17 = .ok (.dup, 1) := by decide +kernel
theorem dX9_init_18 : decode cX9_init 18 = .ok (.invokespecial 15, 3) := by decide +kernel
theorem dX9_init_21 : decode cX9_init 21 = .ok (.putfield 16, 3) := by decide +kernel
theorem dX9_init_24 : decode cX9_init 24 = .ok (.aload_n 0, 1) := by decide +kernel
theorem dX9_init_25 : decode cX9_init 25 = .ok (.bipush 20, 2) := by decide +kernel
theorem dX9_init_27 : decode cX9_init 27 = .ok (.anewarray 20, 3) := by decide +kernel
theorem dX9_init_30 : decode cX9_init 30 = .ok (.putfield 22, 3) := by decide +kernel
theorem dX9_init_33 : decode cX9_init 33 = .ok (.aload_n 0, 1) := by decide +kernel
theorem dX9_init_34 : decode cX9_init 34 = .ok (.new 26, 3) := by decide +kernel
theorem dX9_init_37 : decode cX9_init 37 = .ok (.dup, 1) := by decide +kernel
theorem dX9_init_38 : decode cX9_init 38 = .ok (.invokespecial 28, 3) := by decide +kernel
theorem dX9_init_41 : decode cX9_init 41 = .ok (.putfield 29, 3) := by decide +kernel
theorem dX9_init_44 : decode cX9_init 44 = .ok (.aload_n 0, 1) := by decide +kernel
theorem dX9_init_45 : decode cX9_init 45 = .ok (.bipush 20, 2) := by decide +kernel
theorem dX9_init_47 : decode cX9_init 47 = .ok (.anewarray 33, 3) := by decide +kernel
theorem dX9_init_50 : decode cX9_init 50 = .ok (.putfield 35, 3) := by decide +kernel
theorem dX9_init_53 : decode cX9_init 53 = .ok (.aload_n 0, 1) := by decide +kernel
theorem dX9_init_54 : decode cX9_init 54 = .ok (.new 39, 3) := by decide +kernel
theorem dX9_init_57 : decode cX9_init 57 = .ok (.dup, 1) := by decide +kernel
theorem dX9_init_58 : decode cX9_init 58 = .ok (.invokespecial 41, 3) := by decide +kernel
theorem dX9_init_61 : decode cX9_init 61 = .ok (.putfield 42, 3) := by decide +kernel
theorem dX9_init_64 : decode cX9_init 64 = .ok (.aload_n 0, 1) := by decide +kernel
theorem dX9_init_65 : decode cX9_init 65 = .ok (.bipush 60, 2) := by decide +kernel
theorem dX9_init_67 : decode cX9_init 67 = .ok (.newarray .int, 2) := by decide +kernel
theorem dX9_init_69 : decode cX9_init 69 = .ok (.putfield 46, 3) := by decide +kernel
theorem dX9_init_72 : decode cX9_init 72 = .ok (.aload_n 0, 1) := by decide +kernel
theorem dX9_init_73 : decode cX9_init 73 = .ok (.getfield 11, 3) := by decide +kernel
theorem dX9_init_76 : decode cX9_init 76 = .ok (.iconst 0, 1) := by decide +kernel
theorem dX9_init_77 : decode cX9_init 77 = .ok (.aload_n 0, 1) := by decide +kernel
theorem dX9_init_78 : decode cX9_init 78 = .ok (.getfield 16, 3) := by decide +kernel
theorem dX9_init_81 : decode cX9_init 81 = .ok (.aastore, 1) := by decide +kernel
theorem dX9_init_82 : decode cX9_init 82 = .ok (.aload_n 0, 1) := by decide +kernel
theorem dX9_init_83 : decode cX9_init 83 = .ok (.iconst 1, 1) := by decide +kernel
theorem dX9_init_84 : decode cX9_init 84 = .ok (.putfield 50, 3) := by decide +kernel
theorem dX9_init_87 : decode cX9_init 87 = .ok (.return_, 1) := by decide +kernel
theorem dX9_object_0 : decode cX9_object 0 = .ok (.iload_n 1, 1) := by decide +kernel
theorem dX9_object_1 : decode cX9_object 1 = .ok (.invokestatic 54, 3) := by decide +kernel
theorem dX9_object_4 : decode cX9_object 4 = .ok (.aload_n 0, 1) := by decide +kernel
theorem dX9_object_5 : decode cX9_object 5 = .ok (.getfield 58, 3) := by decide +kernel
theorem dX9_object_8 : decode cX9_object 8 = .ok (.bipush 60, 2) := by decide +kernel
theorem dX9_object_10 : decode cX9_object 10 = .ok (.if_icmp .ge 12, 3) := by decide +kernel
theorem dX9_object_13 : decode cX9_object 13 = .ok (.aload_n 0, 1) := by decide +kernel
theorem dX9_object_14 : decode cX9_object 14 = .ok (.getfield 50, 3) := by decide +kernel
theorem dX9_object_17 : decode cX9_object 17 = .ok (.bipush 40, 2) := by decide +kernel
theorem dX9_object_19 : decode cX9_object 19 = .ok (.if_icmp .lt 5, 3) := by decide +kernel
theorem dX9_object_22 : decode cX9_object 22 = .ok (.iconst (-1), 1) := by decide +kernel
theorem dX9_object_23 : decode cX9_object 23 = .ok (.ireturn, 1) := by decide +kernel
theorem dX9_object_24 : decode cX9_object 24 = .ok (.aload_n 0, 1) := by decide +kernel
theorem dX9_object_25 : decode cX9_object 25 = .ok (.invokevirtual 61, 3) := by decide +kernel
theorem dX9_object_28 : decode cX9_object 28 = .ok (.istore_n 2, 1) := by decide +kernel
theorem dX9_object_29 : decode cX9_object 29 = .ok (.aload_n 0, 1) := by decide +kernel
theorem dX9_object_30 : decode cX9_object 30 = .ok (.getfield 16, 3) := by decide +kernel
theorem dX9_object_33 : decode cX9_object 33 = .ok (.invokevirtual 65, 3) := by decide +kernel
theorem dX9_object_36 : decode cX9_object 36 = .ok (.astore_n 3, 1) := by decide +kernel
theorem dX9_object_37 : decode cX9_object 37 = .ok (.aload_n 3, 1) := by decide +kernel
theorem dX9_object_38 : decode cX9_object 38 = .ok (.iload_n 2, 1) := by decide +kernel
theorem dX9_object_39 : decode cX9_object 39 = .ok (.new 69, 3) := by decide +kernel
theorem dX9_object_42 : decode cX9_object 42 = .ok (.dup, 1) := by decide +kernel
theorem dX9_object_43 : decode cX9_object 43 = .ok (.invokespecial 71, 3) := by decide +kernel
theorem dX9_object_46 : decode cX9_object 46 = .ok (.invokevirtual 72, 3) := by decide +kernel
theorem dX9_object_49 : decode cX9_object 49 = .ok (.aload_n 0, 1) := by decide +kernel
theorem dX9_object_50 : decode cX9_object 50 = .ok (.aload_n 3, 1) := by decide +kernel
theorem dX9_object_51 : decode cX9_object 51 = .ok (.invokevirtual 76, 3) := by decide +kernel
theorem dX9_object_54 : decode cX9_object 54 = .ok (.iload_n 2, 1) := by decide +kernel
theorem dX9_object_55 : decode cX9_object 55 = .ok (.ireturn, 1) := by decide +kernel
theorem dX9_session_0 : decode cX9_session 0 = .ok (.aload_n 0, 1) := by decide +kernel
theorem dX9_session_1 : decode cX9_session 1 = .ok (.getfield 80, 3) := by decide +kernel
theorem dX9_session_4 : decode cX9_session 4 = .ok (.bipush 20, 2) := by decide +kernel
theorem dX9_session_6 : decode cX9_session 6 = .ok (.if_icmp .lt 7, 3) := by decide +kernel
theorem dX9_session_9 : decode cX9_session 9 = .ok (.iconst (-1), 1) := by decide +kernel
theorem dX9_session_10 : decode cX9_session 10 = .ok (.goto 14, 3) := by decide +kernel
theorem dX9_session_13 : decode cX9_session 13 = .ok (.aload_n 0, 1) := by decide +kernel
theorem dX9_session_14 : decode cX9_session 14 = .ok (.aload_n 0, 1) := by decide +kernel
theorem dX9_session_15 : decode cX9_session 15 = .ok (.getfield 16, 3) := by decide +kernel
theorem dX9_session_18 : decode cX9_session 18 = .ok (.invokevirtual 83, 3) := by decide +kernel
theorem dX9_session_21 : decode cX9_session 21 = .ok (.getfield 87, 3) := by decide +kernel
theorem dX9_session_24 : decode cX9_session 24 = .ok (.ireturn, 1) := by decide +kernel
theorem dX9_set_0 : decode cX9_set 0 = .ok (.aload_n 0, 1) := by decide +kernel
theorem dX9_set_1 : decode cX9_set 1 = .ok (.iload_n 1, 1) := by decide +kernel
theorem dX9_set_2 : decode cX9_set 2 = .ok (.invokevirtual 90, 3) := by decide +kernel
theorem dX9_set_5 : decode cX9_set 5 = .ok (.astore 6, 2) := by decide +kernel
theorem dX9_set_7 : decode cX9_set 7 = .ok (.aload_n 0, 1) := by decide +kernel
theorem dX9_set_8 : decode cX9_set 8 = .ok (.iload_n 2, 1) := by decide +kernel
theorem dX9_set_9 : decode cX9_set 9 = .ok (.invokevirtual 94, 3) := by decide +kernel
theorem dX9_set_12 : decode cX9_set 12 = .ok (.iload_n 3, 1) := by decide +kernel
theorem dX9_set_13 : decode cX9_set 13 = .ok (.invokestatic 97, 3) := by decide +kernel
theorem dX9_set_16 : decode cX9_set 16 = .ok (.aload 6, 2) := by decide +kernel
theorem dX9_set_18 : decode cX9_set 18 = .ok (.invokestatic 100, 3) := by decide +kernel
theorem dX9_set_21 : decode cX9_set 21 = .ok (.aload_n 0, 1) := by decide +kernel
theorem dX9_set_22 : decode cX9_set 22 = .ok (.aload 6, 2) := by decide +kernel
theorem dX9_set_24 : decode cX9_set 24 = .ok (.iload_n 2, 1) := by decide +kernel
theorem dX9_set_25 : decode cX9_set 25 = .ok (.iload_n 3, 1) := by decide +kernel
theorem dX9_set_26 : decode cX9_set 26 = .ok (.lload 4, 2) := by decide +kernel
theorem dX9_set_28 : decode cX9_set 28 = .ok (.aload 6, 2) := by decide +kernel
theorem dX9_set_30 : decode cX9_set 30 = .ok (.getfield 104, 3) := by decide +kernel
theorem dX9_set_33 : decode cX9_set 33 = .ok (.iload_n 2, 1) := by decide +kernel
theorem dX9_set_34 : decode cX9_set 34 = .ok (.invokestatic 107, 3) := by decide +kernel
theorem dX9_set_37 : decode cX9_set 37 = .ok (.invokevirtual 111, 3) := by decide +kernel
theorem dX9_set_40 : decode cX9_set 40 = .ok (.ireturn, 1) := by decide +kernel
theorem dX9_drop_0 : decode cX9_drop 0 = .ok (.aload_n 0, 1) := by decide +kernel
theorem dX9_drop_1 : decode cX9_drop 1 = .ok (.iload_n 1, 1) := by decide +kernel
theorem dX9_drop_2 : decode cX9_drop 2 = .ok (.invokevirtual 90, 3) := by decide +kernel
theorem dX9_drop_5 : decode cX9_drop 5 = .ok (.astore_n 3, 1) := by decide +kernel
theorem dX9_drop_6 : decode cX9_drop 6 = .ok (.aload_n 0, 1) := by decide +kernel
theorem dX9_drop_7 : decode cX9_drop 7 = .ok (.iload_n 2, 1) := by decide +kernel
theorem dX9_drop_8 : decode cX9_drop 8 = .ok (.invokevirtual 94, 3) := by decide +kernel
theorem dX9_drop_11 : decode cX9_drop 11 = .ok (.aload_n 3, 1) := by decide +kernel
theorem dX9_drop_12 : decode cX9_drop 12 = .ok (.invokestatic 100, 3) := by decide +kernel
theorem dX9_drop_15 : decode cX9_drop 15 = .ok (.aload_n 0, 1) := by decide +kernel
theorem dX9_drop_16 : decode cX9_drop 16 = .ok (.getfield 29, 3) := by decide +kernel
theorem dX9_drop_19 : decode cX9_drop 19 = .ok (.aload_n 3, 1) := by decide +kernel
theorem dX9_drop_20 : decode cX9_drop 20 = .ok (.getfield 87, 3) := by decide +kernel
theorem dX9_drop_23 : decode cX9_drop 23 = .ok (.aload_n 3, 1) := by decide +kernel
theorem dX9_drop_24 : decode cX9_drop 24 = .ok (.getfield 104, 3) := by decide +kernel
theorem dX9_drop_27 : decode cX9_drop 27 = .ok (.iload_n 2, 1) := by decide +kernel
theorem dX9_drop_28 : decode cX9_drop 28 = .ok (.invokestatic 107, 3) := by decide +kernel
theorem dX9_drop_31 : decode cX9_drop 31 = .ok (.invokevirtual 115, 3) := by decide +kernel
theorem dX9_drop_34 : decode cX9_drop 34 = .ok (.ifCond .eq 5, 3) := by decide +kernel
theorem dX9_drop_37 : decode cX9_drop 37 = .ok (.iconst 0, 1) := by decide +kernel
theorem dX9_drop_38 : decode cX9_drop 38 = .ok (.ireturn, 1) := by decide +kernel
theorem dX9_drop_39 : decode cX9_drop 39 = .ok (.aload_n 3, 1) := by decide +kernel
theorem dX9_drop_40 : decode cX9_drop 40 = .ok (.iload_n 2, 1) := by decide +kernel
theorem dX9_drop_41 : decode cX9_drop 41 = .ok (.aconst_null, 1) := by decide +kernel
theorem dX9_drop_42 : decode cX9_drop 42 = .ok (.invokevirtual 119, 3) := by decide +kernel
theorem dX9_drop_45 : decode cX9_drop 45 = .ok (.iconst 1, 1) := by decide +kernel
theorem dX9_drop_46 : decode cX9_drop 46 = .ok (.ireturn, 1) := by decide +kernel
theorem dX9_make_0 : decode cX9_make 0 = .ok (.aload_n 0, 1) := by decide +kernel
theorem dX9_make_1 : decode cX9_make 1 = .ok (.iload_n 1, 1) := by decide +kernel
theorem dX9_make_2 : decode cX9_make 2 = .ok (.invokevirtual 90, 3) := by decide +kernel
theorem dX9_make_5 : decode cX9_make 5 = .ok (.astore_n 3, 1) := by decide +kernel
theorem dX9_make_6 : decode cX9_make 6 = .ok (.aload_n 3, 1) := by decide +kernel
theorem dX9_make_7 : decode cX9_make 7 = .ok (.invokestatic 100, 3) := by decide +kernel
theorem dX9_make_10 : decode cX9_make 10 = .ok (.iload_n 2, 1) := by decide +kernel
theorem dX9_make_11 : decode cX9_make 11 = .ok (.invokestatic 54, 3) := by decide +kernel
theorem dX9_make_14 : decode cX9_make 14 = .ok (.aload_n 0, 1) := by decide +kernel
theorem dX9_make_15 : decode cX9_make 15 = .ok (.getfield 58, 3) := by decide +kernel
theorem dX9_make_18 : decode cX9_make 18 = .ok (.bipush 60, 2) := by decide +kernel
theorem dX9_make_20 : decode cX9_make 20 = .ok (.if_icmp .lt 5, 3) := by decide +kernel
theorem dX9_make_23 : decode cX9_make 23 = .ok (.iconst (-1), 1) := by decide +kernel
theorem dX9_make_24 : decode cX9_make 24 = .ok (.ireturn, 1) := by decide +kernel
theorem dX9_make_25 : decode cX9_make 25 = .ok (.aload_n 0, 1) := by decide +kernel
theorem dX9_make_26 : decode cX9_make 26 = .ok (.invokevirtual 61, 3) := by decide +kernel
theorem dX9_make_29 : decode cX9_make 29 = .ok (.istore 4, 2) := by decide +kernel
theorem dX9_make_31 : decode cX9_make 31 = .ok (.aload_n 3, 1) := by decide +kernel
theorem dX9_make_32 : decode cX9_make 32 = .ok (.iload 4, 2) := by decide +kernel
theorem dX9_make_34 : decode cX9_make 34 = .ok (.new 69, 3) := by decide +kernel
theorem dX9_make_37 : decode cX9_make 37 = .ok (.dup, 1) := by decide +kernel
theorem dX9_make_38 : decode cX9_make 38 = .ok (.invokespecial 71, 3) := by decide +kernel
theorem dX9_make_41 : decode cX9_make 41 = .ok (.invokevirtual 119, 3) := by decide +kernel
theorem dX9_make_44 : decode cX9_make 44 = .ok (.iload 4, 2) := by decide +kernel
theorem dX9_make_46 : decode cX9_make 46 = .ok (.ireturn, 1) := by decide +kernel
theorem dX9_join_0 : decode cX9_join 0 = .ok (.aload_n 0, 1) := by decide +kernel
theorem dX9_join_1 : decode cX9_join 1 = .ok (.iload_n 1, 1) := by decide +kernel
theorem dX9_join_2 : decode cX9_join 2 = .ok (.invokevirtual 90, 3) := by decide +kernel
theorem dX9_join_5 : decode cX9_join 5 = .ok (.astore_n 2, 1) := by decide +kernel
theorem dX9_join_6 : decode cX9_join 6 = .ok (.aload_n 2, 1) := by decide +kernel
theorem dX9_join_7 : decode cX9_join 7 = .ok (.invokestatic 100, 3) := by decide +kernel
theorem dX9_join_10 : decode cX9_join 10 = .ok (.aload_n 0, 1) := by decide +kernel
theorem dX9_join_11 : decode cX9_join 11 = .ok (.getfield 50, 3) := by decide +kernel
theorem dX9_join_14 : decode cX9_join 14 = .ok (.bipush 40, 2) := by decide +kernel
theorem dX9_join_16 : decode cX9_join 16 = .ok (.if_icmp .lt 7, 3) := by decide +kernel
theorem dX9_join_19 : decode cX9_join 19 = .ok (.iconst (-1), 1) := by decide +kernel
theorem dX9_join_20 : decode cX9_join 20 = .ok (.goto 8, 3) := by decide +kernel
theorem dX9_join_23 : decode cX9_join 23 = .ok (.aload_n 0, 1) := by decide +kernel
theorem dX9_join_24 : decode cX9_join 24 = .ok (.aload_n 2, 1) := by decide +kernel
theorem dX9_join_25 : decode cX9_join 25 = .ok (.invokevirtual 122, 3) := by decide +kernel
theorem dX9_join_28 : decode cX9_join 28 = .ok (.ireturn, 1) := by decide +kernel
theorem dX9_conflict_0 : decode cX9_conflict 0 = .ok (.aload_n 0, 1) := by decide +kernel
theorem dX9_conflict_1 : decode cX9_conflict 1 = .ok (.iload_n 1, 1) := by decide +kernel
theorem dX9_conflict_2 : decode cX9_conflict 2 = .ok (.invokevirtual 126, 3) := by decide +kernel
theorem dX9_conflict_5 : decode cX9_conflict 5 = .ok (.astore_n 3, 1) := by decide +kernel
theorem dX9_conflict_6 : decode cX9_conflict 6 = .ok (.aload_n 0, 1) := by decide +kernel
theorem dX9_conflict_7 : decode cX9_conflict 7 = .ok (.getfield 42, 3) := by decide +kernel
theorem dX9_conflict_10 : decode cX9_conflict 10 = .ok (.iload_n 1, 1) := by decide +kernel
theorem dX9_conflict_11 : decode cX9_conflict 11 = .ok (.invokevirtual 129, 3) := by decide +kernel
theorem dX9_conflict_14 : decode cX9_conflict 14 = .ok (.istore 4, 2) := by decide +kernel
theorem dX9_conflict_16 : decode cX9_conflict 16 = .ok (.aload_n 0, 1) := by decide +kernel
theorem dX9_conflict_17 : decode cX9_conflict 17 = .ok (.getfield 42, 3) := by decide +kernel
theorem dX9_conflict_20 : decode cX9_conflict 20 = .ok (.iload_n 1, 1) := by decide +kernel
theorem dX9_conflict_21 : decode cX9_conflict 21 = .ok (.invokevirtual 133, 3) := by decide +kernel
theorem dX9_conflict_24 : decode cX9_conflict 24 = .ok (.istore 5, 2) := by decide +kernel
theorem dX9_conflict_26 : decode cX9_conflict 26 = .ok (.iload_n 2, 1) := by decide +kernel
theorem dX9_conflict_27 : decode cX9_conflict 27 = .ok (.tableswitch 40 0 2 #[25, 28, 31], 25) := by decide +kernel
theorem dX9_conflict_52 : decode cX9_conflict 52 = .ok (.iload 4, 2) := by decide +kernel
theorem dX9_conflict_54 : decode cX9_conflict 54 = .ok (.ireturn, 1) := by decide +kernel
theorem dX9_conflict_55 : decode cX9_conflict 55 = .ok (.iload 5, 2) := by decide +kernel
theorem dX9_conflict_57 : decode cX9_conflict 57 = .ok (.ireturn, 1) := by decide +kernel
theorem dX9_conflict_58 : decode cX9_conflict 58 = .ok (.aload_n 3, 1) := by decide +kernel
theorem dX9_conflict_59 : decode cX9_conflict 59 = .ok (.iload 4, 2) := by decide +kernel
theorem dX9_conflict_61 : decode cX9_conflict 61 = .ok (.iload 5, 2) := by decide +kernel
theorem dX9_conflict_63 : decode cX9_conflict 63 = .ok (.invokevirtual 136, 3) := by decide +kernel
theorem dX9_conflict_66 : decode cX9_conflict 66 = .ok (.ireturn, 1) := by decide +kernel
theorem dX9_conflict_67 : decode cX9_conflict 67 = .ok (.new 140, 3) := by decide +kernel
theorem dX9_conflict_70 : decode cX9_conflict 70 = .ok (.dup, 1) := by decide +kernel
theorem dX9_conflict_71 : decode cX9_conflict 71 = .ok (.ldc 142, 2) := by decide +kernel
theorem dX9_conflict_73 : decode cX9_conflict 73 = .ok (.invokespecial 144, 3) := by decide +kernel
theorem dX9_conflict_76 : decode cX9_conflict 76 = .ok (.athrow, 1) := by decide +kernel
theorem dX9_settle_0 : decode cX9_settle 0 = .ok (.aload_n 0, 1) := by decide +kernel
theorem dX9_settle_1 : decode cX9_settle 1 = .ok (.iload_n 1, 1) := by decide +kernel
theorem dX9_settle_2 : decode cX9_settle 2 = .ok (.invokevirtual 126, 3) := by decide +kernel
theorem dX9_settle_5 : decode cX9_settle 5 = .ok (.astore_n 3, 1) := by decide +kernel
theorem dX9_settle_6 : decode cX9_settle 6 = .ok (.aload_n 3, 1) := by decide +kernel
theorem dX9_settle_7 : decode cX9_settle 7 = .ok (.invokestatic 100, 3) := by decide +kernel
theorem dX9_settle_10 : decode cX9_settle 10 = .ok (.iload_n 2, 1) := by decide +kernel
theorem dX9_settle_11 : decode cX9_settle 11 = .ok (.ifCond .lt 8, 3) := by decide +kernel
theorem dX9_settle_14 : decode cX9_settle 14 = .ok (.iload_n 2, 1) := by decide +kernel
theorem dX9_settle_15 : decode cX9_settle 15 = .ok (.iconst 2, 1) := by decide +kernel
theorem dX9_settle_16 : decode cX9_settle 16 = .ok (.if_icmp .lt 13, 3) := by decide +kernel
theorem dX9_settle_19 : decode cX9_settle 19 = .ok (.new 147, 3) := by decide +kernel
theorem dX9_settle_22 : decode cX9_settle 22 = .ok (.dup, 1) := by decide +kernel
theorem dX9_settle_23 : decode cX9_settle 23 = .ok (.ldc 149, 2) := by decide +kernel
theorem dX9_settle_25 : decode cX9_settle 25 = .ok (.invokespecial 151, 3) := by decide +kernel
theorem dX9_settle_28 : decode cX9_settle 28 = .ok (.athrow, 1) := by decide +kernel
theorem dX9_settle_29 : decode cX9_settle 29 = .ok (.aload_n 0, 1) := by decide +kernel
theorem dX9_settle_30 : decode cX9_settle 30 = .ok (.getfield 42, 3) := by decide +kernel
theorem dX9_settle_33 : decode cX9_settle 33 = .ok (.iload_n 1, 1) := by decide +kernel
theorem dX9_settle_34 : decode cX9_settle 34 = .ok (.invokevirtual 129, 3) := by decide +kernel
theorem dX9_settle_37 : decode cX9_settle 37 = .ok (.istore 4, 2) := by decide +kernel
theorem dX9_settle_39 : decode cX9_settle 39 = .ok (.aload_n 0, 1) := by decide +kernel
theorem dX9_settle_40 : decode cX9_settle 40 = .ok (.getfield 42, 3) := by decide +kernel
theorem dX9_settle_43 : decode cX9_settle 43 = .ok (.iload_n 1, 1) := by decide +kernel
theorem dX9_settle_44 : decode cX9_settle 44 = .ok (.invokevirtual 133, 3) := by decide +kernel
theorem dX9_settle_47 : decode cX9_settle 47 = .ok (.istore 5, 2) := by decide +kernel
theorem dX9_settle_49 : decode cX9_settle 49 = .ok (.aload_n 3, 1) := by decide +kernel
theorem dX9_settle_50 : decode cX9_settle 50 = .ok (.iload 4, 2) := by decide +kernel
theorem dX9_settle_52 : decode cX9_settle 52 = .ok (.iload 5, 2) := by decide +kernel
theorem dX9_settle_54 : decode cX9_settle 54 = .ok (.invokevirtual 136, 3) := by decide +kernel
theorem dX9_settle_57 : decode cX9_settle 57 = .ok (.iload_n 2, 1) := by decide +kernel
theorem dX9_settle_58 : decode cX9_settle 58 = .ok (.if_icmp .eq 7, 3) := by decide +kernel
theorem dX9_settle_61 : decode cX9_settle 61 = .ok (.iconst 1, 1) := by decide +kernel
theorem dX9_settle_62 : decode cX9_settle 62 = .ok (.goto 4, 3) := by decide +kernel
theorem dX9_settle_65 : decode cX9_settle 65 = .ok (.iconst 0, 1) := by decide +kernel
theorem dX9_settle_66 : decode cX9_settle 66 = .ok (.istore 6, 2) := by decide +kernel
theorem dX9_settle_68 : decode cX9_settle 68 = .ok (.aload_n 3, 1) := by decide +kernel
theorem dX9_settle_69 : decode cX9_settle 69 = .ok (.iload 4, 2) := by decide +kernel
theorem dX9_settle_71 : decode cX9_settle 71 = .ok (.iload 5, 2) := by decide +kernel
theorem dX9_settle_73 : decode cX9_settle 73 = .ok (.iload_n 2, 1) := by decide +kernel
theorem dX9_settle_74 : decode cX9_settle 74 = .ok (.invokevirtual 152, 3) := by decide +kernel
theorem dX9_settle_77 : decode cX9_settle 77 = .ok (.iload 6, 2) := by decide +kernel
theorem dX9_settle_79 : decode cX9_settle 79 = .ok (.ireturn, 1) := by decide +kernel
theorem dX9_at_0 : decode cX9_at 0 = .ok (.aload_n 0, 1) := by decide +kernel
theorem dX9_at_1 : decode cX9_at 1 = .ok (.iload_n 1, 1) := by decide +kernel
theorem dX9_at_2 : decode cX9_at 2 = .ok (.invokevirtual 94, 3) := by decide +kernel
theorem dX9_at_5 : decode cX9_at 5 = .ok (.iload_n 2, 1) := by decide +kernel
theorem dX9_at_6 : decode cX9_at 6 = .ok (.invokestatic 97, 3) := by decide +kernel
theorem dX9_at_9 : decode cX9_at 9 = .ok (.aload_n 0, 1) := by decide +kernel
theorem dX9_at_10 : decode cX9_at 10 = .ok (.getfield 16, 3) := by decide +kernel
theorem dX9_at_13 : decode cX9_at 13 = .ok (.iload_n 1, 1) := by decide +kernel
theorem dX9_at_14 : decode cX9_at 14 = .ok (.invokestatic 107, 3) := by decide +kernel
theorem dX9_at_17 : decode cX9_at 17 = .ok (.iload_n 2, 1) := by decide +kernel
theorem dX9_at_18 : decode cX9_at 18 = .ok (.invokevirtual 156, 3) := by decide +kernel
theorem dX9_at_21 : decode cX9_at 21 = .ok (.lreturn, 1) := by decide +kernel
theorem dX9_lock_0 : decode cX9_lock 0 = .ok (.aload_n 0, 1) := by decide +kernel
theorem dX9_lock_1 : decode cX9_lock 1 = .ok (.iload_n 1, 1) := by decide +kernel
theorem dX9_lock_2 : decode cX9_lock 2 = .ok (.invokevirtual 90, 3) := by decide +kernel
theorem dX9_lock_5 : decode cX9_lock 5 = .ok (.astore 10, 2) := by decide +kernel
theorem dX9_lock_7 : decode cX9_lock 7 = .ok (.aload 10, 2) := by decide +kernel
theorem dX9_lock_9 : decode cX9_lock 9 = .ok (.invokestatic 100, 3) := by decide +kernel
theorem dX9_lock_12 : decode cX9_lock 12 = .ok (.lload_n 2, 1) := by decide +kernel
theorem dX9_lock_13 : decode cX9_lock 13 = .ok (.lload 6, 2) := by decide +kernel
theorem dX9_lock_15 : decode cX9_lock 15 = .ok (.lcmp, 1) := by decide +kernel
theorem dX9_lock_16 : decode cX9_lock 16 = .ok (.ifCond .gt 44, 3) := by decide +kernel
theorem dX9_lock_19 : decode cX9_lock 19 = .ok (.lload 4, 2) := by decide +kernel
theorem dX9_lock_21 : decode cX9_lock 21 = .ok (.lload 8, 2) := by decide +kernel
theorem dX9_lock_23 : decode cX9_lock 23 = .ok (.lcmp, 1) := by decide +kernel
theorem dX9_lock_24 : decode cX9_lock 24 = .ok (.ifCond .gt 36, 3) := by decide +kernel
theorem dX9_lock_27 : decode cX9_lock 27 = .ok (.aload_n 0, 1) := by decide +kernel
theorem dX9_lock_28 : decode cX9_lock 28 = .ok (.getfield 29, 3) := by decide +kernel
theorem dX9_lock_31 : decode cX9_lock 31 = .ok (.new 160, 3) := by decide +kernel
theorem dX9_lock_34 : decode cX9_lock 34 = .ok (.dup, 1) := by decide +kernel
theorem dX9_lock_35 : decode cX9_lock 35 = .ok (.aload 10, 2) := by decide +kernel
theorem dX9_lock_37 : decode cX9_lock 37 = .ok (.getfield 87, 3) := by decide +kernel
theorem dX9_lock_40 : decode cX9_lock 40 = .ok (.lload_n 2, 1) := by decide +kernel
theorem dX9_lock_41 : decode cX9_lock 41 = .ok (.lload 4, 2) := by decide +kernel
theorem dX9_lock_43 : decode cX9_lock 43 = .ok (.lload 6, 2) := by decide +kernel
theorem dX9_lock_45 : decode cX9_lock 45 = .ok (.lload 8, 2) := by decide +kernel
theorem dX9_lock_47 : decode cX9_lock 47 = .ok (.invokespecial 162, 3) := by decide +kernel
theorem dX9_lock_50 : decode cX9_lock 50 = .ok (.invokevirtual 165, 3) := by decide +kernel
theorem dX9_lock_53 : decode cX9_lock 53 = .ok (.ifCond .eq 7, 3) := by decide +kernel
theorem dX9_lock_56 : decode cX9_lock 56 = .ok (.iconst 1, 1) := by decide +kernel
theorem dX9_lock_57 : decode cX9_lock 57 = .ok (.goto 4, 3) := by decide +kernel
theorem dX9_lock_60 : decode cX9_lock 60 = .ok (.iconst 0, 1) := by decide +kernel
theorem dX9_lock_61 : decode cX9_lock 61 = .ok (.ireturn, 1) := by decide +kernel
theorem dX9_apart_0 : decode cX9_apart 0 = .ok (.aload_n 0, 1) := by decide +kernel
theorem dX9_apart_1 : decode cX9_apart 1 = .ok (.iload_n 1, 1) := by decide +kernel
theorem dX9_apart_2 : decode cX9_apart 2 = .ok (.invokevirtual 94, 3) := by decide +kernel
theorem dX9_apart_5 : decode cX9_apart 5 = .ok (.aload_n 0, 1) := by decide +kernel
theorem dX9_apart_6 : decode cX9_apart 6 = .ok (.iload_n 2, 1) := by decide +kernel
theorem dX9_apart_7 : decode cX9_apart 7 = .ok (.invokevirtual 94, 3) := by decide +kernel
theorem dX9_apart_10 : decode cX9_apart 10 = .ok (.lload_n 3, 1) := by decide +kernel
theorem dX9_apart_11 : decode cX9_apart 11 = .ok (.lconst 0, 1) := by decide +kernel
theorem dX9_apart_12 : decode cX9_apart 12 = .ok (.lcmp, 1) := by decide +kernel
theorem dX9_apart_13 : decode cX9_apart 13 = .ok (.ifCond .lt 11, 3) := by decide +kernel
theorem dX9_apart_16 : decode cX9_apart 16 = .ok (.lload_n 3, 1) := by decide +kernel
theorem dX9_apart_17 : decode cX9_apart 17 = .ok (.ldc2_w 169, 3) := by decide +kernel
theorem dX9_apart_20 : decode cX9_apart 20 = .ok (.lcmp, 1) := by decide +kernel
theorem dX9_apart_21 : decode cX9_apart 21 = .ok (.ifCond .le 13, 3) := by decide +kernel
theorem dX9_apart_24 : decode cX9_apart 24 = .ok (.new 147, 3) := by decide +kernel
theorem dX9_apart_27 : decode cX9_apart 27 = .ok (.dup, 1) := by decide +kernel
theorem dX9_apart_28 : decode cX9_apart 28 = .ok (.ldc 171, 2) := by decide +kernel
theorem dX9_apart_30 : decode cX9_apart 30 = .ok (.invokespecial 151, 3) := by decide +kernel
theorem dX9_apart_33 : decode cX9_apart 33 = .ok (.athrow, 1) := by decide +kernel
theorem dX9_apart_34 : decode cX9_apart 34 = .ok (.iload_n 1, 1) := by decide +kernel
theorem dX9_apart_35 : decode cX9_apart 35 = .ok (.iload_n 2, 1) := by decide +kernel
theorem dX9_apart_36 : decode cX9_apart 36 = .ok (.if_icmp .eq 12, 3) := by decide +kernel
theorem dX9_apart_39 : decode cX9_apart 39 = .ok (.aload_n 0, 1) := by decide +kernel
theorem dX9_apart_40 : decode cX9_apart 40 = .ok (.getfield 173, 3) := by decide +kernel
theorem dX9_apart_43 : decode cX9_apart 43 = .ok (.bipush 20, 2) := by decide +kernel
theorem dX9_apart_45 : decode cX9_apart 45 = .ok (.if_icmp .lt 5, 3) := by decide +kernel
theorem dX9_apart_48 : decode cX9_apart 48 = .ok (.iconst 0, 1) := by decide +kernel
theorem dX9_apart_49 : decode cX9_apart 49 = .ok (.ireturn, 1) := by decide +kernel
theorem dX9_apart_50 : decode cX9_apart 50 = .ok (.aload_n 0, 1) := by decide +kernel
theorem dX9_apart_51 : decode cX9_apart 51 = .ok (.getfield 35, 3) := by decide +kernel
theorem dX9_apart_54 : decode cX9_apart 54 = .ok (.aload_n 0, 1) := by decide +kernel
theorem dX9_apart_55 : decode cX9_apart 55 = .ok (.getfield 173, 3) := by decide +kernel
theorem dX9_apart_58 : decode cX9_apart 58 = .ok (.new 33, 3) := by decide +kernel
theorem dX9_apart_61 : decode cX9_apart 61 = .ok (.dup, 1) := by decide +kernel
theorem dX9_apart_62 : decode cX9_apart 62 = .ok (.iload_n 1, 1) := by decide +kernel
theorem dX9_apart_63 : decode cX9_apart 63 = .ok (.iload_n 2, 1) := by decide +kernel
theorem dX9_apart_64 : decode cX9_apart 64 = .ok (.lload_n 3, 1) := by decide +kernel
theorem dX9_apart_65 : decode cX9_apart 65 = .ok (.invokespecial 176, 3) := by decide +kernel
theorem dX9_apart_68 : decode cX9_apart 68 = .ok (.aastore, 1) := by decide +kernel
theorem dX9_apart_69 : decode cX9_apart 69 = .ok (.aload_n 0, 1) := by decide +kernel
theorem dX9_apart_70 : decode cX9_apart 70 = .ok (.dup, 1) := by decide +kernel
theorem dX9_apart_71 : decode cX9_apart 71 = .ok (.getfield 173, 3) := by decide +kernel
theorem dX9_apart_74 : decode cX9_apart 74 = .ok (.iconst 1, 1) := by decide +kernel
theorem dX9_apart_75 : decode cX9_apart 75 = .ok (.iadd, 1) := by decide +kernel
theorem dX9_apart_76 : decode cX9_apart 76 = .ok (.putfield 173, 3) := by decide +kernel
theorem dX9_apart_79 : decode cX9_apart 79 = .ok (.iconst 1, 1) := by decide +kernel
theorem dX9_apart_80 : decode cX9_apart 80 = .ok (.ireturn, 1) := by decide +kernel
theorem dX9_violation_0 : decode cX9_violation 0 = .ok (.iload_n 2, 1) := by decide +kernel
theorem dX9_violation_1 : decode cX9_violation 1 = .ok (.ifCond .eq 18, 3) := by decide +kernel
theorem dX9_violation_4 : decode cX9_violation 4 = .ok (.iload_n 2, 1) := by decide +kernel
theorem dX9_violation_5 : decode cX9_violation 5 = .ok (.iconst 1, 1) := by decide +kernel
theorem dX9_violation_6 : decode cX9_violation 6 = .ok (.if_icmp .eq 13, 3) := by decide +kernel
theorem dX9_violation_9 : decode cX9_violation 9 = .ok (.new 140, 3) := by decide +kernel
theorem dX9_violation_12 : decode cX9_violation 12 = .ok (.dup, 1) := by decide +kernel
theorem dX9_violation_13 : decode cX9_violation 13 = .ok (.ldc 179, 2) := by decide +kernel
theorem dX9_violation_15 : decode cX9_violation 15 = .ok (.invokespecial 144, 3) := by decide +kernel
theorem dX9_violation_18 : decode cX9_violation 18 = .ok (.athrow, 1) := by decide +kernel
theorem dX9_violation_19 : decode cX9_violation 19 = .ok (.iconst 0, 1) := by decide +kernel
theorem dX9_violation_20 : decode cX9_violation 20 = .ok (.istore_n 3, 1) := by decide +kernel
theorem dX9_violation_21 : decode cX9_violation 21 = .ok (.iconst 0, 1) := by decide +kernel
theorem dX9_violation_22 : decode cX9_violation 22 = .ok (.istore 4, 2) := by decide +kernel
theorem dX9_violation_24 : decode cX9_violation 24 = .ok (.iload 4, 2) := by decide +kernel
theorem dX9_violation_26 : decode cX9_violation 26 = .ok (.bipush 20, 2) := by decide +kernel
theorem dX9_violation_28 : decode cX9_violation 28 = .ok (.if_icmp .ge 64, 3) := by decide +kernel
theorem dX9_violation_31 : decode cX9_violation 31 = .ok (.aload_n 0, 1) := by decide +kernel
theorem dX9_violation_32 : decode cX9_violation 32 = .ok (.getfield 35, 3) := by decide +kernel
theorem dX9_violation_35 : decode cX9_violation 35 = .ok (.iload 4, 2) := by decide +kernel
theorem dX9_violation_37 : decode cX9_violation 37 = .ok (.aaload, 1) := by decide +kernel
theorem dX9_violation_38 : decode cX9_violation 38 = .ok (.astore 5, 2) := by decide +kernel
theorem dX9_violation_40 : decode cX9_violation 40 = .ok (.aload 5, 2) := by decide +kernel
theorem dX9_violation_42 : decode cX9_violation 42 = .ok (.ifnull 44, 3) := by decide +kernel
theorem dX9_violation_45 : decode cX9_violation 45 = .ok (.aload 5, 2) := by decide +kernel
theorem dX9_violation_47 : decode cX9_violation 47 = .ok (.aload_n 0, 1) := by decide +kernel
theorem dX9_violation_48 : decode cX9_violation 48 = .ok (.getfield 16, 3) := by decide +kernel
theorem dX9_violation_51 : decode cX9_violation 51 = .ok (.invokevirtual 181, 3) := by decide +kernel
theorem dX9_violation_54 : decode cX9_violation 54 = .ok (.ifCond .ne 6, 3) := by decide +kernel
theorem dX9_violation_57 : decode cX9_violation 57 = .ok (.goto 29, 3) := by decide +kernel
theorem dX9_violation_60 : decode cX9_violation 60 = .ok (.iload_n 3, 1) := by decide +kernel
theorem dX9_violation_61 : decode cX9_violation 61 = .ok (.iload_n 1, 1) := by decide +kernel
theorem dX9_violation_62 : decode cX9_violation 62 = .ok (.if_icmp .ne 21, 3) := by decide +kernel
theorem dX9_violation_65 : decode cX9_violation 65 = .ok (.iload_n 2, 1) := by decide +kernel
theorem dX9_violation_66 : decode cX9_violation 66 = .ok (.ifCond .ne 11, 3) := by decide +kernel
theorem dX9_violation_69 : decode cX9_violation 69 = .ok (.aload 5, 2) := by decide +kernel
theorem dX9_violation_71 : decode cX9_violation 71 = .ok (.getfield 185, 3) := by decide +kernel
theorem dX9_violation_74 : decode cX9_violation 74 = .ok (.goto 8, 3) := by decide +kernel
theorem dX9_violation_77 : decode cX9_violation 77 = .ok (.aload 5, 2) := by decide +kernel
theorem dX9_violation_79 : decode cX9_violation 79 = .ok (.getfield 188, 3) := by decide +kernel
theorem dX9_violation_82 : decode cX9_violation 82 = .ok (.ireturn, 1) := by decide +kernel
theorem dX9_violation_83 : decode cX9_violation 83 = .ok (.iinc 3 1, 3) := by decide +kernel
theorem dX9_violation_86 : decode cX9_violation 86 = .ok (.iinc 4 1, 3) := by decide +kernel
theorem dX9_violation_89 : decode cX9_violation 89 = .ok (.goto (-65), 3) := by decide +kernel
theorem dX9_violation_92 : decode cX9_violation 92 = .ok (.iconst (-1), 1) := by decide +kernel
theorem dX9_violation_93 : decode cX9_violation 93 = .ok (.ireturn, 1) := by decide +kernel
theorem dX9_version_0 : decode cX9_version 0 = .ok (.aload_n 0, 1) := by decide +kernel
theorem dX9_version_1 : decode cX9_version 1 = .ok (.getfield 50, 3) := by decide +kernel
theorem dX9_version_4 : decode cX9_version 4 = .ok (.iconst 1, 1) := by decide +kernel
theorem dX9_version_5 : decode cX9_version 5 = .ok (.isub, 1) := by decide +kernel
theorem dX9_version_6 : decode cX9_version 6 = .ok (.ireturn, 1) := by decide +kernel
theorem dX9_difference_0 : decode cX9_difference 0 = .ok (.aload_n 0, 1) := by decide +kernel
theorem dX9_difference_1 : decode cX9_difference 1 = .ok (.iload_n 1, 1) := by decide +kernel
theorem dX9_difference_2 : decode cX9_difference 2 = .ok (.invokevirtual 191, 3) := by decide +kernel
theorem dX9_difference_5 : decode cX9_difference 5 = .ok (.astore 4, 2) := by decide +kernel
theorem dX9_difference_7 : decode cX9_difference 7 = .ok (.aload_n 0, 1) := by decide +kernel
theorem dX9_difference_8 : decode cX9_difference 8 = .ok (.iload_n 2, 1) := by decide +kernel
theorem dX9_difference_9 : decode cX9_difference 9 = .ok (.invokevirtual 191, 3) := by decide +kernel
theorem dX9_difference_12 : decode cX9_difference 12 = .ok (.astore 5, 2) := by decide +kernel
theorem dX9_difference_14 : decode cX9_difference 14 = .ok (.iconst 0, 1) := by decide +kernel
theorem dX9_difference_15 : decode cX9_difference 15 = .ok (.istore 6, 2) := by decide +kernel
theorem dX9_difference_17 : decode cX9_difference 17 = .ok (.iconst 0, 1) := by decide +kernel
theorem dX9_difference_18 : decode cX9_difference 18 = .ok (.istore 7, 2) := by decide +kernel
theorem dX9_difference_20 : decode cX9_difference 20 = .ok (.iload 7, 2) := by decide +kernel
theorem dX9_difference_22 : decode cX9_difference 22 = .ok (.bipush 60, 2) := by decide +kernel
theorem dX9_difference_24 : decode cX9_difference 24 = .ok (.if_icmp .ge 68, 3) := by decide +kernel
theorem dX9_difference_27 : decode cX9_difference 27 = .ok (.iconst 0, 1) := by decide +kernel
theorem dX9_difference_28 : decode cX9_difference 28 = .ok (.istore 8, 2) := by decide +kernel
theorem dX9_difference_30 : decode cX9_difference 30 = .ok (.iload 8, 2) := by decide +kernel
theorem dX9_difference_32 : decode cX9_difference 32 = .ok (.bipush 7, 2) := by decide +kernel
theorem dX9_difference_34 : decode cX9_difference 34 = .ok (.if_icmp .ge 52, 3) := by decide +kernel
theorem dX9_difference_37 : decode cX9_difference 37 = .ok (.aload 4, 2) := by decide +kernel
theorem dX9_difference_39 : decode cX9_difference 39 = .ok (.iload 7, 2) := by decide +kernel
theorem dX9_difference_41 : decode cX9_difference 41 = .ok (.invokevirtual 195, 3) := by decide +kernel
theorem dX9_difference_44 : decode cX9_difference 44 = .ok (.aload 5, 2) := by decide +kernel
theorem dX9_difference_46 : decode cX9_difference 46 = .ok (.iload 7, 2) := by decide +kernel
theorem dX9_difference_48 : decode cX9_difference 48 = .ok (.invokevirtual 195, 3) := by decide +kernel
theorem dX9_difference_51 : decode cX9_difference 51 = .ok (.iload 8, 2) := by decide +kernel
theorem dX9_difference_53 : decode cX9_difference 53 = .ok (.invokestatic 199, 3) := by decide +kernel
theorem dX9_difference_56 : decode cX9_difference 56 = .ok (.ifCond .ne 6, 3) := by decide +kernel
theorem dX9_difference_59 : decode cX9_difference 59 = .ok (.goto 21, 3) := by decide +kernel
theorem dX9_difference_62 : decode cX9_difference 62 = .ok (.iload 6, 2) := by decide +kernel
theorem dX9_difference_64 : decode cX9_difference 64 = .ok (.iload_n 3, 1) := by decide +kernel
theorem dX9_difference_65 : decode cX9_difference 65 = .ok (.if_icmp .ne 12, 3) := by decide +kernel
theorem dX9_difference_68 : decode cX9_difference 68 = .ok (.bipush 8, 2) := by decide +kernel
theorem dX9_difference_70 : decode cX9_difference 70 = .ok (.iload 7, 2) := by decide +kernel
theorem dX9_difference_72 : decode cX9_difference 72 = .ok (.imul, 1) := by decide +kernel
theorem dX9_difference_73 : decode cX9_difference 73 = .ok (.iload 8, 2) := by decide +kernel
theorem dX9_difference_75 : decode cX9_difference 75 = .ok (.iadd, 1) := by decide +kernel
theorem dX9_difference_76 : decode cX9_difference 76 = .ok (.ireturn, 1) := by decide +kernel
theorem dX9_difference_77 : decode cX9_difference 77 = .ok (.iinc 6 1, 3) := by decide +kernel
theorem dX9_difference_80 : decode cX9_difference 80 = .ok (.iinc 8 1, 3) := by decide +kernel
theorem dX9_difference_83 : decode cX9_difference 83 = .ok (.goto (-53), 3) := by decide +kernel
theorem dX9_difference_86 : decode cX9_difference 86 = .ok (.iinc 7 1, 3) := by decide +kernel
theorem dX9_difference_89 : decode cX9_difference 89 = .ok (.goto (-69), 3) := by decide +kernel
theorem dX9_difference_92 : decode cX9_difference 92 = .ok (.iconst (-1), 1) := by decide +kernel
theorem dX9_difference_93 : decode cX9_difference 93 = .ok (.ireturn, 1) := by decide +kernel
theorem dX9_undo_0 : decode cX9_undo 0 = .ok (.aload_n 0, 1) := by decide +kernel
theorem dX9_undo_1 : decode cX9_undo 1 = .ok (.iload_n 1, 1) := by decide +kernel
theorem dX9_undo_2 : decode cX9_undo 2 = .ok (.invokevirtual 90, 3) := by decide +kernel
theorem dX9_undo_5 : decode cX9_undo 5 = .ok (.astore_n 2, 1) := by decide +kernel
theorem dX9_undo_6 : decode cX9_undo 6 = .ok (.aload_n 2, 1) := by decide +kernel
theorem dX9_undo_7 : decode cX9_undo 7 = .ok (.invokestatic 100, 3) := by decide +kernel
theorem dX9_undo_10 : decode cX9_undo 10 = .ok (.aload_n 2, 1) := by decide +kernel
theorem dX9_undo_11 : decode cX9_undo 11 = .ok (.invokevirtual 203, 3) := by decide +kernel
theorem dX9_undo_14 : decode cX9_undo 14 = .ok (.ireturn, 1) := by decide +kernel
theorem dX9_branch_0 : decode cX9_branch 0 = .ok (.aload_n 0, 1) := by decide +kernel
theorem dX9_branch_1 : decode cX9_branch 1 = .ok (.iload_n 1, 1) := by decide +kernel
theorem dX9_branch_2 : decode cX9_branch 2 = .ok (.invokevirtual 191, 3) := by decide +kernel
theorem dX9_branch_5 : decode cX9_branch 5 = .ok (.astore_n 2, 1) := by decide +kernel
theorem dX9_branch_6 : decode cX9_branch 6 = .ok (.aload_n 0, 1) := by decide +kernel
theorem dX9_branch_7 : decode cX9_branch 7 = .ok (.getfield 80, 3) := by decide +kernel
theorem dX9_branch_10 : decode cX9_branch 10 = .ok (.bipush 20, 2) := by decide +kernel
theorem dX9_branch_12 : decode cX9_branch 12 = .ok (.if_icmp .lt 7, 3) := by decide +kernel
theorem dX9_branch_15 : decode cX9_branch 15 = .ok (.iconst (-1), 1) := by decide +kernel
theorem dX9_branch_16 : decode cX9_branch 16 = .ok (.goto 11, 3) := by decide +kernel
theorem dX9_branch_19 : decode cX9_branch 19 = .ok (.aload_n 0, 1) := by decide +kernel
theorem dX9_branch_20 : decode cX9_branch 20 = .ok (.aload_n 2, 1) := by decide +kernel
theorem dX9_branch_21 : decode cX9_branch 21 = .ok (.invokevirtual 83, 3) := by decide +kernel
theorem dX9_branch_24 : decode cX9_branch 24 = .ok (.getfield 87, 3) := by decide +kernel
theorem dX9_branch_27 : decode cX9_branch 27 = .ok (.ireturn, 1) := by decide +kernel
theorem dX9_play_0 : decode cX9_play 0 = .ok (.iload_n 3, 1) := by decide +kernel
theorem dX9_play_1 : decode cX9_play 1 = .ok (.ifCond .lt 9, 3) := by decide +kernel
theorem dX9_play_4 : decode cX9_play 4 = .ok (.iload_n 3, 1) := by decide +kernel
theorem dX9_play_5 : decode cX9_play 5 = .ok (.bipush 100, 2) := by decide +kernel
theorem dX9_play_7 : decode cX9_play 7 = .ok (.if_icmp .le 13, 3) := by decide +kernel
theorem dX9_play_10 : decode cX9_play 10 = .ok (.new 147, 3) := by decide +kernel
theorem dX9_play_13 : decode cX9_play 13 = .ok (.dup, 1) := by decide +kernel
theorem dX9_play_14 : decode cX9_play 14 = .ok (.ldc 207, 2) := by decide +kernel
theorem dX9_play_16 : decode cX9_play 16 = .ok (.invokespecial 151, 3) := by decide +kernel
theorem dX9_play_19 : decode cX9_play 19 = .ok (.athrow, 1) := by decide +kernel
theorem dX9_play_20 : decode cX9_play 20 = .ok (.aload_n 0, 1) := by decide +kernel
theorem dX9_play_21 : decode cX9_play 21 = .ok (.getfield 80, 3) := by decide +kernel
theorem dX9_play_24 : decode cX9_play 24 = .ok (.bipush 20, 2) := by decide +kernel
theorem dX9_play_26 : decode cX9_play 26 = .ok (.if_icmp .ge 12, 3) := by decide +kernel
theorem dX9_play_29 : decode cX9_play 29 = .ok (.aload_n 0, 1) := by decide +kernel
theorem dX9_play_30 : decode cX9_play 30 = .ok (.getfield 50, 3) := by decide +kernel
theorem dX9_play_33 : decode cX9_play 33 = .ok (.bipush 40, 2) := by decide +kernel
theorem dX9_play_35 : decode cX9_play 35 = .ok (.if_icmp .lt 5, 3) := by decide +kernel
theorem dX9_play_38 : decode cX9_play 38 = .ok (.iconst (-1), 1) := by decide +kernel
theorem dX9_play_39 : decode cX9_play 39 = .ok (.ireturn, 1) := by decide +kernel
theorem dX9_play_40 : decode cX9_play 40 = .ok (.aload_n 0, 1) := by decide +kernel
theorem dX9_play_41 : decode cX9_play 41 = .ok (.aload_n 0, 1) := by decide +kernel
theorem dX9_play_42 : decode cX9_play 42 = .ok (.getfield 16, 3) := by decide +kernel
theorem dX9_play_45 : decode cX9_play 45 = .ok (.invokevirtual 83, 3) := by decide +kernel
theorem dX9_play_48 : decode cX9_play 48 = .ok (.astore 4, 2) := by decide +kernel
theorem dX9_play_50 : decode cX9_play 50 = .ok (.new 209, 3) := by decide +kernel
theorem dX9_play_53 : decode cX9_play 53 = .ok (.dup, 1) := by decide +kernel
theorem dX9_play_54 : decode cX9_play 54 = .ok (.lload_n 1, 1) := by decide +kernel
theorem dX9_play_55 : decode cX9_play 55 = .ok (.invokespecial 211, 3) := by decide +kernel
theorem dX9_play_58 : decode cX9_play 58 = .ok (.astore 5, 2) := by decide +kernel
theorem dX9_play_60 : decode cX9_play 60 = .ok (.iconst 0, 1) := by decide +kernel
theorem dX9_play_61 : decode cX9_play 61 = .ok (.istore 6, 2) := by decide +kernel
theorem dX9_play_63 : decode cX9_play 63 = .ok (.iconst 0, 1) := by decide +kernel
theorem dX9_play_64 : decode cX9_play 64 = .ok (.istore 7, 2) := by decide +kernel
theorem dX9_play_66 : decode cX9_play 66 = .ok (.iload 7, 2) := by decide +kernel
theorem dX9_play_68 : decode cX9_play 68 = .ok (.iload_n 3, 1) := by decide +kernel
theorem dX9_play_69 : decode cX9_play 69 = .ok (.if_icmp .ge 23, 3) := by decide +kernel
theorem dX9_play_72 : decode cX9_play 72 = .ok (.aload_n 0, 1) := by decide +kernel
theorem dX9_play_73 : decode cX9_play 73 = .ok (.aload 4, 2) := by decide +kernel
theorem dX9_play_75 : decode cX9_play 75 = .ok (.aload 5, 2) := by decide +kernel
theorem dX9_play_77 : decode cX9_play 77 = .ok (.invokevirtual 214, 3) := by decide +kernel
theorem dX9_play_80 : decode cX9_play 80 = .ok (.ifCond .eq 6, 3) := by decide +kernel
theorem dX9_play_83 : decode cX9_play 83 = .ok (.iinc 6 1, 3) := by decide +kernel
theorem dX9_play_86 : decode cX9_play 86 = .ok (.iinc 7 1, 3) := by decide +kernel
theorem dX9_play_89 : decode cX9_play 89 = .ok (.goto (-23), 3) := by decide +kernel
theorem dX9_play_92 : decode cX9_play 92 = .ok (.aload_n 0, 1) := by decide +kernel
theorem dX9_play_93 : decode cX9_play 93 = .ok (.aload 4, 2) := by decide +kernel
theorem dX9_play_95 : decode cX9_play 95 = .ok (.invokevirtual 122, 3) := by decide +kernel
theorem dX9_play_98 : decode cX9_play 98 = .ok (.pop, 1) := by decide +kernel
theorem dX9_play_99 : decode cX9_play 99 = .ok (.iload 6, 2) := by decide +kernel
theorem dX9_play_101 : decode cX9_play 101 = .ok (.ireturn, 1) := by decide +kernel
theorem dX9_mark_0 : decode cX9_mark 0 = .ok (.aload_n 0, 1) := by decide +kernel
theorem dX9_mark_1 : decode cX9_mark 1 = .ok (.iload_n 1, 1) := by decide +kernel
theorem dX9_mark_2 : decode cX9_mark 2 = .ok (.invokevirtual 94, 3) := by decide +kernel
theorem dX9_mark_5 : decode cX9_mark 5 = .ok (.aload_n 0, 1) := by decide +kernel
theorem dX9_mark_6 : decode cX9_mark 6 = .ok (.getfield 16, 3) := by decide +kernel
theorem dX9_mark_9 : decode cX9_mark 9 = .ok (.iload_n 1, 1) := by decide +kernel
theorem dX9_mark_10 : decode cX9_mark 10 = .ok (.invokevirtual 195, 3) := by decide +kernel
theorem dX9_mark_13 : decode cX9_mark 13 = .ok (.ifnonnull 13, 3) := by decide +kernel
theorem dX9_mark_16 : decode cX9_mark 16 = .ok (.new 140, 3) := by decide +kernel
theorem dX9_mark_19 : decode cX9_mark 19 = .ok (.dup, 1) := by decide +kernel
theorem dX9_mark_20 : decode cX9_mark 20 = .ok (.ldc 218, 2) := by decide +kernel
theorem dX9_mark_22 : decode cX9_mark 22 = .ok (.invokespecial 144, 3) := by decide +kernel
theorem dX9_mark_25 : decode cX9_mark 25 = .ok (.athrow, 1) := by decide +kernel
theorem dX9_mark_26 : decode cX9_mark 26 = .ok (.iload_n 2, 1) := by decide +kernel
theorem dX9_mark_27 : decode cX9_mark 27 = .ok (.ifCond .lt 9, 3) := by decide +kernel
theorem dX9_mark_30 : decode cX9_mark 30 = .ok (.iload_n 2, 1) := by decide +kernel
theorem dX9_mark_31 : decode cX9_mark 31 = .ok (.bipush 32, 2) := by decide +kernel
theorem dX9_mark_33 : decode cX9_mark 33 = .ok (.if_icmp .lt 13, 3) := by decide +kernel
theorem dX9_mark_36 : decode cX9_mark 36 = .ok (.new 147, 3) := by decide +kernel
theorem dX9_mark_39 : decode cX9_mark 39 = .ok (.dup, 1) := by decide +kernel
theorem dX9_mark_40 : decode cX9_mark 40 = .ok (.ldc 220, 2) := by decide +kernel
theorem dX9_mark_42 : decode cX9_mark 42 = .ok (.invokespecial 151, 3) := by decide +kernel
theorem dX9_mark_45 : decode cX9_mark 45 = .ok (.athrow, 1) := by decide +kernel
theorem dX9_mark_46 : decode cX9_mark 46 = .ok (.aload_n 0, 1) := by decide +kernel
theorem dX9_mark_47 : decode cX9_mark 47 = .ok (.getfield 46, 3) := by decide +kernel
theorem dX9_mark_50 : decode cX9_mark 50 = .ok (.iload_n 1, 1) := by decide +kernel
theorem dX9_mark_51 : decode cX9_mark 51 = .ok (.dup2, 1) := by decide +kernel
theorem dX9_mark_52 : decode cX9_mark 52 = .ok (.iaload, 1) := by decide +kernel
theorem dX9_mark_53 : decode cX9_mark 53 = .ok (.iconst 1, 1) := by decide +kernel
theorem dX9_mark_54 : decode cX9_mark 54 = .ok (.iload_n 2, 1) := by decide +kernel
theorem dX9_mark_55 : decode cX9_mark 55 = .ok (.ishl, 1) := by decide +kernel
theorem dX9_mark_56 : decode cX9_mark 56 = .ok (.ior, 1) := by decide +kernel
theorem dX9_mark_57 : decode cX9_mark 57 = .ok (.iastore, 1) := by decide +kernel
theorem dX9_mark_58 : decode cX9_mark 58 = .ok (.aload_n 0, 1) := by decide +kernel
theorem dX9_mark_59 : decode cX9_mark 59 = .ok (.getfield 46, 3) := by decide +kernel
theorem dX9_mark_62 : decode cX9_mark 62 = .ok (.iload_n 1, 1) := by decide +kernel
theorem dX9_mark_63 : decode cX9_mark 63 = .ok (.iaload, 1) := by decide +kernel
theorem dX9_mark_64 : decode cX9_mark 64 = .ok (.invokestatic 222, 3) := by decide +kernel
theorem dX9_mark_67 : decode cX9_mark 67 = .ok (.ireturn, 1) := by decide +kernel
theorem dX9_sessionOf_0 : decode cX9_sessionOf 0 = .ok (.iload_n 1, 1) := by decide +kernel
theorem dX9_sessionOf_1 : decode cX9_sessionOf 1 = .ok (.ifCond .lt 11, 3) := by decide +kernel
theorem dX9_sessionOf_4 : decode cX9_sessionOf 4 = .ok (.iload_n 1, 1) := by decide +kernel
theorem dX9_sessionOf_5 : decode cX9_sessionOf 5 = .ok (.aload_n 0, 1) := by decide +kernel
theorem dX9_sessionOf_6 : decode cX9_sessionOf 6 = .ok (.getfield 80, 3) := by decide +kernel
theorem dX9_sessionOf_9 : decode cX9_sessionOf 9 = .ok (.if_icmp .lt 7, 3) := by decide +kernel
theorem dX9_sessionOf_12 : decode cX9_sessionOf 12 = .ok (.aconst_null, 1) := by decide +kernel
theorem dX9_sessionOf_13 : decode cX9_sessionOf 13 = .ok (.goto 9, 3) := by decide +kernel
theorem dX9_sessionOf_16 : decode cX9_sessionOf 16 = .ok (.aload_n 0, 1) := by decide +kernel
theorem dX9_sessionOf_17 : decode cX9_sessionOf 17 = .ok (.getfield 22, 3) := by decide +kernel
theorem dX9_sessionOf_20 : decode cX9_sessionOf 20 = .ok (.iload_n 1, 1) := by decide +kernel
theorem dX9_sessionOf_21 : decode cX9_sessionOf 21 = .ok (.aaload, 1) := by decide +kernel
theorem dX9_sessionOf_22 : decode cX9_sessionOf 22 = .ok (.astore_n 2, 1) := by decide +kernel
theorem dX9_sessionOf_23 : decode cX9_sessionOf 23 = .ok (.aload_n 2, 1) := by decide +kernel
theorem dX9_sessionOf_24 : decode cX9_sessionOf 24 = .ok (.ifnonnull 13, 3) := by decide +kernel
theorem dX9_sessionOf_27 : decode cX9_sessionOf 27 = .ok (.new 140, 3) := by decide +kernel
theorem dX9_sessionOf_30 : decode cX9_sessionOf 30 = .ok (.dup, 1) := by decide +kernel
theorem dX9_sessionOf_31 : decode cX9_sessionOf 31 = .ok (.ldc 227, 2) := by decide +kernel
theorem dX9_sessionOf_33 : decode cX9_sessionOf 33 = .ok (.invokespecial 144, 3) := by decide +kernel
theorem dX9_sessionOf_36 : decode cX9_sessionOf 36 = .ok (.athrow, 1) := by decide +kernel
theorem dX9_sessionOf_37 : decode cX9_sessionOf 37 = .ok (.aload_n 2, 1) := by decide +kernel
theorem dX9_sessionOf_38 : decode cX9_sessionOf 38 = .ok (.areturn, 1) := by decide +kernel
theorem dX9_versionOf_0 : decode cX9_versionOf 0 = .ok (.iload_n 1, 1) := by decide +kernel
theorem dX9_versionOf_1 : decode cX9_versionOf 1 = .ok (.ifCond .lt 11, 3) := by decide +kernel
theorem dX9_versionOf_4 : decode cX9_versionOf 4 = .ok (.iload_n 1, 1) := by decide +kernel
theorem dX9_versionOf_5 : decode cX9_versionOf 5 = .ok (.aload_n 0, 1) := by decide +kernel
theorem dX9_versionOf_6 : decode cX9_versionOf 6 = .ok (.getfield 50, 3) := by decide +kernel
theorem dX9_versionOf_9 : decode cX9_versionOf 9 = .ok (.if_icmp .lt 7, 3) := by decide +kernel
theorem dX9_versionOf_12 : decode cX9_versionOf 12 = .ok (.aconst_null, 1) := by decide +kernel
theorem dX9_versionOf_13 : decode cX9_versionOf 13 = .ok (.goto 9, 3) := by decide +kernel
theorem dX9_versionOf_16 : decode cX9_versionOf 16 = .ok (.aload_n 0, 1) := by decide +kernel
theorem dX9_versionOf_17 : decode cX9_versionOf 17 = .ok (.getfield 11, 3) := by decide +kernel
theorem dX9_versionOf_20 : decode cX9_versionOf 20 = .ok (.iload_n 1, 1) := by decide +kernel
theorem dX9_versionOf_21 : decode cX9_versionOf 21 = .ok (.aaload, 1) := by decide +kernel
theorem dX9_versionOf_22 : decode cX9_versionOf 22 = .ok (.astore_n 2, 1) := by decide +kernel
theorem dX9_versionOf_23 : decode cX9_versionOf 23 = .ok (.aload_n 2, 1) := by decide +kernel
theorem dX9_versionOf_24 : decode cX9_versionOf 24 = .ok (.ifnonnull 13, 3) := by decide +kernel
theorem dX9_versionOf_27 : decode cX9_versionOf 27 = .ok (.new 140, 3) := by decide +kernel
theorem dX9_versionOf_30 : decode cX9_versionOf 30 = .ok (.dup, 1) := by decide +kernel
theorem dX9_versionOf_31 : decode cX9_versionOf 31 = .ok (.ldc 229, 2) := by decide +kernel
theorem dX9_versionOf_33 : decode cX9_versionOf 33 = .ok (.invokespecial 144, 3) := by decide +kernel
theorem dX9_versionOf_36 : decode cX9_versionOf 36 = .ok (.athrow, 1) := by decide +kernel
theorem dX9_versionOf_37 : decode cX9_versionOf 37 = .ok (.aload_n 2, 1) := by decide +kernel
theorem dX9_versionOf_38 : decode cX9_versionOf 38 = .ok (.areturn, 1) := by decide +kernel
theorem dX9_sessionOfConflict_0 : decode cX9_sessionOfConflict 0 = .ok (.aload_n 0, 1) := by decide +kernel
theorem dX9_sessionOfConflict_1 : decode cX9_sessionOfConflict 1 = .ok (.getfield 42, 3) := by decide +kernel
theorem dX9_sessionOfConflict_4 : decode cX9_sessionOfConflict 4 = .ok (.iload_n 1, 1) := by decide +kernel
theorem dX9_sessionOfConflict_5 : decode cX9_sessionOfConflict 5 = .ok (.invokevirtual 231, 3) := by decide +kernel
theorem dX9_sessionOfConflict_8 : decode cX9_sessionOfConflict 8 = .ok (.ifCond .eq 13, 3) := by decide +kernel
theorem dX9_sessionOfConflict_11 : decode cX9_sessionOfConflict 11 = .ok (.aload_n 0, 1) := by decide +kernel
theorem dX9_sessionOfConflict_12 : decode cX9_sessionOfConflict 12 = .ok (.getfield 42, 3) := by decide +kernel
theorem dX9_sessionOfConflict_15 : decode cX9_sessionOfConflict 15 = .ok (.getfield 235, 3) := by decide +kernel
theorem dX9_sessionOfConflict_18 : decode cX9_sessionOfConflict 18 = .ok (.goto 4, 3) := by decide +kernel
theorem dX9_sessionOfConflict_21 : decode cX9_sessionOfConflict 21 = .ok (.aconst_null, 1) := by decide +kernel
theorem dX9_sessionOfConflict_22 : decode cX9_sessionOfConflict 22 = .ok (.astore_n 2, 1) := by decide +kernel
theorem dX9_sessionOfConflict_23 : decode cX9_sessionOfConflict 23 = .ok (.aload_n 2, 1) := by decide +kernel
theorem dX9_sessionOfConflict_24 : decode cX9_sessionOfConflict 24 = .ok (.ifnonnull 13, 3) := by decide +kernel
theorem dX9_sessionOfConflict_27 : decode cX9_sessionOfConflict 27 = .ok (.new 140, 3) := by decide +kernel
theorem dX9_sessionOfConflict_30 : decode cX9_sessionOfConflict 30 = .ok (.dup, 1) := by decide +kernel
theorem dX9_sessionOfConflict_31 : decode cX9_sessionOfConflict 31 = .ok (.ldc 239, 2) := by decide +kernel
theorem dX9_sessionOfConflict_33 : decode cX9_sessionOfConflict 33 = .ok (.invokespecial 144, 3) := by decide +kernel
theorem dX9_sessionOfConflict_36 : decode cX9_sessionOfConflict 36 = .ok (.athrow, 1) := by decide +kernel
theorem dX9_sessionOfConflict_37 : decode cX9_sessionOfConflict 37 = .ok (.aload_n 2, 1) := by decide +kernel
theorem dX9_sessionOfConflict_38 : decode cX9_sessionOfConflict 38 = .ok (.areturn, 1) := by decide +kernel
theorem dX9_rowOf_0 : decode cX9_rowOf 0 = .ok (.aload_n 0, 1) := by decide +kernel
theorem dX9_rowOf_1 : decode cX9_rowOf 1 = .ok (.iload_n 1, 1) := by decide +kernel
theorem dX9_rowOf_2 : decode cX9_rowOf 2 = .ok (.invokevirtual 195, 3) := by decide +kernel
theorem dX9_rowOf_5 : decode cX9_rowOf 5 = .ok (.astore_n 2, 1) := by decide +kernel
theorem dX9_rowOf_6 : decode cX9_rowOf 6 = .ok (.aload_n 2, 1) := by decide +kernel
theorem dX9_rowOf_7 : decode cX9_rowOf 7 = .ok (.ifnonnull 13, 3) := by decide +kernel
theorem dX9_rowOf_10 : decode cX9_rowOf 10 = .ok (.new 241, 3) := by decide +kernel
theorem dX9_rowOf_13 : decode cX9_rowOf 13 = .ok (.dup, 1) := by decide +kernel
theorem dX9_rowOf_14 : decode cX9_rowOf 14 = .ok (.ldc 243, 2) := by decide +kernel
theorem dX9_rowOf_16 : decode cX9_rowOf 16 = .ok (.invokespecial 245, 3) := by decide +kernel
theorem dX9_rowOf_19 : decode cX9_rowOf 19 = .ok (.athrow, 1) := by decide +kernel
theorem dX9_rowOf_20 : decode cX9_rowOf 20 = .ok (.aload_n 2, 1) := by decide +kernel
theorem dX9_rowOf_21 : decode cX9_rowOf 21 = .ok (.areturn, 1) := by decide +kernel
theorem dX9_checkObject_0 : decode cX9_checkObject 0 = .ok (.iload_n 1, 1) := by decide +kernel
theorem dX9_checkObject_1 : decode cX9_checkObject 1 = .ok (.ifCond .lt 11, 3) := by decide +kernel
theorem dX9_checkObject_4 : decode cX9_checkObject 4 = .ok (.iload_n 1, 1) := by decide +kernel
theorem dX9_checkObject_5 : decode cX9_checkObject 5 = .ok (.aload_n 0, 1) := by decide +kernel
theorem dX9_checkObject_6 : decode cX9_checkObject 6 = .ok (.getfield 58, 3) := by decide +kernel
theorem dX9_checkObject_9 : decode cX9_checkObject 9 = .ok (.if_icmp .lt 13, 3) := by decide +kernel
theorem dX9_checkObject_12 : decode cX9_checkObject 12 = .ok (.new 140, 3) := by decide +kernel
theorem dX9_checkObject_15 : decode cX9_checkObject 15 = .ok (.dup, 1) := by decide +kernel
theorem dX9_checkObject_16 : decode cX9_checkObject 16 = .ok (.ldc 246, 2) := by decide +kernel
theorem dX9_checkObject_18 : decode cX9_checkObject 18 = .ok (.invokespecial 144, 3) := by decide +kernel
theorem dX9_checkObject_21 : decode cX9_checkObject 21 = .ok (.athrow, 1) := by decide +kernel
theorem dX9_checkObject_22 : decode cX9_checkObject 22 = .ok (.return_, 1) := by decide +kernel
theorem dX9_checkField_0 : decode cX9_checkField 0 = .ok (.iload_n 0, 1) := by decide +kernel
theorem dX9_checkField_1 : decode cX9_checkField 1 = .ok (.ifCond .lt 9, 3) := by decide +kernel
theorem dX9_checkField_4 : decode cX9_checkField 4 = .ok (.iload_n 0, 1) := by decide +kernel
theorem dX9_checkField_5 : decode cX9_checkField 5 = .ok (.bipush 6, 2) := by decide +kernel
theorem dX9_checkField_7 : decode cX9_checkField 7 = .ok (.if_icmp .lt 13, 3) := by decide +kernel
theorem dX9_checkField_10 : decode cX9_checkField 10 = .ok (.new 140, 3) := by decide +kernel
theorem dX9_checkField_13 : decode cX9_checkField 13 = .ok (.dup, 1) := by decide +kernel
theorem dX9_checkField_14 : decode cX9_checkField 14 = .ok (.ldc 248, 2) := by decide +kernel
theorem dX9_checkField_16 : decode cX9_checkField 16 = .ok (.invokespecial 144, 3) := by decide +kernel
theorem dX9_checkField_19 : decode cX9_checkField 19 = .ok (.athrow, 1) := by decide +kernel
theorem dX9_checkField_20 : decode cX9_checkField 20 = .ok (.return_, 1) := by decide +kernel
theorem dX9_checkOpen_0 : decode cX9_checkOpen 0 = .ok (.aload_n 0, 1) := by decide +kernel
theorem dX9_checkOpen_1 : decode cX9_checkOpen 1 = .ok (.getfield 250, 3) := by decide +kernel
theorem dX9_checkOpen_4 : decode cX9_checkOpen 4 = .ok (.ifCond .ne 13, 3) := by decide +kernel
theorem dX9_checkOpen_7 : decode cX9_checkOpen 7 = .ok (.new 241, 3) := by decide +kernel
theorem dX9_checkOpen_10 : decode cX9_checkOpen 10 = .ok (.dup, 1) := by decide +kernel
theorem dX9_checkOpen_11 : decode cX9_checkOpen 11 = .ok (.ldc 254, 2) := by decide +kernel
theorem dX9_checkOpen_13 : decode cX9_checkOpen 13 = .ok (.invokespecial 245, 3) := by decide +kernel
theorem dX9_checkOpen_16 : decode cX9_checkOpen 16 = .ok (.athrow, 1) := by decide +kernel
theorem dX9_checkOpen_17 : decode cX9_checkOpen 17 = .ok (.return_, 1) := by decide +kernel
theorem dX9_checkKind_0 : decode cX9_checkKind 0 = .ok (.iload_n 0, 1) := by decide +kernel
theorem dX9_checkKind_1 : decode cX9_checkKind 1 = .ok (.ifCond .lt 9, 3) := by decide +kernel
theorem dX9_checkKind_4 : decode cX9_checkKind 4 = .ok (.iload_n 0, 1) := by decide +kernel
theorem dX9_checkKind_5 : decode cX9_checkKind 5 = .ok (.bipush 10, 2) := by decide +kernel
theorem dX9_checkKind_7 : decode cX9_checkKind 7 = .ok (.if_icmp .lt 14, 3) := by decide +kernel
theorem dX9_checkKind_10 : decode cX9_checkKind 10 = .ok (.new 147, 3) := by decide +kernel
theorem dX9_checkKind_13 : decode cX9_checkKind 13 = .ok (.dup, 1) := by decide +kernel
theorem dX9_checkKind_14 : decode cX9_checkKind 14 = .ok (.ldc_w 256, 3) := by decide +kernel
theorem dX9_checkKind_17 : decode cX9_checkKind 17 = .ok (.invokespecial 151, 3) := by decide +kernel
theorem dX9_checkKind_20 : decode cX9_checkKind 20 = .ok (.athrow, 1) := by decide +kernel
theorem dX9_checkKind_21 : decode cX9_checkKind 21 = .ok (.return_, 1) := by decide +kernel
theorem dX9_newNumber_0 : decode cX9_newNumber 0 = .ok (.aload_n 0, 1) := by decide +kernel
theorem dX9_newNumber_1 : decode cX9_newNumber 1 = .ok (.getfield 58, 3) := by decide +kernel
theorem dX9_newNumber_4 : decode cX9_newNumber 4 = .ok (.istore_n 1, 1) := by decide +kernel
theorem dX9_newNumber_5 : decode cX9_newNumber 5 = .ok (.aload_n 0, 1) := by decide +kernel
theorem dX9_newNumber_6 : decode cX9_newNumber 6 = .ok (.dup, 1) := by decide +kernel
theorem dX9_newNumber_7 : decode cX9_newNumber 7 = .ok (.getfield 58, 3) := by decide +kernel
theorem dX9_newNumber_10 : decode cX9_newNumber 10 = .ok (.iconst 1, 1) := by decide +kernel
theorem dX9_newNumber_11 : decode cX9_newNumber 11 = .ok (.iadd, 1) := by decide +kernel
theorem dX9_newNumber_12 : decode cX9_newNumber 12 = .ok (.putfield 58, 3) := by decide +kernel
theorem dX9_newNumber_15 : decode cX9_newNumber 15 = .ok (.iload_n 1, 1) := by decide +kernel
theorem dX9_newNumber_16 : decode cX9_newNumber 16 = .ok (.ireturn, 1) := by decide +kernel
theorem dX9_begin_0 : decode cX9_begin 0 = .ok (.new 20, 3) := by decide +kernel
theorem dX9_begin_3 : decode cX9_begin 3 = .ok (.dup, 1) := by decide +kernel
theorem dX9_begin_4 : decode cX9_begin 4 = .ok (.aload_n 0, 1) := by decide +kernel
theorem dX9_begin_5 : decode cX9_begin 5 = .ok (.getfield 80, 3) := by decide +kernel
theorem dX9_begin_8 : decode cX9_begin 8 = .ok (.aload_n 1, 1) := by decide +kernel
theorem dX9_begin_9 : decode cX9_begin 9 = .ok (.invokespecial 258, 3) := by decide +kernel
theorem dX9_begin_12 : decode cX9_begin 12 = .ok (.astore_n 2, 1) := by decide +kernel
theorem dX9_begin_13 : decode cX9_begin 13 = .ok (.aload_n 0, 1) := by decide +kernel
theorem dX9_begin_14 : decode cX9_begin 14 = .ok (.getfield 80, 3) := by decide +kernel
theorem dX9_begin_17 : decode cX9_begin 17 = .ok (.bipush 20, 2) := by decide +kernel
theorem dX9_begin_19 : decode cX9_begin 19 = .ok (.if_icmp .ge 23, 3) := by decide +kernel
theorem dX9_begin_22 : decode cX9_begin 22 = .ok (.aload_n 0, 1) := by decide +kernel
theorem dX9_begin_23 : decode cX9_begin 23 = .ok (.getfield 22, 3) := by decide +kernel
theorem dX9_begin_26 : decode cX9_begin 26 = .ok (.aload_n 0, 1) := by decide +kernel
theorem dX9_begin_27 : decode cX9_begin 27 = .ok (.getfield 80, 3) := by decide +kernel
theorem dX9_begin_30 : decode cX9_begin 30 = .ok (.aload_n 2, 1) := by decide +kernel
theorem dX9_begin_31 : decode cX9_begin 31 = .ok (.aastore, 1) := by decide +kernel
theorem dX9_begin_32 : decode cX9_begin 32 = .ok (.aload_n 0, 1) := by decide +kernel
theorem dX9_begin_33 : decode cX9_begin 33 = .ok (.dup, 1) := by decide +kernel
theorem dX9_begin_34 : decode cX9_begin 34 = .ok (.getfield 80, 3) := by decide +kernel
theorem dX9_begin_37 : decode cX9_begin 37 = .ok (.iconst 1, 1) := by decide +kernel
theorem dX9_begin_38 : decode cX9_begin 38 = .ok (.iadd, 1) := by decide +kernel
theorem dX9_begin_39 : decode cX9_begin 39 = .ok (.putfield 80, 3) := by decide +kernel
theorem dX9_begin_42 : decode cX9_begin 42 = .ok (.aload_n 2, 1) := by decide +kernel
theorem dX9_begin_43 : decode cX9_begin 43 = .ok (.areturn, 1) := by decide +kernel
theorem dX9_addVersion_0 : decode cX9_addVersion 0 = .ok (.aload_n 0, 1) := by decide +kernel
theorem dX9_addVersion_1 : decode cX9_addVersion 1 = .ok (.getfield 50, 3) := by decide +kernel
theorem dX9_addVersion_4 : decode cX9_addVersion 4 = .ok (.bipush 40, 2) := by decide +kernel
theorem dX9_addVersion_6 : decode cX9_addVersion 6 = .ok (.if_icmp .ge 28, 3) := by decide +kernel
theorem dX9_addVersion_9 : decode cX9_addVersion 9 = .ok (.aload_n 0, 1) := by decide +kernel
theorem dX9_addVersion_10 : decode cX9_addVersion 10 = .ok (.getfield 11, 3) := by decide +kernel
theorem dX9_addVersion_13 : decode cX9_addVersion 13 = .ok (.aload_n 0, 1) := by decide +kernel
theorem dX9_addVersion_14 : decode cX9_addVersion 14 = .ok (.getfield 50, 3) := by decide +kernel
theorem dX9_addVersion_17 : decode cX9_addVersion 17 = .ok (.aload_n 1, 1) := by decide +kernel
theorem dX9_addVersion_18 : decode cX9_addVersion 18 = .ok (.aastore, 1) := by decide +kernel
theorem dX9_addVersion_19 : decode cX9_addVersion 19 = .ok (.aload_n 0, 1) := by decide +kernel
theorem dX9_addVersion_20 : decode cX9_addVersion 20 = .ok (.dup, 1) := by decide +kernel
theorem dX9_addVersion_21 : decode cX9_addVersion 21 = .ok (.getfield 50, 3) := by decide +kernel
theorem dX9_addVersion_24 : decode cX9_addVersion 24 = .ok (.iconst 1, 1) := by decide +kernel
theorem dX9_addVersion_25 : decode cX9_addVersion 25 = .ok (.iadd, 1) := by decide +kernel
theorem dX9_addVersion_26 : decode cX9_addVersion 26 = .ok (.putfield 50, 3) := by decide +kernel
theorem dX9_addVersion_29 : decode cX9_addVersion 29 = .ok (.aload_n 0, 1) := by decide +kernel
theorem dX9_addVersion_30 : decode cX9_addVersion 30 = .ok (.aload_n 1, 1) := by decide +kernel
theorem dX9_addVersion_31 : decode cX9_addVersion 31 = .ok (.putfield 16, 3) := by decide +kernel
theorem dX9_addVersion_34 : decode cX9_addVersion 34 = .ok (.return_, 1) := by decide +kernel
theorem dX9_write_0 : decode cX9_write 0 = .ok (.aload 6, 2) := by decide +kernel
theorem dX9_write_2 : decode cX9_write 2 = .ok (.iload_n 3, 1) := by decide +kernel
theorem dX9_write_3 : decode cX9_write 3 = .ok (.invokevirtual 156, 3) := by decide +kernel
theorem dX9_write_6 : decode cX9_write 6 = .ok (.lload 4, 2) := by decide +kernel
theorem dX9_write_8 : decode cX9_write 8 = .ok (.lcmp, 1) := by decide +kernel
theorem dX9_write_9 : decode cX9_write 9 = .ok (.ifCond .eq 19, 3) := by decide +kernel
theorem dX9_write_12 : decode cX9_write 12 = .ok (.aload_n 0, 1) := by decide +kernel
theorem dX9_write_13 : decode cX9_write 13 = .ok (.getfield 29, 3) := by decide +kernel
theorem dX9_write_16 : decode cX9_write 16 = .ok (.aload_n 1, 1) := by decide +kernel
theorem dX9_write_17 : decode cX9_write 17 = .ok (.getfield 87, 3) := by decide +kernel
theorem dX9_write_20 : decode cX9_write 20 = .ok (.aload 6, 2) := by decide +kernel
theorem dX9_write_22 : decode cX9_write 22 = .ok (.invokevirtual 115, 3) := by decide +kernel
theorem dX9_write_25 : decode cX9_write 25 = .ok (.ifCond .eq 5, 3) := by decide +kernel
theorem dX9_write_28 : decode cX9_write 28 = .ok (.iconst 0, 1) := by decide +kernel
theorem dX9_write_29 : decode cX9_write 29 = .ok (.ireturn, 1) := by decide +kernel
theorem dX9_write_30 : decode cX9_write 30 = .ok (.aload_n 1, 1) := by decide +kernel
theorem dX9_write_31 : decode cX9_write 31 = .ok (.iload_n 2, 1) := by decide +kernel
theorem dX9_write_32 : decode cX9_write 32 = .ok (.aload 6, 2) := by decide +kernel
theorem dX9_write_34 : decode cX9_write 34 = .ok (.iload_n 3, 1) := by decide +kernel
theorem dX9_write_35 : decode cX9_write 35 = .ok (.lload 4, 2) := by decide +kernel
theorem dX9_write_37 : decode cX9_write 37 = .ok (.invokevirtual 261, 3) := by decide +kernel
theorem dX9_write_40 : decode cX9_write 40 = .ok (.invokevirtual 119, 3) := by decide +kernel
theorem dX9_write_43 : decode cX9_write 43 = .ok (.iconst 1, 1) := by decide +kernel
theorem dX9_write_44 : decode cX9_write 44 = .ok (.ireturn, 1) := by decide +kernel
theorem dX9_playTurn_0 : decode cX9_playTurn 0 = .ok (.aload_n 0, 1) := by decide +kernel
theorem dX9_playTurn_1 : decode cX9_playTurn 1 = .ok (.getfield 58, 3) := by decide +kernel
theorem dX9_playTurn_4 : decode cX9_playTurn 4 = .ok (.ifCond .ne 5, 3) := by decide +kernel
theorem dX9_playTurn_7 : decode cX9_playTurn 7 = .ok (.iconst 0, 1) := by decide +kernel
theorem dX9_playTurn_8 : decode cX9_playTurn 8 = .ok (.ireturn, 1) := by decide +kernel
theorem dX9_playTurn_9 : decode cX9_playTurn 9 = .ok (.aload_n 2, 1) := by decide +kernel
theorem dX9_playTurn_10 : decode cX9_playTurn 10 = .ok (.aload_n 0, 1) := by decide +kernel
theorem dX9_playTurn_11 : decode cX9_playTurn 11 = .ok (.getfield 58, 3) := by decide +kernel
theorem dX9_playTurn_14 : decode cX9_playTurn 14 = .ok (.invokevirtual 265, 3) := by decide +kernel
theorem dX9_playTurn_17 : decode cX9_playTurn 17 = .ok (.istore_n 3, 1) := by decide +kernel
theorem dX9_playTurn_18 : decode cX9_playTurn 18 = .ok (.aload_n 1, 1) := by decide +kernel
theorem dX9_playTurn_19 : decode cX9_playTurn 19 = .ok (.getfield 104, 3) := by decide +kernel
theorem dX9_playTurn_22 : decode cX9_playTurn 22 = .ok (.iload_n 3, 1) := by decide +kernel
theorem dX9_playTurn_23 : decode cX9_playTurn 23 = .ok (.invokevirtual 195, 3) := by decide +kernel
theorem dX9_playTurn_26 : decode cX9_playTurn 26 = .ok (.astore 4, 2) := by decide +kernel
theorem dX9_playTurn_28 : decode cX9_playTurn 28 = .ok (.aload 4, 2) := by decide +kernel
theorem dX9_playTurn_30 : decode cX9_playTurn 30 = .ok (.ifnonnull 5, 3) := by decide +kernel
theorem dX9_playTurn_33 : decode cX9_playTurn 33 = .ok (.iconst 0, 1) := by decide +kernel
theorem dX9_playTurn_34 : decode cX9_playTurn 34 = .ok (.ireturn, 1) := by decide +kernel
theorem dX9_playTurn_35 : decode cX9_playTurn 35 = .ok (.aload_n 2, 1) := by decide +kernel
theorem dX9_playTurn_36 : decode cX9_playTurn 36 = .ok (.bipush 6, 2) := by decide +kernel
theorem dX9_playTurn_38 : decode cX9_playTurn 38 = .ok (.invokevirtual 265, 3) := by decide +kernel
theorem dX9_playTurn_41 : decode cX9_playTurn 41 = .ok (.istore 5, 2) := by decide +kernel
theorem dX9_playTurn_43 : decode cX9_playTurn 43 = .ok (.aload_n 2, 1) := by decide +kernel
theorem dX9_playTurn_44 : decode cX9_playTurn 44 = .ok (.bipush 100, 2) := by decide +kernel
theorem dX9_playTurn_46 : decode cX9_playTurn 46 = .ok (.invokevirtual 265, 3) := by decide +kernel
theorem dX9_playTurn_49 : decode cX9_playTurn 49 = .ok (.i2l, 1) := by decide +kernel
theorem dX9_playTurn_50 : decode cX9_playTurn 50 = .ok (.lstore 6, 2) := by decide +kernel
theorem dX9_playTurn_52 : decode cX9_playTurn 52 = .ok (.aload_n 0, 1) := by decide +kernel
theorem dX9_playTurn_53 : decode cX9_playTurn 53 = .ok (.aload_n 1, 1) := by decide +kernel
theorem dX9_playTurn_54 : decode cX9_playTurn 54 = .ok (.iload_n 3, 1) := by decide +kernel
theorem dX9_playTurn_55 : decode cX9_playTurn 55 = .ok (.iload 5, 2) := by decide +kernel
theorem dX9_playTurn_57 : decode cX9_playTurn 57 = .ok (.lload 6, 2) := by decide +kernel
theorem dX9_playTurn_59 : decode cX9_playTurn 59 = .ok (.aload 4, 2) := by decide +kernel
theorem dX9_playTurn_61 : decode cX9_playTurn 61 = .ok (.invokevirtual 111, 3) := by decide +kernel
theorem dX9_playTurn_64 : decode cX9_playTurn 64 = .ok (.ireturn, 1) := by decide +kernel
theorem dX9_tryJoin_0 : decode cX9_tryJoin 0 = .ok (.aload_n 0, 1) := by decide +kernel
theorem dX9_tryJoin_1 : decode cX9_tryJoin 1 = .ok (.getfield 42, 3) := by decide +kernel
theorem dX9_tryJoin_4 : decode cX9_tryJoin 4 = .ok (.aload_n 1, 1) := by decide +kernel
theorem dX9_tryJoin_5 : decode cX9_tryJoin 5 = .ok (.aload_n 0, 1) := by decide +kernel
theorem dX9_tryJoin_6 : decode cX9_tryJoin 6 = .ok (.getfield 16, 3) := by decide +kernel
theorem dX9_tryJoin_9 : decode cX9_tryJoin 9 = .ok (.invokevirtual 268, 3) := by decide +kernel
theorem dX9_tryJoin_12 : decode cX9_tryJoin 12 = .ok (.aload_n 0, 1) := by decide +kernel
theorem dX9_tryJoin_13 : decode cX9_tryJoin 13 = .ok (.getfield 42, 3) := by decide +kernel
theorem dX9_tryJoin_16 : decode cX9_tryJoin 16 = .ok (.invokevirtual 272, 3) := by decide +kernel
theorem dX9_tryJoin_19 : decode cX9_tryJoin 19 = .ok (.istore_n 2, 1) := by decide +kernel
theorem dX9_tryJoin_20 : decode cX9_tryJoin 20 = .ok (.iload_n 2, 1) := by decide +kernel
theorem dX9_tryJoin_21 : decode cX9_tryJoin 21 = .ok (.ifCond .ne 8, 3) := by decide +kernel
theorem dX9_tryJoin_24 : decode cX9_tryJoin 24 = .ok (.aload_n 0, 1) := by decide +kernel
theorem dX9_tryJoin_25 : decode cX9_tryJoin 25 = .ok (.aload_n 1, 1) := by decide +kernel
theorem dX9_tryJoin_26 : decode cX9_tryJoin 26 = .ok (.invokevirtual 275, 3) := by decide +kernel
theorem dX9_tryJoin_29 : decode cX9_tryJoin 29 = .ok (.iload_n 2, 1) := by decide +kernel
theorem dX9_tryJoin_30 : decode cX9_tryJoin 30 = .ok (.ireturn, 1) := by decide +kernel
theorem dX9_takeIn_0 : decode cX9_takeIn 0 = .ok (.new 9, 3) := by decide +kernel
theorem dX9_takeIn_3 : decode cX9_takeIn 3 = .ok (.dup, 1) := by decide +kernel
theorem dX9_takeIn_4 : decode cX9_takeIn 4 = .ok (.invokespecial 15, 3) := by decide +kernel
theorem dX9_takeIn_7 : decode cX9_takeIn 7 = .ok (.astore_n 2, 1) := by decide +kernel
theorem dX9_takeIn_8 : decode cX9_takeIn 8 = .ok (.iconst 0, 1) := by decide +kernel
theorem dX9_takeIn_9 : decode cX9_takeIn 9 = .ok (.istore_n 3, 1) := by decide +kernel
theorem dX9_takeIn_10 : decode cX9_takeIn 10 = .ok (.iload_n 3, 1) := by decide +kernel
theorem dX9_takeIn_11 : decode cX9_takeIn 11 = .ok (.bipush 60, 2) := by decide +kernel
theorem dX9_takeIn_13 : decode cX9_takeIn 13 = .ok (.if_icmp .ge 50, 3) := by decide +kernel
theorem dX9_takeIn_16 : decode cX9_takeIn 16 = .ok (.aload_n 1, 1) := by decide +kernel
theorem dX9_takeIn_17 : decode cX9_takeIn 17 = .ok (.iload_n 3, 1) := by decide +kernel
theorem dX9_takeIn_18 : decode cX9_takeIn 18 = .ok (.aload_n 0, 1) := by decide +kernel
theorem dX9_takeIn_19 : decode cX9_takeIn 19 = .ok (.getfield 16, 3) := by decide +kernel
theorem dX9_takeIn_22 : decode cX9_takeIn 22 = .ok (.invokevirtual 278, 3) := by decide +kernel
theorem dX9_takeIn_25 : decode cX9_takeIn 25 = .ok (.astore 4, 2) := by decide +kernel
theorem dX9_takeIn_27 : decode cX9_takeIn 27 = .ok (.aload_n 2, 1) := by decide +kernel
theorem dX9_takeIn_28 : decode cX9_takeIn 28 = .ok (.iload_n 3, 1) := by decide +kernel
theorem dX9_takeIn_29 : decode cX9_takeIn 29 = .ok (.aload 4, 2) := by decide +kernel
theorem dX9_takeIn_31 : decode cX9_takeIn 31 = .ok (.invokevirtual 72, 3) := by decide +kernel
theorem dX9_takeIn_34 : decode cX9_takeIn 34 = .ok (.aload 4, 2) := by decide +kernel
theorem dX9_takeIn_36 : decode cX9_takeIn 36 = .ok (.aload_n 0, 1) := by decide +kernel
theorem dX9_takeIn_37 : decode cX9_takeIn 37 = .ok (.getfield 16, 3) := by decide +kernel
theorem dX9_takeIn_40 : decode cX9_takeIn 40 = .ok (.iload_n 3, 1) := by decide +kernel
theorem dX9_takeIn_41 : decode cX9_takeIn 41 = .ok (.invokevirtual 195, 3) := by decide +kernel
theorem dX9_takeIn_44 : decode cX9_takeIn 44 = .ok (.invokestatic 282, 3) := by decide +kernel
theorem dX9_takeIn_47 : decode cX9_takeIn 47 = .ok (.ifCond .ne 10, 3) := by decide +kernel
theorem dX9_takeIn_50 : decode cX9_takeIn 50 = .ok (.aload_n 0, 1) := by decide +kernel
theorem dX9_takeIn_51 : decode cX9_takeIn 51 = .ok (.getfield 46, 3) := by decide +kernel
theorem dX9_takeIn_54 : decode cX9_takeIn 54 = .ok (.iload_n 3, 1) := by decide +kernel
theorem dX9_takeIn_55 : decode cX9_takeIn 55 = .ok (.iconst 0, 1) := by decide +kernel
theorem dX9_takeIn_56 : decode cX9_takeIn 56 = .ok (.iastore, 1) := by decide +kernel
theorem dX9_takeIn_57 : decode cX9_takeIn 57 = .ok (.iinc 3 1, 3) := by decide +kernel
theorem dX9_takeIn_60 : decode cX9_takeIn 60 = .ok (.goto (-50), 3) := by decide +kernel
theorem dX9_takeIn_63 : decode cX9_takeIn 63 = .ok (.aload_n 0, 1) := by decide +kernel
theorem dX9_takeIn_64 : decode cX9_takeIn 64 = .ok (.aload_n 2, 1) := by decide +kernel
theorem dX9_takeIn_65 : decode cX9_takeIn 65 = .ok (.invokevirtual 76, 3) := by decide +kernel
theorem dX9_takeIn_68 : decode cX9_takeIn 68 = .ok (.aload_n 1, 1) := by decide +kernel
theorem dX9_takeIn_69 : decode cX9_takeIn 69 = .ok (.iconst 0, 1) := by decide +kernel
theorem dX9_takeIn_70 : decode cX9_takeIn 70 = .ok (.putfield 250, 3) := by decide +kernel
theorem dX9_takeIn_73 : decode cX9_takeIn 73 = .ok (.aload_n 0, 1) := by decide +kernel
theorem dX9_takeIn_74 : decode cX9_takeIn 74 = .ok (.getfield 29, 3) := by decide +kernel
theorem dX9_takeIn_77 : decode cX9_takeIn 77 = .ok (.aload_n 1, 1) := by decide +kernel
theorem dX9_takeIn_78 : decode cX9_takeIn 78 = .ok (.getfield 87, 3) := by decide +kernel
theorem dX9_takeIn_81 : decode cX9_takeIn 81 = .ok (.invokevirtual 286, 3) := by decide +kernel
theorem dX9_takeIn_84 : decode cX9_takeIn 84 = .ok (.return_, 1) := by decide +kernel
end
section
theorem dX10_init_0 : decode cX10_init 0 = .ok (.aload_n 0, 1) := by decide +kernel
theorem dX10_init_1 : decode cX10_init 1 = .ok (.invokespecial 1, 3) := by decide +kernel
theorem dX10_init_4 : decode cX10_init 4 = .ok (.aload_n 0, 1) := by decide +kernel
theorem dX10_init_5 : decode cX10_init 5 = .ok (.bipush 60, 2) := by decide +kernel
theorem dX10_init_7 : decode cX10_init 7 = .ok (.newarray .int, 2) := by decide +kernel
theorem dX10_init_9 : decode cX10_init 9 = .ok (.putfield 7, 3) := by decide +kernel
theorem dX10_init_12 : decode cX10_init 12 = .ok (.aload_n 0, 1) := by decide +kernel
theorem dX10_init_13 : decode cX10_init 13 = .ok (.iconst 1, 1) := by decide +kernel
theorem dX10_init_14 : decode cX10_init 14 = .ok (.putfield 13, 3) := by decide +kernel
theorem dX10_init_17 : decode cX10_init 17 = .ok (.aload_n 0, 1) := by decide +kernel
theorem dX10_init_18 : decode cX10_init 18 = .ok (.sipush 2400, 3) := by decide +kernel
theorem dX10_init_21 : decode cX10_init 21 = .ok (.newarray .boolean, 2) := by decide +kernel
theorem dX10_init_23 : decode cX10_init 23 = .ok (.putfield 17, 3) := by decide +kernel
theorem dX10_init_26 : decode cX10_init 26 = .ok (.aload_n 0, 1) := by decide +kernel
theorem dX10_init_27 : decode cX10_init 27 = .ok (.sipush 14400, 3) := by decide +kernel
theorem dX10_init_30 : decode cX10_init 30 = .ok (.newarray .long, 2) := by decide +kernel
theorem dX10_init_32 : decode cX10_init 32 = .ok (.putfield 21, 3) := by decide +kernel
theorem dX10_init_35 : decode cX10_init 35 = .ok (.aload_n 0, 1) := by decide +kernel
theorem dX10_init_36 : decode cX10_init 36 = .ok (.bipush 20, 2) := by decide +kernel
theorem dX10_init_38 : decode cX10_init 38 = .ok (.newarray .int, 2) := by decide +kernel
theorem dX10_init_40 : decode cX10_init 40 = .ok (.putfield 25, 3) := by decide +kernel
theorem dX10_init_43 : decode cX10_init 43 = .ok (.aload_n 0, 1) := by decide +kernel
theorem dX10_init_44 : decode cX10_init 44 = .ok (.bipush 20, 2) := by decide +kernel
theorem dX10_init_46 : decode cX10_init 46 = .ok (.newarray .boolean, 2) := by decide +kernel
theorem dX10_init_48 : decode cX10_init 48 = .ok (.putfield 28, 3) := by decide +kernel
theorem dX10_init_51 : decode cX10_init 51 = .ok (.aload_n 0, 1) := by decide +kernel
theorem dX10_init_52 : decode cX10_init 52 = .ok (.sipush 1200, 3) := by decide +kernel
theorem dX10_init_55 : decode cX10_init 55 = .ok (.newarray .boolean, 2) := by decide +kernel
theorem dX10_init_57 : decode cX10_init 57 = .ok (.putfield 31, 3) := by decide +kernel
theorem dX10_init_60 : decode cX10_init 60 = .ok (.aload_n 0, 1) := by decide +kernel
theorem dX10_init_61 : decode cX10_init 61 = .ok (.sipush 7200, 3) := by decide +kernel
theorem dX10_init_64 : decode cX10_init 64 = .ok (.newarray .long, 2) := by decide +kernel
theorem dX10_init_66 : decode cX10_init 66 = .ok (.putfield 34, 3) := by decide +kernel
theorem dX10_init_69 : decode cX10_init 69 = .ok (.aload_n 0, 1) := by decide +kernel
theorem dX10_init_70 : decode cX10_init 70 = .ok (.bipush 20, 2) := by decide +kernel
theorem dX10_init_72 : decode cX10_init 72 = .ok (.newarray .int, 2) := by decide +kernel
theorem dX10_init_74 : decode cX10_init 74 = .ok (.putfield 37, 3) := by decide +kernel
theorem dX10_init_77 : decode cX10_init 77 = .ok (.aload_n 0, 1) := by decide +kernel
theorem dX10_init_78 : decode cX10_init 78 = .ok (.sipush 800, 3) := by decide +kernel
theorem dX10_init_81 : decode cX10_init 81 = .ok (.newarray .int, 2) := by decide +kernel
theorem dX10_init_83 : decode cX10_init 83 = .ok (.putfield 40, 3) := by decide +kernel
theorem dX10_init_86 : decode cX10_init 86 = .ok (.aload_n 0, 1) := by decide +kernel
theorem dX10_init_87 : decode cX10_init 87 = .ok (.sipush 800, 3) := by decide +kernel
theorem dX10_init_90 : decode cX10_init 90 = .ok (.newarray .int, 2) := by decide +kernel
theorem dX10_init_92 : decode cX10_init 92 = .ok (.putfield 43, 3) := by decide +kernel
theorem dX10_init_95 : decode cX10_init 95 = .ok (.aload_n 0, 1) := by decide +kernel
theorem dX10_init_96 : decode cX10_init 96 = .ok (.sipush 800, 3) := by decide +kernel
theorem dX10_init_99 : decode cX10_init 99 = .ok (.newarray .boolean, 2) := by decide +kernel
theorem dX10_init_101 : decode cX10_init 101 = .ok (.putfield 46, 3) := by decide +kernel
theorem dX10_init_104 : decode cX10_init 104 = .ok (.aload_n 0, 1) := by decide +kernel
theorem dX10_init_105 : decode cX10_init 105 = .ok (.sipush 800, 3) := by decide +kernel
theorem dX10_init_108 : decode cX10_init 108 = .ok (.newarray .long, 2) := by decide +kernel
theorem dX10_init_110 : decode cX10_init 110 = .ok (.putfield 49, 3) := by decide +kernel
theorem dX10_init_113 : decode cX10_init 113 = .ok (.aload_n 0, 1) := by decide +kernel
theorem dX10_init_114 : decode cX10_init 114 = .ok (.sipush 8400, 3) := by decide +kernel
theorem dX10_init_117 : decode cX10_init 117 = .ok (.newarray .int, 2) := by decide +kernel
theorem dX10_init_119 : decode cX10_init 119 = .ok (.putfield 52, 3) := by decide +kernel
theorem dX10_init_122 : decode cX10_init 122 = .ok (.aload_n 0, 1) := by decide +kernel
theorem dX10_init_123 : decode cX10_init 123 = .ok (.sipush 420, 3) := by decide +kernel
theorem dX10_init_126 : decode cX10_init 126 = .ok (.newarray .int, 2) := by decide +kernel
theorem dX10_init_128 : decode cX10_init 128 = .ok (.putfield 55, 3) := by decide +kernel
theorem dX10_init_131 : decode cX10_init 131 = .ok (.aload_n 0, 1) := by decide +kernel
theorem dX10_init_132 : decode cX10_init 132 = .ok (.bipush 10, 2) := by decide +kernel
theorem dX10_init_134 : decode cX10_init 134 = .ok (.newarray .int, 2) := by decide +kernel
theorem dX10_init_136 : decode cX10_init 136 = .ok (.putfield 58, 3) := by decide +kernel
theorem dX10_init_139 : decode cX10_init 139 = .ok (.aload_n 0, 1) := by decide +kernel
theorem dX10_init_140 : decode cX10_init 140 = .ok (.bipush 40, 2) := by decide +kernel
theorem dX10_init_142 : decode cX10_init 142 = .ok (.newarray .long, 2) := by decide +kernel
theorem dX10_init_144 : decode cX10_init 144 = .ok (.putfield 61, 3) := by decide +kernel
theorem dX10_init_147 : decode cX10_init 147 = .ok (.aload_n 0, 1) := by decide +kernel
theorem dX10_init_148 : decode cX10_init 148 = .ok (.bipush 20, 2) := by decide +kernel
theorem dX10_init_150 : decode cX10_init 150 = .ok (.newarray .int, 2) := by decide +kernel
theorem dX10_init_152 : decode cX10_init 152 = .ok (.putfield 64, 3) := by decide +kernel
theorem dX10_init_155 : decode cX10_init 155 = .ok (.aload_n 0, 1) := by decide +kernel
theorem dX10_init_156 : decode cX10_init 156 = .ok (.bipush 20, 2) := by decide +kernel
theorem dX10_init_158 : decode cX10_init 158 = .ok (.newarray .int, 2) := by decide +kernel
theorem dX10_init_160 : decode cX10_init 160 = .ok (.putfield 67, 3) := by decide +kernel
theorem dX10_init_163 : decode cX10_init 163 = .ok (.aload_n 0, 1) := by decide +kernel
theorem dX10_init_164 : decode cX10_init 164 = .ok (.bipush 20, 2) := by decide +kernel
theorem dX10_init_166 : decode cX10_init 166 = .ok (.newarray .long, 2) := by decide +kernel
theorem dX10_init_168 : decode cX10_init 168 = .ok (.putfield 70, 3) := by decide +kernel
theorem dX10_init_171 : decode cX10_init 171 = .ok (.aload_n 0, 1) := by decide +kernel
theorem dX10_init_172 : decode cX10_init 172 = .ok (.bipush 60, 2) := by decide +kernel
theorem dX10_init_174 : decode cX10_init 174 = .ok (.newarray .int, 2) := by decide +kernel
theorem dX10_init_176 : decode cX10_init 176 = .ok (.putfield 73, 3) := by decide +kernel
theorem dX10_init_179 : decode cX10_init 179 = .ok (.return_, 1) := by decide +kernel
theorem dX10_thrown_0 : decode cX10_thrown 0 = .ok (.aload_n 0, 1) := by decide +kernel
theorem dX10_thrown_1 : decode cX10_thrown 1 = .ok (.getfield 76, 3) := by decide +kernel
theorem dX10_thrown_4 : decode cX10_thrown 4 = .ok (.ireturn, 1) := by decide +kernel
theorem dX10_head_0 : decode cX10_head 0 = .ok (.aload_n 0, 1) := by decide +kernel
theorem dX10_head_1 : decode cX10_head 1 = .ok (.getfield 13, 3) := by decide +kernel
theorem dX10_head_4 : decode cX10_head 4 = .ok (.iconst 1, 1) := by decide +kernel
theorem dX10_head_5 : decode cX10_head 5 = .ok (.isub, 1) := by decide +kernel
theorem dX10_head_6 : decode cX10_head 6 = .ok (.ireturn, 1) := by decide +kernel
theorem dX10_isKind_0 : decode cX10_isKind 0 = .ok (.iload_n 0, 1) := by decide +kernel
theorem dX10_isKind_1 : decode cX10_isKind 1 = .ok (.ifCond .lt 13, 3) := by decide +kernel
theorem dX10_isKind_4 : decode cX10_isKind 4 = .ok (.iload_n 0, 1) := by decide +kernel
theorem dX10_isKind_5 : decode cX10_isKind 5 = .ok (.bipush 10, 2) := by decide +kernel
theorem dX10_isKind_7 : decode cX10_isKind 7 = .ok (.if_icmp .ge 7, 3) := by decide +kernel
theorem dX10_isKind_10 : decode cX10_isKind 10 = .ok (.iconst 1, 1) := by decide +kernel
theorem dX10_isKind_11 : decode cX10_isKind 11 = .ok (.goto 4, 3) := by decide +kernel
theorem dX10_isKind_14 : decode cX10_isKind 14 = .ok (.iconst 0, 1) := by decide +kernel
theorem dX10_isKind_15 : decode cX10_isKind 15 = .ok (.ireturn, 1) := by decide +kernel
theorem dX10_isObject_0 : decode cX10_isObject 0 = .ok (.iload_n 1, 1) := by decide +kernel
theorem dX10_isObject_1 : decode cX10_isObject 1 = .ok (.ifCond .lt 15, 3) := by decide +kernel
theorem dX10_isObject_4 : decode cX10_isObject 4 = .ok (.iload_n 1, 1) := by decide +kernel
theorem dX10_isObject_5 : decode cX10_isObject 5 = .ok (.aload_n 0, 1) := by decide +kernel
theorem dX10_isObject_6 : decode cX10_isObject 6 = .ok (.getfield 79, 3) := by decide +kernel
theorem dX10_isObject_9 : decode cX10_isObject 9 = .ok (.if_icmp .ge 7, 3) := by decide +kernel
theorem dX10_isObject_12 : decode cX10_isObject 12 = .ok (.iconst 1, 1) := by decide +kernel
theorem dX10_isObject_13 : decode cX10_isObject 13 = .ok (.goto 4, 3) := by decide +kernel
theorem dX10_isObject_16 : decode cX10_isObject 16 = .ok (.iconst 0, 1) := by decide +kernel
theorem dX10_isObject_17 : decode cX10_isObject 17 = .ok (.ireturn, 1) := by decide +kernel
theorem dX10_isSession_0 : decode cX10_isSession 0 = .ok (.iload_n 1, 1) := by decide +kernel
theorem dX10_isSession_1 : decode cX10_isSession 1 = .ok (.ifCond .lt 15, 3) := by decide +kernel
theorem dX10_isSession_4 : decode cX10_isSession 4 = .ok (.iload_n 1, 1) := by decide +kernel
theorem dX10_isSession_5 : decode cX10_isSession 5 = .ok (.aload_n 0, 1) := by decide +kernel
theorem dX10_isSession_6 : decode cX10_isSession 6 = .ok (.getfield 82, 3) := by decide +kernel
theorem dX10_isSession_9 : decode cX10_isSession 9 = .ok (.if_icmp .ge 7, 3) := by decide +kernel
theorem dX10_isSession_12 : decode cX10_isSession 12 = .ok (.iconst 1, 1) := by decide +kernel
theorem dX10_isSession_13 : decode cX10_isSession 13 = .ok (.goto 4, 3) := by decide +kernel
theorem dX10_isSession_16 : decode cX10_isSession 16 = .ok (.iconst 0, 1) := by decide +kernel
theorem dX10_isSession_17 : decode cX10_isSession 17 = .ok (.ireturn, 1) := by decide +kernel
theorem dX10_isField_0 : decode cX10_isField 0 = .ok (.iload_n 0, 1) := by decide +kernel
theorem dX10_isField_1 : decode cX10_isField 1 = .ok (.ifCond .lt 13, 3) := by decide +kernel
theorem dX10_isField_4 : decode cX10_isField 4 = .ok (.iload_n 0, 1) := by decide +kernel
theorem dX10_isField_5 : decode cX10_isField 5 = .ok (.bipush 6, 2) := by decide +kernel
theorem dX10_isField_7 : decode cX10_isField 7 = .ok (.if_icmp .ge 7, 3) := by decide +kernel
theorem dX10_isField_10 : decode cX10_isField 10 = .ok (.iconst 1, 1) := by decide +kernel
theorem dX10_isField_11 : decode cX10_isField 11 = .ok (.goto 4, 3) := by decide +kernel
theorem dX10_isField_14 : decode cX10_isField 14 = .ok (.iconst 0, 1) := by decide +kernel
theorem dX10_isField_15 : decode cX10_isField 15 = .ok (.ireturn, 1) := by decide +kernel
theorem dX10_copyHead_0 : decode cX10_copyHead 0 = .ok (.bipush 60, 2) := by decide +kernel
theorem dX10_copyHead_2 : decode cX10_copyHead 2 = .ok (.aload_n 0, 1) := by decide +kernel
theorem dX10_copyHead_3 : decode cX10_copyHead 3 = .ok (.getfield 13, 3) := by decide +kernel
theorem dX10_copyHead_6 : decode cX10_copyHead 6 = .ok (.imul, 1) := by decide +kernel
theorem dX10_copyHead_7 : decode cX10_copyHead 7 = .ok (.istore_n 1, 1) := by decide +kernel
theorem dX10_copyHead_8 : decode cX10_copyHead 8 = .ok (.iload_n 1, 1) := by decide +kernel
theorem dX10_copyHead_9 : decode cX10_copyHead 9 = .ok (.bipush 60, 2) := by decide +kernel
theorem dX10_copyHead_11 : decode cX10_copyHead 11 = .ok (.isub, 1) := by decide +kernel
theorem dX10_copyHead_12 : decode cX10_copyHead 12 = .ok (.istore_n 2, 1) := by decide +kernel
theorem dX10_copyHead_13 : decode cX10_copyHead 13 = .ok (.iconst 0, 1) := by decide +kernel
theorem dX10_copyHead_14 : decode cX10_copyHead 14 = .ok (.istore_n 3, 1) := by decide +kernel
theorem dX10_copyHead_15 : decode cX10_copyHead 15 = .ok (.iload_n 3, 1) := by decide +kernel
theorem dX10_copyHead_16 : decode cX10_copyHead 16 = .ok (.bipush 60, 2) := by decide +kernel
theorem dX10_copyHead_18 : decode cX10_copyHead 18 = .ok (.if_icmp .ge 25, 3) := by decide +kernel
theorem dX10_copyHead_21 : decode cX10_copyHead 21 = .ok (.aload_n 0, 1) := by decide +kernel
theorem dX10_copyHead_22 : decode cX10_copyHead 22 = .ok (.getfield 17, 3) := by decide +kernel
theorem dX10_copyHead_25 : decode cX10_copyHead 25 = .ok (.iload_n 1, 1) := by decide +kernel
theorem dX10_copyHead_26 : decode cX10_copyHead 26 = .ok (.iload_n 3, 1) := by decide +kernel
theorem dX10_copyHead_27 : decode cX10_copyHead 27 = .ok (.iadd, 1) := by decide +kernel
theorem dX10_copyHead_28 : decode cX10_copyHead 28 = .ok (.aload_n 0, 1) := by decide +kernel
theorem dX10_copyHead_29 : decode cX10_copyHead 29 = .ok (.getfield 17, 3) := by decide +kernel
theorem dX10_copyHead_32 : decode cX10_copyHead 32 = .ok (.iload_n 2, 1) := by decide +kernel
theorem dX10_copyHead_33 : decode cX10_copyHead 33 = .ok (.iload_n 3, 1) := by decide +kernel
theorem dX10_copyHead_34 : decode cX10_copyHead 34 = .ok (.iadd, 1) := by decide +kernel
theorem dX10_copyHead_35 : decode cX10_copyHead 35 = .ok (.baload, 1) := by decide +kernel
theorem dX10_copyHead_36 : decode cX10_copyHead 36 = .ok (.bastore, 1) := by decide +kernel
theorem dX10_copyHead_37 : decode cX10_copyHead 37 = .ok (.iinc 3 1, 3) := by decide +kernel
theorem dX10_copyHead_40 : decode cX10_copyHead 40 = .ok (.goto (-25), 3) := by decide +kernel
theorem dX10_copyHead_43 : decode cX10_copyHead 43 = .ok (.iconst 0, 1) := by decide +kernel
theorem dX10_copyHead_44 : decode cX10_copyHead 44 = .ok (.istore_n 3, 1) := by decide +kernel
theorem dX10_copyHead_45 : decode cX10_copyHead 45 = .ok (.iload_n 3, 1) := by decide +kernel
theorem dX10_copyHead_46 : decode cX10_copyHead 46 = .ok (.sipush 360, 3) := by decide +kernel
theorem dX10_copyHead_49 : decode cX10_copyHead 49 = .ok (.if_icmp .ge 41, 3) := by decide +kernel
theorem dX10_copyHead_52 : decode cX10_copyHead 52 = .ok (.aload_n 0, 1) := by decide +kernel
theorem dX10_copyHead_53 : decode cX10_copyHead 53 = .ok (.getfield 21, 3) := by decide +kernel
theorem dX10_copyHead_56 : decode cX10_copyHead 56 = .ok (.sipush 360, 3) := by decide +kernel
theorem dX10_copyHead_59 : decode cX10_copyHead 59 = .ok (.aload_n 0, 1) := by decide +kernel
theorem dX10_copyHead_60 : decode cX10_copyHead 60 = .ok (.getfield 13, 3) := by decide +kernel
theorem dX10_copyHead_63 : decode cX10_copyHead 63 = .ok (.imul, 1) := by decide +kernel
theorem dX10_copyHead_64 : decode cX10_copyHead 64 = .ok (.iload_n 3, 1) := by decide +kernel
theorem dX10_copyHead_65 : decode cX10_copyHead 65 = .ok (.iadd, 1) := by decide +kernel
theorem dX10_copyHead_66 : decode cX10_copyHead 66 = .ok (.aload_n 0, 1) := by decide +kernel
theorem dX10_copyHead_67 : decode cX10_copyHead 67 = .ok (.getfield 21, 3) := by decide +kernel
theorem dX10_copyHead_70 : decode cX10_copyHead 70 = .ok (.sipush 360, 3) := by decide +kernel
theorem dX10_copyHead_73 : decode cX10_copyHead 73 = .ok (.aload_n 0, 1) := by decide +kernel
theorem dX10_copyHead_74 : decode cX10_copyHead 74 = .ok (.getfield 13, 3) := by decide +kernel
theorem dX10_copyHead_77 : decode cX10_copyHead 77 = .ok (.iconst 1, 1) := by decide +kernel
theorem dX10_copyHead_78 : decode cX10_copyHead 78 = .ok (.isub, 1) := by decide +kernel
theorem dX10_copyHead_79 : decode cX10_copyHead 79 = .ok (.imul, 1) := by decide +kernel
theorem dX10_copyHead_80 : decode cX10_copyHead 80 = .ok (.iload_n 3, 1) := by decide +kernel
theorem dX10_copyHead_81 : decode cX10_copyHead 81 = .ok (.iadd, 1) := by decide +kernel
theorem dX10_copyHead_82 : decode cX10_copyHead 82 = .ok (.laload, 1) := by decide +kernel
theorem dX10_copyHead_83 : decode cX10_copyHead 83 = .ok (.lastore, 1) := by decide +kernel
theorem dX10_copyHead_84 : decode cX10_copyHead 84 = .ok (.iinc 3 1, 3) := by decide +kernel
theorem dX10_copyHead_87 : decode cX10_copyHead 87 = .ok (.goto (-42), 3) := by decide +kernel
theorem dX10_copyHead_90 : decode cX10_copyHead 90 = .ok (.aload_n 0, 1) := by decide +kernel
theorem dX10_copyHead_91 : decode cX10_copyHead 91 = .ok (.dup, 1) := by decide +kernel
theorem dX10_copyHead_92 : decode cX10_copyHead 92 = .ok (.getfield 13, 3) := by decide +kernel
theorem dX10_copyHead_95 : decode cX10_copyHead 95 = .ok (.iconst 1, 1) := by decide +kernel
theorem dX10_copyHead_96 : decode cX10_copyHead 96 = .ok (.iadd, 1) := by decide +kernel
theorem dX10_copyHead_97 : decode cX10_copyHead 97 = .ok (.putfield 13, 3) := by decide +kernel
theorem dX10_copyHead_100 : decode cX10_copyHead 100 = .ok (.return_, 1) := by decide +kernel
theorem dX10_object_0 : decode cX10_object 0 = .ok (.aload_n 0, 1) := by decide +kernel
theorem dX10_object_1 : decode cX10_object 1 = .ok (.iload_n 1, 1) := by decide +kernel
theorem dX10_object_2 : decode cX10_object 2 = .ok (.invokestatic 85, 3) := by decide +kernel
theorem dX10_object_5 : decode cX10_object 5 = .ok (.ifCond .eq 7, 3) := by decide +kernel
theorem dX10_object_8 : decode cX10_object 8 = .ok (.iconst 0, 1) := by decide +kernel
theorem dX10_object_9 : decode cX10_object 9 = .ok (.goto 4, 3) := by decide +kernel
theorem dX10_object_12 : decode cX10_object 12 = .ok (.iconst 1, 1) := by decide +kernel
theorem dX10_object_13 : decode cX10_object 13 = .ok (.putfield 76, 3) := by decide +kernel
theorem dX10_object_16 : decode cX10_object 16 = .ok (.aload_n 0, 1) := by decide +kernel
theorem dX10_object_17 : decode cX10_object 17 = .ok (.getfield 76, 3) := by decide +kernel
theorem dX10_object_20 : decode cX10_object 20 = .ok (.ifCond .eq 5, 3) := by decide +kernel
theorem dX10_object_23 : decode cX10_object 23 = .ok (.iconst 0, 1) := by decide +kernel
theorem dX10_object_24 : decode cX10_object 24 = .ok (.ireturn, 1) := by decide +kernel
theorem dX10_object_25 : decode cX10_object 25 = .ok (.aload_n 0, 1) := by decide +kernel
theorem dX10_object_26 : decode cX10_object 26 = .ok (.getfield 79, 3) := by decide +kernel
theorem dX10_object_29 : decode cX10_object 29 = .ok (.bipush 60, 2) := by decide +kernel
theorem dX10_object_31 : decode cX10_object 31 = .ok (.if_icmp .eq 12, 3) := by decide +kernel
theorem dX10_object_34 : decode cX10_object 34 = .ok (.aload_n 0, 1) := by decide +kernel
theorem dX10_object_35 : decode cX10_object 35 = .ok (.getfield 13, 3) := by decide +kernel
theorem dX10_object_38 : decode cX10_object 38 = .ok (.bipush 40, 2) := by decide +kernel
theorem dX10_object_40 : decode cX10_object 40 = .ok (.if_icmp .ne 5, 3) := by decide +kernel
theorem dX10_object_43 : decode cX10_object 43 = .ok (.iconst (-1), 1) := by decide +kernel
theorem dX10_object_44 : decode cX10_object 44 = .ok (.ireturn, 1) := by decide +kernel
theorem dX10_object_45 : decode cX10_object 45 = .ok (.aload_n 0, 1) := by decide +kernel
theorem dX10_object_46 : decode cX10_object 46 = .ok (.invokevirtual 89, 3) := by decide +kernel
theorem dX10_object_49 : decode cX10_object 49 = .ok (.aload_n 0, 1) := by decide +kernel
theorem dX10_object_50 : decode cX10_object 50 = .ok (.getfield 7, 3) := by decide +kernel
theorem dX10_object_53 : decode cX10_object 53 = .ok (.aload_n 0, 1) := by decide +kernel
theorem dX10_object_54 : decode cX10_object 54 = .ok (.getfield 79, 3) := by decide +kernel
theorem dX10_object_57 : decode cX10_object 57 = .ok (.iload_n 1, 1) := by decide +kernel
theorem dX10_object_58 : decode cX10_object 58 = .ok (.iastore, 1) := by decide +kernel
theorem dX10_object_59 : decode cX10_object 59 = .ok (.aload_n 0, 1) := by decide +kernel
theorem dX10_object_60 : decode cX10_object 60 = .ok (.getfield 17, 3) := by decide +kernel
theorem dX10_object_63 : decode cX10_object 63 = .ok (.bipush 60, 2) := by decide +kernel
theorem dX10_object_65 : decode cX10_object 65 = .ok (.aload_n 0, 1) := by decide +kernel
theorem dX10_object_66 : decode cX10_object 66 = .ok (.invokevirtual 92, 3) := by decide +kernel
theorem dX10_object_69 : decode cX10_object 69 = .ok (.imul, 1) := by decide +kernel
theorem dX10_object_70 : decode cX10_object 70 = .ok (.aload_n 0, 1) := by decide +kernel
theorem dX10_object_71 : decode cX10_object 71 = .ok (.getfield 79, 3) := by decide +kernel
theorem dX10_object_74 : decode cX10_object 74 = .ok (.iadd, 1) := by decide +kernel
theorem dX10_object_75 : decode cX10_object 75 = .ok (.iconst 1, 1) := by decide +kernel
theorem dX10_object_76 : decode cX10_object 76 = .ok (.bastore, 1) := by decide +kernel
theorem dX10_object_77 : decode cX10_object 77 = .ok (.aload_n 0, 1) := by decide +kernel
theorem dX10_object_78 : decode cX10_object 78 = .ok (.dup, 1) := by decide +kernel
theorem dX10_object_79 : decode cX10_object 79 = .ok (.getfield 79, 3) := by decide +kernel
theorem dX10_object_82 : decode cX10_object 82 = .ok (.iconst 1, 1) := by decide +kernel
theorem dX10_object_83 : decode cX10_object 83 = .ok (.iadd, 1) := by decide +kernel
theorem dX10_object_84 : decode cX10_object 84 = .ok (.putfield 79, 3) := by decide +kernel
theorem dX10_object_87 : decode cX10_object 87 = .ok (.aload_n 0, 1) := by decide +kernel
theorem dX10_object_88 : decode cX10_object 88 = .ok (.getfield 79, 3) := by decide +kernel
theorem dX10_object_91 : decode cX10_object 91 = .ok (.iconst 1, 1) := by decide +kernel
theorem dX10_object_92 : decode cX10_object 92 = .ok (.isub, 1) := by decide +kernel
theorem dX10_object_93 : decode cX10_object 93 = .ok (.ireturn, 1) := by decide +kernel
theorem dX10_begin_0 : decode cX10_begin 0 = .ok (.aload_n 0, 1) := by decide +kernel
theorem dX10_begin_1 : decode cX10_begin 1 = .ok (.getfield 82, 3) := by decide +kernel
theorem dX10_begin_4 : decode cX10_begin 4 = .ok (.bipush 20, 2) := by decide +kernel
theorem dX10_begin_6 : decode cX10_begin 6 = .ok (.if_icmp .ne 5, 3) := by decide +kernel
theorem dX10_begin_9 : decode cX10_begin 9 = .ok (.iconst (-1), 1) := by decide +kernel
theorem dX10_begin_10 : decode cX10_begin 10 = .ok (.ireturn, 1) := by decide +kernel
theorem dX10_begin_11 : decode cX10_begin 11 = .ok (.aload_n 0, 1) := by decide +kernel
theorem dX10_begin_12 : decode cX10_begin 12 = .ok (.getfield 25, 3) := by decide +kernel
theorem dX10_begin_15 : decode cX10_begin 15 = .ok (.aload_n 0, 1) := by decide +kernel
theorem dX10_begin_16 : decode cX10_begin 16 = .ok (.getfield 82, 3) := by decide +kernel
theorem dX10_begin_19 : decode cX10_begin 19 = .ok (.iload_n 1, 1) := by decide +kernel
theorem dX10_begin_20 : decode cX10_begin 20 = .ok (.iastore, 1) := by decide +kernel
theorem dX10_begin_21 : decode cX10_begin 21 = .ok (.aload_n 0, 1) := by decide +kernel
theorem dX10_begin_22 : decode cX10_begin 22 = .ok (.getfield 28, 3) := by decide +kernel
theorem dX10_begin_25 : decode cX10_begin 25 = .ok (.aload_n 0, 1) := by decide +kernel
theorem dX10_begin_26 : decode cX10_begin 26 = .ok (.getfield 82, 3) := by decide +kernel
theorem dX10_begin_29 : decode cX10_begin 29 = .ok (.iconst 1, 1) := by decide +kernel
theorem dX10_begin_30 : decode cX10_begin 30 = .ok (.bastore, 1) := by decide +kernel
theorem dX10_begin_31 : decode cX10_begin 31 = .ok (.iconst 0, 1) := by decide +kernel
theorem dX10_begin_32 : decode cX10_begin 32 = .ok (.istore_n 2, 1) := by decide +kernel
theorem dX10_begin_33 : decode cX10_begin 33 = .ok (.iload_n 2, 1) := by decide +kernel
theorem dX10_begin_34 : decode cX10_begin 34 = .ok (.bipush 60, 2) := by decide +kernel
theorem dX10_begin_36 : decode cX10_begin 36 = .ok (.if_icmp .ge 34, 3) := by decide +kernel
theorem dX10_begin_39 : decode cX10_begin 39 = .ok (.aload_n 0, 1) := by decide +kernel
theorem dX10_begin_40 : decode cX10_begin 40 = .ok (.getfield 31, 3) := by decide +kernel
theorem dX10_begin_43 : decode cX10_begin 43 = .ok (.bipush 60, 2) := by decide +kernel
theorem dX10_begin_45 : decode cX10_begin 45 = .ok (.aload_n 0, 1) := by decide +kernel
theorem dX10_begin_46 : decode cX10_begin 46 = .ok (.getfield 82, 3) := by decide +kernel
theorem dX10_begin_49 : decode cX10_begin 49 = .ok (.imul, 1) := by decide +kernel
theorem dX10_begin_50 : decode cX10_begin 50 = .ok (.iload_n 2, 1) := by decide +kernel
theorem dX10_begin_51 : decode cX10_begin 51 = .ok (.iadd, 1) := by decide +kernel
theorem dX10_begin_52 : decode cX10_begin 52 = .ok (.aload_n 0, 1) := by decide +kernel
theorem dX10_begin_53 : decode cX10_begin 53 = .ok (.getfield 17, 3) := by decide +kernel
theorem dX10_begin_56 : decode cX10_begin 56 = .ok (.bipush 60, 2) := by decide +kernel
theorem dX10_begin_58 : decode cX10_begin 58 = .ok (.iload_n 1, 1) := by decide +kernel
theorem dX10_begin_59 : decode cX10_begin 59 = .ok (.imul, 1) := by decide +kernel
theorem dX10_begin_60 : decode cX10_begin 60 = .ok (.iload_n 2, 1) := by decide +kernel
theorem dX10_begin_61 : decode cX10_begin 61 = .ok (.iadd, 1) := by decide +kernel
theorem dX10_begin_62 : decode cX10_begin 62 = .ok (.baload, 1) := by decide +kernel
theorem dX10_begin_63 : decode cX10_begin 63 = .ok (.bastore, 1) := by decide +kernel
theorem dX10_begin_64 : decode cX10_begin 64 = .ok (.iinc 2 1, 3) := by decide +kernel
theorem dX10_begin_67 : decode cX10_begin 67 = .ok (.goto (-34), 3) := by decide +kernel
theorem dX10_begin_70 : decode cX10_begin 70 = .ok (.iconst 0, 1) := by decide +kernel
theorem dX10_begin_71 : decode cX10_begin 71 = .ok (.istore_n 2, 1) := by decide +kernel
theorem dX10_begin_72 : decode cX10_begin 72 = .ok (.iload_n 2, 1) := by decide +kernel
theorem dX10_begin_73 : decode cX10_begin 73 = .ok (.sipush 360, 3) := by decide +kernel
theorem dX10_begin_76 : decode cX10_begin 76 = .ok (.if_icmp .ge 36, 3) := by decide +kernel
theorem dX10_begin_79 : decode cX10_begin 79 = .ok (.aload_n 0, 1) := by decide +kernel
theorem dX10_begin_80 : decode cX10_begin 80 = .ok (.getfield 34, 3) := by decide +kernel
theorem dX10_begin_83 : decode cX10_begin 83 = .ok (.sipush 360, 3) := by decide +kernel
theorem dX10_begin_86 : decode cX10_begin 86 = .ok (.aload_n 0, 1) := by decide +kernel
theorem dX10_begin_87 : decode cX10_begin 87 = .ok (.getfield 82, 3) := by decide +kernel
theorem dX10_begin_90 : decode cX10_begin 90 = .ok (.imul, 1) := by decide +kernel
theorem dX10_begin_91 : decode cX10_begin 91 = .ok (.iload_n 2, 1) := by decide +kernel
theorem dX10_begin_92 : decode cX10_begin 92 = .ok (.iadd, 1) := by decide +kernel
theorem dX10_begin_93 : decode cX10_begin 93 = .ok (.aload_n 0, 1) := by decide +kernel
theorem dX10_begin_94 : decode cX10_begin 94 = .ok (.getfield 21, 3) := by decide +kernel
theorem dX10_begin_97 : decode cX10_begin 97 = .ok (.sipush 360, 3) := by decide +kernel
theorem dX10_begin_100 : decode cX10_begin 100 = .ok (.iload_n 1, 1) := by decide +kernel
theorem dX10_begin_101 : decode cX10_begin 101 = .ok (.imul, 1) := by decide +kernel
theorem dX10_begin_102 : decode cX10_begin 102 = .ok (.iload_n 2, 1) := by decide +kernel
theorem dX10_begin_103 : decode cX10_begin 103 = .ok (.iadd, 1) := by decide +kernel
theorem dX10_begin_104 : decode cX10_begin 104 = .ok (.laload, 1) := by decide +kernel
theorem dX10_begin_105 : decode cX10_begin 105 = .ok (.lastore, 1) := by decide +kernel
theorem dX10_begin_106 : decode cX10_begin 106 = .ok (.iinc 2 1, 3) := by decide +kernel
theorem dX10_begin_109 : decode cX10_begin 109 = .ok (.goto (-37), 3) := by decide +kernel
theorem dX10_begin_112 : decode cX10_begin 112 = .ok (.aload_n 0, 1) := by decide +kernel
theorem dX10_begin_113 : decode cX10_begin 113 = .ok (.dup, 1) := by decide +kernel
theorem dX10_begin_114 : decode cX10_begin 114 = .ok (.getfield 82, 3) := by decide +kernel
theorem dX10_begin_117 : decode cX10_begin 117 = .ok (.iconst 1, 1) := by decide +kernel
theorem dX10_begin_118 : decode cX10_begin 118 = .ok (.iadd, 1) := by decide +kernel
theorem dX10_begin_119 : decode cX10_begin 119 = .ok (.putfield 82, 3) := by decide +kernel
theorem dX10_begin_122 : decode cX10_begin 122 = .ok (.aload_n 0, 1) := by decide +kernel
theorem dX10_begin_123 : decode cX10_begin 123 = .ok (.getfield 82, 3) := by decide +kernel
theorem dX10_begin_126 : decode cX10_begin 126 = .ok (.iconst 1, 1) := by decide +kernel
theorem dX10_begin_127 : decode cX10_begin 127 = .ok (.isub, 1) := by decide +kernel
theorem dX10_begin_128 : decode cX10_begin 128 = .ok (.ireturn, 1) := by decide +kernel
theorem dX10_session_0 : decode cX10_session 0 = .ok (.aload_n 0, 1) := by decide +kernel
theorem dX10_session_1 : decode cX10_session 1 = .ok (.iconst 0, 1) := by decide +kernel
theorem dX10_session_2 : decode cX10_session 2 = .ok (.putfield 76, 3) := by decide +kernel
theorem dX10_session_5 : decode cX10_session 5 = .ok (.aload_n 0, 1) := by decide +kernel
theorem dX10_session_6 : decode cX10_session 6 = .ok (.aload_n 0, 1) := by decide +kernel
theorem dX10_session_7 : decode cX10_session 7 = .ok (.invokevirtual 92, 3) := by decide +kernel
theorem dX10_session_10 : decode cX10_session 10 = .ok (.invokevirtual 96, 3) := by decide +kernel
theorem dX10_session_13 : decode cX10_session 13 = .ok (.ireturn, 1) := by decide +kernel
theorem dX10_branch_0 : decode cX10_branch 0 = .ok (.aload_n 0, 1) := by decide +kernel
theorem dX10_branch_1 : decode cX10_branch 1 = .ok (.iload_n 1, 1) := by decide +kernel
theorem dX10_branch_2 : decode cX10_branch 2 = .ok (.ifCond .lt 15, 3) := by decide +kernel
theorem dX10_branch_5 : decode cX10_branch 5 = .ok (.iload_n 1, 1) := by decide +kernel
theorem dX10_branch_6 : decode cX10_branch 6 = .ok (.aload_n 0, 1) := by decide +kernel
theorem dX10_branch_7 : decode cX10_branch 7 = .ok (.getfield 13, 3) := by decide +kernel
theorem dX10_branch_10 : decode cX10_branch 10 = .ok (.if_icmp .ge 7, 3) := by decide +kernel
theorem dX10_branch_13 : decode cX10_branch 13 = .ok (.iconst 0, 1) := by decide +kernel
theorem dX10_branch_14 : decode cX10_branch 14 = .ok (.goto 4, 3) := by decide +kernel
theorem dX10_branch_17 : decode cX10_branch 17 = .ok (.iconst 1, 1) := by decide +kernel
theorem dX10_branch_18 : decode cX10_branch 18 = .ok (.putfield 76, 3) := by decide +kernel
theorem dX10_branch_21 : decode cX10_branch 21 = .ok (.aload_n 0, 1) := by decide +kernel
theorem dX10_branch_22 : decode cX10_branch 22 = .ok (.getfield 76, 3) := by decide +kernel
theorem dX10_branch_25 : decode cX10_branch 25 = .ok (.ifCond .ne 11, 3) := by decide +kernel
theorem dX10_branch_28 : decode cX10_branch 28 = .ok (.aload_n 0, 1) := by decide +kernel
theorem dX10_branch_29 : decode cX10_branch 29 = .ok (.iload_n 1, 1) := by decide +kernel
theorem dX10_branch_30 : decode cX10_branch 30 = .ok (.invokevirtual 96, 3) := by decide +kernel
theorem dX10_branch_33 : decode cX10_branch 33 = .ok (.goto 4, 3) := by decide +kernel
theorem dX10_branch_36 : decode cX10_branch 36 = .ok (.iconst 0, 1) := by decide +kernel
theorem dX10_branch_37 : decode cX10_branch 37 = .ok (.ireturn, 1) := by decide +kernel
theorem dX10_isBarred_0 : decode cX10_isBarred 0 = .ok (.aload_n 0, 1) := by decide +kernel
theorem dX10_isBarred_1 : decode cX10_isBarred 1 = .ok (.getfield 34, 3) := by decide +kernel
theorem dX10_isBarred_4 : decode cX10_isBarred 4 = .ok (.sipush 360, 3) := by decide +kernel
theorem dX10_isBarred_7 : decode cX10_isBarred 7 = .ok (.iload_n 1, 1) := by decide +kernel
theorem dX10_isBarred_8 : decode cX10_isBarred 8 = .ok (.imul, 1) := by decide +kernel
theorem dX10_isBarred_9 : decode cX10_isBarred 9 = .ok (.bipush 6, 2) := by decide +kernel
theorem dX10_isBarred_11 : decode cX10_isBarred 11 = .ok (.iload_n 2, 1) := by decide +kernel
theorem dX10_isBarred_12 : decode cX10_isBarred 12 = .ok (.imul, 1) := by decide +kernel
theorem dX10_isBarred_13 : decode cX10_isBarred 13 = .ok (.iadd, 1) := by decide +kernel
theorem dX10_isBarred_14 : decode cX10_isBarred 14 = .ok (.laload, 1) := by decide +kernel
theorem dX10_isBarred_15 : decode cX10_isBarred 15 = .ok (.lstore_n 3, 1) := by decide +kernel
theorem dX10_isBarred_16 : decode cX10_isBarred 16 = .ok (.aload_n 0, 1) := by decide +kernel
theorem dX10_isBarred_17 : decode cX10_isBarred 17 = .ok (.getfield 34, 3) := by decide +kernel
theorem dX10_isBarred_20 : decode cX10_isBarred 20 = .ok (.sipush 360, 3) := by decide +kernel
theorem dX10_isBarred_23 : decode cX10_isBarred 23 = .ok (.iload_n 1, 1) := by decide +kernel
theorem dX10_isBarred_24 : decode cX10_isBarred 24 = .ok (.imul, 1) := by decide +kernel
theorem dX10_isBarred_25 : decode cX10_isBarred 25 = .ok (.bipush 6, 2) := by decide +kernel
theorem dX10_isBarred_27 : decode cX10_isBarred 27 = .ok (.iload_n 2, 1) := by decide +kernel
theorem dX10_isBarred_28 : decode cX10_isBarred 28 = .ok (.imul, 1) := by decide +kernel
theorem dX10_isBarred_29 : decode cX10_isBarred 29 = .ok (.iadd, 1) := by decide +kernel
theorem dX10_isBarred_30 : decode cX10_isBarred 30 = .ok (.iconst 1, 1) := by decide +kernel
theorem dX10_isBarred_31 : decode cX10_isBarred 31 = .ok (.iadd, 1) := by decide +kernel
theorem dX10_isBarred_32 : decode cX10_isBarred 32 = .ok (.laload, 1) := by decide +kernel
theorem dX10_isBarred_33 : decode cX10_isBarred 33 = .ok (.lstore 5, 2) := by decide +kernel
theorem dX10_isBarred_35 : decode cX10_isBarred 35 = .ok (.iconst 0, 1) := by decide +kernel
theorem dX10_isBarred_36 : decode cX10_isBarred 36 = .ok (.istore 7, 2) := by decide +kernel
theorem dX10_isBarred_38 : decode cX10_isBarred 38 = .ok (.iload 7, 2) := by decide +kernel
theorem dX10_isBarred_40 : decode cX10_isBarred 40 = .ok (.aload_n 0, 1) := by decide +kernel
theorem dX10_isBarred_41 : decode cX10_isBarred 41 = .ok (.getfield 100, 3) := by decide +kernel
theorem dX10_isBarred_44 : decode cX10_isBarred 44 = .ok (.if_icmp .ge 98, 3) := by decide +kernel
theorem dX10_isBarred_47 : decode cX10_isBarred 47 = .ok (.lload_n 3, 1) := by decide +kernel
theorem dX10_isBarred_48 : decode cX10_isBarred 48 = .ok (.aload_n 0, 1) := by decide +kernel
theorem dX10_isBarred_49 : decode cX10_isBarred 49 = .ok (.getfield 61, 3) := by decide +kernel
theorem dX10_isBarred_52 : decode cX10_isBarred 52 = .ok (.iconst 4, 1) := by decide +kernel
theorem dX10_isBarred_53 : decode cX10_isBarred 53 = .ok (.iload 7, 2) := by decide +kernel
theorem dX10_isBarred_55 : decode cX10_isBarred 55 = .ok (.imul, 1) := by decide +kernel
theorem dX10_isBarred_56 : decode cX10_isBarred 56 = .ok (.laload, 1) := by decide +kernel
theorem dX10_isBarred_57 : decode cX10_isBarred 57 = .ok (.lcmp, 1) := by decide +kernel
theorem dX10_isBarred_58 : decode cX10_isBarred 58 = .ok (.ifCond .lt 57, 3) := by decide +kernel
theorem dX10_isBarred_61 : decode cX10_isBarred 61 = .ok (.lload_n 3, 1) := by decide +kernel
theorem dX10_isBarred_62 : decode cX10_isBarred 62 = .ok (.aload_n 0, 1) := by decide +kernel
theorem dX10_isBarred_63 : decode cX10_isBarred 63 = .ok (.getfield 61, 3) := by decide +kernel
theorem dX10_isBarred_66 : decode cX10_isBarred 66 = .ok (.iconst 4, 1) := by decide +kernel
theorem dX10_isBarred_67 : decode cX10_isBarred 67 = .ok (.iload 7, 2) := by decide +kernel
theorem dX10_isBarred_69 : decode cX10_isBarred 69 = .ok (.imul, 1) := by decide +kernel
theorem dX10_isBarred_70 : decode cX10_isBarred 70 = .ok (.iconst 2, 1) := by decide +kernel
theorem dX10_isBarred_71 : decode cX10_isBarred 71 = .ok (.iadd, 1) := by decide +kernel
theorem dX10_isBarred_72 : decode cX10_isBarred 72 = .ok (.laload, 1) := by decide +kernel
theorem dX10_isBarred_73 : decode cX10_isBarred 73 = .ok (.lcmp, 1) := by decide +kernel
theorem dX10_isBarred_74 : decode cX10_isBarred 74 = .ok (.ifCond .gt 41, 3) := by decide +kernel
theorem dX10_isBarred_77 : decode cX10_isBarred 77 = .ok (.lload 5, 2) := by decide +kernel
theorem dX10_isBarred_79 : decode cX10_isBarred 79 = .ok (.aload_n 0, 1) := by decide +kernel
theorem dX10_isBarred_80 : decode cX10_isBarred 80 = .ok (.getfield 61, 3) := by decide +kernel
theorem dX10_isBarred_83 : decode cX10_isBarred 83 = .ok (.iconst 4, 1) := by decide +kernel
theorem dX10_isBarred_84 : decode cX10_isBarred 84 = .ok (.iload 7, 2) := by decide +kernel
theorem dX10_isBarred_86 : decode cX10_isBarred 86 = .ok (.imul, 1) := by decide +kernel
theorem dX10_isBarred_87 : decode cX10_isBarred 87 = .ok (.iconst 1, 1) := by decide +kernel
theorem dX10_isBarred_88 : decode cX10_isBarred 88 = .ok (.iadd, 1) := by decide +kernel
theorem dX10_isBarred_89 : decode cX10_isBarred 89 = .ok (.laload, 1) := by decide +kernel
theorem dX10_isBarred_90 : decode cX10_isBarred 90 = .ok (.lcmp, 1) := by decide +kernel
theorem dX10_isBarred_91 : decode cX10_isBarred 91 = .ok (.ifCond .lt 24, 3) := by decide +kernel
theorem dX10_isBarred_94 : decode cX10_isBarred 94 = .ok (.lload 5, 2) := by decide +kernel
theorem dX10_isBarred_96 : decode cX10_isBarred 96 = .ok (.aload_n 0, 1) := by decide +kernel
theorem dX10_isBarred_97 : decode cX10_isBarred 97 = .ok (.getfield 61, 3) := by decide +kernel
theorem dX10_isBarred_100 : decode cX10_isBarred 100 = .ok (.iconst 4, 1) := by decide +kernel
theorem dX10_isBarred_101 : decode cX10_isBarred 101 = .ok (.iload 7, 2) := by decide +kernel
theorem dX10_isBarred_103 : decode cX10_isBarred 103 = .ok (.imul, 1) := by decide +kernel
theorem dX10_isBarred_104 : decode cX10_isBarred 104 = .ok (.iconst 3, 1) := by decide +kernel
theorem dX10_isBarred_105 : decode cX10_isBarred 105 = .ok (.iadd, 1) := by decide +kernel
theorem dX10_isBarred_106 : decode cX10_isBarred 106 = .ok (.laload, 1) := by decide +kernel
theorem dX10_isBarred_107 : decode cX10_isBarred 107 = .ok (.lcmp, 1) := by decide +kernel
theorem dX10_isBarred_108 : decode cX10_isBarred 108 = .ok (.ifCond .gt 7, 3) := by decide +kernel
theorem dX10_isBarred_111 : decode cX10_isBarred 111 = .ok (.iconst 1, 1) := by decide +kernel
theorem dX10_isBarred_112 : decode cX10_isBarred 112 = .ok (.goto 4, 3) := by decide +kernel
theorem dX10_isBarred_115 : decode cX10_isBarred 115 = .ok (.iconst 0, 1) := by decide +kernel
theorem dX10_isBarred_116 : decode cX10_isBarred 116 = .ok (.istore 8, 2) := by decide +kernel
theorem dX10_isBarred_118 : decode cX10_isBarred 118 = .ok (.aload_n 0, 1) := by decide +kernel
theorem dX10_isBarred_119 : decode cX10_isBarred 119 = .ok (.getfield 58, 3) := by decide +kernel
theorem dX10_isBarred_122 : decode cX10_isBarred 122 = .ok (.iload 7, 2) := by decide +kernel
theorem dX10_isBarred_124 : decode cX10_isBarred 124 = .ok (.iaload, 1) := by decide +kernel
theorem dX10_isBarred_125 : decode cX10_isBarred 125 = .ok (.iload_n 1, 1) := by decide +kernel
theorem dX10_isBarred_126 : decode cX10_isBarred 126 = .ok (.if_icmp .eq 10, 3) := by decide +kernel
theorem dX10_isBarred_129 : decode cX10_isBarred 129 = .ok (.iload 8, 2) := by decide +kernel
theorem dX10_isBarred_131 : decode cX10_isBarred 131 = .ok (.ifCond .eq 5, 3) := by decide +kernel
theorem dX10_isBarred_134 : decode cX10_isBarred 134 = .ok (.iconst 1, 1) := by decide +kernel
theorem dX10_isBarred_135 : decode cX10_isBarred 135 = .ok (.ireturn, 1) := by decide +kernel
theorem dX10_isBarred_136 : decode cX10_isBarred 136 = .ok (.iinc 7 1, 3) := by decide +kernel
theorem dX10_isBarred_139 : decode cX10_isBarred 139 = .ok (.goto (-101), 3) := by decide +kernel
theorem dX10_isBarred_142 : decode cX10_isBarred 142 = .ok (.iconst 0, 1) := by decide +kernel
theorem dX10_isBarred_143 : decode cX10_isBarred 143 = .ok (.ireturn, 1) := by decide +kernel
theorem dX10_note_0 : decode cX10_note 0 = .ok (.bipush 40, 2) := by decide +kernel
theorem dX10_note_2 : decode cX10_note 2 = .ok (.iload_n 1, 1) := by decide +kernel
theorem dX10_note_3 : decode cX10_note 3 = .ok (.imul, 1) := by decide +kernel
theorem dX10_note_4 : decode cX10_note 4 = .ok (.istore 4, 2) := by decide +kernel
theorem dX10_note_6 : decode cX10_note 6 = .ok (.aload_n 0, 1) := by decide +kernel
theorem dX10_note_7 : decode cX10_note 7 = .ok (.getfield 37, 3) := by decide +kernel
theorem dX10_note_10 : decode cX10_note 10 = .ok (.iload_n 1, 1) := by decide +kernel
theorem dX10_note_11 : decode cX10_note 11 = .ok (.iaload, 1) := by decide +kernel
theorem dX10_note_12 : decode cX10_note 12 = .ok (.bipush 40, 2) := by decide +kernel
theorem dX10_note_14 : decode cX10_note 14 = .ok (.if_icmp .ne 99, 3) := by decide +kernel
theorem dX10_note_17 : decode cX10_note 17 = .ok (.iload 4, 2) := by decide +kernel
theorem dX10_note_19 : decode cX10_note 19 = .ok (.iconst 1, 1) := by decide +kernel
theorem dX10_note_20 : decode cX10_note 20 = .ok (.iadd, 1) := by decide +kernel
theorem dX10_note_21 : decode cX10_note 21 = .ok (.istore 5, 2) := by decide +kernel
theorem dX10_note_23 : decode cX10_note 23 = .ok (.iload 5, 2) := by decide +kernel
theorem dX10_note_25 : decode cX10_note 25 = .ok (.iload 4, 2) := by decide +kernel
theorem dX10_note_27 : decode cX10_note 27 = .ok (.bipush 40, 2) := by decide +kernel
theorem dX10_note_29 : decode cX10_note 29 = .ok (.iadd, 1) := by decide +kernel
theorem dX10_note_30 : decode cX10_note 30 = .ok (.if_icmp .ge 73, 3) := by decide +kernel
theorem dX10_note_33 : decode cX10_note 33 = .ok (.aload_n 0, 1) := by decide +kernel
theorem dX10_note_34 : decode cX10_note 34 = .ok (.getfield 40, 3) := by decide +kernel
theorem dX10_note_37 : decode cX10_note 37 = .ok (.iload 5, 2) := by decide +kernel
theorem dX10_note_39 : decode cX10_note 39 = .ok (.iconst 1, 1) := by decide +kernel
theorem dX10_note_40 : decode cX10_note 40 = .ok (.isub, 1) := by decide +kernel
theorem dX10_note_41 : decode cX10_note 41 = .ok (.aload_n 0, 1) := by decide +kernel
theorem dX10_note_42 : decode cX10_note 42 = .ok (.getfield 40, 3) := by decide +kernel
theorem dX10_note_45 : decode cX10_note 45 = .ok (.iload 5, 2) := by decide +kernel
theorem dX10_note_47 : decode cX10_note 47 = .ok (.iaload, 1) := by decide +kernel
theorem dX10_note_48 : decode cX10_note 48 = .ok (.iastore, 1) := by decide +kernel
theorem dX10_note_49 : decode cX10_note 49 = .ok (.aload_n 0, 1) := by decide +kernel
theorem dX10_note_50 : decode cX10_note 50 = .ok (.getfield 43, 3) := by decide +kernel
theorem dX10_note_53 : decode cX10_note 53 = .ok (.iload 5, 2) := by decide +kernel
theorem dX10_note_55 : decode cX10_note 55 = .ok (.iconst 1, 1) := by decide +kernel
theorem dX10_note_56 : decode cX10_note 56 = .ok (.isub, 1) := by decide +kernel
theorem dX10_note_57 : decode cX10_note 57 = .ok (.aload_n 0, 1) := by decide +kernel
theorem dX10_note_58 : decode cX10_note 58 = .ok (.getfield 43, 3) := by decide +kernel
theorem dX10_note_61 : decode cX10_note 61 = .ok (.iload 5, 2) := by decide +kernel
theorem dX10_note_63 : decode cX10_note 63 = .ok (.iaload, 1) := by decide +kernel
theorem dX10_note_64 : decode cX10_note 64 = .ok (.iastore, 1) := by decide +kernel
theorem dX10_note_65 : decode cX10_note 65 = .ok (.aload_n 0, 1) := by decide +kernel
theorem dX10_note_66 : decode cX10_note 66 = .ok (.getfield 46, 3) := by decide +kernel
theorem dX10_note_69 : decode cX10_note 69 = .ok (.iload 5, 2) := by decide +kernel
theorem dX10_note_71 : decode cX10_note 71 = .ok (.iconst 1, 1) := by decide +kernel
theorem dX10_note_72 : decode cX10_note 72 = .ok (.isub, 1) := by decide +kernel
theorem dX10_note_73 : decode cX10_note 73 = .ok (.aload_n 0, 1) := by decide +kernel
theorem dX10_note_74 : decode cX10_note 74 = .ok (.getfield 46, 3) := by decide +kernel
theorem dX10_note_77 : decode cX10_note 77 = .ok (.iload 5, 2) := by decide +kernel
theorem dX10_note_79 : decode cX10_note 79 = .ok (.baload, 1) := by decide +kernel
theorem dX10_note_80 : decode cX10_note 80 = .ok (.bastore, 1) := by decide +kernel
theorem dX10_note_81 : decode cX10_note 81 = .ok (.aload_n 0, 1) := by decide +kernel
theorem dX10_note_82 : decode cX10_note 82 = .ok (.getfield 49, 3) := by decide +kernel
theorem dX10_note_85 : decode cX10_note 85 = .ok (.iload 5, 2) := by decide +kernel
theorem dX10_note_87 : decode cX10_note 87 = .ok (.iconst 1, 1) := by decide +kernel
theorem dX10_note_88 : decode cX10_note 88 = .ok (.isub, 1) := by decide +kernel
theorem dX10_note_89 : decode cX10_note 89 = .ok (.aload_n 0, 1) := by decide +kernel
theorem dX10_note_90 : decode cX10_note 90 = .ok (.getfield 49, 3) := by decide +kernel
theorem dX10_note_93 : decode cX10_note 93 = .ok (.iload 5, 2) := by decide +kernel
theorem dX10_note_95 : decode cX10_note 95 = .ok (.laload, 1) := by decide +kernel
theorem dX10_note_96 : decode cX10_note 96 = .ok (.lastore, 1) := by decide +kernel
theorem dX10_note_97 : decode cX10_note 97 = .ok (.iinc 5 1, 3) := by decide +kernel
theorem dX10_note_100 : decode cX10_note 100 = .ok (.goto (-77), 3) := by decide +kernel
theorem dX10_note_103 : decode cX10_note 103 = .ok (.aload_n 0, 1) := by decide +kernel
theorem dX10_note_104 : decode cX10_note 104 = .ok (.getfield 37, 3) := by decide +kernel
theorem dX10_note_107 : decode cX10_note 107 = .ok (.iload_n 1, 1) := by decide +kernel
theorem dX10_note_108 : decode cX10_note 108 = .ok (.dup2, 1) := by decide +kernel
theorem dX10_note_109 : decode cX10_note 109 = .ok (.iaload, 1) := by decide +kernel
theorem dX10_note_110 : decode cX10_note 110 = .ok (.iconst 1, 1) := by decide +kernel
theorem dX10_note_111 : decode cX10_note 111 = .ok (.isub, 1) := by decide +kernel
theorem dX10_note_112 : decode cX10_note 112 = .ok (.iastore, 1) := by decide +kernel
theorem dX10_note_113 : decode cX10_note 113 = .ok (.iload 4, 2) := by decide +kernel
theorem dX10_note_115 : decode cX10_note 115 = .ok (.aload_n 0, 1) := by decide +kernel
theorem dX10_note_116 : decode cX10_note 116 = .ok (.getfield 37, 3) := by decide +kernel
theorem dX10_note_119 : decode cX10_note 119 = .ok (.iload_n 1, 1) := by decide +kernel
theorem dX10_note_120 : decode cX10_note 120 = .ok (.iaload, 1) := by decide +kernel
theorem dX10_note_121 : decode cX10_note 121 = .ok (.iadd, 1) := by decide +kernel
theorem dX10_note_122 : decode cX10_note 122 = .ok (.istore 5, 2) := by decide +kernel
theorem dX10_note_124 : decode cX10_note 124 = .ok (.aload_n 0, 1) := by decide +kernel
theorem dX10_note_125 : decode cX10_note 125 = .ok (.getfield 40, 3) := by decide +kernel
theorem dX10_note_128 : decode cX10_note 128 = .ok (.iload 5, 2) := by decide +kernel
theorem dX10_note_130 : decode cX10_note 130 = .ok (.iload_n 2, 1) := by decide +kernel
theorem dX10_note_131 : decode cX10_note 131 = .ok (.iastore, 1) := by decide +kernel
theorem dX10_note_132 : decode cX10_note 132 = .ok (.aload_n 0, 1) := by decide +kernel
theorem dX10_note_133 : decode cX10_note 133 = .ok (.getfield 43, 3) := by decide +kernel
theorem dX10_note_136 : decode cX10_note 136 = .ok (.iload 5, 2) := by decide +kernel
theorem dX10_note_138 : decode cX10_note 138 = .ok (.iload_n 3, 1) := by decide +kernel
theorem dX10_note_139 : decode cX10_note 139 = .ok (.iastore, 1) := by decide +kernel
theorem dX10_note_140 : decode cX10_note 140 = .ok (.aload_n 0, 1) := by decide +kernel
theorem dX10_note_141 : decode cX10_note 141 = .ok (.getfield 46, 3) := by decide +kernel
theorem dX10_note_144 : decode cX10_note 144 = .ok (.iload 5, 2) := by decide +kernel
theorem dX10_note_146 : decode cX10_note 146 = .ok (.aload_n 0, 1) := by decide +kernel
theorem dX10_note_147 : decode cX10_note 147 = .ok (.getfield 31, 3) := by decide +kernel
theorem dX10_note_150 : decode cX10_note 150 = .ok (.bipush 60, 2) := by decide +kernel
theorem dX10_note_152 : decode cX10_note 152 = .ok (.iload_n 1, 1) := by decide +kernel
theorem dX10_note_153 : decode cX10_note 153 = .ok (.imul, 1) := by decide +kernel
theorem dX10_note_154 : decode cX10_note 154 = .ok (.iload_n 2, 1) := by decide +kernel
theorem dX10_note_155 : decode cX10_note 155 = .ok (.iadd, 1) := by decide +kernel
theorem dX10_note_156 : decode cX10_note 156 = .ok (.baload, 1) := by decide +kernel
theorem dX10_note_157 : decode cX10_note 157 = .ok (.bastore, 1) := by decide +kernel
theorem dX10_note_158 : decode cX10_note 158 = .ok (.aload_n 0, 1) := by decide +kernel
theorem dX10_note_159 : decode cX10_note 159 = .ok (.getfield 49, 3) := by decide +kernel
theorem dX10_note_162 : decode cX10_note 162 = .ok (.iload 5, 2) := by decide +kernel
theorem dX10_note_164 : decode cX10_note 164 = .ok (.iload_n 3, 1) := by decide +kernel
theorem dX10_note_165 : decode cX10_note 165 = .ok (.bipush 6, 2) := by decide +kernel
theorem dX10_note_167 : decode cX10_note 167 = .ok (.if_icmp .ne 7, 3) := by decide +kernel
theorem dX10_note_170 : decode cX10_note 170 = .ok (.lconst 0, 1) := by decide +kernel
theorem dX10_note_171 : decode cX10_note 171 = .ok (.goto 20, 3) := by decide +kernel
theorem dX10_note_174 : decode cX10_note 174 = .ok (.aload_n 0, 1) := by decide +kernel
theorem dX10_note_175 : decode cX10_note 175 = .ok (.getfield 34, 3) := by decide +kernel
theorem dX10_note_178 : decode cX10_note 178 = .ok (.sipush 360, 3) := by decide +kernel
theorem dX10_note_181 : decode cX10_note 181 = .ok (.iload_n 1, 1) := by decide +kernel
theorem dX10_note_182 : decode cX10_note 182 = .ok (.imul, 1) := by decide +kernel
theorem dX10_note_183 : decode cX10_note 183 = .ok (.bipush 6, 2) := by decide +kernel
theorem dX10_note_185 : decode cX10_note 185 = .ok (.iload_n 2, 1) := by decide +kernel
theorem dX10_note_186 : decode cX10_note 186 = .ok (.imul, 1) := by decide +kernel
theorem dX10_note_187 : decode cX10_note 187 = .ok (.iadd, 1) := by decide +kernel
theorem dX10_note_188 : decode cX10_note 188 = .ok (.iload_n 3, 1) := by decide +kernel
theorem dX10_note_189 : decode cX10_note 189 = .ok (.iadd, 1) := by decide +kernel
theorem dX10_note_190 : decode cX10_note 190 = .ok (.laload, 1) := by decide +kernel
theorem dX10_note_191 : decode cX10_note 191 = .ok (.lastore, 1) := by decide +kernel
theorem dX10_note_192 : decode cX10_note 192 = .ok (.aload_n 0, 1) := by decide +kernel
theorem dX10_note_193 : decode cX10_note 193 = .ok (.getfield 37, 3) := by decide +kernel
theorem dX10_note_196 : decode cX10_note 196 = .ok (.iload_n 1, 1) := by decide +kernel
theorem dX10_note_197 : decode cX10_note 197 = .ok (.dup2, 1) := by decide +kernel
theorem dX10_note_198 : decode cX10_note 198 = .ok (.iaload, 1) := by decide +kernel
theorem dX10_note_199 : decode cX10_note 199 = .ok (.iconst 1, 1) := by decide +kernel
theorem dX10_note_200 : decode cX10_note 200 = .ok (.iadd, 1) := by decide +kernel
theorem dX10_note_201 : decode cX10_note 201 = .ok (.iastore, 1) := by decide +kernel
theorem dX10_note_202 : decode cX10_note 202 = .ok (.return_, 1) := by decide +kernel
theorem dX10_setsField_0 : decode cX10_setsField 0 = .ok (.sipush 360, 3) := by decide +kernel
theorem dX10_setsField_3 : decode cX10_setsField 3 = .ok (.iload_n 1, 1) := by decide +kernel
theorem dX10_setsField_4 : decode cX10_setsField 4 = .ok (.imul, 1) := by decide +kernel
theorem dX10_setsField_5 : decode cX10_setsField 5 = .ok (.bipush 6, 2) := by decide +kernel
theorem dX10_setsField_7 : decode cX10_setsField 7 = .ok (.iload_n 2, 1) := by decide +kernel
theorem dX10_setsField_8 : decode cX10_setsField 8 = .ok (.imul, 1) := by decide +kernel
theorem dX10_setsField_9 : decode cX10_setsField 9 = .ok (.iadd, 1) := by decide +kernel
theorem dX10_setsField_10 : decode cX10_setsField 10 = .ok (.iload_n 3, 1) := by decide +kernel
theorem dX10_setsField_11 : decode cX10_setsField 11 = .ok (.iadd, 1) := by decide +kernel
theorem dX10_setsField_12 : decode cX10_setsField 12 = .ok (.istore 6, 2) := by decide +kernel
theorem dX10_setsField_14 : decode cX10_setsField 14 = .ok (.aload_n 0, 1) := by decide +kernel
theorem dX10_setsField_15 : decode cX10_setsField 15 = .ok (.getfield 34, 3) := by decide +kernel
theorem dX10_setsField_18 : decode cX10_setsField 18 = .ok (.iload 6, 2) := by decide +kernel
theorem dX10_setsField_20 : decode cX10_setsField 20 = .ok (.laload, 1) := by decide +kernel
theorem dX10_setsField_21 : decode cX10_setsField 21 = .ok (.lload 4, 2) := by decide +kernel
theorem dX10_setsField_23 : decode cX10_setsField 23 = .ok (.lcmp, 1) := by decide +kernel
theorem dX10_setsField_24 : decode cX10_setsField 24 = .ok (.ifCond .eq 12, 3) := by decide +kernel
theorem dX10_setsField_27 : decode cX10_setsField 27 = .ok (.aload_n 0, 1) := by decide +kernel
theorem dX10_setsField_28 : decode cX10_setsField 28 = .ok (.iload_n 1, 1) := by decide +kernel
theorem dX10_setsField_29 : decode cX10_setsField 29 = .ok (.iload_n 2, 1) := by decide +kernel
theorem dX10_setsField_30 : decode cX10_setsField 30 = .ok (.invokevirtual 103, 3) := by decide +kernel
theorem dX10_setsField_33 : decode cX10_setsField 33 = .ok (.ifCond .eq 5, 3) := by decide +kernel
theorem dX10_setsField_36 : decode cX10_setsField 36 = .ok (.iconst 0, 1) := by decide +kernel
theorem dX10_setsField_37 : decode cX10_setsField 37 = .ok (.ireturn, 1) := by decide +kernel
theorem dX10_setsField_38 : decode cX10_setsField 38 = .ok (.aload_n 0, 1) := by decide +kernel
theorem dX10_setsField_39 : decode cX10_setsField 39 = .ok (.iload_n 1, 1) := by decide +kernel
theorem dX10_setsField_40 : decode cX10_setsField 40 = .ok (.iload_n 2, 1) := by decide +kernel
theorem dX10_setsField_41 : decode cX10_setsField 41 = .ok (.iload_n 3, 1) := by decide +kernel
theorem dX10_setsField_42 : decode cX10_setsField 42 = .ok (.invokevirtual 107, 3) := by decide +kernel
theorem dX10_setsField_45 : decode cX10_setsField 45 = .ok (.aload_n 0, 1) := by decide +kernel
theorem dX10_setsField_46 : decode cX10_setsField 46 = .ok (.getfield 34, 3) := by decide +kernel
theorem dX10_setsField_49 : decode cX10_setsField 49 = .ok (.iload 6, 2) := by decide +kernel
theorem dX10_setsField_51 : decode cX10_setsField 51 = .ok (.lload 4, 2) := by decide +kernel
theorem dX10_setsField_53 : decode cX10_setsField 53 = .ok (.lastore, 1) := by decide +kernel
theorem dX10_setsField_54 : decode cX10_setsField 54 = .ok (.iconst 1, 1) := by decide +kernel
theorem dX10_setsField_55 : decode cX10_setsField 55 = .ok (.ireturn, 1) := by decide +kernel
theorem dX10_set_0 : decode cX10_set 0 = .ok (.aload_n 0, 1) := by decide +kernel
theorem dX10_set_1 : decode cX10_set 1 = .ok (.iload_n 1, 1) := by decide +kernel
theorem dX10_set_2 : decode cX10_set 2 = .ok (.invokevirtual 111, 3) := by decide +kernel
theorem dX10_set_5 : decode cX10_set 5 = .ok (.ifCond .eq 22, 3) := by decide +kernel
theorem dX10_set_8 : decode cX10_set 8 = .ok (.aload_n 0, 1) := by decide +kernel
theorem dX10_set_9 : decode cX10_set 9 = .ok (.iload_n 2, 1) := by decide +kernel
theorem dX10_set_10 : decode cX10_set 10 = .ok (.invokevirtual 114, 3) := by decide +kernel
theorem dX10_set_13 : decode cX10_set 13 = .ok (.ifCond .eq 14, 3) := by decide +kernel
theorem dX10_set_16 : decode cX10_set 16 = .ok (.iload_n 3, 1) := by decide +kernel
theorem dX10_set_17 : decode cX10_set 17 = .ok (.invokestatic 117, 3) := by decide +kernel
theorem dX10_set_20 : decode cX10_set 20 = .ok (.ifCond .eq 7, 3) := by decide +kernel
theorem dX10_set_23 : decode cX10_set 23 = .ok (.iconst 1, 1) := by decide +kernel
theorem dX10_set_24 : decode cX10_set 24 = .ok (.goto 4, 3) := by decide +kernel
theorem dX10_set_27 : decode cX10_set 27 = .ok (.iconst 0, 1) := by decide +kernel
theorem dX10_set_28 : decode cX10_set 28 = .ok (.istore 6, 2) := by decide +kernel
theorem dX10_set_30 : decode cX10_set 30 = .ok (.aload_n 0, 1) := by decide +kernel
theorem dX10_set_31 : decode cX10_set 31 = .ok (.iload 6, 2) := by decide +kernel
theorem dX10_set_33 : decode cX10_set 33 = .ok (.ifCond .ne 7, 3) := by decide +kernel
theorem dX10_set_36 : decode cX10_set 36 = .ok (.iconst 1, 1) := by decide +kernel
theorem dX10_set_37 : decode cX10_set 37 = .ok (.goto 31, 3) := by decide +kernel
theorem dX10_set_40 : decode cX10_set 40 = .ok (.aload_n 0, 1) := by decide +kernel
theorem dX10_set_41 : decode cX10_set 41 = .ok (.getfield 28, 3) := by decide +kernel
theorem dX10_set_44 : decode cX10_set 44 = .ok (.iload_n 1, 1) := by decide +kernel
theorem dX10_set_45 : decode cX10_set 45 = .ok (.baload, 1) := by decide +kernel
theorem dX10_set_46 : decode cX10_set 46 = .ok (.ifCond .eq 21, 3) := by decide +kernel
theorem dX10_set_49 : decode cX10_set 49 = .ok (.aload_n 0, 1) := by decide +kernel
theorem dX10_set_50 : decode cX10_set 50 = .ok (.getfield 31, 3) := by decide +kernel
theorem dX10_set_53 : decode cX10_set 53 = .ok (.bipush 60, 2) := by decide +kernel
theorem dX10_set_55 : decode cX10_set 55 = .ok (.iload_n 1, 1) := by decide +kernel
theorem dX10_set_56 : decode cX10_set 56 = .ok (.imul, 1) := by decide +kernel
theorem dX10_set_57 : decode cX10_set 57 = .ok (.iload_n 2, 1) := by decide +kernel
theorem dX10_set_58 : decode cX10_set 58 = .ok (.iadd, 1) := by decide +kernel
theorem dX10_set_59 : decode cX10_set 59 = .ok (.baload, 1) := by decide +kernel
theorem dX10_set_60 : decode cX10_set 60 = .ok (.ifCond .eq 7, 3) := by decide +kernel
theorem dX10_set_63 : decode cX10_set 63 = .ok (.iconst 0, 1) := by decide +kernel
theorem dX10_set_64 : decode cX10_set 64 = .ok (.goto 4, 3) := by decide +kernel
theorem dX10_set_67 : decode cX10_set 67 = .ok (.iconst 2, 1) := by decide +kernel
theorem dX10_set_68 : decode cX10_set 68 = .ok (.putfield 76, 3) := by decide +kernel
theorem dX10_set_71 : decode cX10_set 71 = .ok (.aload_n 0, 1) := by decide +kernel
theorem dX10_set_72 : decode cX10_set 72 = .ok (.getfield 76, 3) := by decide +kernel
theorem dX10_set_75 : decode cX10_set 75 = .ok (.ifCond .ne 19, 3) := by decide +kernel
theorem dX10_set_78 : decode cX10_set 78 = .ok (.aload_n 0, 1) := by decide +kernel
theorem dX10_set_79 : decode cX10_set 79 = .ok (.iload_n 1, 1) := by decide +kernel
theorem dX10_set_80 : decode cX10_set 80 = .ok (.iload_n 2, 1) := by decide +kernel
theorem dX10_set_81 : decode cX10_set 81 = .ok (.iload_n 3, 1) := by decide +kernel
theorem dX10_set_82 : decode cX10_set 82 = .ok (.lload 4, 2) := by decide +kernel
theorem dX10_set_84 : decode cX10_set 84 = .ok (.invokevirtual 120, 3) := by decide +kernel
theorem dX10_set_87 : decode cX10_set 87 = .ok (.ifCond .eq 7, 3) := by decide +kernel
theorem dX10_set_90 : decode cX10_set 90 = .ok (.iconst 1, 1) := by decide +kernel
theorem dX10_set_91 : decode cX10_set 91 = .ok (.goto 4, 3) := by decide +kernel
theorem dX10_set_94 : decode cX10_set 94 = .ok (.iconst 0, 1) := by decide +kernel
theorem dX10_set_95 : decode cX10_set 95 = .ok (.ireturn, 1) := by decide +kernel
theorem dX10_drop_0 : decode cX10_drop 0 = .ok (.aload_n 0, 1) := by decide +kernel
theorem dX10_drop_1 : decode cX10_drop 1 = .ok (.iload_n 1, 1) := by decide +kernel
theorem dX10_drop_2 : decode cX10_drop 2 = .ok (.invokevirtual 111, 3) := by decide +kernel
theorem dX10_drop_5 : decode cX10_drop 5 = .ok (.ifCond .eq 15, 3) := by decide +kernel
theorem dX10_drop_8 : decode cX10_drop 8 = .ok (.aload_n 0, 1) := by decide +kernel
theorem dX10_drop_9 : decode cX10_drop 9 = .ok (.iload_n 2, 1) := by decide +kernel
theorem dX10_drop_10 : decode cX10_drop 10 = .ok (.invokevirtual 114, 3) := by decide +kernel
theorem dX10_drop_13 : decode cX10_drop 13 = .ok (.ifCond .eq 7, 3) := by decide +kernel
theorem dX10_drop_16 : decode cX10_drop 16 = .ok (.iconst 1, 1) := by decide +kernel
theorem dX10_drop_17 : decode cX10_drop 17 = .ok (.goto 4, 3) := by decide +kernel
theorem dX10_drop_20 : decode cX10_drop 20 = .ok (.iconst 0, 1) := by decide +kernel
theorem dX10_drop_21 : decode cX10_drop 21 = .ok (.istore_n 3, 1) := by decide +kernel
theorem dX10_drop_22 : decode cX10_drop 22 = .ok (.aload_n 0, 1) := by decide +kernel
theorem dX10_drop_23 : decode cX10_drop 23 = .ok (.iload_n 3, 1) := by decide +kernel
theorem dX10_drop_24 : decode cX10_drop 24 = .ok (.ifCond .ne 7, 3) := by decide +kernel
theorem dX10_drop_27 : decode cX10_drop 27 = .ok (.iconst 1, 1) := by decide +kernel
theorem dX10_drop_28 : decode cX10_drop 28 = .ok (.goto 31, 3) := by decide +kernel
theorem dX10_drop_31 : decode cX10_drop 31 = .ok (.aload_n 0, 1) := by decide +kernel
theorem dX10_drop_32 : decode cX10_drop 32 = .ok (.getfield 28, 3) := by decide +kernel
theorem dX10_drop_35 : decode cX10_drop 35 = .ok (.iload_n 1, 1) := by decide +kernel
theorem dX10_drop_36 : decode cX10_drop 36 = .ok (.baload, 1) := by decide +kernel
theorem dX10_drop_37 : decode cX10_drop 37 = .ok (.ifCond .eq 21, 3) := by decide +kernel
theorem dX10_drop_40 : decode cX10_drop 40 = .ok (.aload_n 0, 1) := by decide +kernel
theorem dX10_drop_41 : decode cX10_drop 41 = .ok (.getfield 31, 3) := by decide +kernel
theorem dX10_drop_44 : decode cX10_drop 44 = .ok (.bipush 60, 2) := by decide +kernel
theorem dX10_drop_46 : decode cX10_drop 46 = .ok (.iload_n 1, 1) := by decide +kernel
theorem dX10_drop_47 : decode cX10_drop 47 = .ok (.imul, 1) := by decide +kernel
theorem dX10_drop_48 : decode cX10_drop 48 = .ok (.iload_n 2, 1) := by decide +kernel
theorem dX10_drop_49 : decode cX10_drop 49 = .ok (.iadd, 1) := by decide +kernel
theorem dX10_drop_50 : decode cX10_drop 50 = .ok (.baload, 1) := by decide +kernel
theorem dX10_drop_51 : decode cX10_drop 51 = .ok (.ifCond .eq 7, 3) := by decide +kernel
theorem dX10_drop_54 : decode cX10_drop 54 = .ok (.iconst 0, 1) := by decide +kernel
theorem dX10_drop_55 : decode cX10_drop 55 = .ok (.goto 4, 3) := by decide +kernel
theorem dX10_drop_58 : decode cX10_drop 58 = .ok (.iconst 2, 1) := by decide +kernel
theorem dX10_drop_59 : decode cX10_drop 59 = .ok (.putfield 76, 3) := by decide +kernel
theorem dX10_drop_62 : decode cX10_drop 62 = .ok (.aload_n 0, 1) := by decide +kernel
theorem dX10_drop_63 : decode cX10_drop 63 = .ok (.getfield 76, 3) := by decide +kernel
theorem dX10_drop_66 : decode cX10_drop 66 = .ok (.ifCond .ne 12, 3) := by decide +kernel
theorem dX10_drop_69 : decode cX10_drop 69 = .ok (.aload_n 0, 1) := by decide +kernel
theorem dX10_drop_70 : decode cX10_drop 70 = .ok (.iload_n 1, 1) := by decide +kernel
theorem dX10_drop_71 : decode cX10_drop 71 = .ok (.iload_n 2, 1) := by decide +kernel
theorem dX10_drop_72 : decode cX10_drop 72 = .ok (.invokevirtual 103, 3) := by decide +kernel
theorem dX10_drop_75 : decode cX10_drop 75 = .ok (.ifCond .eq 5, 3) := by decide +kernel
theorem dX10_drop_78 : decode cX10_drop 78 = .ok (.iconst 0, 1) := by decide +kernel
theorem dX10_drop_79 : decode cX10_drop 79 = .ok (.ireturn, 1) := by decide +kernel
theorem dX10_drop_80 : decode cX10_drop 80 = .ok (.aload_n 0, 1) := by decide +kernel
theorem dX10_drop_81 : decode cX10_drop 81 = .ok (.iload_n 1, 1) := by decide +kernel
theorem dX10_drop_82 : decode cX10_drop 82 = .ok (.iload_n 2, 1) := by decide +kernel
theorem dX10_drop_83 : decode cX10_drop 83 = .ok (.bipush 6, 2) := by decide +kernel
theorem dX10_drop_85 : decode cX10_drop 85 = .ok (.invokevirtual 107, 3) := by decide +kernel
theorem dX10_drop_88 : decode cX10_drop 88 = .ok (.aload_n 0, 1) := by decide +kernel
theorem dX10_drop_89 : decode cX10_drop 89 = .ok (.getfield 31, 3) := by decide +kernel
theorem dX10_drop_92 : decode cX10_drop 92 = .ok (.bipush 60, 2) := by decide +kernel
theorem dX10_drop_94 : decode cX10_drop 94 = .ok (.iload_n 1, 1) := by decide +kernel
theorem dX10_drop_95 : decode cX10_drop 95 = .ok (.imul, 1) := by decide +kernel
theorem dX10_drop_96 : decode cX10_drop 96 = .ok (.iload_n 2, 1) := by decide +kernel
theorem dX10_drop_97 : decode cX10_drop 97 = .ok (.iadd, 1) := by decide +kernel
theorem dX10_drop_98 : decode cX10_drop 98 = .ok (.iconst 0, 1) := by decide +kernel
theorem dX10_drop_99 : decode cX10_drop 99 = .ok (.bastore, 1) := by decide +kernel
theorem dX10_drop_100 : decode cX10_drop 100 = .ok (.iconst 1, 1) := by decide +kernel
theorem dX10_drop_101 : decode cX10_drop 101 = .ok (.ireturn, 1) := by decide +kernel
theorem dX10_make_0 : decode cX10_make 0 = .ok (.aload_n 0, 1) := by decide +kernel
theorem dX10_make_1 : decode cX10_make 1 = .ok (.aload_n 0, 1) := by decide +kernel
theorem dX10_make_2 : decode cX10_make 2 = .ok (.iload_n 1, 1) := by decide +kernel
theorem dX10_make_3 : decode cX10_make 3 = .ok (.invokevirtual 111, 3) := by decide +kernel
theorem dX10_make_6 : decode cX10_make 6 = .ok (.ifCond .ne 7, 3) := by decide +kernel
theorem dX10_make_9 : decode cX10_make 9 = .ok (.iconst 1, 1) := by decide +kernel
theorem dX10_make_10 : decode cX10_make 10 = .ok (.goto 28, 3) := by decide +kernel
theorem dX10_make_13 : decode cX10_make 13 = .ok (.aload_n 0, 1) := by decide +kernel
theorem dX10_make_14 : decode cX10_make 14 = .ok (.getfield 28, 3) := by decide +kernel
theorem dX10_make_17 : decode cX10_make 17 = .ok (.iload_n 1, 1) := by decide +kernel
theorem dX10_make_18 : decode cX10_make 18 = .ok (.baload, 1) := by decide +kernel
theorem dX10_make_19 : decode cX10_make 19 = .ok (.ifCond .ne 7, 3) := by decide +kernel
theorem dX10_make_22 : decode cX10_make 22 = .ok (.iconst 2, 1) := by decide +kernel
theorem dX10_make_23 : decode cX10_make 23 = .ok (.goto 15, 3) := by decide +kernel
theorem dX10_make_26 : decode cX10_make 26 = .ok (.iload_n 2, 1) := by decide +kernel
theorem dX10_make_27 : decode cX10_make 27 = .ok (.invokestatic 85, 3) := by decide +kernel
theorem dX10_make_30 : decode cX10_make 30 = .ok (.ifCond .eq 7, 3) := by decide +kernel
theorem dX10_make_33 : decode cX10_make 33 = .ok (.iconst 0, 1) := by decide +kernel
theorem dX10_make_34 : decode cX10_make 34 = .ok (.goto 4, 3) := by decide +kernel
theorem dX10_make_37 : decode cX10_make 37 = .ok (.iconst 3, 1) := by decide +kernel
theorem dX10_make_38 : decode cX10_make 38 = .ok (.putfield 76, 3) := by decide +kernel
theorem dX10_make_41 : decode cX10_make 41 = .ok (.aload_n 0, 1) := by decide +kernel
theorem dX10_make_42 : decode cX10_make 42 = .ok (.getfield 76, 3) := by decide +kernel
theorem dX10_make_45 : decode cX10_make 45 = .ok (.ifCond .eq 5, 3) := by decide +kernel
theorem dX10_make_48 : decode cX10_make 48 = .ok (.iconst 0, 1) := by decide +kernel
theorem dX10_make_49 : decode cX10_make 49 = .ok (.ireturn, 1) := by decide +kernel
theorem dX10_make_50 : decode cX10_make 50 = .ok (.aload_n 0, 1) := by decide +kernel
theorem dX10_make_51 : decode cX10_make 51 = .ok (.getfield 79, 3) := by decide +kernel
theorem dX10_make_54 : decode cX10_make 54 = .ok (.bipush 60, 2) := by decide +kernel
theorem dX10_make_56 : decode cX10_make 56 = .ok (.if_icmp .ne 5, 3) := by decide +kernel
theorem dX10_make_59 : decode cX10_make 59 = .ok (.iconst (-1), 1) := by decide +kernel
theorem dX10_make_60 : decode cX10_make 60 = .ok (.ireturn, 1) := by decide +kernel
theorem dX10_make_61 : decode cX10_make 61 = .ok (.aload_n 0, 1) := by decide +kernel
theorem dX10_make_62 : decode cX10_make 62 = .ok (.getfield 7, 3) := by decide +kernel
theorem dX10_make_65 : decode cX10_make 65 = .ok (.aload_n 0, 1) := by decide +kernel
theorem dX10_make_66 : decode cX10_make 66 = .ok (.getfield 79, 3) := by decide +kernel
theorem dX10_make_69 : decode cX10_make 69 = .ok (.iload_n 2, 1) := by decide +kernel
theorem dX10_make_70 : decode cX10_make 70 = .ok (.iastore, 1) := by decide +kernel
theorem dX10_make_71 : decode cX10_make 71 = .ok (.aload_n 0, 1) := by decide +kernel
theorem dX10_make_72 : decode cX10_make 72 = .ok (.iload_n 1, 1) := by decide +kernel
theorem dX10_make_73 : decode cX10_make 73 = .ok (.aload_n 0, 1) := by decide +kernel
theorem dX10_make_74 : decode cX10_make 74 = .ok (.getfield 79, 3) := by decide +kernel
theorem dX10_make_77 : decode cX10_make 77 = .ok (.bipush 6, 2) := by decide +kernel
theorem dX10_make_79 : decode cX10_make 79 = .ok (.invokevirtual 107, 3) := by decide +kernel
theorem dX10_make_82 : decode cX10_make 82 = .ok (.aload_n 0, 1) := by decide +kernel
theorem dX10_make_83 : decode cX10_make 83 = .ok (.getfield 31, 3) := by decide +kernel
theorem dX10_make_86 : decode cX10_make 86 = .ok (.bipush 60, 2) := by decide +kernel
theorem dX10_make_88 : decode cX10_make 88 = .ok (.iload_n 1, 1) := by decide +kernel
theorem dX10_make_89 : decode cX10_make 89 = .ok (.imul, 1) := by decide +kernel
theorem dX10_make_90 : decode cX10_make 90 = .ok (.aload_n 0, 1) := by decide +kernel
theorem dX10_make_91 : decode cX10_make 91 = .ok (.getfield 79, 3) := by decide +kernel
theorem dX10_make_94 : decode cX10_make 94 = .ok (.iadd, 1) := by decide +kernel
theorem dX10_make_95 : decode cX10_make 95 = .ok (.iconst 1, 1) := by decide +kernel
theorem dX10_make_96 : decode cX10_make 96 = .ok (.bastore, 1) := by decide +kernel
theorem dX10_make_97 : decode cX10_make 97 = .ok (.aload_n 0, 1) := by decide +kernel
theorem dX10_make_98 : decode cX10_make 98 = .ok (.dup, 1) := by decide +kernel
theorem dX10_make_99 : decode cX10_make 99 = .ok (.getfield 79, 3) := by decide +kernel
theorem dX10_make_102 : decode cX10_make 102 = .ok (.iconst 1, 1) := by decide +kernel
theorem dX10_make_103 : decode cX10_make 103 = .ok (.iadd, 1) := by decide +kernel
theorem dX10_make_104 : decode cX10_make 104 = .ok (.putfield 79, 3) := by decide +kernel
theorem dX10_make_107 : decode cX10_make 107 = .ok (.aload_n 0, 1) := by decide +kernel
theorem dX10_make_108 : decode cX10_make 108 = .ok (.getfield 79, 3) := by decide +kernel
theorem dX10_make_111 : decode cX10_make 111 = .ok (.iconst 1, 1) := by decide +kernel
theorem dX10_make_112 : decode cX10_make 112 = .ok (.isub, 1) := by decide +kernel
theorem dX10_make_113 : decode cX10_make 113 = .ok (.ireturn, 1) := by decide +kernel
theorem dX10_undo_0 : decode cX10_undo 0 = .ok (.aload_n 0, 1) := by decide +kernel
theorem dX10_undo_1 : decode cX10_undo 1 = .ok (.aload_n 0, 1) := by decide +kernel
theorem dX10_undo_2 : decode cX10_undo 2 = .ok (.iload_n 1, 1) := by decide +kernel
theorem dX10_undo_3 : decode cX10_undo 3 = .ok (.invokevirtual 111, 3) := by decide +kernel
theorem dX10_undo_6 : decode cX10_undo 6 = .ok (.ifCond .ne 7, 3) := by decide +kernel
theorem dX10_undo_9 : decode cX10_undo 9 = .ok (.iconst 1, 1) := by decide +kernel
theorem dX10_undo_10 : decode cX10_undo 10 = .ok (.goto 17, 3) := by decide +kernel
theorem dX10_undo_13 : decode cX10_undo 13 = .ok (.aload_n 0, 1) := by decide +kernel
theorem dX10_undo_14 : decode cX10_undo 14 = .ok (.getfield 28, 3) := by decide +kernel
theorem dX10_undo_17 : decode cX10_undo 17 = .ok (.iload_n 1, 1) := by decide +kernel
theorem dX10_undo_18 : decode cX10_undo 18 = .ok (.baload, 1) := by decide +kernel
theorem dX10_undo_19 : decode cX10_undo 19 = .ok (.ifCond .eq 7, 3) := by decide +kernel
theorem dX10_undo_22 : decode cX10_undo 22 = .ok (.iconst 0, 1) := by decide +kernel
theorem dX10_undo_23 : decode cX10_undo 23 = .ok (.goto 4, 3) := by decide +kernel
theorem dX10_undo_26 : decode cX10_undo 26 = .ok (.iconst 2, 1) := by decide +kernel
theorem dX10_undo_27 : decode cX10_undo 27 = .ok (.putfield 76, 3) := by decide +kernel
theorem dX10_undo_30 : decode cX10_undo 30 = .ok (.aload_n 0, 1) := by decide +kernel
theorem dX10_undo_31 : decode cX10_undo 31 = .ok (.getfield 76, 3) := by decide +kernel
theorem dX10_undo_34 : decode cX10_undo 34 = .ok (.ifCond .ne 12, 3) := by decide +kernel
theorem dX10_undo_37 : decode cX10_undo 37 = .ok (.aload_n 0, 1) := by decide +kernel
theorem dX10_undo_38 : decode cX10_undo 38 = .ok (.getfield 37, 3) := by decide +kernel
theorem dX10_undo_41 : decode cX10_undo 41 = .ok (.iload_n 1, 1) := by decide +kernel
theorem dX10_undo_42 : decode cX10_undo 42 = .ok (.iaload, 1) := by decide +kernel
theorem dX10_undo_43 : decode cX10_undo 43 = .ok (.ifCond .ne 5, 3) := by decide +kernel
theorem dX10_undo_46 : decode cX10_undo 46 = .ok (.iconst 0, 1) := by decide +kernel
theorem dX10_undo_47 : decode cX10_undo 47 = .ok (.ireturn, 1) := by decide +kernel
theorem dX10_undo_48 : decode cX10_undo 48 = .ok (.aload_n 0, 1) := by decide +kernel
theorem dX10_undo_49 : decode cX10_undo 49 = .ok (.getfield 37, 3) := by decide +kernel
theorem dX10_undo_52 : decode cX10_undo 52 = .ok (.iload_n 1, 1) := by decide +kernel
theorem dX10_undo_53 : decode cX10_undo 53 = .ok (.dup2, 1) := by decide +kernel
theorem dX10_undo_54 : decode cX10_undo 54 = .ok (.iaload, 1) := by decide +kernel
theorem dX10_undo_55 : decode cX10_undo 55 = .ok (.iconst 1, 1) := by decide +kernel
theorem dX10_undo_56 : decode cX10_undo 56 = .ok (.isub, 1) := by decide +kernel
theorem dX10_undo_57 : decode cX10_undo 57 = .ok (.iastore, 1) := by decide +kernel
theorem dX10_undo_58 : decode cX10_undo 58 = .ok (.bipush 40, 2) := by decide +kernel
theorem dX10_undo_60 : decode cX10_undo 60 = .ok (.iload_n 1, 1) := by decide +kernel
theorem dX10_undo_61 : decode cX10_undo 61 = .ok (.imul, 1) := by decide +kernel
theorem dX10_undo_62 : decode cX10_undo 62 = .ok (.aload_n 0, 1) := by decide +kernel
theorem dX10_undo_63 : decode cX10_undo 63 = .ok (.getfield 37, 3) := by decide +kernel
theorem dX10_undo_66 : decode cX10_undo 66 = .ok (.iload_n 1, 1) := by decide +kernel
theorem dX10_undo_67 : decode cX10_undo 67 = .ok (.iaload, 1) := by decide +kernel
theorem dX10_undo_68 : decode cX10_undo 68 = .ok (.iadd, 1) := by decide +kernel
theorem dX10_undo_69 : decode cX10_undo 69 = .ok (.istore_n 2, 1) := by decide +kernel
theorem dX10_undo_70 : decode cX10_undo 70 = .ok (.aload_n 0, 1) := by decide +kernel
theorem dX10_undo_71 : decode cX10_undo 71 = .ok (.getfield 40, 3) := by decide +kernel
theorem dX10_undo_74 : decode cX10_undo 74 = .ok (.iload_n 2, 1) := by decide +kernel
theorem dX10_undo_75 : decode cX10_undo 75 = .ok (.iaload, 1) := by decide +kernel
theorem dX10_undo_76 : decode cX10_undo 76 = .ok (.istore_n 3, 1) := by decide +kernel
theorem dX10_undo_77 : decode cX10_undo 77 = .ok (.aload_n 0, 1) := by decide +kernel
theorem dX10_undo_78 : decode cX10_undo 78 = .ok (.getfield 43, 3) := by decide +kernel
theorem dX10_undo_81 : decode cX10_undo 81 = .ok (.iload_n 2, 1) := by decide +kernel
theorem dX10_undo_82 : decode cX10_undo 82 = .ok (.iaload, 1) := by decide +kernel
theorem dX10_undo_83 : decode cX10_undo 83 = .ok (.bipush 6, 2) := by decide +kernel
theorem dX10_undo_85 : decode cX10_undo 85 = .ok (.if_icmp .ne 23, 3) := by decide +kernel
theorem dX10_undo_88 : decode cX10_undo 88 = .ok (.aload_n 0, 1) := by decide +kernel
theorem dX10_undo_89 : decode cX10_undo 89 = .ok (.getfield 31, 3) := by decide +kernel
theorem dX10_undo_92 : decode cX10_undo 92 = .ok (.bipush 60, 2) := by decide +kernel
theorem dX10_undo_94 : decode cX10_undo 94 = .ok (.iload_n 1, 1) := by decide +kernel
theorem dX10_undo_95 : decode cX10_undo 95 = .ok (.imul, 1) := by decide +kernel
theorem dX10_undo_96 : decode cX10_undo 96 = .ok (.iload_n 3, 1) := by decide +kernel
theorem dX10_undo_97 : decode cX10_undo 97 = .ok (.iadd, 1) := by decide +kernel
theorem dX10_undo_98 : decode cX10_undo 98 = .ok (.aload_n 0, 1) := by decide +kernel
theorem dX10_undo_99 : decode cX10_undo 99 = .ok (.getfield 46, 3) := by decide +kernel
theorem dX10_undo_102 : decode cX10_undo 102 = .ok (.iload_n 2, 1) := by decide +kernel
theorem dX10_undo_103 : decode cX10_undo 103 = .ok (.baload, 1) := by decide +kernel
theorem dX10_undo_104 : decode cX10_undo 104 = .ok (.bastore, 1) := by decide +kernel
theorem dX10_undo_105 : decode cX10_undo 105 = .ok (.goto 31, 3) := by decide +kernel
theorem dX10_undo_108 : decode cX10_undo 108 = .ok (.aload_n 0, 1) := by decide +kernel
theorem dX10_undo_109 : decode cX10_undo 109 = .ok (.getfield 34, 3) := by decide +kernel
theorem dX10_undo_112 : decode cX10_undo 112 = .ok (.sipush 360, 3) := by decide +kernel
theorem dX10_undo_115 : decode cX10_undo 115 = .ok (.iload_n 1, 1) := by decide +kernel
theorem dX10_undo_116 : decode cX10_undo 116 = .ok (.imul, 1) := by decide +kernel
theorem dX10_undo_117 : decode cX10_undo 117 = .ok (.bipush 6, 2) := by decide +kernel
theorem dX10_undo_119 : decode cX10_undo 119 = .ok (.iload_n 3, 1) := by decide +kernel
theorem dX10_undo_120 : decode cX10_undo 120 = .ok (.imul, 1) := by decide +kernel
theorem dX10_undo_121 : decode cX10_undo 121 = .ok (.iadd, 1) := by decide +kernel
theorem dX10_undo_122 : decode cX10_undo 122 = .ok (.aload_n 0, 1) := by decide +kernel
theorem dX10_undo_123 : decode cX10_undo 123 = .ok (.getfield 43, 3) := by decide +kernel
theorem dX10_undo_126 : decode cX10_undo 126 = .ok (.iload_n 2, 1) := by decide +kernel
theorem dX10_undo_127 : decode cX10_undo 127 = .ok (.iaload, 1) := by decide +kernel
theorem dX10_undo_128 : decode cX10_undo 128 = .ok (.iadd, 1) := by decide +kernel
theorem dX10_undo_129 : decode cX10_undo 129 = .ok (.aload_n 0, 1) := by decide +kernel
theorem dX10_undo_130 : decode cX10_undo 130 = .ok (.getfield 49, 3) := by decide +kernel
theorem dX10_undo_133 : decode cX10_undo 133 = .ok (.iload_n 2, 1) := by decide +kernel
theorem dX10_undo_134 : decode cX10_undo 134 = .ok (.laload, 1) := by decide +kernel
theorem dX10_undo_135 : decode cX10_undo 135 = .ok (.lastore, 1) := by decide +kernel
theorem dX10_undo_136 : decode cX10_undo 136 = .ok (.iconst 1, 1) := by decide +kernel
theorem dX10_undo_137 : decode cX10_undo 137 = .ok (.ireturn, 1) := by decide +kernel
theorem dX10_headHas_0 : decode cX10_headHas 0 = .ok (.aload_n 0, 1) := by decide +kernel
theorem dX10_headHas_1 : decode cX10_headHas 1 = .ok (.getfield 17, 3) := by decide +kernel
theorem dX10_headHas_4 : decode cX10_headHas 4 = .ok (.bipush 60, 2) := by decide +kernel
theorem dX10_headHas_6 : decode cX10_headHas 6 = .ok (.aload_n 0, 1) := by decide +kernel
theorem dX10_headHas_7 : decode cX10_headHas 7 = .ok (.invokevirtual 92, 3) := by decide +kernel
theorem dX10_headHas_10 : decode cX10_headHas 10 = .ok (.imul, 1) := by decide +kernel
theorem dX10_headHas_11 : decode cX10_headHas 11 = .ok (.iload_n 1, 1) := by decide +kernel
theorem dX10_headHas_12 : decode cX10_headHas 12 = .ok (.iadd, 1) := by decide +kernel
theorem dX10_headHas_13 : decode cX10_headHas 13 = .ok (.baload, 1) := by decide +kernel
theorem dX10_headHas_14 : decode cX10_headHas 14 = .ok (.ireturn, 1) := by decide +kernel
theorem dX10_baseHas_0 : decode cX10_baseHas 0 = .ok (.aload_n 0, 1) := by decide +kernel
theorem dX10_baseHas_1 : decode cX10_baseHas 1 = .ok (.getfield 17, 3) := by decide +kernel
theorem dX10_baseHas_4 : decode cX10_baseHas 4 = .ok (.bipush 60, 2) := by decide +kernel
theorem dX10_baseHas_6 : decode cX10_baseHas 6 = .ok (.aload_n 0, 1) := by decide +kernel
theorem dX10_baseHas_7 : decode cX10_baseHas 7 = .ok (.getfield 25, 3) := by decide +kernel
theorem dX10_baseHas_10 : decode cX10_baseHas 10 = .ok (.iload_n 1, 1) := by decide +kernel
theorem dX10_baseHas_11 : decode cX10_baseHas 11 = .ok (.iaload, 1) := by decide +kernel
theorem dX10_baseHas_12 : decode cX10_baseHas 12 = .ok (.imul, 1) := by decide +kernel
theorem dX10_baseHas_13 : decode cX10_baseHas 13 = .ok (.iload_n 2, 1) := by decide +kernel
theorem dX10_baseHas_14 : decode cX10_baseHas 14 = .ok (.iadd, 1) := by decide +kernel
theorem dX10_baseHas_15 : decode cX10_baseHas 15 = .ok (.baload, 1) := by decide +kernel
theorem dX10_baseHas_16 : decode cX10_baseHas 16 = .ok (.ireturn, 1) := by decide +kernel
theorem dX10_headValue_0 : decode cX10_headValue 0 = .ok (.aload_n 0, 1) := by decide +kernel
theorem dX10_headValue_1 : decode cX10_headValue 1 = .ok (.getfield 21, 3) := by decide +kernel
theorem dX10_headValue_4 : decode cX10_headValue 4 = .ok (.sipush 360, 3) := by decide +kernel
theorem dX10_headValue_7 : decode cX10_headValue 7 = .ok (.aload_n 0, 1) := by decide +kernel
theorem dX10_headValue_8 : decode cX10_headValue 8 = .ok (.invokevirtual 92, 3) := by decide +kernel
theorem dX10_headValue_11 : decode cX10_headValue 11 = .ok (.imul, 1) := by decide +kernel
theorem dX10_headValue_12 : decode cX10_headValue 12 = .ok (.bipush 6, 2) := by decide +kernel
theorem dX10_headValue_14 : decode cX10_headValue 14 = .ok (.iload_n 1, 1) := by decide +kernel
theorem dX10_headValue_15 : decode cX10_headValue 15 = .ok (.imul, 1) := by decide +kernel
theorem dX10_headValue_16 : decode cX10_headValue 16 = .ok (.iadd, 1) := by decide +kernel
theorem dX10_headValue_17 : decode cX10_headValue 17 = .ok (.iload_n 2, 1) := by decide +kernel
theorem dX10_headValue_18 : decode cX10_headValue 18 = .ok (.iadd, 1) := by decide +kernel
theorem dX10_headValue_19 : decode cX10_headValue 19 = .ok (.laload, 1) := by decide +kernel
theorem dX10_headValue_20 : decode cX10_headValue 20 = .ok (.lreturn, 1) := by decide +kernel
theorem dX10_baseValue_0 : decode cX10_baseValue 0 = .ok (.aload_n 0, 1) := by decide +kernel
theorem dX10_baseValue_1 : decode cX10_baseValue 1 = .ok (.getfield 21, 3) := by decide +kernel
theorem dX10_baseValue_4 : decode cX10_baseValue 4 = .ok (.sipush 360, 3) := by decide +kernel
theorem dX10_baseValue_7 : decode cX10_baseValue 7 = .ok (.aload_n 0, 1) := by decide +kernel
theorem dX10_baseValue_8 : decode cX10_baseValue 8 = .ok (.getfield 25, 3) := by decide +kernel
theorem dX10_baseValue_11 : decode cX10_baseValue 11 = .ok (.iload_n 1, 1) := by decide +kernel
theorem dX10_baseValue_12 : decode cX10_baseValue 12 = .ok (.iaload, 1) := by decide +kernel
theorem dX10_baseValue_13 : decode cX10_baseValue 13 = .ok (.imul, 1) := by decide +kernel
theorem dX10_baseValue_14 : decode cX10_baseValue 14 = .ok (.bipush 6, 2) := by decide +kernel
theorem dX10_baseValue_16 : decode cX10_baseValue 16 = .ok (.iload_n 2, 1) := by decide +kernel
theorem dX10_baseValue_17 : decode cX10_baseValue 17 = .ok (.imul, 1) := by decide +kernel
theorem dX10_baseValue_18 : decode cX10_baseValue 18 = .ok (.iadd, 1) := by decide +kernel
theorem dX10_baseValue_19 : decode cX10_baseValue 19 = .ok (.iload_n 3, 1) := by decide +kernel
theorem dX10_baseValue_20 : decode cX10_baseValue 20 = .ok (.iadd, 1) := by decide +kernel
theorem dX10_baseValue_21 : decode cX10_baseValue 21 = .ok (.laload, 1) := by decide +kernel
theorem dX10_baseValue_22 : decode cX10_baseValue 22 = .ok (.lreturn, 1) := by decide +kernel
theorem dX10_ownValue_0 : decode cX10_ownValue 0 = .ok (.aload_n 0, 1) := by decide +kernel
theorem dX10_ownValue_1 : decode cX10_ownValue 1 = .ok (.getfield 34, 3) := by decide +kernel
theorem dX10_ownValue_4 : decode cX10_ownValue 4 = .ok (.sipush 360, 3) := by decide +kernel
theorem dX10_ownValue_7 : decode cX10_ownValue 7 = .ok (.iload_n 1, 1) := by decide +kernel
theorem dX10_ownValue_8 : decode cX10_ownValue 8 = .ok (.imul, 1) := by decide +kernel
theorem dX10_ownValue_9 : decode cX10_ownValue 9 = .ok (.bipush 6, 2) := by decide +kernel
theorem dX10_ownValue_11 : decode cX10_ownValue 11 = .ok (.iload_n 2, 1) := by decide +kernel
theorem dX10_ownValue_12 : decode cX10_ownValue 12 = .ok (.imul, 1) := by decide +kernel
theorem dX10_ownValue_13 : decode cX10_ownValue 13 = .ok (.iadd, 1) := by decide +kernel
theorem dX10_ownValue_14 : decode cX10_ownValue 14 = .ok (.iload_n 3, 1) := by decide +kernel
theorem dX10_ownValue_15 : decode cX10_ownValue 15 = .ok (.iadd, 1) := by decide +kernel
theorem dX10_ownValue_16 : decode cX10_ownValue 16 = .ok (.laload, 1) := by decide +kernel
theorem dX10_ownValue_17 : decode cX10_ownValue 17 = .ok (.lreturn, 1) := by decide +kernel
theorem dX10_isHeadAsBase_0 : decode cX10_isHeadAsBase 0 = .ok (.iconst 1, 1) := by decide +kernel
theorem dX10_isHeadAsBase_1 : decode cX10_isHeadAsBase 1 = .ok (.istore_n 3, 1) := by decide +kernel
theorem dX10_isHeadAsBase_2 : decode cX10_isHeadAsBase 2 = .ok (.iconst 0, 1) := by decide +kernel
theorem dX10_isHeadAsBase_3 : decode cX10_isHeadAsBase 3 = .ok (.istore 4, 2) := by decide +kernel
theorem dX10_isHeadAsBase_5 : decode cX10_isHeadAsBase 5 = .ok (.iload 4, 2) := by decide +kernel
theorem dX10_isHeadAsBase_7 : decode cX10_isHeadAsBase 7 = .ok (.bipush 6, 2) := by decide +kernel
theorem dX10_isHeadAsBase_9 : decode cX10_isHeadAsBase 9 = .ok (.if_icmp .ge 38, 3) := by decide +kernel
theorem dX10_isHeadAsBase_12 : decode cX10_isHeadAsBase 12 = .ok (.iload_n 3, 1) := by decide +kernel
theorem dX10_isHeadAsBase_13 : decode cX10_isHeadAsBase 13 = .ok (.ifCond .eq 26, 3) := by decide +kernel
theorem dX10_isHeadAsBase_16 : decode cX10_isHeadAsBase 16 = .ok (.aload_n 0, 1) := by decide +kernel
theorem dX10_isHeadAsBase_17 : decode cX10_isHeadAsBase 17 = .ok (.iload_n 2, 1) := by decide +kernel
theorem dX10_isHeadAsBase_18 : decode cX10_isHeadAsBase 18 = .ok (.iload 4, 2) := by decide +kernel
theorem dX10_isHeadAsBase_20 : decode cX10_isHeadAsBase 20 = .ok (.invokevirtual 124, 3) := by decide +kernel
theorem dX10_isHeadAsBase_23 : decode cX10_isHeadAsBase 23 = .ok (.aload_n 0, 1) := by decide +kernel
theorem dX10_isHeadAsBase_24 : decode cX10_isHeadAsBase 24 = .ok (.iload_n 1, 1) := by decide +kernel
theorem dX10_isHeadAsBase_25 : decode cX10_isHeadAsBase 25 = .ok (.iload_n 2, 1) := by decide +kernel
theorem dX10_isHeadAsBase_26 : decode cX10_isHeadAsBase 26 = .ok (.iload 4, 2) := by decide +kernel
theorem dX10_isHeadAsBase_28 : decode cX10_isHeadAsBase 28 = .ok (.invokevirtual 128, 3) := by decide +kernel
theorem dX10_isHeadAsBase_31 : decode cX10_isHeadAsBase 31 = .ok (.lcmp, 1) := by decide +kernel
theorem dX10_isHeadAsBase_32 : decode cX10_isHeadAsBase 32 = .ok (.ifCond .ne 7, 3) := by decide +kernel
theorem dX10_isHeadAsBase_35 : decode cX10_isHeadAsBase 35 = .ok (.iconst 1, 1) := by decide +kernel
theorem dX10_isHeadAsBase_36 : decode cX10_isHeadAsBase 36 = .ok (.goto 4, 3) := by decide +kernel
theorem dX10_isHeadAsBase_39 : decode cX10_isHeadAsBase 39 = .ok (.iconst 0, 1) := by decide +kernel
theorem dX10_isHeadAsBase_40 : decode cX10_isHeadAsBase 40 = .ok (.istore_n 3, 1) := by decide +kernel
theorem dX10_isHeadAsBase_41 : decode cX10_isHeadAsBase 41 = .ok (.iinc 4 1, 3) := by decide +kernel
theorem dX10_isHeadAsBase_44 : decode cX10_isHeadAsBase 44 = .ok (.goto (-39), 3) := by decide +kernel
theorem dX10_isHeadAsBase_47 : decode cX10_isHeadAsBase 47 = .ok (.iload_n 3, 1) := by decide +kernel
theorem dX10_isHeadAsBase_48 : decode cX10_isHeadAsBase 48 = .ok (.ireturn, 1) := by decide +kernel
theorem dX10_isOwnAsBase_0 : decode cX10_isOwnAsBase 0 = .ok (.iconst 1, 1) := by decide +kernel
theorem dX10_isOwnAsBase_1 : decode cX10_isOwnAsBase 1 = .ok (.istore_n 3, 1) := by decide +kernel
theorem dX10_isOwnAsBase_2 : decode cX10_isOwnAsBase 2 = .ok (.iconst 0, 1) := by decide +kernel
theorem dX10_isOwnAsBase_3 : decode cX10_isOwnAsBase 3 = .ok (.istore 4, 2) := by decide +kernel
theorem dX10_isOwnAsBase_5 : decode cX10_isOwnAsBase 5 = .ok (.iload 4, 2) := by decide +kernel
theorem dX10_isOwnAsBase_7 : decode cX10_isOwnAsBase 7 = .ok (.bipush 6, 2) := by decide +kernel
theorem dX10_isOwnAsBase_9 : decode cX10_isOwnAsBase 9 = .ok (.if_icmp .ge 39, 3) := by decide +kernel
theorem dX10_isOwnAsBase_12 : decode cX10_isOwnAsBase 12 = .ok (.iload_n 3, 1) := by decide +kernel
theorem dX10_isOwnAsBase_13 : decode cX10_isOwnAsBase 13 = .ok (.ifCond .eq 27, 3) := by decide +kernel
theorem dX10_isOwnAsBase_16 : decode cX10_isOwnAsBase 16 = .ok (.aload_n 0, 1) := by decide +kernel
theorem dX10_isOwnAsBase_17 : decode cX10_isOwnAsBase 17 = .ok (.iload_n 1, 1) := by decide +kernel
theorem dX10_isOwnAsBase_18 : decode cX10_isOwnAsBase 18 = .ok (.iload_n 2, 1) := by decide +kernel
theorem dX10_isOwnAsBase_19 : decode cX10_isOwnAsBase 19 = .ok (.iload 4, 2) := by decide +kernel
theorem dX10_isOwnAsBase_21 : decode cX10_isOwnAsBase 21 = .ok (.invokevirtual 132, 3) := by decide +kernel
theorem dX10_isOwnAsBase_24 : decode cX10_isOwnAsBase 24 = .ok (.aload_n 0, 1) := by decide +kernel
theorem dX10_isOwnAsBase_25 : decode cX10_isOwnAsBase 25 = .ok (.iload_n 1, 1) := by decide +kernel
theorem dX10_isOwnAsBase_26 : decode cX10_isOwnAsBase 26 = .ok (.iload_n 2, 1) := by decide +kernel
theorem dX10_isOwnAsBase_27 : decode cX10_isOwnAsBase 27 = .ok (.iload 4, 2) := by decide +kernel
theorem dX10_isOwnAsBase_29 : decode cX10_isOwnAsBase 29 = .ok (.invokevirtual 128, 3) := by decide +kernel
theorem dX10_isOwnAsBase_32 : decode cX10_isOwnAsBase 32 = .ok (.lcmp, 1) := by decide +kernel
theorem dX10_isOwnAsBase_33 : decode cX10_isOwnAsBase 33 = .ok (.ifCond .ne 7, 3) := by decide +kernel
theorem dX10_isOwnAsBase_36 : decode cX10_isOwnAsBase 36 = .ok (.iconst 1, 1) := by decide +kernel
theorem dX10_isOwnAsBase_37 : decode cX10_isOwnAsBase 37 = .ok (.goto 4, 3) := by decide +kernel
theorem dX10_isOwnAsBase_40 : decode cX10_isOwnAsBase 40 = .ok (.iconst 0, 1) := by decide +kernel
theorem dX10_isOwnAsBase_41 : decode cX10_isOwnAsBase 41 = .ok (.istore_n 3, 1) := by decide +kernel
theorem dX10_isOwnAsBase_42 : decode cX10_isOwnAsBase 42 = .ok (.iinc 4 1, 3) := by decide +kernel
theorem dX10_isOwnAsBase_45 : decode cX10_isOwnAsBase 45 = .ok (.goto (-40), 3) := by decide +kernel
theorem dX10_isOwnAsBase_48 : decode cX10_isOwnAsBase 48 = .ok (.iload_n 3, 1) := by decide +kernel
theorem dX10_isOwnAsBase_49 : decode cX10_isOwnAsBase 49 = .ok (.ireturn, 1) := by decide +kernel
theorem dX10_add_0 : decode cX10_add 0 = .ok (.aload_n 0, 1) := by decide +kernel
theorem dX10_add_1 : decode cX10_add 1 = .ok (.getfield 55, 3) := by decide +kernel
theorem dX10_add_4 : decode cX10_add 4 = .ok (.aload_n 0, 1) := by decide +kernel
theorem dX10_add_5 : decode cX10_add 5 = .ok (.getfield 135, 3) := by decide +kernel
theorem dX10_add_8 : decode cX10_add 8 = .ok (.bipush 7, 2) := by decide +kernel
theorem dX10_add_10 : decode cX10_add 10 = .ok (.iload_n 1, 1) := by decide +kernel
theorem dX10_add_11 : decode cX10_add 11 = .ok (.imul, 1) := by decide +kernel
theorem dX10_add_12 : decode cX10_add 12 = .ok (.iload_n 2, 1) := by decide +kernel
theorem dX10_add_13 : decode cX10_add 13 = .ok (.iadd, 1) := by decide +kernel
theorem dX10_add_14 : decode cX10_add 14 = .ok (.iastore, 1) := by decide +kernel
theorem dX10_add_15 : decode cX10_add 15 = .ok (.aload_n 0, 1) := by decide +kernel
theorem dX10_add_16 : decode cX10_add 16 = .ok (.dup, 1) := by decide +kernel
theorem dX10_add_17 : decode cX10_add 17 = .ok (.getfield 135, 3) := by decide +kernel
theorem dX10_add_20 : decode cX10_add 20 = .ok (.iconst 1, 1) := by decide +kernel
theorem dX10_add_21 : decode cX10_add 21 = .ok (.iadd, 1) := by decide +kernel
theorem dX10_add_22 : decode cX10_add 22 = .ok (.putfield 135, 3) := by decide +kernel
theorem dX10_add_25 : decode cX10_add 25 = .ok (.return_, 1) := by decide +kernel
theorem dX10_sideOf_0 : decode cX10_sideOf 0 = .ok (.aload_n 0, 1) := by decide +kernel
theorem dX10_sideOf_1 : decode cX10_sideOf 1 = .ok (.getfield 52, 3) := by decide +kernel
theorem dX10_sideOf_4 : decode cX10_sideOf 4 = .ok (.sipush 420, 3) := by decide +kernel
theorem dX10_sideOf_7 : decode cX10_sideOf 7 = .ok (.iload_n 1, 1) := by decide +kernel
theorem dX10_sideOf_8 : decode cX10_sideOf 8 = .ok (.imul, 1) := by decide +kernel
theorem dX10_sideOf_9 : decode cX10_sideOf 9 = .ok (.bipush 7, 2) := by decide +kernel
theorem dX10_sideOf_11 : decode cX10_sideOf 11 = .ok (.iload_n 2, 1) := by decide +kernel
theorem dX10_sideOf_12 : decode cX10_sideOf 12 = .ok (.imul, 1) := by decide +kernel
theorem dX10_sideOf_13 : decode cX10_sideOf 13 = .ok (.iadd, 1) := by decide +kernel
theorem dX10_sideOf_14 : decode cX10_sideOf 14 = .ok (.iload_n 3, 1) := by decide +kernel
theorem dX10_sideOf_15 : decode cX10_sideOf 15 = .ok (.iadd, 1) := by decide +kernel
theorem dX10_sideOf_16 : decode cX10_sideOf 16 = .ok (.iaload, 1) := by decide +kernel
theorem dX10_sideOf_17 : decode cX10_sideOf 17 = .ok (.iconst 1, 1) := by decide +kernel
theorem dX10_sideOf_18 : decode cX10_sideOf 18 = .ok (.isub, 1) := by decide +kernel
theorem dX10_sideOf_19 : decode cX10_sideOf 19 = .ok (.ireturn, 1) := by decide +kernel
theorem dX10_findConflicts_0 : decode cX10_findConflicts 0 = .ok (.aload_n 0, 1) := by decide +kernel
theorem dX10_findConflicts_1 : decode cX10_findConflicts 1 = .ok (.getfield 31, 3) := by decide +kernel
theorem dX10_findConflicts_4 : decode cX10_findConflicts 4 = .ok (.bipush 60, 2) := by decide +kernel
theorem dX10_findConflicts_6 : decode cX10_findConflicts 6 = .ok (.iload_n 1, 1) := by decide +kernel
theorem dX10_findConflicts_7 : decode cX10_findConflicts 7 = .ok (.imul, 1) := by decide +kernel
theorem dX10_findConflicts_8 : decode cX10_findConflicts 8 = .ok (.iload_n 2, 1) := by decide +kernel
theorem dX10_findConflicts_9 : decode cX10_findConflicts 9 = .ok (.iadd, 1) := by decide +kernel
theorem dX10_findConflicts_10 : decode cX10_findConflicts 10 = .ok (.baload, 1) := by decide +kernel
theorem dX10_findConflicts_11 : decode cX10_findConflicts 11 = .ok (.istore_n 3, 1) := by decide +kernel
theorem dX10_findConflicts_12 : decode cX10_findConflicts 12 = .ok (.aload_n 0, 1) := by decide +kernel
theorem dX10_findConflicts_13 : decode cX10_findConflicts 13 = .ok (.iload_n 1, 1) := by decide +kernel
theorem dX10_findConflicts_14 : decode cX10_findConflicts 14 = .ok (.iload_n 2, 1) := by decide +kernel
theorem dX10_findConflicts_15 : decode cX10_findConflicts 15 = .ok (.invokevirtual 138, 3) := by decide +kernel
theorem dX10_findConflicts_18 : decode cX10_findConflicts 18 = .ok (.ifCond .eq 16, 3) := by decide +kernel
theorem dX10_findConflicts_21 : decode cX10_findConflicts 21 = .ok (.iload_n 3, 1) := by decide +kernel
theorem dX10_findConflicts_22 : decode cX10_findConflicts 22 = .ok (.ifCond .eq 13, 3) := by decide +kernel
theorem dX10_findConflicts_25 : decode cX10_findConflicts 25 = .ok (.aload_n 0, 1) := by decide +kernel
theorem dX10_findConflicts_26 : decode cX10_findConflicts 26 = .ok (.iload_n 1, 1) := by decide +kernel
theorem dX10_findConflicts_27 : decode cX10_findConflicts 27 = .ok (.iload_n 2, 1) := by decide +kernel
theorem dX10_findConflicts_28 : decode cX10_findConflicts 28 = .ok (.invokevirtual 141, 3) := by decide +kernel
theorem dX10_findConflicts_31 : decode cX10_findConflicts 31 = .ok (.ifCond .eq 4, 3) := by decide +kernel
theorem dX10_findConflicts_34 : decode cX10_findConflicts 34 = .ok (.return_, 1) := by decide +kernel
theorem dX10_findConflicts_35 : decode cX10_findConflicts 35 = .ok (.iload_n 3, 1) := by decide +kernel
theorem dX10_findConflicts_36 : decode cX10_findConflicts 36 = .ok (.ifCond .ne 28, 3) := by decide +kernel
theorem dX10_findConflicts_39 : decode cX10_findConflicts 39 = .ok (.aload_n 0, 1) := by decide +kernel
theorem dX10_findConflicts_40 : decode cX10_findConflicts 40 = .ok (.iload_n 2, 1) := by decide +kernel
theorem dX10_findConflicts_41 : decode cX10_findConflicts 41 = .ok (.invokevirtual 144, 3) := by decide +kernel
theorem dX10_findConflicts_44 : decode cX10_findConflicts 44 = .ok (.ifCond .eq 19, 3) := by decide +kernel
theorem dX10_findConflicts_47 : decode cX10_findConflicts 47 = .ok (.aload_n 0, 1) := by decide +kernel
theorem dX10_findConflicts_48 : decode cX10_findConflicts 48 = .ok (.iload_n 1, 1) := by decide +kernel
theorem dX10_findConflicts_49 : decode cX10_findConflicts 49 = .ok (.iload_n 2, 1) := by decide +kernel
theorem dX10_findConflicts_50 : decode cX10_findConflicts 50 = .ok (.invokevirtual 147, 3) := by decide +kernel
theorem dX10_findConflicts_53 : decode cX10_findConflicts 53 = .ok (.ifCond .ne 10, 3) := by decide +kernel
theorem dX10_findConflicts_56 : decode cX10_findConflicts 56 = .ok (.aload_n 0, 1) := by decide +kernel
theorem dX10_findConflicts_57 : decode cX10_findConflicts 57 = .ok (.iload_n 2, 1) := by decide +kernel
theorem dX10_findConflicts_58 : decode cX10_findConflicts 58 = .ok (.bipush 6, 2) := by decide +kernel
theorem dX10_findConflicts_60 : decode cX10_findConflicts 60 = .ok (.invokevirtual 150, 3) := by decide +kernel
theorem dX10_findConflicts_63 : decode cX10_findConflicts 63 = .ok (.return_, 1) := by decide +kernel
theorem dX10_findConflicts_64 : decode cX10_findConflicts 64 = .ok (.aload_n 0, 1) := by decide +kernel
theorem dX10_findConflicts_65 : decode cX10_findConflicts 65 = .ok (.iload_n 2, 1) := by decide +kernel
theorem dX10_findConflicts_66 : decode cX10_findConflicts 66 = .ok (.invokevirtual 144, 3) := by decide +kernel
theorem dX10_findConflicts_69 : decode cX10_findConflicts 69 = .ok (.ifCond .ne 11, 3) := by decide +kernel
theorem dX10_findConflicts_72 : decode cX10_findConflicts 72 = .ok (.aload_n 0, 1) := by decide +kernel
theorem dX10_findConflicts_73 : decode cX10_findConflicts 73 = .ok (.iload_n 2, 1) := by decide +kernel
theorem dX10_findConflicts_74 : decode cX10_findConflicts 74 = .ok (.bipush 6, 2) := by decide +kernel
theorem dX10_findConflicts_76 : decode cX10_findConflicts 76 = .ok (.invokevirtual 150, 3) := by decide +kernel
theorem dX10_findConflicts_79 : decode cX10_findConflicts 79 = .ok (.return_, 1) := by decide +kernel
theorem dX10_findConflicts_80 : decode cX10_findConflicts 80 = .ok (.iconst 0, 1) := by decide +kernel
theorem dX10_findConflicts_81 : decode cX10_findConflicts 81 = .ok (.istore 4, 2) := by decide +kernel
theorem dX10_findConflicts_83 : decode cX10_findConflicts 83 = .ok (.iload 4, 2) := by decide +kernel
theorem dX10_findConflicts_85 : decode cX10_findConflicts 85 = .ok (.bipush 6, 2) := by decide +kernel
theorem dX10_findConflicts_87 : decode cX10_findConflicts 87 = .ok (.if_icmp .ge 69, 3) := by decide +kernel
theorem dX10_findConflicts_90 : decode cX10_findConflicts 90 = .ok (.aload_n 0, 1) := by decide +kernel
theorem dX10_findConflicts_91 : decode cX10_findConflicts 91 = .ok (.iload_n 1, 1) := by decide +kernel
theorem dX10_findConflicts_92 : decode cX10_findConflicts 92 = .ok (.iload_n 2, 1) := by decide +kernel
theorem dX10_findConflicts_93 : decode cX10_findConflicts 93 = .ok (.iload 4, 2) := by decide +kernel
theorem dX10_findConflicts_95 : decode cX10_findConflicts 95 = .ok (.invokevirtual 128, 3) := by decide +kernel
theorem dX10_findConflicts_98 : decode cX10_findConflicts 98 = .ok (.lstore 5, 2) := by decide +kernel
theorem dX10_findConflicts_100 : decode cX10_findConflicts 100 = .ok (.aload_n 0, 1) := by decide +kernel
theorem dX10_findConflicts_101 : decode cX10_findConflicts 101 = .ok (.iload_n 2, 1) := by decide +kernel
theorem dX10_findConflicts_102 : decode cX10_findConflicts 102 = .ok (.iload 4, 2) := by decide +kernel
theorem dX10_findConflicts_104 : decode cX10_findConflicts 104 = .ok (.invokevirtual 124, 3) := by decide +kernel
theorem dX10_findConflicts_107 : decode cX10_findConflicts 107 = .ok (.lstore 7, 2) := by decide +kernel
theorem dX10_findConflicts_109 : decode cX10_findConflicts 109 = .ok (.aload_n 0, 1) := by decide +kernel
theorem dX10_findConflicts_110 : decode cX10_findConflicts 110 = .ok (.iload_n 1, 1) := by decide +kernel
theorem dX10_findConflicts_111 : decode cX10_findConflicts 111 = .ok (.iload_n 2, 1) := by decide +kernel
theorem dX10_findConflicts_112 : decode cX10_findConflicts 112 = .ok (.iload 4, 2) := by decide +kernel
theorem dX10_findConflicts_114 : decode cX10_findConflicts 114 = .ok (.invokevirtual 132, 3) := by decide +kernel
theorem dX10_findConflicts_117 : decode cX10_findConflicts 117 = .ok (.lstore 9, 2) := by decide +kernel
theorem dX10_findConflicts_119 : decode cX10_findConflicts 119 = .ok (.lload 9, 2) := by decide +kernel
theorem dX10_findConflicts_121 : decode cX10_findConflicts 121 = .ok (.lload 5, 2) := by decide +kernel
theorem dX10_findConflicts_123 : decode cX10_findConflicts 123 = .ok (.lcmp, 1) := by decide +kernel
theorem dX10_findConflicts_124 : decode cX10_findConflicts 124 = .ok (.ifCond .eq 26, 3) := by decide +kernel
theorem dX10_findConflicts_127 : decode cX10_findConflicts 127 = .ok (.lload 7, 2) := by decide +kernel
theorem dX10_findConflicts_129 : decode cX10_findConflicts 129 = .ok (.lload 5, 2) := by decide +kernel
theorem dX10_findConflicts_131 : decode cX10_findConflicts 131 = .ok (.lcmp, 1) := by decide +kernel
theorem dX10_findConflicts_132 : decode cX10_findConflicts 132 = .ok (.ifCond .eq 18, 3) := by decide +kernel
theorem dX10_findConflicts_135 : decode cX10_findConflicts 135 = .ok (.lload 7, 2) := by decide +kernel
theorem dX10_findConflicts_137 : decode cX10_findConflicts 137 = .ok (.lload 9, 2) := by decide +kernel
theorem dX10_findConflicts_139 : decode cX10_findConflicts 139 = .ok (.lcmp, 1) := by decide +kernel
theorem dX10_findConflicts_140 : decode cX10_findConflicts 140 = .ok (.ifCond .eq 10, 3) := by decide +kernel
theorem dX10_findConflicts_143 : decode cX10_findConflicts 143 = .ok (.aload_n 0, 1) := by decide +kernel
theorem dX10_findConflicts_144 : decode cX10_findConflicts 144 = .ok (.iload_n 2, 1) := by decide +kernel
theorem dX10_findConflicts_145 : decode cX10_findConflicts 145 = .ok (.iload 4, 2) := by decide +kernel
theorem dX10_findConflicts_147 : decode cX10_findConflicts 147 = .ok (.invokevirtual 150, 3) := by decide +kernel
theorem dX10_findConflicts_150 : decode cX10_findConflicts 150 = .ok (.iinc 4 1, 3) := by decide +kernel
theorem dX10_findConflicts_153 : decode cX10_findConflicts 153 = .ok (.goto (-70), 3) := by decide +kernel
theorem dX10_findConflicts_156 : decode cX10_findConflicts 156 = .ok (.return_, 1) := by decide +kernel
theorem dX10_unsettled_0 : decode cX10_unsettled 0 = .ok (.iconst 0, 1) := by decide +kernel
theorem dX10_unsettled_1 : decode cX10_unsettled 1 = .ok (.istore_n 2, 1) := by decide +kernel
theorem dX10_unsettled_2 : decode cX10_unsettled 2 = .ok (.iconst 0, 1) := by decide +kernel
theorem dX10_unsettled_3 : decode cX10_unsettled 3 = .ok (.istore_n 3, 1) := by decide +kernel
theorem dX10_unsettled_4 : decode cX10_unsettled 4 = .ok (.iload_n 3, 1) := by decide +kernel
theorem dX10_unsettled_5 : decode cX10_unsettled 5 = .ok (.aload_n 0, 1) := by decide +kernel
theorem dX10_unsettled_6 : decode cX10_unsettled 6 = .ok (.getfield 135, 3) := by decide +kernel
theorem dX10_unsettled_9 : decode cX10_unsettled 9 = .ok (.if_icmp .ge 44, 3) := by decide +kernel
theorem dX10_unsettled_12 : decode cX10_unsettled 12 = .ok (.iload_n 2, 1) := by decide +kernel
theorem dX10_unsettled_13 : decode cX10_unsettled 13 = .ok (.aload_n 0, 1) := by decide +kernel
theorem dX10_unsettled_14 : decode cX10_unsettled 14 = .ok (.iload_n 1, 1) := by decide +kernel
theorem dX10_unsettled_15 : decode cX10_unsettled 15 = .ok (.aload_n 0, 1) := by decide +kernel
theorem dX10_unsettled_16 : decode cX10_unsettled 16 = .ok (.getfield 55, 3) := by decide +kernel
theorem dX10_unsettled_19 : decode cX10_unsettled 19 = .ok (.iload_n 3, 1) := by decide +kernel
theorem dX10_unsettled_20 : decode cX10_unsettled 20 = .ok (.iaload, 1) := by decide +kernel
theorem dX10_unsettled_21 : decode cX10_unsettled 21 = .ok (.bipush 7, 2) := by decide +kernel
theorem dX10_unsettled_23 : decode cX10_unsettled 23 = .ok (.idiv, 1) := by decide +kernel
theorem dX10_unsettled_24 : decode cX10_unsettled 24 = .ok (.aload_n 0, 1) := by decide +kernel
theorem dX10_unsettled_25 : decode cX10_unsettled 25 = .ok (.getfield 55, 3) := by decide +kernel
theorem dX10_unsettled_28 : decode cX10_unsettled 28 = .ok (.iload_n 3, 1) := by decide +kernel
theorem dX10_unsettled_29 : decode cX10_unsettled 29 = .ok (.iaload, 1) := by decide +kernel
theorem dX10_unsettled_30 : decode cX10_unsettled 30 = .ok (.bipush 7, 2) := by decide +kernel
theorem dX10_unsettled_32 : decode cX10_unsettled 32 = .ok (.irem, 1) := by decide +kernel
theorem dX10_unsettled_33 : decode cX10_unsettled 33 = .ok (.invokevirtual 154, 3) := by decide +kernel
theorem dX10_unsettled_36 : decode cX10_unsettled 36 = .ok (.iconst (-1), 1) := by decide +kernel
theorem dX10_unsettled_37 : decode cX10_unsettled 37 = .ok (.if_icmp .ne 7, 3) := by decide +kernel
theorem dX10_unsettled_40 : decode cX10_unsettled 40 = .ok (.iconst 1, 1) := by decide +kernel
theorem dX10_unsettled_41 : decode cX10_unsettled 41 = .ok (.goto 4, 3) := by decide +kernel
theorem dX10_unsettled_44 : decode cX10_unsettled 44 = .ok (.iconst 0, 1) := by decide +kernel
theorem dX10_unsettled_45 : decode cX10_unsettled 45 = .ok (.iadd, 1) := by decide +kernel
theorem dX10_unsettled_46 : decode cX10_unsettled 46 = .ok (.istore_n 2, 1) := by decide +kernel
theorem dX10_unsettled_47 : decode cX10_unsettled 47 = .ok (.iinc 3 1, 3) := by decide +kernel
theorem dX10_unsettled_50 : decode cX10_unsettled 50 = .ok (.goto (-46), 3) := by decide +kernel
theorem dX10_unsettled_53 : decode cX10_unsettled 53 = .ok (.iload_n 2, 1) := by decide +kernel
theorem dX10_unsettled_54 : decode cX10_unsettled 54 = .ok (.ireturn, 1) := by decide +kernel
theorem dX10_isConflict_0 : decode cX10_isConflict 0 = .ok (.iconst 0, 1) := by decide +kernel
theorem dX10_isConflict_1 : decode cX10_isConflict 1 = .ok (.istore_n 3, 1) := by decide +kernel
theorem dX10_isConflict_2 : decode cX10_isConflict 2 = .ok (.iconst 0, 1) := by decide +kernel
theorem dX10_isConflict_3 : decode cX10_isConflict 3 = .ok (.istore 4, 2) := by decide +kernel
theorem dX10_isConflict_5 : decode cX10_isConflict 5 = .ok (.iload 4, 2) := by decide +kernel
theorem dX10_isConflict_7 : decode cX10_isConflict 7 = .ok (.aload_n 0, 1) := by decide +kernel
theorem dX10_isConflict_8 : decode cX10_isConflict 8 = .ok (.getfield 135, 3) := by decide +kernel
theorem dX10_isConflict_11 : decode cX10_isConflict 11 = .ok (.if_icmp .ge 35, 3) := by decide +kernel
theorem dX10_isConflict_14 : decode cX10_isConflict 14 = .ok (.iload_n 3, 1) := by decide +kernel
theorem dX10_isConflict_15 : decode cX10_isConflict 15 = .ok (.ifCond .ne 19, 3) := by decide +kernel
theorem dX10_isConflict_18 : decode cX10_isConflict 18 = .ok (.aload_n 0, 1) := by decide +kernel
theorem dX10_isConflict_19 : decode cX10_isConflict 19 = .ok (.getfield 55, 3) := by decide +kernel
theorem dX10_isConflict_22 : decode cX10_isConflict 22 = .ok (.iload 4, 2) := by decide +kernel
theorem dX10_isConflict_24 : decode cX10_isConflict 24 = .ok (.iaload, 1) := by decide +kernel
theorem dX10_isConflict_25 : decode cX10_isConflict 25 = .ok (.bipush 7, 2) := by decide +kernel
theorem dX10_isConflict_27 : decode cX10_isConflict 27 = .ok (.iload_n 1, 1) := by decide +kernel
theorem dX10_isConflict_28 : decode cX10_isConflict 28 = .ok (.imul, 1) := by decide +kernel
theorem dX10_isConflict_29 : decode cX10_isConflict 29 = .ok (.iload_n 2, 1) := by decide +kernel
theorem dX10_isConflict_30 : decode cX10_isConflict 30 = .ok (.iadd, 1) := by decide +kernel
theorem dX10_isConflict_31 : decode cX10_isConflict 31 = .ok (.if_icmp .ne 7, 3) := by decide +kernel
theorem dX10_isConflict_34 : decode cX10_isConflict 34 = .ok (.iconst 1, 1) := by decide +kernel
theorem dX10_isConflict_35 : decode cX10_isConflict 35 = .ok (.goto 4, 3) := by decide +kernel
theorem dX10_isConflict_38 : decode cX10_isConflict 38 = .ok (.iconst 0, 1) := by decide +kernel
theorem dX10_isConflict_39 : decode cX10_isConflict 39 = .ok (.istore_n 3, 1) := by decide +kernel
theorem dX10_isConflict_40 : decode cX10_isConflict 40 = .ok (.iinc 4 1, 3) := by decide +kernel
theorem dX10_isConflict_43 : decode cX10_isConflict 43 = .ok (.goto (-38), 3) := by decide +kernel
theorem dX10_isConflict_46 : decode cX10_isConflict 46 = .ok (.iload_n 3, 1) := by decide +kernel
theorem dX10_isConflict_47 : decode cX10_isConflict 47 = .ok (.ireturn, 1) := by decide +kernel
theorem dX10_takeAll_0 : decode cX10_takeAll 0 = .ok (.aload_n 0, 1) := by decide +kernel
theorem dX10_takeAll_1 : decode cX10_takeAll 1 = .ok (.getfield 17, 3) := by decide +kernel
theorem dX10_takeAll_4 : decode cX10_takeAll 4 = .ok (.bipush 60, 2) := by decide +kernel
theorem dX10_takeAll_6 : decode cX10_takeAll 6 = .ok (.aload_n 0, 1) := by decide +kernel
theorem dX10_takeAll_7 : decode cX10_takeAll 7 = .ok (.invokevirtual 92, 3) := by decide +kernel
theorem dX10_takeAll_10 : decode cX10_takeAll 10 = .ok (.imul, 1) := by decide +kernel
theorem dX10_takeAll_11 : decode cX10_takeAll 11 = .ok (.iload_n 2, 1) := by decide +kernel
theorem dX10_takeAll_12 : decode cX10_takeAll 12 = .ok (.iadd, 1) := by decide +kernel
theorem dX10_takeAll_13 : decode cX10_takeAll 13 = .ok (.aload_n 0, 1) := by decide +kernel
theorem dX10_takeAll_14 : decode cX10_takeAll 14 = .ok (.getfield 31, 3) := by decide +kernel
theorem dX10_takeAll_17 : decode cX10_takeAll 17 = .ok (.bipush 60, 2) := by decide +kernel
theorem dX10_takeAll_19 : decode cX10_takeAll 19 = .ok (.iload_n 1, 1) := by decide +kernel
theorem dX10_takeAll_20 : decode cX10_takeAll 20 = .ok (.imul, 1) := by decide +kernel
theorem dX10_takeAll_21 : decode cX10_takeAll 21 = .ok (.iload_n 2, 1) := by decide +kernel
theorem dX10_takeAll_22 : decode cX10_takeAll 22 = .ok (.iadd, 1) := by decide +kernel
theorem dX10_takeAll_23 : decode cX10_takeAll 23 = .ok (.baload, 1) := by decide +kernel
theorem dX10_takeAll_24 : decode cX10_takeAll 24 = .ok (.bastore, 1) := by decide +kernel
theorem dX10_takeAll_25 : decode cX10_takeAll 25 = .ok (.iconst 0, 1) := by decide +kernel
theorem dX10_takeAll_26 : decode cX10_takeAll 26 = .ok (.istore_n 3, 1) := by decide +kernel
theorem dX10_takeAll_27 : decode cX10_takeAll 27 = .ok (.iload_n 3, 1) := by decide +kernel
theorem dX10_takeAll_28 : decode cX10_takeAll 28 = .ok (.bipush 6, 2) := by decide +kernel
theorem dX10_takeAll_30 : decode cX10_takeAll 30 = .ok (.if_icmp .ge 16, 3) := by decide +kernel
theorem dX10_takeAll_33 : decode cX10_takeAll 33 = .ok (.aload_n 0, 1) := by decide +kernel
theorem dX10_takeAll_34 : decode cX10_takeAll 34 = .ok (.iload_n 1, 1) := by decide +kernel
theorem dX10_takeAll_35 : decode cX10_takeAll 35 = .ok (.iload_n 2, 1) := by decide +kernel
theorem dX10_takeAll_36 : decode cX10_takeAll 36 = .ok (.iload_n 3, 1) := by decide +kernel
theorem dX10_takeAll_37 : decode cX10_takeAll 37 = .ok (.invokevirtual 158, 3) := by decide +kernel
theorem dX10_takeAll_40 : decode cX10_takeAll 40 = .ok (.iinc 3 1, 3) := by decide +kernel
theorem dX10_takeAll_43 : decode cX10_takeAll 43 = .ok (.goto (-16), 3) := by decide +kernel
theorem dX10_takeAll_46 : decode cX10_takeAll 46 = .ok (.return_, 1) := by decide +kernel
theorem dX10_takeField_0 : decode cX10_takeField 0 = .ok (.aload_n 0, 1) := by decide +kernel
theorem dX10_takeField_1 : decode cX10_takeField 1 = .ok (.getfield 21, 3) := by decide +kernel
theorem dX10_takeField_4 : decode cX10_takeField 4 = .ok (.sipush 360, 3) := by decide +kernel
theorem dX10_takeField_7 : decode cX10_takeField 7 = .ok (.aload_n 0, 1) := by decide +kernel
theorem dX10_takeField_8 : decode cX10_takeField 8 = .ok (.invokevirtual 92, 3) := by decide +kernel
theorem dX10_takeField_11 : decode cX10_takeField 11 = .ok (.imul, 1) := by decide +kernel
theorem dX10_takeField_12 : decode cX10_takeField 12 = .ok (.bipush 6, 2) := by decide +kernel
theorem dX10_takeField_14 : decode cX10_takeField 14 = .ok (.iload_n 2, 1) := by decide +kernel
theorem dX10_takeField_15 : decode cX10_takeField 15 = .ok (.imul, 1) := by decide +kernel
theorem dX10_takeField_16 : decode cX10_takeField 16 = .ok (.iadd, 1) := by decide +kernel
theorem dX10_takeField_17 : decode cX10_takeField 17 = .ok (.iload_n 3, 1) := by decide +kernel
theorem dX10_takeField_18 : decode cX10_takeField 18 = .ok (.iadd, 1) := by decide +kernel
theorem dX10_takeField_19 : decode cX10_takeField 19 = .ok (.aload_n 0, 1) := by decide +kernel
theorem dX10_takeField_20 : decode cX10_takeField 20 = .ok (.iload_n 1, 1) := by decide +kernel
theorem dX10_takeField_21 : decode cX10_takeField 21 = .ok (.iload_n 2, 1) := by decide +kernel
theorem dX10_takeField_22 : decode cX10_takeField 22 = .ok (.iload_n 3, 1) := by decide +kernel
theorem dX10_takeField_23 : decode cX10_takeField 23 = .ok (.invokevirtual 132, 3) := by decide +kernel
theorem dX10_takeField_26 : decode cX10_takeField 26 = .ok (.lastore, 1) := by decide +kernel
theorem dX10_takeField_27 : decode cX10_takeField 27 = .ok (.return_, 1) := by decide +kernel
theorem dX10_merge_0 : decode cX10_merge 0 = .ok (.aload_n 0, 1) := by decide +kernel
theorem dX10_merge_1 : decode cX10_merge 1 = .ok (.getfield 31, 3) := by decide +kernel
theorem dX10_merge_4 : decode cX10_merge 4 = .ok (.bipush 60, 2) := by decide +kernel
theorem dX10_merge_6 : decode cX10_merge 6 = .ok (.iload_n 1, 1) := by decide +kernel
theorem dX10_merge_7 : decode cX10_merge 7 = .ok (.imul, 1) := by decide +kernel
theorem dX10_merge_8 : decode cX10_merge 8 = .ok (.iload_n 2, 1) := by decide +kernel
theorem dX10_merge_9 : decode cX10_merge 9 = .ok (.iadd, 1) := by decide +kernel
theorem dX10_merge_10 : decode cX10_merge 10 = .ok (.baload, 1) := by decide +kernel
theorem dX10_merge_11 : decode cX10_merge 11 = .ok (.istore_n 3, 1) := by decide +kernel
theorem dX10_merge_12 : decode cX10_merge 12 = .ok (.aload_n 0, 1) := by decide +kernel
theorem dX10_merge_13 : decode cX10_merge 13 = .ok (.iload_n 1, 1) := by decide +kernel
theorem dX10_merge_14 : decode cX10_merge 14 = .ok (.iload_n 2, 1) := by decide +kernel
theorem dX10_merge_15 : decode cX10_merge 15 = .ok (.invokevirtual 138, 3) := by decide +kernel
theorem dX10_merge_18 : decode cX10_merge 18 = .ok (.ifCond .ne 14, 3) := by decide +kernel
theorem dX10_merge_21 : decode cX10_merge 21 = .ok (.iload_n 3, 1) := by decide +kernel
theorem dX10_merge_22 : decode cX10_merge 22 = .ok (.ifCond .eq 9, 3) := by decide +kernel
theorem dX10_merge_25 : decode cX10_merge 25 = .ok (.aload_n 0, 1) := by decide +kernel
theorem dX10_merge_26 : decode cX10_merge 26 = .ok (.iload_n 1, 1) := by decide +kernel
theorem dX10_merge_27 : decode cX10_merge 27 = .ok (.iload_n 2, 1) := by decide +kernel
theorem dX10_merge_28 : decode cX10_merge 28 = .ok (.invokevirtual 161, 3) := by decide +kernel
theorem dX10_merge_31 : decode cX10_merge 31 = .ok (.return_, 1) := by decide +kernel
theorem dX10_merge_32 : decode cX10_merge 32 = .ok (.iload_n 3, 1) := by decide +kernel
theorem dX10_merge_33 : decode cX10_merge 33 = .ok (.ifCond .eq 13, 3) := by decide +kernel
theorem dX10_merge_36 : decode cX10_merge 36 = .ok (.aload_n 0, 1) := by decide +kernel
theorem dX10_merge_37 : decode cX10_merge 37 = .ok (.iload_n 1, 1) := by decide +kernel
theorem dX10_merge_38 : decode cX10_merge 38 = .ok (.iload_n 2, 1) := by decide +kernel
theorem dX10_merge_39 : decode cX10_merge 39 = .ok (.invokevirtual 141, 3) := by decide +kernel
theorem dX10_merge_42 : decode cX10_merge 42 = .ok (.ifCond .eq 4, 3) := by decide +kernel
theorem dX10_merge_45 : decode cX10_merge 45 = .ok (.return_, 1) := by decide +kernel
theorem dX10_merge_46 : decode cX10_merge 46 = .ok (.aload_n 0, 1) := by decide +kernel
theorem dX10_merge_47 : decode cX10_merge 47 = .ok (.iload_n 2, 1) := by decide +kernel
theorem dX10_merge_48 : decode cX10_merge 48 = .ok (.bipush 6, 2) := by decide +kernel
theorem dX10_merge_50 : decode cX10_merge 50 = .ok (.invokevirtual 164, 3) := by decide +kernel
theorem dX10_merge_53 : decode cX10_merge 53 = .ok (.ifCond .eq 22, 3) := by decide +kernel
theorem dX10_merge_56 : decode cX10_merge 56 = .ok (.aload_n 0, 1) := by decide +kernel
theorem dX10_merge_57 : decode cX10_merge 57 = .ok (.iload_n 1, 1) := by decide +kernel
theorem dX10_merge_58 : decode cX10_merge 58 = .ok (.iload_n 2, 1) := by decide +kernel
theorem dX10_merge_59 : decode cX10_merge 59 = .ok (.bipush 6, 2) := by decide +kernel
theorem dX10_merge_61 : decode cX10_merge 61 = .ok (.invokevirtual 154, 3) := by decide +kernel
theorem dX10_merge_64 : decode cX10_merge 64 = .ok (.iconst 1, 1) := by decide +kernel
theorem dX10_merge_65 : decode cX10_merge 65 = .ok (.if_icmp .ne 9, 3) := by decide +kernel
theorem dX10_merge_68 : decode cX10_merge 68 = .ok (.aload_n 0, 1) := by decide +kernel
theorem dX10_merge_69 : decode cX10_merge 69 = .ok (.iload_n 1, 1) := by decide +kernel
theorem dX10_merge_70 : decode cX10_merge 70 = .ok (.iload_n 2, 1) := by decide +kernel
theorem dX10_merge_71 : decode cX10_merge 71 = .ok (.invokevirtual 161, 3) := by decide +kernel
theorem dX10_merge_74 : decode cX10_merge 74 = .ok (.return_, 1) := by decide +kernel
theorem dX10_merge_75 : decode cX10_merge 75 = .ok (.iload_n 3, 1) := by decide +kernel
theorem dX10_merge_76 : decode cX10_merge 76 = .ok (.ifCond .ne 19, 3) := by decide +kernel
theorem dX10_merge_79 : decode cX10_merge 79 = .ok (.aload_n 0, 1) := by decide +kernel
theorem dX10_merge_80 : decode cX10_merge 80 = .ok (.getfield 17, 3) := by decide +kernel
theorem dX10_merge_83 : decode cX10_merge 83 = .ok (.bipush 60, 2) := by decide +kernel
theorem dX10_merge_85 : decode cX10_merge 85 = .ok (.aload_n 0, 1) := by decide +kernel
theorem dX10_merge_86 : decode cX10_merge 86 = .ok (.invokevirtual 92, 3) := by decide +kernel
theorem dX10_merge_89 : decode cX10_merge 89 = .ok (.imul, 1) := by decide +kernel
theorem dX10_merge_90 : decode cX10_merge 90 = .ok (.iload_n 2, 1) := by decide +kernel
theorem dX10_merge_91 : decode cX10_merge 91 = .ok (.iadd, 1) := by decide +kernel
theorem dX10_merge_92 : decode cX10_merge 92 = .ok (.iconst 0, 1) := by decide +kernel
theorem dX10_merge_93 : decode cX10_merge 93 = .ok (.bastore, 1) := by decide +kernel
theorem dX10_merge_94 : decode cX10_merge 94 = .ok (.return_, 1) := by decide +kernel
theorem dX10_merge_95 : decode cX10_merge 95 = .ok (.iconst 0, 1) := by decide +kernel
theorem dX10_merge_96 : decode cX10_merge 96 = .ok (.istore 4, 2) := by decide +kernel
theorem dX10_merge_98 : decode cX10_merge 98 = .ok (.iload 4, 2) := by decide +kernel
theorem dX10_merge_100 : decode cX10_merge 100 = .ok (.bipush 6, 2) := by decide +kernel
theorem dX10_merge_102 : decode cX10_merge 102 = .ok (.if_icmp .ge 79, 3) := by decide +kernel
theorem dX10_merge_105 : decode cX10_merge 105 = .ok (.aload_n 0, 1) := by decide +kernel
theorem dX10_merge_106 : decode cX10_merge 106 = .ok (.iload_n 2, 1) := by decide +kernel
theorem dX10_merge_107 : decode cX10_merge 107 = .ok (.iload 4, 2) := by decide +kernel
theorem dX10_merge_109 : decode cX10_merge 109 = .ok (.invokevirtual 164, 3) := by decide +kernel
theorem dX10_merge_112 : decode cX10_merge 112 = .ok (.ifCond .eq 23, 3) := by decide +kernel
theorem dX10_merge_115 : decode cX10_merge 115 = .ok (.aload_n 0, 1) := by decide +kernel
theorem dX10_merge_116 : decode cX10_merge 116 = .ok (.iload_n 1, 1) := by decide +kernel
theorem dX10_merge_117 : decode cX10_merge 117 = .ok (.iload_n 2, 1) := by decide +kernel
theorem dX10_merge_118 : decode cX10_merge 118 = .ok (.iload 4, 2) := by decide +kernel
theorem dX10_merge_120 : decode cX10_merge 120 = .ok (.invokevirtual 154, 3) := by decide +kernel
theorem dX10_merge_123 : decode cX10_merge 123 = .ok (.iconst 1, 1) := by decide +kernel
theorem dX10_merge_124 : decode cX10_merge 124 = .ok (.if_icmp .ne 7, 3) := by decide +kernel
theorem dX10_merge_127 : decode cX10_merge 127 = .ok (.iconst 1, 1) := by decide +kernel
theorem dX10_merge_128 : decode cX10_merge 128 = .ok (.goto 32, 3) := by decide +kernel
theorem dX10_merge_131 : decode cX10_merge 131 = .ok (.iconst 0, 1) := by decide +kernel
theorem dX10_merge_132 : decode cX10_merge 132 = .ok (.goto 28, 3) := by decide +kernel
theorem dX10_merge_135 : decode cX10_merge 135 = .ok (.aload_n 0, 1) := by decide +kernel
theorem dX10_merge_136 : decode cX10_merge 136 = .ok (.iload_n 1, 1) := by decide +kernel
theorem dX10_merge_137 : decode cX10_merge 137 = .ok (.iload_n 2, 1) := by decide +kernel
theorem dX10_merge_138 : decode cX10_merge 138 = .ok (.iload 4, 2) := by decide +kernel
theorem dX10_merge_140 : decode cX10_merge 140 = .ok (.invokevirtual 132, 3) := by decide +kernel
theorem dX10_merge_143 : decode cX10_merge 143 = .ok (.aload_n 0, 1) := by decide +kernel
theorem dX10_merge_144 : decode cX10_merge 144 = .ok (.iload_n 1, 1) := by decide +kernel
theorem dX10_merge_145 : decode cX10_merge 145 = .ok (.iload_n 2, 1) := by decide +kernel
theorem dX10_merge_146 : decode cX10_merge 146 = .ok (.iload 4, 2) := by decide +kernel
theorem dX10_merge_148 : decode cX10_merge 148 = .ok (.invokevirtual 128, 3) := by decide +kernel
theorem dX10_merge_151 : decode cX10_merge 151 = .ok (.lcmp, 1) := by decide +kernel
theorem dX10_merge_152 : decode cX10_merge 152 = .ok (.ifCond .eq 7, 3) := by decide +kernel
theorem dX10_merge_155 : decode cX10_merge 155 = .ok (.iconst 1, 1) := by decide +kernel
theorem dX10_merge_156 : decode cX10_merge 156 = .ok (.goto 4, 3) := by decide +kernel
theorem dX10_merge_159 : decode cX10_merge 159 = .ok (.iconst 0, 1) := by decide +kernel
theorem dX10_merge_160 : decode cX10_merge 160 = .ok (.istore 5, 2) := by decide +kernel
theorem dX10_merge_162 : decode cX10_merge 162 = .ok (.iload 5, 2) := by decide +kernel
theorem dX10_merge_164 : decode cX10_merge 164 = .ok (.ifCond .eq 11, 3) := by decide +kernel
theorem dX10_merge_167 : decode cX10_merge 167 = .ok (.aload_n 0, 1) := by decide +kernel
theorem dX10_merge_168 : decode cX10_merge 168 = .ok (.iload_n 1, 1) := by decide +kernel
theorem dX10_merge_169 : decode cX10_merge 169 = .ok (.iload_n 2, 1) := by decide +kernel
theorem dX10_merge_170 : decode cX10_merge 170 = .ok (.iload 4, 2) := by decide +kernel
theorem dX10_merge_172 : decode cX10_merge 172 = .ok (.invokevirtual 158, 3) := by decide +kernel
theorem dX10_merge_175 : decode cX10_merge 175 = .ok (.iinc 4 1, 3) := by decide +kernel
theorem dX10_merge_178 : decode cX10_merge 178 = .ok (.goto (-80), 3) := by decide +kernel
theorem dX10_merge_181 : decode cX10_merge 181 = .ok (.return_, 1) := by decide +kernel
theorem dX10_dropMarks_0 : decode cX10_dropMarks 0 = .ok (.aload_n 0, 1) := by decide +kernel
theorem dX10_dropMarks_1 : decode cX10_dropMarks 1 = .ok (.invokevirtual 92, 3) := by decide +kernel
theorem dX10_dropMarks_4 : decode cX10_dropMarks 4 = .ok (.iconst 1, 1) := by decide +kernel
theorem dX10_dropMarks_5 : decode cX10_dropMarks 5 = .ok (.isub, 1) := by decide +kernel
theorem dX10_dropMarks_6 : decode cX10_dropMarks 6 = .ok (.istore_n 1, 1) := by decide +kernel
theorem dX10_dropMarks_7 : decode cX10_dropMarks 7 = .ok (.iconst 0, 1) := by decide +kernel
theorem dX10_dropMarks_8 : decode cX10_dropMarks 8 = .ok (.istore_n 2, 1) := by decide +kernel
theorem dX10_dropMarks_9 : decode cX10_dropMarks 9 = .ok (.iload_n 2, 1) := by decide +kernel
theorem dX10_dropMarks_10 : decode cX10_dropMarks 10 = .ok (.aload_n 0, 1) := by decide +kernel
theorem dX10_dropMarks_11 : decode cX10_dropMarks 11 = .ok (.getfield 79, 3) := by decide +kernel
theorem dX10_dropMarks_14 : decode cX10_dropMarks 14 = .ok (.if_icmp .ge 103, 3) := by decide +kernel
theorem dX10_dropMarks_17 : decode cX10_dropMarks 17 = .ok (.aload_n 0, 1) := by decide +kernel
theorem dX10_dropMarks_18 : decode cX10_dropMarks 18 = .ok (.iload_n 2, 1) := by decide +kernel
theorem dX10_dropMarks_19 : decode cX10_dropMarks 19 = .ok (.invokevirtual 144, 3) := by decide +kernel
theorem dX10_dropMarks_22 : decode cX10_dropMarks 22 = .ok (.ifCond .eq 21, 3) := by decide +kernel
theorem dX10_dropMarks_25 : decode cX10_dropMarks 25 = .ok (.aload_n 0, 1) := by decide +kernel
theorem dX10_dropMarks_26 : decode cX10_dropMarks 26 = .ok (.getfield 17, 3) := by decide +kernel
theorem dX10_dropMarks_29 : decode cX10_dropMarks 29 = .ok (.bipush 60, 2) := by decide +kernel
theorem dX10_dropMarks_31 : decode cX10_dropMarks 31 = .ok (.iload_n 1, 1) := by decide +kernel
theorem dX10_dropMarks_32 : decode cX10_dropMarks 32 = .ok (.imul, 1) := by decide +kernel
theorem dX10_dropMarks_33 : decode cX10_dropMarks 33 = .ok (.iload_n 2, 1) := by decide +kernel
theorem dX10_dropMarks_34 : decode cX10_dropMarks 34 = .ok (.iadd, 1) := by decide +kernel
theorem dX10_dropMarks_35 : decode cX10_dropMarks 35 = .ok (.baload, 1) := by decide +kernel
theorem dX10_dropMarks_36 : decode cX10_dropMarks 36 = .ok (.ifCond .eq 7, 3) := by decide +kernel
theorem dX10_dropMarks_39 : decode cX10_dropMarks 39 = .ok (.iconst 1, 1) := by decide +kernel
theorem dX10_dropMarks_40 : decode cX10_dropMarks 40 = .ok (.goto 4, 3) := by decide +kernel
theorem dX10_dropMarks_43 : decode cX10_dropMarks 43 = .ok (.iconst 0, 1) := by decide +kernel
theorem dX10_dropMarks_44 : decode cX10_dropMarks 44 = .ok (.istore_n 3, 1) := by decide +kernel
theorem dX10_dropMarks_45 : decode cX10_dropMarks 45 = .ok (.iconst 0, 1) := by decide +kernel
theorem dX10_dropMarks_46 : decode cX10_dropMarks 46 = .ok (.istore 4, 2) := by decide +kernel
theorem dX10_dropMarks_48 : decode cX10_dropMarks 48 = .ok (.iload 4, 2) := by decide +kernel
theorem dX10_dropMarks_50 : decode cX10_dropMarks 50 = .ok (.bipush 6, 2) := by decide +kernel
theorem dX10_dropMarks_52 : decode cX10_dropMarks 52 = .ok (.if_icmp .ge 48, 3) := by decide +kernel
theorem dX10_dropMarks_55 : decode cX10_dropMarks 55 = .ok (.iload_n 3, 1) := by decide +kernel
theorem dX10_dropMarks_56 : decode cX10_dropMarks 56 = .ok (.ifCond .eq 36, 3) := by decide +kernel
theorem dX10_dropMarks_59 : decode cX10_dropMarks 59 = .ok (.aload_n 0, 1) := by decide +kernel
theorem dX10_dropMarks_60 : decode cX10_dropMarks 60 = .ok (.iload_n 2, 1) := by decide +kernel
theorem dX10_dropMarks_61 : decode cX10_dropMarks 61 = .ok (.iload 4, 2) := by decide +kernel
theorem dX10_dropMarks_63 : decode cX10_dropMarks 63 = .ok (.invokevirtual 124, 3) := by decide +kernel
theorem dX10_dropMarks_66 : decode cX10_dropMarks 66 = .ok (.aload_n 0, 1) := by decide +kernel
theorem dX10_dropMarks_67 : decode cX10_dropMarks 67 = .ok (.getfield 21, 3) := by decide +kernel
theorem dX10_dropMarks_70 : decode cX10_dropMarks 70 = .ok (.sipush 360, 3) := by decide +kernel
theorem dX10_dropMarks_73 : decode cX10_dropMarks 73 = .ok (.iload_n 1, 1) := by decide +kernel
theorem dX10_dropMarks_74 : decode cX10_dropMarks 74 = .ok (.imul, 1) := by decide +kernel
theorem dX10_dropMarks_75 : decode cX10_dropMarks 75 = .ok (.bipush 6, 2) := by decide +kernel
theorem dX10_dropMarks_77 : decode cX10_dropMarks 77 = .ok (.iload_n 2, 1) := by decide +kernel
theorem dX10_dropMarks_78 : decode cX10_dropMarks 78 = .ok (.imul, 1) := by decide +kernel
theorem dX10_dropMarks_79 : decode cX10_dropMarks 79 = .ok (.iadd, 1) := by decide +kernel
theorem dX10_dropMarks_80 : decode cX10_dropMarks 80 = .ok (.iload 4, 2) := by decide +kernel
theorem dX10_dropMarks_82 : decode cX10_dropMarks 82 = .ok (.iadd, 1) := by decide +kernel
theorem dX10_dropMarks_83 : decode cX10_dropMarks 83 = .ok (.laload, 1) := by decide +kernel
theorem dX10_dropMarks_84 : decode cX10_dropMarks 84 = .ok (.lcmp, 1) := by decide +kernel
theorem dX10_dropMarks_85 : decode cX10_dropMarks 85 = .ok (.ifCond .ne 7, 3) := by decide +kernel
theorem dX10_dropMarks_88 : decode cX10_dropMarks 88 = .ok (.iconst 1, 1) := by decide +kernel
theorem dX10_dropMarks_89 : decode cX10_dropMarks 89 = .ok (.goto 4, 3) := by decide +kernel
theorem dX10_dropMarks_92 : decode cX10_dropMarks 92 = .ok (.iconst 0, 1) := by decide +kernel
theorem dX10_dropMarks_93 : decode cX10_dropMarks 93 = .ok (.istore_n 3, 1) := by decide +kernel
theorem dX10_dropMarks_94 : decode cX10_dropMarks 94 = .ok (.iinc 4 1, 3) := by decide +kernel
theorem dX10_dropMarks_97 : decode cX10_dropMarks 97 = .ok (.goto (-49), 3) := by decide +kernel
theorem dX10_dropMarks_100 : decode cX10_dropMarks 100 = .ok (.iload_n 3, 1) := by decide +kernel
theorem dX10_dropMarks_101 : decode cX10_dropMarks 101 = .ok (.ifCond .ne 10, 3) := by decide +kernel
theorem dX10_dropMarks_104 : decode cX10_dropMarks 104 = .ok (.aload_n 0, 1) := by decide +kernel
theorem dX10_dropMarks_105 : decode cX10_dropMarks 105 = .ok (.getfield 73, 3) := by decide +kernel
theorem dX10_dropMarks_108 : decode cX10_dropMarks 108 = .ok (.iload_n 2, 1) := by decide +kernel
theorem dX10_dropMarks_109 : decode cX10_dropMarks 109 = .ok (.iconst 0, 1) := by decide +kernel
theorem dX10_dropMarks_110 : decode cX10_dropMarks 110 = .ok (.iastore, 1) := by decide +kernel
theorem dX10_dropMarks_111 : decode cX10_dropMarks 111 = .ok (.iinc 2 1, 3) := by decide +kernel
theorem dX10_dropMarks_114 : decode cX10_dropMarks 114 = .ok (.goto (-105), 3) := by decide +kernel
theorem dX10_dropMarks_117 : decode cX10_dropMarks 117 = .ok (.return_, 1) := by decide +kernel
theorem dX10_dropLocks_0 : decode cX10_dropLocks 0 = .ok (.iconst 0, 1) := by decide +kernel
theorem dX10_dropLocks_1 : decode cX10_dropLocks 1 = .ok (.istore_n 2, 1) := by decide +kernel
theorem dX10_dropLocks_2 : decode cX10_dropLocks 2 = .ok (.iconst 0, 1) := by decide +kernel
theorem dX10_dropLocks_3 : decode cX10_dropLocks 3 = .ok (.istore_n 3, 1) := by decide +kernel
theorem dX10_dropLocks_4 : decode cX10_dropLocks 4 = .ok (.iload_n 3, 1) := by decide +kernel
theorem dX10_dropLocks_5 : decode cX10_dropLocks 5 = .ok (.aload_n 0, 1) := by decide +kernel
theorem dX10_dropLocks_6 : decode cX10_dropLocks 6 = .ok (.getfield 100, 3) := by decide +kernel
theorem dX10_dropLocks_9 : decode cX10_dropLocks 9 = .ok (.if_icmp .ge 74, 3) := by decide +kernel
theorem dX10_dropLocks_12 : decode cX10_dropLocks 12 = .ok (.aload_n 0, 1) := by decide +kernel
theorem dX10_dropLocks_13 : decode cX10_dropLocks 13 = .ok (.getfield 58, 3) := by decide +kernel
theorem dX10_dropLocks_16 : decode cX10_dropLocks 16 = .ok (.iload_n 3, 1) := by decide +kernel
theorem dX10_dropLocks_17 : decode cX10_dropLocks 17 = .ok (.iaload, 1) := by decide +kernel
theorem dX10_dropLocks_18 : decode cX10_dropLocks 18 = .ok (.iload_n 1, 1) := by decide +kernel
theorem dX10_dropLocks_19 : decode cX10_dropLocks 19 = .ok (.if_icmp .ne 6, 3) := by decide +kernel
theorem dX10_dropLocks_22 : decode cX10_dropLocks 22 = .ok (.goto 55, 3) := by decide +kernel
theorem dX10_dropLocks_25 : decode cX10_dropLocks 25 = .ok (.aload_n 0, 1) := by decide +kernel
theorem dX10_dropLocks_26 : decode cX10_dropLocks 26 = .ok (.getfield 58, 3) := by decide +kernel
theorem dX10_dropLocks_29 : decode cX10_dropLocks 29 = .ok (.iload_n 2, 1) := by decide +kernel
theorem dX10_dropLocks_30 : decode cX10_dropLocks 30 = .ok (.aload_n 0, 1) := by decide +kernel
theorem dX10_dropLocks_31 : decode cX10_dropLocks 31 = .ok (.getfield 58, 3) := by decide +kernel
theorem dX10_dropLocks_34 : decode cX10_dropLocks 34 = .ok (.iload_n 3, 1) := by decide +kernel
theorem dX10_dropLocks_35 : decode cX10_dropLocks 35 = .ok (.iaload, 1) := by decide +kernel
theorem dX10_dropLocks_36 : decode cX10_dropLocks 36 = .ok (.iastore, 1) := by decide +kernel
theorem dX10_dropLocks_37 : decode cX10_dropLocks 37 = .ok (.iconst 0, 1) := by decide +kernel
theorem dX10_dropLocks_38 : decode cX10_dropLocks 38 = .ok (.istore 4, 2) := by decide +kernel
theorem dX10_dropLocks_40 : decode cX10_dropLocks 40 = .ok (.iload 4, 2) := by decide +kernel
theorem dX10_dropLocks_42 : decode cX10_dropLocks 42 = .ok (.iconst 4, 1) := by decide +kernel
theorem dX10_dropLocks_43 : decode cX10_dropLocks 43 = .ok (.if_icmp .ge 31, 3) := by decide +kernel
theorem dX10_dropLocks_46 : decode cX10_dropLocks 46 = .ok (.aload_n 0, 1) := by decide +kernel
theorem dX10_dropLocks_47 : decode cX10_dropLocks 47 = .ok (.getfield 61, 3) := by decide +kernel
theorem dX10_dropLocks_50 : decode cX10_dropLocks 50 = .ok (.iconst 4, 1) := by decide +kernel
theorem dX10_dropLocks_51 : decode cX10_dropLocks 51 = .ok (.iload_n 2, 1) := by decide +kernel
theorem dX10_dropLocks_52 : decode cX10_dropLocks 52 = .ok (.imul, 1) := by decide +kernel
theorem dX10_dropLocks_53 : decode cX10_dropLocks 53 = .ok (.iload 4, 2) := by decide +kernel
theorem dX10_dropLocks_55 : decode cX10_dropLocks 55 = .ok (.iadd, 1) := by decide +kernel
theorem dX10_dropLocks_56 : decode cX10_dropLocks 56 = .ok (.aload_n 0, 1) := by decide +kernel
theorem dX10_dropLocks_57 : decode cX10_dropLocks 57 = .ok (.getfield 61, 3) := by decide +kernel
theorem dX10_dropLocks_60 : decode cX10_dropLocks 60 = .ok (.iconst 4, 1) := by decide +kernel
theorem dX10_dropLocks_61 : decode cX10_dropLocks 61 = .ok (.iload_n 3, 1) := by decide +kernel
theorem dX10_dropLocks_62 : decode cX10_dropLocks 62 = .ok (.imul, 1) := by decide +kernel
theorem dX10_dropLocks_63 : decode cX10_dropLocks 63 = .ok (.iload 4, 2) := by decide +kernel
theorem dX10_dropLocks_65 : decode cX10_dropLocks 65 = .ok (.iadd, 1) := by decide +kernel
theorem dX10_dropLocks_66 : decode cX10_dropLocks 66 = .ok (.laload, 1) := by decide +kernel
theorem dX10_dropLocks_67 : decode cX10_dropLocks 67 = .ok (.lastore, 1) := by decide +kernel
theorem dX10_dropLocks_68 : decode cX10_dropLocks 68 = .ok (.iinc 4 1, 3) := by decide +kernel
theorem dX10_dropLocks_71 : decode cX10_dropLocks 71 = .ok (.goto (-31), 3) := by decide +kernel
theorem dX10_dropLocks_74 : decode cX10_dropLocks 74 = .ok (.iinc 2 1, 3) := by decide +kernel
theorem dX10_dropLocks_77 : decode cX10_dropLocks 77 = .ok (.iinc 3 1, 3) := by decide +kernel
theorem dX10_dropLocks_80 : decode cX10_dropLocks 80 = .ok (.goto (-76), 3) := by decide +kernel
theorem dX10_dropLocks_83 : decode cX10_dropLocks 83 = .ok (.aload_n 0, 1) := by decide +kernel
theorem dX10_dropLocks_84 : decode cX10_dropLocks 84 = .ok (.iload_n 2, 1) := by decide +kernel
theorem dX10_dropLocks_85 : decode cX10_dropLocks 85 = .ok (.putfield 100, 3) := by decide +kernel
theorem dX10_dropLocks_88 : decode cX10_dropLocks 88 = .ok (.return_, 1) := by decide +kernel
theorem dX10_joins_0 : decode cX10_joins 0 = .ok (.aload_n 0, 1) := by decide +kernel
theorem dX10_joins_1 : decode cX10_joins 1 = .ok (.iload_n 1, 1) := by decide +kernel
theorem dX10_joins_2 : decode cX10_joins 2 = .ok (.putfield 167, 3) := by decide +kernel
theorem dX10_joins_5 : decode cX10_joins 5 = .ok (.aload_n 0, 1) := by decide +kernel
theorem dX10_joins_6 : decode cX10_joins 6 = .ok (.iconst 0, 1) := by decide +kernel
theorem dX10_joins_7 : decode cX10_joins 7 = .ok (.putfield 135, 3) := by decide +kernel
theorem dX10_joins_10 : decode cX10_joins 10 = .ok (.iconst 0, 1) := by decide +kernel
theorem dX10_joins_11 : decode cX10_joins 11 = .ok (.istore_n 2, 1) := by decide +kernel
theorem dX10_joins_12 : decode cX10_joins 12 = .ok (.iload_n 2, 1) := by decide +kernel
theorem dX10_joins_13 : decode cX10_joins 13 = .ok (.aload_n 0, 1) := by decide +kernel
theorem dX10_joins_14 : decode cX10_joins 14 = .ok (.getfield 79, 3) := by decide +kernel
theorem dX10_joins_17 : decode cX10_joins 17 = .ok (.if_icmp .ge 15, 3) := by decide +kernel
theorem dX10_joins_20 : decode cX10_joins 20 = .ok (.aload_n 0, 1) := by decide +kernel
theorem dX10_joins_21 : decode cX10_joins 21 = .ok (.iload_n 1, 1) := by decide +kernel
theorem dX10_joins_22 : decode cX10_joins 22 = .ok (.iload_n 2, 1) := by decide +kernel
theorem dX10_joins_23 : decode cX10_joins 23 = .ok (.invokevirtual 170, 3) := by decide +kernel
theorem dX10_joins_26 : decode cX10_joins 26 = .ok (.iinc 2 1, 3) := by decide +kernel
theorem dX10_joins_29 : decode cX10_joins 29 = .ok (.goto (-17), 3) := by decide +kernel
theorem dX10_joins_32 : decode cX10_joins 32 = .ok (.aload_n 0, 1) := by decide +kernel
theorem dX10_joins_33 : decode cX10_joins 33 = .ok (.iload_n 1, 1) := by decide +kernel
theorem dX10_joins_34 : decode cX10_joins 34 = .ok (.invokevirtual 173, 3) := by decide +kernel
theorem dX10_joins_37 : decode cX10_joins 37 = .ok (.istore_n 2, 1) := by decide +kernel
theorem dX10_joins_38 : decode cX10_joins 38 = .ok (.iload_n 2, 1) := by decide +kernel
theorem dX10_joins_39 : decode cX10_joins 39 = .ok (.ifCond .le 5, 3) := by decide +kernel
theorem dX10_joins_42 : decode cX10_joins 42 = .ok (.iload_n 2, 1) := by decide +kernel
theorem dX10_joins_43 : decode cX10_joins 43 = .ok (.ireturn, 1) := by decide +kernel
theorem dX10_joins_44 : decode cX10_joins 44 = .ok (.aload_n 0, 1) := by decide +kernel
theorem dX10_joins_45 : decode cX10_joins 45 = .ok (.invokevirtual 89, 3) := by decide +kernel
theorem dX10_joins_48 : decode cX10_joins 48 = .ok (.iconst 0, 1) := by decide +kernel
theorem dX10_joins_49 : decode cX10_joins 49 = .ok (.istore_n 3, 1) := by decide +kernel
theorem dX10_joins_50 : decode cX10_joins 50 = .ok (.iload_n 3, 1) := by decide +kernel
theorem dX10_joins_51 : decode cX10_joins 51 = .ok (.aload_n 0, 1) := by decide +kernel
theorem dX10_joins_52 : decode cX10_joins 52 = .ok (.getfield 79, 3) := by decide +kernel
theorem dX10_joins_55 : decode cX10_joins 55 = .ok (.if_icmp .ge 15, 3) := by decide +kernel
theorem dX10_joins_58 : decode cX10_joins 58 = .ok (.aload_n 0, 1) := by decide +kernel
theorem dX10_joins_59 : decode cX10_joins 59 = .ok (.iload_n 1, 1) := by decide +kernel
theorem dX10_joins_60 : decode cX10_joins 60 = .ok (.iload_n 3, 1) := by decide +kernel
theorem dX10_joins_61 : decode cX10_joins 61 = .ok (.invokevirtual 176, 3) := by decide +kernel
theorem dX10_joins_64 : decode cX10_joins 64 = .ok (.iinc 3 1, 3) := by decide +kernel
theorem dX10_joins_67 : decode cX10_joins 67 = .ok (.goto (-17), 3) := by decide +kernel
theorem dX10_joins_70 : decode cX10_joins 70 = .ok (.aload_n 0, 1) := by decide +kernel
theorem dX10_joins_71 : decode cX10_joins 71 = .ok (.invokevirtual 179, 3) := by decide +kernel
theorem dX10_joins_74 : decode cX10_joins 74 = .ok (.aload_n 0, 1) := by decide +kernel
theorem dX10_joins_75 : decode cX10_joins 75 = .ok (.getfield 28, 3) := by decide +kernel
theorem dX10_joins_78 : decode cX10_joins 78 = .ok (.iload_n 1, 1) := by decide +kernel
theorem dX10_joins_79 : decode cX10_joins 79 = .ok (.iconst 0, 1) := by decide +kernel
theorem dX10_joins_80 : decode cX10_joins 80 = .ok (.bastore, 1) := by decide +kernel
theorem dX10_joins_81 : decode cX10_joins 81 = .ok (.aload_n 0, 1) := by decide +kernel
theorem dX10_joins_82 : decode cX10_joins 82 = .ok (.iload_n 1, 1) := by decide +kernel
theorem dX10_joins_83 : decode cX10_joins 83 = .ok (.invokevirtual 182, 3) := by decide +kernel
theorem dX10_joins_86 : decode cX10_joins 86 = .ok (.iconst 0, 1) := by decide +kernel
theorem dX10_joins_87 : decode cX10_joins 87 = .ok (.ireturn, 1) := by decide +kernel
theorem dX10_join_0 : decode cX10_join 0 = .ok (.aload_n 0, 1) := by decide +kernel
theorem dX10_join_1 : decode cX10_join 1 = .ok (.aload_n 0, 1) := by decide +kernel
theorem dX10_join_2 : decode cX10_join 2 = .ok (.iload_n 1, 1) := by decide +kernel
theorem dX10_join_3 : decode cX10_join 3 = .ok (.invokevirtual 111, 3) := by decide +kernel
theorem dX10_join_6 : decode cX10_join 6 = .ok (.ifCond .ne 7, 3) := by decide +kernel
theorem dX10_join_9 : decode cX10_join 9 = .ok (.iconst 1, 1) := by decide +kernel
theorem dX10_join_10 : decode cX10_join 10 = .ok (.goto 17, 3) := by decide +kernel
theorem dX10_join_13 : decode cX10_join 13 = .ok (.aload_n 0, 1) := by decide +kernel
theorem dX10_join_14 : decode cX10_join 14 = .ok (.getfield 28, 3) := by decide +kernel
theorem dX10_join_17 : decode cX10_join 17 = .ok (.iload_n 1, 1) := by decide +kernel
theorem dX10_join_18 : decode cX10_join 18 = .ok (.baload, 1) := by decide +kernel
theorem dX10_join_19 : decode cX10_join 19 = .ok (.ifCond .eq 7, 3) := by decide +kernel
theorem dX10_join_22 : decode cX10_join 22 = .ok (.iconst 0, 1) := by decide +kernel
theorem dX10_join_23 : decode cX10_join 23 = .ok (.goto 4, 3) := by decide +kernel
theorem dX10_join_26 : decode cX10_join 26 = .ok (.iconst 2, 1) := by decide +kernel
theorem dX10_join_27 : decode cX10_join 27 = .ok (.putfield 76, 3) := by decide +kernel
theorem dX10_join_30 : decode cX10_join 30 = .ok (.aload_n 0, 1) := by decide +kernel
theorem dX10_join_31 : decode cX10_join 31 = .ok (.getfield 76, 3) := by decide +kernel
theorem dX10_join_34 : decode cX10_join 34 = .ok (.ifCond .eq 5, 3) := by decide +kernel
theorem dX10_join_37 : decode cX10_join 37 = .ok (.iconst 0, 1) := by decide +kernel
theorem dX10_join_38 : decode cX10_join 38 = .ok (.ireturn, 1) := by decide +kernel
theorem dX10_join_39 : decode cX10_join 39 = .ok (.aload_n 0, 1) := by decide +kernel
theorem dX10_join_40 : decode cX10_join 40 = .ok (.getfield 13, 3) := by decide +kernel
theorem dX10_join_43 : decode cX10_join 43 = .ok (.bipush 40, 2) := by decide +kernel
theorem dX10_join_45 : decode cX10_join 45 = .ok (.if_icmp .ne 7, 3) := by decide +kernel
theorem dX10_join_48 : decode cX10_join 48 = .ok (.iconst (-1), 1) := by decide +kernel
theorem dX10_join_49 : decode cX10_join 49 = .ok (.goto 8, 3) := by decide +kernel
theorem dX10_join_52 : decode cX10_join 52 = .ok (.aload_n 0, 1) := by decide +kernel
theorem dX10_join_53 : decode cX10_join 53 = .ok (.iload_n 1, 1) := by decide +kernel
theorem dX10_join_54 : decode cX10_join 54 = .ok (.invokevirtual 186, 3) := by decide +kernel
theorem dX10_join_57 : decode cX10_join 57 = .ok (.ireturn, 1) := by decide +kernel
theorem dX10_conflict_0 : decode cX10_conflict 0 = .ok (.aload_n 0, 1) := by decide +kernel
theorem dX10_conflict_1 : decode cX10_conflict 1 = .ok (.iload_n 1, 1) := by decide +kernel
theorem dX10_conflict_2 : decode cX10_conflict 2 = .ok (.ifCond .lt 24, 3) := by decide +kernel
theorem dX10_conflict_5 : decode cX10_conflict 5 = .ok (.iload_n 1, 1) := by decide +kernel
theorem dX10_conflict_6 : decode cX10_conflict 6 = .ok (.aload_n 0, 1) := by decide +kernel
theorem dX10_conflict_7 : decode cX10_conflict 7 = .ok (.getfield 135, 3) := by decide +kernel
theorem dX10_conflict_10 : decode cX10_conflict 10 = .ok (.if_icmp .ge 16, 3) := by decide +kernel
theorem dX10_conflict_13 : decode cX10_conflict 13 = .ok (.iload_n 2, 1) := by decide +kernel
theorem dX10_conflict_14 : decode cX10_conflict 14 = .ok (.ifCond .lt 12, 3) := by decide +kernel
theorem dX10_conflict_17 : decode cX10_conflict 17 = .ok (.iload_n 2, 1) := by decide +kernel
theorem dX10_conflict_18 : decode cX10_conflict 18 = .ok (.iconst 3, 1) := by decide +kernel
theorem dX10_conflict_19 : decode cX10_conflict 19 = .ok (.if_icmp .ge 7, 3) := by decide +kernel
theorem dX10_conflict_22 : decode cX10_conflict 22 = .ok (.iconst 0, 1) := by decide +kernel
theorem dX10_conflict_23 : decode cX10_conflict 23 = .ok (.goto 4, 3) := by decide +kernel
theorem dX10_conflict_26 : decode cX10_conflict 26 = .ok (.iconst 1, 1) := by decide +kernel
theorem dX10_conflict_27 : decode cX10_conflict 27 = .ok (.putfield 76, 3) := by decide +kernel
theorem dX10_conflict_30 : decode cX10_conflict 30 = .ok (.aload_n 0, 1) := by decide +kernel
theorem dX10_conflict_31 : decode cX10_conflict 31 = .ok (.getfield 76, 3) := by decide +kernel
theorem dX10_conflict_34 : decode cX10_conflict 34 = .ok (.ifCond .eq 5, 3) := by decide +kernel
theorem dX10_conflict_37 : decode cX10_conflict 37 = .ok (.iconst 0, 1) := by decide +kernel
theorem dX10_conflict_38 : decode cX10_conflict 38 = .ok (.ireturn, 1) := by decide +kernel
theorem dX10_conflict_39 : decode cX10_conflict 39 = .ok (.aload_n 0, 1) := by decide +kernel
theorem dX10_conflict_40 : decode cX10_conflict 40 = .ok (.getfield 55, 3) := by decide +kernel
theorem dX10_conflict_43 : decode cX10_conflict 43 = .ok (.iload_n 1, 1) := by decide +kernel
theorem dX10_conflict_44 : decode cX10_conflict 44 = .ok (.iaload, 1) := by decide +kernel
theorem dX10_conflict_45 : decode cX10_conflict 45 = .ok (.bipush 7, 2) := by decide +kernel
theorem dX10_conflict_47 : decode cX10_conflict 47 = .ok (.idiv, 1) := by decide +kernel
theorem dX10_conflict_48 : decode cX10_conflict 48 = .ok (.istore_n 3, 1) := by decide +kernel
theorem dX10_conflict_49 : decode cX10_conflict 49 = .ok (.aload_n 0, 1) := by decide +kernel
theorem dX10_conflict_50 : decode cX10_conflict 50 = .ok (.getfield 55, 3) := by decide +kernel
theorem dX10_conflict_53 : decode cX10_conflict 53 = .ok (.iload_n 1, 1) := by decide +kernel
theorem dX10_conflict_54 : decode cX10_conflict 54 = .ok (.iaload, 1) := by decide +kernel
theorem dX10_conflict_55 : decode cX10_conflict 55 = .ok (.bipush 7, 2) := by decide +kernel
theorem dX10_conflict_57 : decode cX10_conflict 57 = .ok (.irem, 1) := by decide +kernel
theorem dX10_conflict_58 : decode cX10_conflict 58 = .ok (.istore 4, 2) := by decide +kernel
theorem dX10_conflict_60 : decode cX10_conflict 60 = .ok (.iload_n 2, 1) := by decide +kernel
theorem dX10_conflict_61 : decode cX10_conflict 61 = .ok (.ifCond .ne 7, 3) := by decide +kernel
theorem dX10_conflict_64 : decode cX10_conflict 64 = .ok (.iload_n 3, 1) := by decide +kernel
theorem dX10_conflict_65 : decode cX10_conflict 65 = .ok (.goto 24, 3) := by decide +kernel
theorem dX10_conflict_68 : decode cX10_conflict 68 = .ok (.iload_n 2, 1) := by decide +kernel
theorem dX10_conflict_69 : decode cX10_conflict 69 = .ok (.iconst 1, 1) := by decide +kernel
theorem dX10_conflict_70 : decode cX10_conflict 70 = .ok (.if_icmp .ne 8, 3) := by decide +kernel
theorem dX10_conflict_73 : decode cX10_conflict 73 = .ok (.iload 4, 2) := by decide +kernel
theorem dX10_conflict_75 : decode cX10_conflict 75 = .ok (.goto 14, 3) := by decide +kernel
theorem dX10_conflict_78 : decode cX10_conflict 78 = .ok (.aload_n 0, 1) := by decide +kernel
theorem dX10_conflict_79 : decode cX10_conflict 79 = .ok (.aload_n 0, 1) := by decide +kernel
theorem dX10_conflict_80 : decode cX10_conflict 80 = .ok (.getfield 167, 3) := by decide +kernel
theorem dX10_conflict_83 : decode cX10_conflict 83 = .ok (.iload_n 3, 1) := by decide +kernel
theorem dX10_conflict_84 : decode cX10_conflict 84 = .ok (.iload 4, 2) := by decide +kernel
theorem dX10_conflict_86 : decode cX10_conflict 86 = .ok (.invokevirtual 154, 3) := by decide +kernel
theorem dX10_conflict_89 : decode cX10_conflict 89 = .ok (.ireturn, 1) := by decide +kernel
theorem dX10_settle_0 : decode cX10_settle 0 = .ok (.aload_n 0, 1) := by decide +kernel
theorem dX10_settle_1 : decode cX10_settle 1 = .ok (.iload_n 1, 1) := by decide +kernel
theorem dX10_settle_2 : decode cX10_settle 2 = .ok (.ifCond .lt 11, 3) := by decide +kernel
theorem dX10_settle_5 : decode cX10_settle 5 = .ok (.iload_n 1, 1) := by decide +kernel
theorem dX10_settle_6 : decode cX10_settle 6 = .ok (.aload_n 0, 1) := by decide +kernel
theorem dX10_settle_7 : decode cX10_settle 7 = .ok (.getfield 135, 3) := by decide +kernel
theorem dX10_settle_10 : decode cX10_settle 10 = .ok (.if_icmp .lt 7, 3) := by decide +kernel
theorem dX10_settle_13 : decode cX10_settle 13 = .ok (.iconst 1, 1) := by decide +kernel
theorem dX10_settle_14 : decode cX10_settle 14 = .ok (.goto 33, 3) := by decide +kernel
theorem dX10_settle_17 : decode cX10_settle 17 = .ok (.aload_n 0, 1) := by decide +kernel
theorem dX10_settle_18 : decode cX10_settle 18 = .ok (.getfield 28, 3) := by decide +kernel
theorem dX10_settle_21 : decode cX10_settle 21 = .ok (.aload_n 0, 1) := by decide +kernel
theorem dX10_settle_22 : decode cX10_settle 22 = .ok (.getfield 167, 3) := by decide +kernel
theorem dX10_settle_25 : decode cX10_settle 25 = .ok (.baload, 1) := by decide +kernel
theorem dX10_settle_26 : decode cX10_settle 26 = .ok (.ifCond .ne 7, 3) := by decide +kernel
theorem dX10_settle_29 : decode cX10_settle 29 = .ok (.iconst 2, 1) := by decide +kernel
theorem dX10_settle_30 : decode cX10_settle 30 = .ok (.goto 17, 3) := by decide +kernel
theorem dX10_settle_33 : decode cX10_settle 33 = .ok (.iload_n 2, 1) := by decide +kernel
theorem dX10_settle_34 : decode cX10_settle 34 = .ok (.ifCond .eq 8, 3) := by decide +kernel
theorem dX10_settle_37 : decode cX10_settle 37 = .ok (.iload_n 2, 1) := by decide +kernel
theorem dX10_settle_38 : decode cX10_settle 38 = .ok (.iconst 1, 1) := by decide +kernel
theorem dX10_settle_39 : decode cX10_settle 39 = .ok (.if_icmp .ne 7, 3) := by decide +kernel
theorem dX10_settle_42 : decode cX10_settle 42 = .ok (.iconst 0, 1) := by decide +kernel
theorem dX10_settle_43 : decode cX10_settle 43 = .ok (.goto 4, 3) := by decide +kernel
theorem dX10_settle_46 : decode cX10_settle 46 = .ok (.iconst 3, 1) := by decide +kernel
theorem dX10_settle_47 : decode cX10_settle 47 = .ok (.putfield 76, 3) := by decide +kernel
theorem dX10_settle_50 : decode cX10_settle 50 = .ok (.aload_n 0, 1) := by decide +kernel
theorem dX10_settle_51 : decode cX10_settle 51 = .ok (.getfield 76, 3) := by decide +kernel
theorem dX10_settle_54 : decode cX10_settle 54 = .ok (.ifCond .eq 5, 3) := by decide +kernel
theorem dX10_settle_57 : decode cX10_settle 57 = .ok (.iconst 0, 1) := by decide +kernel
theorem dX10_settle_58 : decode cX10_settle 58 = .ok (.ireturn, 1) := by decide +kernel
theorem dX10_settle_59 : decode cX10_settle 59 = .ok (.sipush 420, 3) := by decide +kernel
theorem dX10_settle_62 : decode cX10_settle 62 = .ok (.aload_n 0, 1) := by decide +kernel
theorem dX10_settle_63 : decode cX10_settle 63 = .ok (.getfield 167, 3) := by decide +kernel
theorem dX10_settle_66 : decode cX10_settle 66 = .ok (.imul, 1) := by decide +kernel
theorem dX10_settle_67 : decode cX10_settle 67 = .ok (.aload_n 0, 1) := by decide +kernel
theorem dX10_settle_68 : decode cX10_settle 68 = .ok (.getfield 55, 3) := by decide +kernel
theorem dX10_settle_71 : decode cX10_settle 71 = .ok (.iload_n 1, 1) := by decide +kernel
theorem dX10_settle_72 : decode cX10_settle 72 = .ok (.iaload, 1) := by decide +kernel
theorem dX10_settle_73 : decode cX10_settle 73 = .ok (.iadd, 1) := by decide +kernel
theorem dX10_settle_74 : decode cX10_settle 74 = .ok (.istore_n 3, 1) := by decide +kernel
theorem dX10_settle_75 : decode cX10_settle 75 = .ok (.aload_n 0, 1) := by decide +kernel
theorem dX10_settle_76 : decode cX10_settle 76 = .ok (.getfield 52, 3) := by decide +kernel
theorem dX10_settle_79 : decode cX10_settle 79 = .ok (.iload_n 3, 1) := by decide +kernel
theorem dX10_settle_80 : decode cX10_settle 80 = .ok (.iaload, 1) := by decide +kernel
theorem dX10_settle_81 : decode cX10_settle 81 = .ok (.iload_n 2, 1) := by decide +kernel
theorem dX10_settle_82 : decode cX10_settle 82 = .ok (.iconst 1, 1) := by decide +kernel
theorem dX10_settle_83 : decode cX10_settle 83 = .ok (.iadd, 1) := by decide +kernel
theorem dX10_settle_84 : decode cX10_settle 84 = .ok (.if_icmp .eq 7, 3) := by decide +kernel
theorem dX10_settle_87 : decode cX10_settle 87 = .ok (.iconst 1, 1) := by decide +kernel
theorem dX10_settle_88 : decode cX10_settle 88 = .ok (.goto 4, 3) := by decide +kernel
theorem dX10_settle_91 : decode cX10_settle 91 = .ok (.iconst 0, 1) := by decide +kernel
theorem dX10_settle_92 : decode cX10_settle 92 = .ok (.istore 4, 2) := by decide +kernel
theorem dX10_settle_94 : decode cX10_settle 94 = .ok (.aload_n 0, 1) := by decide +kernel
theorem dX10_settle_95 : decode cX10_settle 95 = .ok (.getfield 52, 3) := by decide +kernel
theorem dX10_settle_98 : decode cX10_settle 98 = .ok (.iload_n 3, 1) := by decide +kernel
theorem dX10_settle_99 : decode cX10_settle 99 = .ok (.iload_n 2, 1) := by decide +kernel
theorem dX10_settle_100 : decode cX10_settle 100 = .ok (.iconst 1, 1) := by decide +kernel
theorem dX10_settle_101 : decode cX10_settle 101 = .ok (.iadd, 1) := by decide +kernel
theorem dX10_settle_102 : decode cX10_settle 102 = .ok (.iastore, 1) := by decide +kernel
theorem dX10_settle_103 : decode cX10_settle 103 = .ok (.iload 4, 2) := by decide +kernel
theorem dX10_settle_105 : decode cX10_settle 105 = .ok (.ireturn, 1) := by decide +kernel
theorem dX10_play_0 : decode cX10_play 0 = .ok (.aload_n 0, 1) := by decide +kernel
theorem dX10_play_1 : decode cX10_play 1 = .ok (.iload_n 3, 1) := by decide +kernel
theorem dX10_play_2 : decode cX10_play 2 = .ok (.ifCond .lt 13, 3) := by decide +kernel
theorem dX10_play_5 : decode cX10_play 5 = .ok (.iload_n 3, 1) := by decide +kernel
theorem dX10_play_6 : decode cX10_play 6 = .ok (.bipush 100, 2) := by decide +kernel
theorem dX10_play_8 : decode cX10_play 8 = .ok (.if_icmp .gt 7, 3) := by decide +kernel
theorem dX10_play_11 : decode cX10_play 11 = .ok (.iconst 0, 1) := by decide +kernel
theorem dX10_play_12 : decode cX10_play 12 = .ok (.goto 4, 3) := by decide +kernel
theorem dX10_play_15 : decode cX10_play 15 = .ok (.iconst 1, 1) := by decide +kernel
theorem dX10_play_16 : decode cX10_play 16 = .ok (.putfield 76, 3) := by decide +kernel
theorem dX10_play_19 : decode cX10_play 19 = .ok (.aload_n 0, 1) := by decide +kernel
theorem dX10_play_20 : decode cX10_play 20 = .ok (.getfield 76, 3) := by decide +kernel
theorem dX10_play_23 : decode cX10_play 23 = .ok (.ifCond .eq 5, 3) := by decide +kernel
theorem dX10_play_26 : decode cX10_play 26 = .ok (.iconst 0, 1) := by decide +kernel
theorem dX10_play_27 : decode cX10_play 27 = .ok (.ireturn, 1) := by decide +kernel
theorem dX10_play_28 : decode cX10_play 28 = .ok (.aload_n 0, 1) := by decide +kernel
theorem dX10_play_29 : decode cX10_play 29 = .ok (.getfield 82, 3) := by decide +kernel
theorem dX10_play_32 : decode cX10_play 32 = .ok (.bipush 20, 2) := by decide +kernel
theorem dX10_play_34 : decode cX10_play 34 = .ok (.if_icmp .eq 12, 3) := by decide +kernel
theorem dX10_play_37 : decode cX10_play 37 = .ok (.aload_n 0, 1) := by decide +kernel
theorem dX10_play_38 : decode cX10_play 38 = .ok (.getfield 13, 3) := by decide +kernel
theorem dX10_play_41 : decode cX10_play 41 = .ok (.bipush 40, 2) := by decide +kernel
theorem dX10_play_43 : decode cX10_play 43 = .ok (.if_icmp .ne 5, 3) := by decide +kernel
theorem dX10_play_46 : decode cX10_play 46 = .ok (.iconst (-1), 1) := by decide +kernel
theorem dX10_play_47 : decode cX10_play 47 = .ok (.ireturn, 1) := by decide +kernel
theorem dX10_play_48 : decode cX10_play 48 = .ok (.aload_n 0, 1) := by decide +kernel
theorem dX10_play_49 : decode cX10_play 49 = .ok (.aload_n 0, 1) := by decide +kernel
theorem dX10_play_50 : decode cX10_play 50 = .ok (.invokevirtual 92, 3) := by decide +kernel
theorem dX10_play_53 : decode cX10_play 53 = .ok (.invokevirtual 96, 3) := by decide +kernel
theorem dX10_play_56 : decode cX10_play 56 = .ok (.istore 4, 2) := by decide +kernel
theorem dX10_play_58 : decode cX10_play 58 = .ok (.lload_n 1, 1) := by decide +kernel
theorem dX10_play_59 : decode cX10_play 59 = .ok (.lstore 5, 2) := by decide +kernel
theorem dX10_play_61 : decode cX10_play 61 = .ok (.iconst 0, 1) := by decide +kernel
theorem dX10_play_62 : decode cX10_play 62 = .ok (.istore 7, 2) := by decide +kernel
theorem dX10_play_64 : decode cX10_play 64 = .ok (.iconst 0, 1) := by decide +kernel
theorem dX10_play_65 : decode cX10_play 65 = .ok (.istore 8, 2) := by decide +kernel
theorem dX10_play_67 : decode cX10_play 67 = .ok (.iload 8, 2) := by decide +kernel
theorem dX10_play_69 : decode cX10_play 69 = .ok (.iload_n 3, 1) := by decide +kernel
theorem dX10_play_70 : decode cX10_play 70 = .ok (.if_icmp .ge 114, 3) := by decide +kernel
theorem dX10_play_73 : decode cX10_play 73 = .ok (.aload_n 0, 1) := by decide +kernel
theorem dX10_play_74 : decode cX10_play 74 = .ok (.getfield 79, 3) := by decide +kernel
theorem dX10_play_77 : decode cX10_play 77 = .ok (.ifCond .le 107, 3) := by decide +kernel
theorem dX10_play_80 : decode cX10_play 80 = .ok (.lload 5, 2) := by decide +kernel
theorem dX10_play_82 : decode cX10_play 82 = .ok (.invokestatic 189, 3) := by decide +kernel
theorem dX10_play_85 : decode cX10_play 85 = .ok (.lstore 5, 2) := by decide +kernel
theorem dX10_play_87 : decode cX10_play 87 = .ok (.lload 5, 2) := by decide +kernel
theorem dX10_play_89 : decode cX10_play 89 = .ok (.bipush 33, 2) := by decide +kernel
theorem dX10_play_91 : decode cX10_play 91 = .ok (.lushr, 1) := by decide +kernel
theorem dX10_play_92 : decode cX10_play 92 = .ok (.aload_n 0, 1) := by decide +kernel
theorem dX10_play_93 : decode cX10_play 93 = .ok (.getfield 79, 3) := by decide +kernel
theorem dX10_play_96 : decode cX10_play 96 = .ok (.i2l, 1) := by decide +kernel
theorem dX10_play_97 : decode cX10_play 97 = .ok (.lrem, 1) := by decide +kernel
theorem dX10_play_98 : decode cX10_play 98 = .ok (.l2i, 1) := by decide +kernel
theorem dX10_play_99 : decode cX10_play 99 = .ok (.istore 9, 2) := by decide +kernel
theorem dX10_play_101 : decode cX10_play 101 = .ok (.aload_n 0, 1) := by decide +kernel
theorem dX10_play_102 : decode cX10_play 102 = .ok (.getfield 31, 3) := by decide +kernel
theorem dX10_play_105 : decode cX10_play 105 = .ok (.bipush 60, 2) := by decide +kernel
theorem dX10_play_107 : decode cX10_play 107 = .ok (.iload 4, 2) := by decide +kernel
theorem dX10_play_109 : decode cX10_play 109 = .ok (.imul, 1) := by decide +kernel
theorem dX10_play_110 : decode cX10_play 110 = .ok (.iload 9, 2) := by decide +kernel
theorem dX10_play_112 : decode cX10_play 112 = .ok (.iadd, 1) := by decide +kernel
theorem dX10_play_113 : decode cX10_play 113 = .ok (.baload, 1) := by decide +kernel
theorem dX10_play_114 : decode cX10_play 114 = .ok (.ifCond .ne 6, 3) := by decide +kernel
theorem dX10_play_117 : decode cX10_play 117 = .ok (.goto 61, 3) := by decide +kernel
theorem dX10_play_120 : decode cX10_play 120 = .ok (.lload 5, 2) := by decide +kernel
theorem dX10_play_122 : decode cX10_play 122 = .ok (.invokestatic 189, 3) := by decide +kernel
theorem dX10_play_125 : decode cX10_play 125 = .ok (.lstore 5, 2) := by decide +kernel
theorem dX10_play_127 : decode cX10_play 127 = .ok (.lload 5, 2) := by decide +kernel
theorem dX10_play_129 : decode cX10_play 129 = .ok (.bipush 33, 2) := by decide +kernel
theorem dX10_play_131 : decode cX10_play 131 = .ok (.lushr, 1) := by decide +kernel
theorem dX10_play_132 : decode cX10_play 132 = .ok (.ldc2_w 193, 3) := by decide +kernel
theorem dX10_play_135 : decode cX10_play 135 = .ok (.lrem, 1) := by decide +kernel
theorem dX10_play_136 : decode cX10_play 136 = .ok (.l2i, 1) := by decide +kernel
theorem dX10_play_137 : decode cX10_play 137 = .ok (.istore 10, 2) := by decide +kernel
theorem dX10_play_139 : decode cX10_play 139 = .ok (.lload 5, 2) := by decide +kernel
theorem dX10_play_141 : decode cX10_play 141 = .ok (.invokestatic 189, 3) := by decide +kernel
theorem dX10_play_144 : decode cX10_play 144 = .ok (.lstore 5, 2) := by decide +kernel
theorem dX10_play_146 : decode cX10_play 146 = .ok (.iload 7, 2) := by decide +kernel
theorem dX10_play_148 : decode cX10_play 148 = .ok (.aload_n 0, 1) := by decide +kernel
theorem dX10_play_149 : decode cX10_play 149 = .ok (.iload 4, 2) := by decide +kernel
theorem dX10_play_151 : decode cX10_play 151 = .ok (.iload 9, 2) := by decide +kernel
theorem dX10_play_153 : decode cX10_play 153 = .ok (.iload 10, 2) := by decide +kernel
theorem dX10_play_155 : decode cX10_play 155 = .ok (.lload 5, 2) := by decide +kernel
theorem dX10_play_157 : decode cX10_play 157 = .ok (.bipush 33, 2) := by decide +kernel
theorem dX10_play_159 : decode cX10_play 159 = .ok (.lushr, 1) := by decide +kernel
theorem dX10_play_160 : decode cX10_play 160 = .ok (.ldc2_w 195, 3) := by decide +kernel
theorem dX10_play_163 : decode cX10_play 163 = .ok (.lrem, 1) := by decide +kernel
theorem dX10_play_164 : decode cX10_play 164 = .ok (.invokevirtual 120, 3) := by decide +kernel
theorem dX10_play_167 : decode cX10_play 167 = .ok (.ifCond .eq 7, 3) := by decide +kernel
theorem dX10_play_170 : decode cX10_play 170 = .ok (.iconst 1, 1) := by decide +kernel
theorem dX10_play_171 : decode cX10_play 171 = .ok (.goto 4, 3) := by decide +kernel
theorem dX10_play_174 : decode cX10_play 174 = .ok (.iconst 0, 1) := by decide +kernel
theorem dX10_play_175 : decode cX10_play 175 = .ok (.iadd, 1) := by decide +kernel
theorem dX10_play_176 : decode cX10_play 176 = .ok (.istore 7, 2) := by decide +kernel
theorem dX10_play_178 : decode cX10_play 178 = .ok (.iinc 8 1, 3) := by decide +kernel
theorem dX10_play_181 : decode cX10_play 181 = .ok (.goto (-114), 3) := by decide +kernel
theorem dX10_play_184 : decode cX10_play 184 = .ok (.aload_n 0, 1) := by decide +kernel
theorem dX10_play_185 : decode cX10_play 185 = .ok (.iload 4, 2) := by decide +kernel
theorem dX10_play_187 : decode cX10_play 187 = .ok (.invokevirtual 186, 3) := by decide +kernel
theorem dX10_play_190 : decode cX10_play 190 = .ok (.pop, 1) := by decide +kernel
theorem dX10_play_191 : decode cX10_play 191 = .ok (.iload 7, 2) := by decide +kernel
theorem dX10_play_193 : decode cX10_play 193 = .ok (.ireturn, 1) := by decide +kernel
theorem dX10_next_0 : decode cX10_next 0 = .ok (.lload_n 0, 1) := by decide +kernel
theorem dX10_next_1 : decode cX10_next 1 = .ok (.ldc2_w 197, 3) := by decide +kernel
theorem dX10_next_4 : decode cX10_next 4 = .ok (.lmul, 1) := by decide +kernel
theorem dX10_next_5 : decode cX10_next 5 = .ok (.ldc2_w 199, 3) := by decide +kernel
theorem dX10_next_8 : decode cX10_next 8 = .ok (.ladd, 1) := by decide +kernel
theorem dX10_next_9 : decode cX10_next 9 = .ok (.lreturn, 1) := by decide +kernel
theorem dX10_at_0 : decode cX10_at 0 = .ok (.aload_n 0, 1) := by decide +kernel
theorem dX10_at_1 : decode cX10_at 1 = .ok (.iload_n 1, 1) := by decide +kernel
theorem dX10_at_2 : decode cX10_at 2 = .ok (.invokevirtual 114, 3) := by decide +kernel
theorem dX10_at_5 : decode cX10_at 5 = .ok (.ifCond .eq 14, 3) := by decide +kernel
theorem dX10_at_8 : decode cX10_at 8 = .ok (.iload_n 2, 1) := by decide +kernel
theorem dX10_at_9 : decode cX10_at 9 = .ok (.invokestatic 117, 3) := by decide +kernel
theorem dX10_at_12 : decode cX10_at 12 = .ok (.ifCond .eq 7, 3) := by decide +kernel
theorem dX10_at_15 : decode cX10_at 15 = .ok (.iconst 1, 1) := by decide +kernel
theorem dX10_at_16 : decode cX10_at 16 = .ok (.goto 4, 3) := by decide +kernel
theorem dX10_at_19 : decode cX10_at 19 = .ok (.iconst 0, 1) := by decide +kernel
theorem dX10_at_20 : decode cX10_at 20 = .ok (.istore_n 3, 1) := by decide +kernel
theorem dX10_at_21 : decode cX10_at 21 = .ok (.aload_n 0, 1) := by decide +kernel
theorem dX10_at_22 : decode cX10_at 22 = .ok (.iload_n 3, 1) := by decide +kernel
theorem dX10_at_23 : decode cX10_at 23 = .ok (.ifCond .ne 7, 3) := by decide +kernel
theorem dX10_at_26 : decode cX10_at 26 = .ok (.iconst 1, 1) := by decide +kernel
theorem dX10_at_27 : decode cX10_at 27 = .ok (.goto 16, 3) := by decide +kernel
theorem dX10_at_30 : decode cX10_at 30 = .ok (.aload_n 0, 1) := by decide +kernel
theorem dX10_at_31 : decode cX10_at 31 = .ok (.iload_n 1, 1) := by decide +kernel
theorem dX10_at_32 : decode cX10_at 32 = .ok (.invokevirtual 144, 3) := by decide +kernel
theorem dX10_at_35 : decode cX10_at 35 = .ok (.ifCond .eq 7, 3) := by decide +kernel
theorem dX10_at_38 : decode cX10_at 38 = .ok (.iconst 0, 1) := by decide +kernel
theorem dX10_at_39 : decode cX10_at 39 = .ok (.goto 4, 3) := by decide +kernel
theorem dX10_at_42 : decode cX10_at 42 = .ok (.iconst 2, 1) := by decide +kernel
theorem dX10_at_43 : decode cX10_at 43 = .ok (.putfield 76, 3) := by decide +kernel
theorem dX10_at_46 : decode cX10_at 46 = .ok (.aload_n 0, 1) := by decide +kernel
theorem dX10_at_47 : decode cX10_at 47 = .ok (.getfield 76, 3) := by decide +kernel
theorem dX10_at_50 : decode cX10_at 50 = .ok (.ifCond .ne 12, 3) := by decide +kernel
theorem dX10_at_53 : decode cX10_at 53 = .ok (.aload_n 0, 1) := by decide +kernel
theorem dX10_at_54 : decode cX10_at 54 = .ok (.iload_n 1, 1) := by decide +kernel
theorem dX10_at_55 : decode cX10_at 55 = .ok (.iload_n 2, 1) := by decide +kernel
theorem dX10_at_56 : decode cX10_at 56 = .ok (.invokevirtual 124, 3) := by decide +kernel
theorem dX10_at_59 : decode cX10_at 59 = .ok (.goto 4, 3) := by decide +kernel
theorem dX10_at_62 : decode cX10_at 62 = .ok (.lconst 0, 1) := by decide +kernel
theorem dX10_at_63 : decode cX10_at 63 = .ok (.lreturn, 1) := by decide +kernel
theorem dX10_version_0 : decode cX10_version 0 = .ok (.aload_n 0, 1) := by decide +kernel
theorem dX10_version_1 : decode cX10_version 1 = .ok (.iconst 0, 1) := by decide +kernel
theorem dX10_version_2 : decode cX10_version 2 = .ok (.putfield 76, 3) := by decide +kernel
theorem dX10_version_5 : decode cX10_version 5 = .ok (.aload_n 0, 1) := by decide +kernel
theorem dX10_version_6 : decode cX10_version 6 = .ok (.invokevirtual 92, 3) := by decide +kernel
theorem dX10_version_9 : decode cX10_version 9 = .ok (.ireturn, 1) := by decide +kernel
theorem dX10_mark_0 : decode cX10_mark 0 = .ok (.aload_n 0, 1) := by decide +kernel
theorem dX10_mark_1 : decode cX10_mark 1 = .ok (.aload_n 0, 1) := by decide +kernel
theorem dX10_mark_2 : decode cX10_mark 2 = .ok (.iload_n 1, 1) := by decide +kernel
theorem dX10_mark_3 : decode cX10_mark 3 = .ok (.invokevirtual 114, 3) := by decide +kernel
theorem dX10_mark_6 : decode cX10_mark 6 = .ok (.ifCond .eq 11, 3) := by decide +kernel
theorem dX10_mark_9 : decode cX10_mark 9 = .ok (.aload_n 0, 1) := by decide +kernel
theorem dX10_mark_10 : decode cX10_mark 10 = .ok (.iload_n 1, 1) := by decide +kernel
theorem dX10_mark_11 : decode cX10_mark 11 = .ok (.invokevirtual 144, 3) := by decide +kernel
theorem dX10_mark_14 : decode cX10_mark 14 = .ok (.ifCond .ne 7, 3) := by decide +kernel
theorem dX10_mark_17 : decode cX10_mark 17 = .ok (.iconst 1, 1) := by decide +kernel
theorem dX10_mark_18 : decode cX10_mark 18 = .ok (.goto 18, 3) := by decide +kernel
theorem dX10_mark_21 : decode cX10_mark 21 = .ok (.iload_n 2, 1) := by decide +kernel
theorem dX10_mark_22 : decode cX10_mark 22 = .ok (.ifCond .lt 13, 3) := by decide +kernel
theorem dX10_mark_25 : decode cX10_mark 25 = .ok (.iload_n 2, 1) := by decide +kernel
theorem dX10_mark_26 : decode cX10_mark 26 = .ok (.bipush 32, 2) := by decide +kernel
theorem dX10_mark_28 : decode cX10_mark 28 = .ok (.if_icmp .ge 7, 3) := by decide +kernel
theorem dX10_mark_31 : decode cX10_mark 31 = .ok (.iconst 0, 1) := by decide +kernel
theorem dX10_mark_32 : decode cX10_mark 32 = .ok (.goto 4, 3) := by decide +kernel
theorem dX10_mark_35 : decode cX10_mark 35 = .ok (.iconst 2, 1) := by decide +kernel
theorem dX10_mark_36 : decode cX10_mark 36 = .ok (.putfield 76, 3) := by decide +kernel
theorem dX10_mark_39 : decode cX10_mark 39 = .ok (.aload_n 0, 1) := by decide +kernel
theorem dX10_mark_40 : decode cX10_mark 40 = .ok (.getfield 76, 3) := by decide +kernel
theorem dX10_mark_43 : decode cX10_mark 43 = .ok (.ifCond .eq 5, 3) := by decide +kernel
theorem dX10_mark_46 : decode cX10_mark 46 = .ok (.iconst 0, 1) := by decide +kernel
theorem dX10_mark_47 : decode cX10_mark 47 = .ok (.ireturn, 1) := by decide +kernel
theorem dX10_mark_48 : decode cX10_mark 48 = .ok (.aload_n 0, 1) := by decide +kernel
theorem dX10_mark_49 : decode cX10_mark 49 = .ok (.getfield 73, 3) := by decide +kernel
theorem dX10_mark_52 : decode cX10_mark 52 = .ok (.iload_n 1, 1) := by decide +kernel
theorem dX10_mark_53 : decode cX10_mark 53 = .ok (.aload_n 0, 1) := by decide +kernel
theorem dX10_mark_54 : decode cX10_mark 54 = .ok (.getfield 73, 3) := by decide +kernel
theorem dX10_mark_57 : decode cX10_mark 57 = .ok (.iload_n 1, 1) := by decide +kernel
theorem dX10_mark_58 : decode cX10_mark 58 = .ok (.iaload, 1) := by decide +kernel
theorem dX10_mark_59 : decode cX10_mark 59 = .ok (.iconst 1, 1) := by decide +kernel
theorem dX10_mark_60 : decode cX10_mark 60 = .ok (.iload_n 2, 1) := by decide +kernel
theorem dX10_mark_61 : decode cX10_mark 61 = .ok (.ishl, 1) := by decide +kernel
theorem dX10_mark_62 : decode cX10_mark 62 = .ok (.ior, 1) := by decide +kernel
theorem dX10_mark_63 : decode cX10_mark 63 = .ok (.iastore, 1) := by decide +kernel
theorem dX10_mark_64 : decode cX10_mark 64 = .ok (.iconst 0, 1) := by decide +kernel
theorem dX10_mark_65 : decode cX10_mark 65 = .ok (.istore_n 3, 1) := by decide +kernel
theorem dX10_mark_66 : decode cX10_mark 66 = .ok (.iconst 0, 1) := by decide +kernel
theorem dX10_mark_67 : decode cX10_mark 67 = .ok (.istore 4, 2) := by decide +kernel
theorem dX10_mark_69 : decode cX10_mark 69 = .ok (.iload 4, 2) := by decide +kernel
theorem dX10_mark_71 : decode cX10_mark 71 = .ok (.bipush 32, 2) := by decide +kernel
theorem dX10_mark_73 : decode cX10_mark 73 = .ok (.if_icmp .ge 23, 3) := by decide +kernel
theorem dX10_mark_76 : decode cX10_mark 76 = .ok (.iload_n 3, 1) := by decide +kernel
theorem dX10_mark_77 : decode cX10_mark 77 = .ok (.aload_n 0, 1) := by decide +kernel
theorem dX10_mark_78 : decode cX10_mark 78 = .ok (.getfield 73, 3) := by decide +kernel
theorem dX10_mark_81 : decode cX10_mark 81 = .ok (.iload_n 1, 1) := by decide +kernel
theorem dX10_mark_82 : decode cX10_mark 82 = .ok (.iaload, 1) := by decide +kernel
theorem dX10_mark_83 : decode cX10_mark 83 = .ok (.iload 4, 2) := by decide +kernel
theorem dX10_mark_85 : decode cX10_mark 85 = .ok (.ishr, 1) := by decide +kernel
theorem dX10_mark_86 : decode cX10_mark 86 = .ok (.iconst 1, 1) := by decide +kernel
theorem dX10_mark_87 : decode cX10_mark 87 = .ok (.iand, 1) := by decide +kernel
theorem dX10_mark_88 : decode cX10_mark 88 = .ok (.iadd, 1) := by decide +kernel
theorem dX10_mark_89 : decode cX10_mark 89 = .ok (.istore_n 3, 1) := by decide +kernel
theorem dX10_mark_90 : decode cX10_mark 90 = .ok (.iinc 4 1, 3) := by decide +kernel
theorem dX10_mark_93 : decode cX10_mark 93 = .ok (.goto (-24), 3) := by decide +kernel
theorem dX10_mark_96 : decode cX10_mark 96 = .ok (.iload_n 3, 1) := by decide +kernel
theorem dX10_mark_97 : decode cX10_mark 97 = .ok (.ireturn, 1) := by decide +kernel
theorem dX10_difference_0 : decode cX10_difference 0 = .ok (.iload_n 1, 1) := by decide +kernel
theorem dX10_difference_1 : decode cX10_difference 1 = .ok (.ifCond .lt 27, 3) := by decide +kernel
theorem dX10_difference_4 : decode cX10_difference 4 = .ok (.iload_n 1, 1) := by decide +kernel
theorem dX10_difference_5 : decode cX10_difference 5 = .ok (.aload_n 0, 1) := by decide +kernel
theorem dX10_difference_6 : decode cX10_difference 6 = .ok (.getfield 13, 3) := by decide +kernel
theorem dX10_difference_9 : decode cX10_difference 9 = .ok (.if_icmp .ge 19, 3) := by decide +kernel
theorem dX10_difference_12 : decode cX10_difference 12 = .ok (.iload_n 2, 1) := by decide +kernel
theorem dX10_difference_13 : decode cX10_difference 13 = .ok (.ifCond .lt 15, 3) := by decide +kernel
theorem dX10_difference_16 : decode cX10_difference 16 = .ok (.iload_n 2, 1) := by decide +kernel
theorem dX10_difference_17 : decode cX10_difference 17 = .ok (.aload_n 0, 1) := by decide +kernel
theorem dX10_difference_18 : decode cX10_difference 18 = .ok (.getfield 13, 3) := by decide +kernel
theorem dX10_difference_21 : decode cX10_difference 21 = .ok (.if_icmp .ge 7, 3) := by decide +kernel
theorem dX10_difference_24 : decode cX10_difference 24 = .ok (.iconst 1, 1) := by decide +kernel
theorem dX10_difference_25 : decode cX10_difference 25 = .ok (.goto 4, 3) := by decide +kernel
theorem dX10_difference_28 : decode cX10_difference 28 = .ok (.iconst 0, 1) := by decide +kernel
theorem dX10_difference_29 : decode cX10_difference 29 = .ok (.istore 4, 2) := by decide +kernel
theorem dX10_difference_31 : decode cX10_difference 31 = .ok (.aload_n 0, 1) := by decide +kernel
theorem dX10_difference_32 : decode cX10_difference 32 = .ok (.iload 4, 2) := by decide +kernel
theorem dX10_difference_34 : decode cX10_difference 34 = .ok (.ifCond .eq 7, 3) := by decide +kernel
theorem dX10_difference_37 : decode cX10_difference 37 = .ok (.iconst 0, 1) := by decide +kernel
theorem dX10_difference_38 : decode cX10_difference 38 = .ok (.goto 4, 3) := by decide +kernel
theorem dX10_difference_41 : decode cX10_difference 41 = .ok (.iconst 1, 1) := by decide +kernel
theorem dX10_difference_42 : decode cX10_difference 42 = .ok (.putfield 76, 3) := by decide +kernel
theorem dX10_difference_45 : decode cX10_difference 45 = .ok (.aload_n 0, 1) := by decide +kernel
theorem dX10_difference_46 : decode cX10_difference 46 = .ok (.getfield 76, 3) := by decide +kernel
theorem dX10_difference_49 : decode cX10_difference 49 = .ok (.ifCond .eq 5, 3) := by decide +kernel
theorem dX10_difference_52 : decode cX10_difference 52 = .ok (.iconst 0, 1) := by decide +kernel
theorem dX10_difference_53 : decode cX10_difference 53 = .ok (.ireturn, 1) := by decide +kernel
theorem dX10_difference_54 : decode cX10_difference 54 = .ok (.iload_n 3, 1) := by decide +kernel
theorem dX10_difference_55 : decode cX10_difference 55 = .ok (.istore 5, 2) := by decide +kernel
theorem dX10_difference_57 : decode cX10_difference 57 = .ok (.iconst 0, 1) := by decide +kernel
theorem dX10_difference_58 : decode cX10_difference 58 = .ok (.istore 6, 2) := by decide +kernel
theorem dX10_difference_60 : decode cX10_difference 60 = .ok (.iload 6, 2) := by decide +kernel
theorem dX10_difference_62 : decode cX10_difference 62 = .ok (.aload_n 0, 1) := by decide +kernel
theorem dX10_difference_63 : decode cX10_difference 63 = .ok (.getfield 79, 3) := by decide +kernel
theorem dX10_difference_66 : decode cX10_difference 66 = .ok (.if_icmp .ge 172, 3) := by decide +kernel
theorem dX10_difference_69 : decode cX10_difference 69 = .ok (.iload_n 3, 1) := by decide +kernel
theorem dX10_difference_70 : decode cX10_difference 70 = .ok (.ifCond .lt 168, 3) := by decide +kernel
theorem dX10_difference_73 : decode cX10_difference 73 = .ok (.aload_n 0, 1) := by decide +kernel
theorem dX10_difference_74 : decode cX10_difference 74 = .ok (.getfield 17, 3) := by decide +kernel
theorem dX10_difference_77 : decode cX10_difference 77 = .ok (.bipush 60, 2) := by decide +kernel
theorem dX10_difference_79 : decode cX10_difference 79 = .ok (.iload_n 1, 1) := by decide +kernel
theorem dX10_difference_80 : decode cX10_difference 80 = .ok (.imul, 1) := by decide +kernel
theorem dX10_difference_81 : decode cX10_difference 81 = .ok (.iload 6, 2) := by decide +kernel
theorem dX10_difference_83 : decode cX10_difference 83 = .ok (.iadd, 1) := by decide +kernel
theorem dX10_difference_84 : decode cX10_difference 84 = .ok (.baload, 1) := by decide +kernel
theorem dX10_difference_85 : decode cX10_difference 85 = .ok (.istore 7, 2) := by decide +kernel
theorem dX10_difference_87 : decode cX10_difference 87 = .ok (.aload_n 0, 1) := by decide +kernel
theorem dX10_difference_88 : decode cX10_difference 88 = .ok (.getfield 17, 3) := by decide +kernel
theorem dX10_difference_91 : decode cX10_difference 91 = .ok (.bipush 60, 2) := by decide +kernel
theorem dX10_difference_93 : decode cX10_difference 93 = .ok (.iload_n 2, 1) := by decide +kernel
theorem dX10_difference_94 : decode cX10_difference 94 = .ok (.imul, 1) := by decide +kernel
theorem dX10_difference_95 : decode cX10_difference 95 = .ok (.iload 6, 2) := by decide +kernel
theorem dX10_difference_97 : decode cX10_difference 97 = .ok (.iadd, 1) := by decide +kernel
theorem dX10_difference_98 : decode cX10_difference 98 = .ok (.baload, 1) := by decide +kernel
theorem dX10_difference_99 : decode cX10_difference 99 = .ok (.istore 8, 2) := by decide +kernel
theorem dX10_difference_101 : decode cX10_difference 101 = .ok (.iconst 0, 1) := by decide +kernel
theorem dX10_difference_102 : decode cX10_difference 102 = .ok (.istore 9, 2) := by decide +kernel
theorem dX10_difference_104 : decode cX10_difference 104 = .ok (.iload 9, 2) := by decide +kernel
theorem dX10_difference_106 : decode cX10_difference 106 = .ok (.bipush 7, 2) := by decide +kernel
theorem dX10_difference_108 : decode cX10_difference 108 = .ok (.if_icmp .ge 124, 3) := by decide +kernel
theorem dX10_difference_111 : decode cX10_difference 111 = .ok (.iload 9, 2) := by decide +kernel
theorem dX10_difference_113 : decode cX10_difference 113 = .ok (.bipush 6, 2) := by decide +kernel
theorem dX10_difference_115 : decode cX10_difference 115 = .ok (.if_icmp .ne 18, 3) := by decide +kernel
theorem dX10_difference_118 : decode cX10_difference 118 = .ok (.iload 7, 2) := by decide +kernel
theorem dX10_difference_120 : decode cX10_difference 120 = .ok (.iload 8, 2) := by decide +kernel
theorem dX10_difference_122 : decode cX10_difference 122 = .ok (.if_icmp .eq 7, 3) := by decide +kernel
theorem dX10_difference_125 : decode cX10_difference 125 = .ok (.iconst 1, 1) := by decide +kernel
theorem dX10_difference_126 : decode cX10_difference 126 = .ok (.goto 64, 3) := by decide +kernel
theorem dX10_difference_129 : decode cX10_difference 129 = .ok (.iconst 0, 1) := by decide +kernel
theorem dX10_difference_130 : decode cX10_difference 130 = .ok (.goto 60, 3) := by decide +kernel
theorem dX10_difference_133 : decode cX10_difference 133 = .ok (.iload 7, 2) := by decide +kernel
theorem dX10_difference_135 : decode cX10_difference 135 = .ok (.ifCond .eq 54, 3) := by decide +kernel
theorem dX10_difference_138 : decode cX10_difference 138 = .ok (.iload 8, 2) := by decide +kernel
theorem dX10_difference_140 : decode cX10_difference 140 = .ok (.ifCond .eq 49, 3) := by decide +kernel
theorem dX10_difference_143 : decode cX10_difference 143 = .ok (.aload_n 0, 1) := by decide +kernel
theorem dX10_difference_144 : decode cX10_difference 144 = .ok (.getfield 21, 3) := by decide +kernel
theorem dX10_difference_147 : decode cX10_difference 147 = .ok (.sipush 360, 3) := by decide +kernel
theorem dX10_difference_150 : decode cX10_difference 150 = .ok (.iload_n 1, 1) := by decide +kernel
theorem dX10_difference_151 : decode cX10_difference 151 = .ok (.imul, 1) := by decide +kernel
theorem dX10_difference_152 : decode cX10_difference 152 = .ok (.bipush 6, 2) := by decide +kernel
theorem dX10_difference_154 : decode cX10_difference 154 = .ok (.iload 6, 2) := by decide +kernel
theorem dX10_difference_156 : decode cX10_difference 156 = .ok (.imul, 1) := by decide +kernel
theorem dX10_difference_157 : decode cX10_difference 157 = .ok (.iadd, 1) := by decide +kernel
theorem dX10_difference_158 : decode cX10_difference 158 = .ok (.iload 9, 2) := by decide +kernel
theorem dX10_difference_160 : decode cX10_difference 160 = .ok (.iadd, 1) := by decide +kernel
theorem dX10_difference_161 : decode cX10_difference 161 = .ok (.laload, 1) := by decide +kernel
theorem dX10_difference_162 : decode cX10_difference 162 = .ok (.aload_n 0, 1) := by decide +kernel
theorem dX10_difference_163 : decode cX10_difference 163 = .ok (.getfield 21, 3) := by decide +kernel
theorem dX10_difference_166 : decode cX10_difference 166 = .ok (.sipush 360, 3) := by decide +kernel
theorem dX10_difference_169 : decode cX10_difference 169 = .ok (.iload_n 2, 1) := by decide +kernel
theorem dX10_difference_170 : decode cX10_difference 170 = .ok (.imul, 1) := by decide +kernel
theorem dX10_difference_171 : decode cX10_difference 171 = .ok (.bipush 6, 2) := by decide +kernel
theorem dX10_difference_173 : decode cX10_difference 173 = .ok (.iload 6, 2) := by decide +kernel
theorem dX10_difference_175 : decode cX10_difference 175 = .ok (.imul, 1) := by decide +kernel
theorem dX10_difference_176 : decode cX10_difference 176 = .ok (.iadd, 1) := by decide +kernel
theorem dX10_difference_177 : decode cX10_difference 177 = .ok (.iload 9, 2) := by decide +kernel
theorem dX10_difference_179 : decode cX10_difference 179 = .ok (.iadd, 1) := by decide +kernel
theorem dX10_difference_180 : decode cX10_difference 180 = .ok (.laload, 1) := by decide +kernel
theorem dX10_difference_181 : decode cX10_difference 181 = .ok (.lcmp, 1) := by decide +kernel
theorem dX10_difference_182 : decode cX10_difference 182 = .ok (.ifCond .eq 7, 3) := by decide +kernel
theorem dX10_difference_185 : decode cX10_difference 185 = .ok (.iconst 1, 1) := by decide +kernel
theorem dX10_difference_186 : decode cX10_difference 186 = .ok (.goto 4, 3) := by decide +kernel
theorem dX10_difference_189 : decode cX10_difference 189 = .ok (.iconst 0, 1) := by decide +kernel
theorem dX10_difference_190 : decode cX10_difference 190 = .ok (.istore 10, 2) := by decide +kernel
theorem dX10_difference_192 : decode cX10_difference 192 = .ok (.iload 10, 2) := by decide +kernel
theorem dX10_difference_194 : decode cX10_difference 194 = .ok (.ifCond .eq 17, 3) := by decide +kernel
theorem dX10_difference_197 : decode cX10_difference 197 = .ok (.iload 5, 2) := by decide +kernel
theorem dX10_difference_199 : decode cX10_difference 199 = .ok (.ifCond .ne 12, 3) := by decide +kernel
theorem dX10_difference_202 : decode cX10_difference 202 = .ok (.bipush 8, 2) := by decide +kernel
theorem dX10_difference_204 : decode cX10_difference 204 = .ok (.iload 6, 2) := by decide +kernel
theorem dX10_difference_206 : decode cX10_difference 206 = .ok (.imul, 1) := by decide +kernel
theorem dX10_difference_207 : decode cX10_difference 207 = .ok (.iload 9, 2) := by decide +kernel
theorem dX10_difference_209 : decode cX10_difference 209 = .ok (.iadd, 1) := by decide +kernel
theorem dX10_difference_210 : decode cX10_difference 210 = .ok (.ireturn, 1) := by decide +kernel
theorem dX10_difference_211 : decode cX10_difference 211 = .ok (.iload 5, 2) := by decide +kernel
theorem dX10_difference_213 : decode cX10_difference 213 = .ok (.iload 10, 2) := by decide +kernel
theorem dX10_difference_215 : decode cX10_difference 215 = .ok (.ifCond .eq 7, 3) := by decide +kernel
theorem dX10_difference_218 : decode cX10_difference 218 = .ok (.iconst 1, 1) := by decide +kernel
theorem dX10_difference_219 : decode cX10_difference 219 = .ok (.goto 4, 3) := by decide +kernel
theorem dX10_difference_222 : decode cX10_difference 222 = .ok (.iconst 0, 1) := by decide +kernel
theorem dX10_difference_223 : decode cX10_difference 223 = .ok (.isub, 1) := by decide +kernel
theorem dX10_difference_224 : decode cX10_difference 224 = .ok (.istore 5, 2) := by decide +kernel
theorem dX10_difference_226 : decode cX10_difference 226 = .ok (.iinc 9 1, 3) := by decide +kernel
theorem dX10_difference_229 : decode cX10_difference 229 = .ok (.goto (-125), 3) := by decide +kernel
theorem dX10_difference_232 : decode cX10_difference 232 = .ok (.iinc 6 1, 3) := by decide +kernel
theorem dX10_difference_235 : decode cX10_difference 235 = .ok (.goto (-175), 3) := by decide +kernel
theorem dX10_difference_238 : decode cX10_difference 238 = .ok (.iconst (-1), 1) := by decide +kernel
theorem dX10_difference_239 : decode cX10_difference 239 = .ok (.ireturn, 1) := by decide +kernel
theorem dX10_lock_0 : decode cX10_lock 0 = .ok (.aload_n 0, 1) := by decide +kernel
theorem dX10_lock_1 : decode cX10_lock 1 = .ok (.aload_n 0, 1) := by decide +kernel
theorem dX10_lock_2 : decode cX10_lock 2 = .ok (.iload_n 1, 1) := by decide +kernel
theorem dX10_lock_3 : decode cX10_lock 3 = .ok (.invokevirtual 111, 3) := by decide +kernel
theorem dX10_lock_6 : decode cX10_lock 6 = .ok (.ifCond .ne 7, 3) := by decide +kernel
theorem dX10_lock_9 : decode cX10_lock 9 = .ok (.iconst 1, 1) := by decide +kernel
theorem dX10_lock_10 : decode cX10_lock 10 = .ok (.goto 17, 3) := by decide +kernel
theorem dX10_lock_13 : decode cX10_lock 13 = .ok (.aload_n 0, 1) := by decide +kernel
theorem dX10_lock_14 : decode cX10_lock 14 = .ok (.getfield 28, 3) := by decide +kernel
theorem dX10_lock_17 : decode cX10_lock 17 = .ok (.iload_n 1, 1) := by decide +kernel
theorem dX10_lock_18 : decode cX10_lock 18 = .ok (.baload, 1) := by decide +kernel
theorem dX10_lock_19 : decode cX10_lock 19 = .ok (.ifCond .eq 7, 3) := by decide +kernel
theorem dX10_lock_22 : decode cX10_lock 22 = .ok (.iconst 0, 1) := by decide +kernel
theorem dX10_lock_23 : decode cX10_lock 23 = .ok (.goto 4, 3) := by decide +kernel
theorem dX10_lock_26 : decode cX10_lock 26 = .ok (.iconst 2, 1) := by decide +kernel
theorem dX10_lock_27 : decode cX10_lock 27 = .ok (.putfield 76, 3) := by decide +kernel
theorem dX10_lock_30 : decode cX10_lock 30 = .ok (.aload_n 0, 1) := by decide +kernel
theorem dX10_lock_31 : decode cX10_lock 31 = .ok (.getfield 76, 3) := by decide +kernel
theorem dX10_lock_34 : decode cX10_lock 34 = .ok (.ifCond .ne 27, 3) := by decide +kernel
theorem dX10_lock_37 : decode cX10_lock 37 = .ok (.lload_n 2, 1) := by decide +kernel
theorem dX10_lock_38 : decode cX10_lock 38 = .ok (.lload 6, 2) := by decide +kernel
theorem dX10_lock_40 : decode cX10_lock 40 = .ok (.lcmp, 1) := by decide +kernel
theorem dX10_lock_41 : decode cX10_lock 41 = .ok (.ifCond .gt 20, 3) := by decide +kernel
theorem dX10_lock_44 : decode cX10_lock 44 = .ok (.lload 4, 2) := by decide +kernel
theorem dX10_lock_46 : decode cX10_lock 46 = .ok (.lload 8, 2) := by decide +kernel
theorem dX10_lock_48 : decode cX10_lock 48 = .ok (.lcmp, 1) := by decide +kernel
theorem dX10_lock_49 : decode cX10_lock 49 = .ok (.ifCond .gt 12, 3) := by decide +kernel
theorem dX10_lock_52 : decode cX10_lock 52 = .ok (.aload_n 0, 1) := by decide +kernel
theorem dX10_lock_53 : decode cX10_lock 53 = .ok (.getfield 100, 3) := by decide +kernel
theorem dX10_lock_56 : decode cX10_lock 56 = .ok (.bipush 10, 2) := by decide +kernel
theorem dX10_lock_58 : decode cX10_lock 58 = .ok (.if_icmp .ne 5, 3) := by decide +kernel
theorem dX10_lock_61 : decode cX10_lock 61 = .ok (.iconst 0, 1) := by decide +kernel
theorem dX10_lock_62 : decode cX10_lock 62 = .ok (.ireturn, 1) := by decide +kernel
theorem dX10_lock_63 : decode cX10_lock 63 = .ok (.iconst 0, 1) := by decide +kernel
theorem dX10_lock_64 : decode cX10_lock 64 = .ok (.istore 10, 2) := by decide +kernel
theorem dX10_lock_66 : decode cX10_lock 66 = .ok (.iload 10, 2) := by decide +kernel
theorem dX10_lock_68 : decode cX10_lock 68 = .ok (.aload_n 0, 1) := by decide +kernel
theorem dX10_lock_69 : decode cX10_lock 69 = .ok (.getfield 100, 3) := by decide +kernel
theorem dX10_lock_72 : decode cX10_lock 72 = .ok (.if_icmp .ge 99, 3) := by decide +kernel
theorem dX10_lock_75 : decode cX10_lock 75 = .ok (.aload_n 0, 1) := by decide +kernel
theorem dX10_lock_76 : decode cX10_lock 76 = .ok (.getfield 61, 3) := by decide +kernel
theorem dX10_lock_79 : decode cX10_lock 79 = .ok (.iconst 4, 1) := by decide +kernel
theorem dX10_lock_80 : decode cX10_lock 80 = .ok (.iload 10, 2) := by decide +kernel
theorem dX10_lock_82 : decode cX10_lock 82 = .ok (.imul, 1) := by decide +kernel
theorem dX10_lock_83 : decode cX10_lock 83 = .ok (.laload, 1) := by decide +kernel
theorem dX10_lock_84 : decode cX10_lock 84 = .ok (.lload 6, 2) := by decide +kernel
theorem dX10_lock_86 : decode cX10_lock 86 = .ok (.lcmp, 1) := by decide +kernel
theorem dX10_lock_87 : decode cX10_lock 87 = .ok (.ifCond .gt 57, 3) := by decide +kernel
theorem dX10_lock_90 : decode cX10_lock 90 = .ok (.lload_n 2, 1) := by decide +kernel
theorem dX10_lock_91 : decode cX10_lock 91 = .ok (.aload_n 0, 1) := by decide +kernel
theorem dX10_lock_92 : decode cX10_lock 92 = .ok (.getfield 61, 3) := by decide +kernel
theorem dX10_lock_95 : decode cX10_lock 95 = .ok (.iconst 4, 1) := by decide +kernel
theorem dX10_lock_96 : decode cX10_lock 96 = .ok (.iload 10, 2) := by decide +kernel
theorem dX10_lock_98 : decode cX10_lock 98 = .ok (.imul, 1) := by decide +kernel
theorem dX10_lock_99 : decode cX10_lock 99 = .ok (.iconst 2, 1) := by decide +kernel
theorem dX10_lock_100 : decode cX10_lock 100 = .ok (.iadd, 1) := by decide +kernel
theorem dX10_lock_101 : decode cX10_lock 101 = .ok (.laload, 1) := by decide +kernel
theorem dX10_lock_102 : decode cX10_lock 102 = .ok (.lcmp, 1) := by decide +kernel
theorem dX10_lock_103 : decode cX10_lock 103 = .ok (.ifCond .gt 41, 3) := by decide +kernel
theorem dX10_lock_106 : decode cX10_lock 106 = .ok (.aload_n 0, 1) := by decide +kernel
theorem dX10_lock_107 : decode cX10_lock 107 = .ok (.getfield 61, 3) := by decide +kernel
theorem dX10_lock_110 : decode cX10_lock 110 = .ok (.iconst 4, 1) := by decide +kernel
theorem dX10_lock_111 : decode cX10_lock 111 = .ok (.iload 10, 2) := by decide +kernel
theorem dX10_lock_113 : decode cX10_lock 113 = .ok (.imul, 1) := by decide +kernel
theorem dX10_lock_114 : decode cX10_lock 114 = .ok (.iconst 1, 1) := by decide +kernel
theorem dX10_lock_115 : decode cX10_lock 115 = .ok (.iadd, 1) := by decide +kernel
theorem dX10_lock_116 : decode cX10_lock 116 = .ok (.laload, 1) := by decide +kernel
theorem dX10_lock_117 : decode cX10_lock 117 = .ok (.lload 8, 2) := by decide +kernel
theorem dX10_lock_119 : decode cX10_lock 119 = .ok (.lcmp, 1) := by decide +kernel
theorem dX10_lock_120 : decode cX10_lock 120 = .ok (.ifCond .gt 24, 3) := by decide +kernel
theorem dX10_lock_123 : decode cX10_lock 123 = .ok (.lload 4, 2) := by decide +kernel
theorem dX10_lock_125 : decode cX10_lock 125 = .ok (.aload_n 0, 1) := by decide +kernel
theorem dX10_lock_126 : decode cX10_lock 126 = .ok (.getfield 61, 3) := by decide +kernel
theorem dX10_lock_129 : decode cX10_lock 129 = .ok (.iconst 4, 1) := by decide +kernel
theorem dX10_lock_130 : decode cX10_lock 130 = .ok (.iload 10, 2) := by decide +kernel
theorem dX10_lock_132 : decode cX10_lock 132 = .ok (.imul, 1) := by decide +kernel
theorem dX10_lock_133 : decode cX10_lock 133 = .ok (.iconst 3, 1) := by decide +kernel
theorem dX10_lock_134 : decode cX10_lock 134 = .ok (.iadd, 1) := by decide +kernel
theorem dX10_lock_135 : decode cX10_lock 135 = .ok (.laload, 1) := by decide +kernel
theorem dX10_lock_136 : decode cX10_lock 136 = .ok (.lcmp, 1) := by decide +kernel
theorem dX10_lock_137 : decode cX10_lock 137 = .ok (.ifCond .gt 7, 3) := by decide +kernel
theorem dX10_lock_140 : decode cX10_lock 140 = .ok (.iconst 1, 1) := by decide +kernel
theorem dX10_lock_141 : decode cX10_lock 141 = .ok (.goto 4, 3) := by decide +kernel
theorem dX10_lock_144 : decode cX10_lock 144 = .ok (.iconst 0, 1) := by decide +kernel
theorem dX10_lock_145 : decode cX10_lock 145 = .ok (.istore 11, 2) := by decide +kernel
theorem dX10_lock_147 : decode cX10_lock 147 = .ok (.aload_n 0, 1) := by decide +kernel
theorem dX10_lock_148 : decode cX10_lock 148 = .ok (.getfield 58, 3) := by decide +kernel
theorem dX10_lock_151 : decode cX10_lock 151 = .ok (.iload 10, 2) := by decide +kernel
theorem dX10_lock_153 : decode cX10_lock 153 = .ok (.iaload, 1) := by decide +kernel
theorem dX10_lock_154 : decode cX10_lock 154 = .ok (.iload_n 1, 1) := by decide +kernel
theorem dX10_lock_155 : decode cX10_lock 155 = .ok (.if_icmp .eq 10, 3) := by decide +kernel
theorem dX10_lock_158 : decode cX10_lock 158 = .ok (.iload 11, 2) := by decide +kernel
theorem dX10_lock_160 : decode cX10_lock 160 = .ok (.ifCond .eq 5, 3) := by decide +kernel
theorem dX10_lock_163 : decode cX10_lock 163 = .ok (.iconst 0, 1) := by decide +kernel
theorem dX10_lock_164 : decode cX10_lock 164 = .ok (.ireturn, 1) := by decide +kernel
theorem dX10_lock_165 : decode cX10_lock 165 = .ok (.iinc 10 1, 3) := by decide +kernel
theorem dX10_lock_168 : decode cX10_lock 168 = .ok (.goto (-102), 3) := by decide +kernel
theorem dX10_lock_171 : decode cX10_lock 171 = .ok (.aload_n 0, 1) := by decide +kernel
theorem dX10_lock_172 : decode cX10_lock 172 = .ok (.getfield 58, 3) := by decide +kernel
theorem dX10_lock_175 : decode cX10_lock 175 = .ok (.aload_n 0, 1) := by decide +kernel
theorem dX10_lock_176 : decode cX10_lock 176 = .ok (.getfield 100, 3) := by decide +kernel
theorem dX10_lock_179 : decode cX10_lock 179 = .ok (.iload_n 1, 1) := by decide +kernel
theorem dX10_lock_180 : decode cX10_lock 180 = .ok (.iastore, 1) := by decide +kernel
theorem dX10_lock_181 : decode cX10_lock 181 = .ok (.aload_n 0, 1) := by decide +kernel
theorem dX10_lock_182 : decode cX10_lock 182 = .ok (.getfield 61, 3) := by decide +kernel
theorem dX10_lock_185 : decode cX10_lock 185 = .ok (.iconst 4, 1) := by decide +kernel
theorem dX10_lock_186 : decode cX10_lock 186 = .ok (.aload_n 0, 1) := by decide +kernel
theorem dX10_lock_187 : decode cX10_lock 187 = .ok (.getfield 100, 3) := by decide +kernel
theorem dX10_lock_190 : decode cX10_lock 190 = .ok (.imul, 1) := by decide +kernel
theorem dX10_lock_191 : decode cX10_lock 191 = .ok (.lload_n 2, 1) := by decide +kernel
theorem dX10_lock_192 : decode cX10_lock 192 = .ok (.lastore, 1) := by decide +kernel
theorem dX10_lock_193 : decode cX10_lock 193 = .ok (.aload_n 0, 1) := by decide +kernel
theorem dX10_lock_194 : decode cX10_lock 194 = .ok (.getfield 61, 3) := by decide +kernel
theorem dX10_lock_197 : decode cX10_lock 197 = .ok (.iconst 4, 1) := by decide +kernel
theorem dX10_lock_198 : decode cX10_lock 198 = .ok (.aload_n 0, 1) := by decide +kernel
theorem dX10_lock_199 : decode cX10_lock 199 = .ok (.getfield 100, 3) := by decide +kernel
theorem dX10_lock_202 : decode cX10_lock 202 = .ok (.imul, 1) := by decide +kernel
theorem dX10_lock_203 : decode cX10_lock 203 = .ok (.iconst 1, 1) := by decide +kernel
theorem dX10_lock_204 : decode cX10_lock 204 = .ok (.iadd, 1) := by decide +kernel
theorem dX10_lock_205 : decode cX10_lock 205 = .ok (.lload 4, 2) := by decide +kernel
theorem dX10_lock_207 : decode cX10_lock 207 = .ok (.lastore, 1) := by decide +kernel
theorem dX10_lock_208 : decode cX10_lock 208 = .ok (.aload_n 0, 1) := by decide +kernel
theorem dX10_lock_209 : decode cX10_lock 209 = .ok (.getfield 61, 3) := by decide +kernel
theorem dX10_lock_212 : decode cX10_lock 212 = .ok (.iconst 4, 1) := by decide +kernel
theorem dX10_lock_213 : decode cX10_lock 213 = .ok (.aload_n 0, 1) := by decide +kernel
theorem dX10_lock_214 : decode cX10_lock 214 = .ok (.getfield 100, 3) := by decide +kernel
theorem dX10_lock_217 : decode cX10_lock 217 = .ok (.imul, 1) := by decide +kernel
theorem dX10_lock_218 : decode cX10_lock 218 = .ok (.iconst 2, 1) := by decide +kernel
theorem dX10_lock_219 : decode cX10_lock 219 = .ok (.iadd, 1) := by decide +kernel
theorem dX10_lock_220 : decode cX10_lock 220 = .ok (.lload 6, 2) := by decide +kernel
theorem dX10_lock_222 : decode cX10_lock 222 = .ok (.lastore, 1) := by decide +kernel
theorem dX10_lock_223 : decode cX10_lock 223 = .ok (.aload_n 0, 1) := by decide +kernel
theorem dX10_lock_224 : decode cX10_lock 224 = .ok (.getfield 61, 3) := by decide +kernel
theorem dX10_lock_227 : decode cX10_lock 227 = .ok (.iconst 4, 1) := by decide +kernel
theorem dX10_lock_228 : decode cX10_lock 228 = .ok (.aload_n 0, 1) := by decide +kernel
theorem dX10_lock_229 : decode cX10_lock 229 = .ok (.getfield 100, 3) := by decide +kernel
theorem dX10_lock_232 : decode cX10_lock 232 = .ok (.imul, 1) := by decide +kernel
theorem dX10_lock_233 : decode cX10_lock 233 = .ok (.iconst 3, 1) := by decide +kernel
theorem dX10_lock_234 : decode cX10_lock 234 = .ok (.iadd, 1) := by decide +kernel
theorem dX10_lock_235 : decode cX10_lock 235 = .ok (.lload 8, 2) := by decide +kernel
theorem dX10_lock_237 : decode cX10_lock 237 = .ok (.lastore, 1) := by decide +kernel
theorem dX10_lock_238 : decode cX10_lock 238 = .ok (.aload_n 0, 1) := by decide +kernel
theorem dX10_lock_239 : decode cX10_lock 239 = .ok (.dup, 1) := by decide +kernel
theorem dX10_lock_240 : decode cX10_lock 240 = .ok (.getfield 100, 3) := by decide +kernel
theorem dX10_lock_243 : decode cX10_lock 243 = .ok (.iconst 1, 1) := by decide +kernel
theorem dX10_lock_244 : decode cX10_lock 244 = .ok (.iadd, 1) := by decide +kernel
theorem dX10_lock_245 : decode cX10_lock 245 = .ok (.putfield 100, 3) := by decide +kernel
theorem dX10_lock_248 : decode cX10_lock 248 = .ok (.iconst 1, 1) := by decide +kernel
theorem dX10_lock_249 : decode cX10_lock 249 = .ok (.ireturn, 1) := by decide +kernel
theorem dX10_apart_0 : decode cX10_apart 0 = .ok (.aload_n 0, 1) := by decide +kernel
theorem dX10_apart_1 : decode cX10_apart 1 = .ok (.aload_n 0, 1) := by decide +kernel
theorem dX10_apart_2 : decode cX10_apart 2 = .ok (.iload_n 1, 1) := by decide +kernel
theorem dX10_apart_3 : decode cX10_apart 3 = .ok (.invokevirtual 114, 3) := by decide +kernel
theorem dX10_apart_6 : decode cX10_apart 6 = .ok (.ifCond .eq 11, 3) := by decide +kernel
theorem dX10_apart_9 : decode cX10_apart 9 = .ok (.aload_n 0, 1) := by decide +kernel
theorem dX10_apart_10 : decode cX10_apart 10 = .ok (.iload_n 2, 1) := by decide +kernel
theorem dX10_apart_11 : decode cX10_apart 11 = .ok (.invokevirtual 114, 3) := by decide +kernel
theorem dX10_apart_14 : decode cX10_apart 14 = .ok (.ifCond .ne 7, 3) := by decide +kernel
theorem dX10_apart_17 : decode cX10_apart 17 = .ok (.iconst 1, 1) := by decide +kernel
theorem dX10_apart_18 : decode cX10_apart 18 = .ok (.goto 22, 3) := by decide +kernel
theorem dX10_apart_21 : decode cX10_apart 21 = .ok (.lload_n 3, 1) := by decide +kernel
theorem dX10_apart_22 : decode cX10_apart 22 = .ok (.lconst 0, 1) := by decide +kernel
theorem dX10_apart_23 : decode cX10_apart 23 = .ok (.lcmp, 1) := by decide +kernel
theorem dX10_apart_24 : decode cX10_apart 24 = .ok (.ifCond .lt 11, 3) := by decide +kernel
theorem dX10_apart_27 : decode cX10_apart 27 = .ok (.lload_n 3, 1) := by decide +kernel
theorem dX10_apart_28 : decode cX10_apart 28 = .ok (.ldc2_w 201, 3) := by decide +kernel
theorem dX10_apart_31 : decode cX10_apart 31 = .ok (.lcmp, 1) := by decide +kernel
theorem dX10_apart_32 : decode cX10_apart 32 = .ok (.ifCond .le 7, 3) := by decide +kernel
theorem dX10_apart_35 : decode cX10_apart 35 = .ok (.iconst 2, 1) := by decide +kernel
theorem dX10_apart_36 : decode cX10_apart 36 = .ok (.goto 4, 3) := by decide +kernel
theorem dX10_apart_39 : decode cX10_apart 39 = .ok (.iconst 0, 1) := by decide +kernel
theorem dX10_apart_40 : decode cX10_apart 40 = .ok (.putfield 76, 3) := by decide +kernel
theorem dX10_apart_43 : decode cX10_apart 43 = .ok (.aload_n 0, 1) := by decide +kernel
theorem dX10_apart_44 : decode cX10_apart 44 = .ok (.getfield 76, 3) := by decide +kernel
theorem dX10_apart_47 : decode cX10_apart 47 = .ok (.ifCond .ne 17, 3) := by decide +kernel
theorem dX10_apart_50 : decode cX10_apart 50 = .ok (.iload_n 1, 1) := by decide +kernel
theorem dX10_apart_51 : decode cX10_apart 51 = .ok (.iload_n 2, 1) := by decide +kernel
theorem dX10_apart_52 : decode cX10_apart 52 = .ok (.if_icmp .eq 12, 3) := by decide +kernel
theorem dX10_apart_55 : decode cX10_apart 55 = .ok (.aload_n 0, 1) := by decide +kernel
theorem dX10_apart_56 : decode cX10_apart 56 = .ok (.getfield 203, 3) := by decide +kernel
theorem dX10_apart_59 : decode cX10_apart 59 = .ok (.bipush 20, 2) := by decide +kernel
theorem dX10_apart_61 : decode cX10_apart 61 = .ok (.if_icmp .ne 5, 3) := by decide +kernel
theorem dX10_apart_64 : decode cX10_apart 64 = .ok (.iconst 0, 1) := by decide +kernel
theorem dX10_apart_65 : decode cX10_apart 65 = .ok (.ireturn, 1) := by decide +kernel
theorem dX10_apart_66 : decode cX10_apart 66 = .ok (.aload_n 0, 1) := by decide +kernel
theorem dX10_apart_67 : decode cX10_apart 67 = .ok (.getfield 64, 3) := by decide +kernel
theorem dX10_apart_70 : decode cX10_apart 70 = .ok (.aload_n 0, 1) := by decide +kernel
theorem dX10_apart_71 : decode cX10_apart 71 = .ok (.getfield 203, 3) := by decide +kernel
theorem dX10_apart_74 : decode cX10_apart 74 = .ok (.iload_n 1, 1) := by decide +kernel
theorem dX10_apart_75 : decode cX10_apart 75 = .ok (.iastore, 1) := by decide +kernel
theorem dX10_apart_76 : decode cX10_apart 76 = .ok (.aload_n 0, 1) := by decide +kernel
theorem dX10_apart_77 : decode cX10_apart 77 = .ok (.getfield 67, 3) := by decide +kernel
theorem dX10_apart_80 : decode cX10_apart 80 = .ok (.aload_n 0, 1) := by decide +kernel
theorem dX10_apart_81 : decode cX10_apart 81 = .ok (.getfield 203, 3) := by decide +kernel
theorem dX10_apart_84 : decode cX10_apart 84 = .ok (.iload_n 2, 1) := by decide +kernel
theorem dX10_apart_85 : decode cX10_apart 85 = .ok (.iastore, 1) := by decide +kernel
theorem dX10_apart_86 : decode cX10_apart 86 = .ok (.aload_n 0, 1) := by decide +kernel
theorem dX10_apart_87 : decode cX10_apart 87 = .ok (.getfield 70, 3) := by decide +kernel
theorem dX10_apart_90 : decode cX10_apart 90 = .ok (.aload_n 0, 1) := by decide +kernel
theorem dX10_apart_91 : decode cX10_apart 91 = .ok (.getfield 203, 3) := by decide +kernel
theorem dX10_apart_94 : decode cX10_apart 94 = .ok (.lload_n 3, 1) := by decide +kernel
theorem dX10_apart_95 : decode cX10_apart 95 = .ok (.lastore, 1) := by decide +kernel
theorem dX10_apart_96 : decode cX10_apart 96 = .ok (.aload_n 0, 1) := by decide +kernel
theorem dX10_apart_97 : decode cX10_apart 97 = .ok (.dup, 1) := by decide +kernel
theorem dX10_apart_98 : decode cX10_apart 98 = .ok (.getfield 203, 3) := by decide +kernel
theorem dX10_apart_101 : decode cX10_apart 101 = .ok (.iconst 1, 1) := by decide +kernel
theorem dX10_apart_102 : decode cX10_apart 102 = .ok (.iadd, 1) := by decide +kernel
theorem dX10_apart_103 : decode cX10_apart 103 = .ok (.putfield 203, 3) := by decide +kernel
theorem dX10_apart_106 : decode cX10_apart 106 = .ok (.iconst 1, 1) := by decide +kernel
theorem dX10_apart_107 : decode cX10_apart 107 = .ok (.ireturn, 1) := by decide +kernel
theorem dX10_far_0 : decode cX10_far 0 = .ok (.lload_n 0, 1) := by decide +kernel
theorem dX10_far_1 : decode cX10_far 1 = .ok (.lload_n 2, 1) := by decide +kernel
theorem dX10_far_2 : decode cX10_far 2 = .ok (.lcmp, 1) := by decide +kernel
theorem dX10_far_3 : decode cX10_far 3 = .ok (.ifCond .ge 7, 3) := by decide +kernel
theorem dX10_far_6 : decode cX10_far 6 = .ok (.lload_n 0, 1) := by decide +kernel
theorem dX10_far_7 : decode cX10_far 7 = .ok (.goto 4, 3) := by decide +kernel
theorem dX10_far_10 : decode cX10_far 10 = .ok (.lload_n 2, 1) := by decide +kernel
theorem dX10_far_11 : decode cX10_far 11 = .ok (.lstore 4, 2) := by decide +kernel
theorem dX10_far_13 : decode cX10_far 13 = .ok (.lload_n 0, 1) := by decide +kernel
theorem dX10_far_14 : decode cX10_far 14 = .ok (.lload_n 2, 1) := by decide +kernel
theorem dX10_far_15 : decode cX10_far 15 = .ok (.lcmp, 1) := by decide +kernel
theorem dX10_far_16 : decode cX10_far 16 = .ok (.ifCond .ge 7, 3) := by decide +kernel
theorem dX10_far_19 : decode cX10_far 19 = .ok (.lload_n 2, 1) := by decide +kernel
theorem dX10_far_20 : decode cX10_far 20 = .ok (.goto 4, 3) := by decide +kernel
theorem dX10_far_23 : decode cX10_far 23 = .ok (.lload_n 0, 1) := by decide +kernel
theorem dX10_far_24 : decode cX10_far 24 = .ok (.lstore 6, 2) := by decide +kernel
theorem dX10_far_26 : decode cX10_far 26 = .ok (.lload 6, 2) := by decide +kernel
theorem dX10_far_28 : decode cX10_far 28 = .ok (.lload 4, 2) := by decide +kernel
theorem dX10_far_30 : decode cX10_far 30 = .ok (.lsub, 1) := by decide +kernel
theorem dX10_far_31 : decode cX10_far 31 = .ok (.lstore 8, 2) := by decide +kernel
theorem dX10_far_33 : decode cX10_far 33 = .ok (.lload 8, 2) := by decide +kernel
theorem dX10_far_35 : decode cX10_far 35 = .ok (.lconst 0, 1) := by decide +kernel
theorem dX10_far_36 : decode cX10_far 36 = .ok (.lcmp, 1) := by decide +kernel
theorem dX10_far_37 : decode cX10_far 37 = .ok (.ifCond .lt 12, 3) := by decide +kernel
theorem dX10_far_40 : decode cX10_far 40 = .ok (.lload 8, 2) := by decide +kernel
theorem dX10_far_42 : decode cX10_far 42 = .ok (.ldc2_w 206, 3) := by decide +kernel
theorem dX10_far_45 : decode cX10_far 45 = .ok (.lcmp, 1) := by decide +kernel
theorem dX10_far_46 : decode cX10_far 46 = .ok (.ifCond .le 9, 3) := by decide +kernel
theorem dX10_far_49 : decode cX10_far 49 = .ok (.ldc2_w 206, 3) := by decide +kernel
theorem dX10_far_52 : decode cX10_far 52 = .ok (.goto 5, 3) := by decide +kernel
theorem dX10_far_55 : decode cX10_far 55 = .ok (.lload 8, 2) := by decide +kernel
theorem dX10_far_57 : decode cX10_far 57 = .ok (.lreturn, 1) := by decide +kernel
theorem dX10_isBroken_0 : decode cX10_isBroken 0 = .ok (.aload_n 0, 1) := by decide +kernel
theorem dX10_isBroken_1 : decode cX10_isBroken 1 = .ok (.getfield 64, 3) := by decide +kernel
theorem dX10_isBroken_4 : decode cX10_isBroken 4 = .ok (.iload_n 1, 1) := by decide +kernel
theorem dX10_isBroken_5 : decode cX10_isBroken 5 = .ok (.iaload, 1) := by decide +kernel
theorem dX10_isBroken_6 : decode cX10_isBroken 6 = .ok (.istore_n 2, 1) := by decide +kernel
theorem dX10_isBroken_7 : decode cX10_isBroken 7 = .ok (.aload_n 0, 1) := by decide +kernel
theorem dX10_isBroken_8 : decode cX10_isBroken 8 = .ok (.getfield 67, 3) := by decide +kernel
theorem dX10_isBroken_11 : decode cX10_isBroken 11 = .ok (.iload_n 1, 1) := by decide +kernel
theorem dX10_isBroken_12 : decode cX10_isBroken 12 = .ok (.iaload, 1) := by decide +kernel
theorem dX10_isBroken_13 : decode cX10_isBroken 13 = .ok (.istore_n 3, 1) := by decide +kernel
theorem dX10_isBroken_14 : decode cX10_isBroken 14 = .ok (.aload_n 0, 1) := by decide +kernel
theorem dX10_isBroken_15 : decode cX10_isBroken 15 = .ok (.iload_n 2, 1) := by decide +kernel
theorem dX10_isBroken_16 : decode cX10_isBroken 16 = .ok (.invokevirtual 144, 3) := by decide +kernel
theorem dX10_isBroken_19 : decode cX10_isBroken 19 = .ok (.ifCond .eq 11, 3) := by decide +kernel
theorem dX10_isBroken_22 : decode cX10_isBroken 22 = .ok (.aload_n 0, 1) := by decide +kernel
theorem dX10_isBroken_23 : decode cX10_isBroken 23 = .ok (.iload_n 3, 1) := by decide +kernel
theorem dX10_isBroken_24 : decode cX10_isBroken 24 = .ok (.invokevirtual 144, 3) := by decide +kernel
theorem dX10_isBroken_27 : decode cX10_isBroken 27 = .ok (.ifCond .ne 5, 3) := by decide +kernel
theorem dX10_isBroken_30 : decode cX10_isBroken 30 = .ok (.iconst 0, 1) := by decide +kernel
theorem dX10_isBroken_31 : decode cX10_isBroken 31 = .ok (.ireturn, 1) := by decide +kernel
theorem dX10_isBroken_32 : decode cX10_isBroken 32 = .ok (.aload_n 0, 1) := by decide +kernel
theorem dX10_isBroken_33 : decode cX10_isBroken 33 = .ok (.iload_n 2, 1) := by decide +kernel
theorem dX10_isBroken_34 : decode cX10_isBroken 34 = .ok (.iconst 0, 1) := by decide +kernel
theorem dX10_isBroken_35 : decode cX10_isBroken 35 = .ok (.invokevirtual 124, 3) := by decide +kernel
theorem dX10_isBroken_38 : decode cX10_isBroken 38 = .ok (.aload_n 0, 1) := by decide +kernel
theorem dX10_isBroken_39 : decode cX10_isBroken 39 = .ok (.iload_n 3, 1) := by decide +kernel
theorem dX10_isBroken_40 : decode cX10_isBroken 40 = .ok (.iconst 0, 1) := by decide +kernel
theorem dX10_isBroken_41 : decode cX10_isBroken 41 = .ok (.invokevirtual 124, 3) := by decide +kernel
theorem dX10_isBroken_44 : decode cX10_isBroken 44 = .ok (.invokestatic 208, 3) := by decide +kernel
theorem dX10_isBroken_47 : decode cX10_isBroken 47 = .ok (.aload_n 0, 1) := by decide +kernel
theorem dX10_isBroken_48 : decode cX10_isBroken 48 = .ok (.iload_n 2, 1) := by decide +kernel
theorem dX10_isBroken_49 : decode cX10_isBroken 49 = .ok (.iconst 1, 1) := by decide +kernel
theorem dX10_isBroken_50 : decode cX10_isBroken 50 = .ok (.invokevirtual 124, 3) := by decide +kernel
theorem dX10_isBroken_53 : decode cX10_isBroken 53 = .ok (.aload_n 0, 1) := by decide +kernel
theorem dX10_isBroken_54 : decode cX10_isBroken 54 = .ok (.iload_n 3, 1) := by decide +kernel
theorem dX10_isBroken_55 : decode cX10_isBroken 55 = .ok (.iconst 1, 1) := by decide +kernel
theorem dX10_isBroken_56 : decode cX10_isBroken 56 = .ok (.invokevirtual 124, 3) := by decide +kernel
theorem dX10_isBroken_59 : decode cX10_isBroken 59 = .ok (.invokestatic 208, 3) := by decide +kernel
theorem dX10_isBroken_62 : decode cX10_isBroken 62 = .ok (.ladd, 1) := by decide +kernel
theorem dX10_isBroken_63 : decode cX10_isBroken 63 = .ok (.aload_n 0, 1) := by decide +kernel
theorem dX10_isBroken_64 : decode cX10_isBroken 64 = .ok (.getfield 70, 3) := by decide +kernel
theorem dX10_isBroken_67 : decode cX10_isBroken 67 = .ok (.iload_n 1, 1) := by decide +kernel
theorem dX10_isBroken_68 : decode cX10_isBroken 68 = .ok (.laload, 1) := by decide +kernel
theorem dX10_isBroken_69 : decode cX10_isBroken 69 = .ok (.lcmp, 1) := by decide +kernel
theorem dX10_isBroken_70 : decode cX10_isBroken 70 = .ok (.ifCond .ge 7, 3) := by decide +kernel
theorem dX10_isBroken_73 : decode cX10_isBroken 73 = .ok (.iconst 1, 1) := by decide +kernel
theorem dX10_isBroken_74 : decode cX10_isBroken 74 = .ok (.goto 4, 3) := by decide +kernel
theorem dX10_isBroken_77 : decode cX10_isBroken 77 = .ok (.iconst 0, 1) := by decide +kernel
theorem dX10_isBroken_78 : decode cX10_isBroken 78 = .ok (.ireturn, 1) := by decide +kernel
theorem dX10_violation_0 : decode cX10_violation 0 = .ok (.aload_n 0, 1) := by decide +kernel
theorem dX10_violation_1 : decode cX10_violation 1 = .ok (.iload_n 2, 1) := by decide +kernel
theorem dX10_violation_2 : decode cX10_violation 2 = .ok (.ifCond .eq 8, 3) := by decide +kernel
theorem dX10_violation_5 : decode cX10_violation 5 = .ok (.iload_n 2, 1) := by decide +kernel
theorem dX10_violation_6 : decode cX10_violation 6 = .ok (.iconst 1, 1) := by decide +kernel
theorem dX10_violation_7 : decode cX10_violation 7 = .ok (.if_icmp .ne 7, 3) := by decide +kernel
theorem dX10_violation_10 : decode cX10_violation 10 = .ok (.iconst 0, 1) := by decide +kernel
theorem dX10_violation_11 : decode cX10_violation 11 = .ok (.goto 4, 3) := by decide +kernel
theorem dX10_violation_14 : decode cX10_violation 14 = .ok (.iconst 1, 1) := by decide +kernel
theorem dX10_violation_15 : decode cX10_violation 15 = .ok (.putfield 76, 3) := by decide +kernel
theorem dX10_violation_18 : decode cX10_violation 18 = .ok (.aload_n 0, 1) := by decide +kernel
theorem dX10_violation_19 : decode cX10_violation 19 = .ok (.getfield 76, 3) := by decide +kernel
theorem dX10_violation_22 : decode cX10_violation 22 = .ok (.ifCond .eq 5, 3) := by decide +kernel
theorem dX10_violation_25 : decode cX10_violation 25 = .ok (.iconst 0, 1) := by decide +kernel
theorem dX10_violation_26 : decode cX10_violation 26 = .ok (.ireturn, 1) := by decide +kernel
theorem dX10_violation_27 : decode cX10_violation 27 = .ok (.iload_n 1, 1) := by decide +kernel
theorem dX10_violation_28 : decode cX10_violation 28 = .ok (.istore_n 3, 1) := by decide +kernel
theorem dX10_violation_29 : decode cX10_violation 29 = .ok (.iconst 0, 1) := by decide +kernel
theorem dX10_violation_30 : decode cX10_violation 30 = .ok (.istore 4, 2) := by decide +kernel
theorem dX10_violation_32 : decode cX10_violation 32 = .ok (.iload 4, 2) := by decide +kernel
theorem dX10_violation_34 : decode cX10_violation 34 = .ok (.aload_n 0, 1) := by decide +kernel
theorem dX10_violation_35 : decode cX10_violation 35 = .ok (.getfield 203, 3) := by decide +kernel
theorem dX10_violation_38 : decode cX10_violation 38 = .ok (.if_icmp .ge 54, 3) := by decide +kernel
theorem dX10_violation_41 : decode cX10_violation 41 = .ok (.iload_n 1, 1) := by decide +kernel
theorem dX10_violation_42 : decode cX10_violation 42 = .ok (.ifCond .lt 50, 3) := by decide +kernel
theorem dX10_violation_45 : decode cX10_violation 45 = .ok (.aload_n 0, 1) := by decide +kernel
theorem dX10_violation_46 : decode cX10_violation 46 = .ok (.iload 4, 2) := by decide +kernel
theorem dX10_violation_48 : decode cX10_violation 48 = .ok (.invokevirtual 212, 3) := by decide +kernel
theorem dX10_violation_51 : decode cX10_violation 51 = .ok (.ifCond .ne 6, 3) := by decide +kernel
theorem dX10_violation_54 : decode cX10_violation 54 = .ok (.goto 32, 3) := by decide +kernel
theorem dX10_violation_57 : decode cX10_violation 57 = .ok (.iload_n 3, 1) := by decide +kernel
theorem dX10_violation_58 : decode cX10_violation 58 = .ok (.ifCond .ne 25, 3) := by decide +kernel
theorem dX10_violation_61 : decode cX10_violation 61 = .ok (.iload_n 2, 1) := by decide +kernel
theorem dX10_violation_62 : decode cX10_violation 62 = .ok (.ifCond .ne 13, 3) := by decide +kernel
theorem dX10_violation_65 : decode cX10_violation 65 = .ok (.aload_n 0, 1) := by decide +kernel
theorem dX10_violation_66 : decode cX10_violation 66 = .ok (.getfield 64, 3) := by decide +kernel
theorem dX10_violation_69 : decode cX10_violation 69 = .ok (.iload 4, 2) := by decide +kernel
theorem dX10_violation_71 : decode cX10_violation 71 = .ok (.iaload, 1) := by decide +kernel
theorem dX10_violation_72 : decode cX10_violation 72 = .ok (.goto 10, 3) := by decide +kernel
theorem dX10_violation_75 : decode cX10_violation 75 = .ok (.aload_n 0, 1) := by decide +kernel
theorem dX10_violation_76 : decode cX10_violation 76 = .ok (.getfield 67, 3) := by decide +kernel
theorem dX10_violation_79 : decode cX10_violation 79 = .ok (.iload 4, 2) := by decide +kernel
theorem dX10_violation_81 : decode cX10_violation 81 = .ok (.iaload, 1) := by decide +kernel
theorem dX10_violation_82 : decode cX10_violation 82 = .ok (.ireturn, 1) := by decide +kernel
theorem dX10_violation_83 : decode cX10_violation 83 = .ok (.iinc 3 (-1), 3) := by decide +kernel
theorem dX10_violation_86 : decode cX10_violation 86 = .ok (.iinc 4 1, 3) := by decide +kernel
theorem dX10_violation_89 : decode cX10_violation 89 = .ok (.goto (-57), 3) := by decide +kernel
theorem dX10_violation_92 : decode cX10_violation 92 = .ok (.iconst (-1), 1) := by decide +kernel
theorem dX10_violation_93 : decode cX10_violation 93 = .ok (.ireturn, 1) := by decide +kernel
end
section
abbrev wsX0_init : List Cond := .code yX0_init cX0_init 10 none :: wB
theorem yd_X0_init : yX0_init.cls = RX0 ∧ yX0_init.cls ≠ "java/lang/invoke/MethodHandle" ∧ yX0_init.cls ≠ "java/lang/invoke/VarHandle" ∧ (parseMethodDescriptor yX0_init.desc).map (fun d => d.parameters.length) = some 5 := by decide +kernel
abbrev wsX0_holds : List Cond := .code yX0_holds cX0_holds 5 (some .boolean) :: wB
theorem yd_X0_holds : yX0_holds.cls = RX0 ∧ yX0_holds.cls ≠ "java/lang/invoke/MethodHandle" ∧ yX0_holds.cls ≠ "java/lang/invoke/VarHandle" ∧ (parseMethodDescriptor yX0_holds.desc).map (fun d => d.parameters.length) = some 2 := by decide +kernel
abbrev wsX0_meets : List Cond := .code yX0_meets cX0_meets 2 (some .boolean) :: wB
theorem yd_X0_meets : yX0_meets.cls = RX0 ∧ yX0_meets.cls ≠ "java/lang/invoke/MethodHandle" ∧ yX0_meets.cls ≠ "java/lang/invoke/VarHandle" ∧ (parseMethodDescriptor yX0_meets.desc).map (fun d => d.parameters.length) = some 1 := by decide +kernel
abbrev wsX1_init : List Cond := .code yX1_init cX1_init 1 none :: wB
theorem yd_X1_init : yX1_init.cls = RX1 ∧ yX1_init.cls ≠ "java/lang/invoke/MethodHandle" ∧ yX1_init.cls ≠ "java/lang/invoke/VarHandle" ∧ (parseMethodDescriptor yX1_init.desc).map (fun d => d.parameters.length) = some 0 := by decide +kernel
abbrev wsX1_keep : List Cond := .code yX1_keep cX1_keep 3 none :: wB
theorem yd_X1_keep : yX1_keep.cls = RX1 ∧ yX1_keep.cls ≠ "java/lang/invoke/MethodHandle" ∧ yX1_keep.cls ≠ "java/lang/invoke/VarHandle" ∧ (parseMethodDescriptor yX1_keep.desc).map (fun d => d.parameters.length) = some 2 := by decide +kernel
abbrev wsX1_stepBack : List Cond := .code yX1_stepBack cX1_stepBack 1 (some .boolean) :: wB
theorem yd_X1_stepBack : yX1_stepBack.cls = RX1 ∧ yX1_stepBack.cls ≠ "java/lang/invoke/MethodHandle" ∧ yX1_stepBack.cls ≠ "java/lang/invoke/VarHandle" ∧ (parseMethodDescriptor yX1_stepBack.desc).map (fun d => d.parameters.length) = some 0 := by decide +kernel
abbrev wsX1_changedObject : List Cond := .code yX1_changedObject cX1_changedObject 1 (some .int) :: wB
theorem yd_X1_changedObject : yX1_changedObject.cls = RX1 ∧ yX1_changedObject.cls ≠ "java/lang/invoke/MethodHandle" ∧ yX1_changedObject.cls ≠ "java/lang/invoke/VarHandle" ∧ (parseMethodDescriptor yX1_changedObject.desc).map (fun d => d.parameters.length) = some 0 := by decide +kernel
abbrev wsX1_rowBefore : List Cond := .code yX1_rowBefore cX1_rowBefore 1 (some (.object "ObjectMerge$Row")) :: wB
theorem yd_X1_rowBefore : yX1_rowBefore.cls = RX1 ∧ yX1_rowBefore.cls ≠ "java/lang/invoke/MethodHandle" ∧ yX1_rowBefore.cls ≠ "java/lang/invoke/VarHandle" ∧ (parseMethodDescriptor yX1_rowBefore.desc).map (fun d => d.parameters.length) = some 0 := by decide +kernel
abbrev wsX2_init : List Cond := .code yX2_init cX2_init 1 none :: wB
theorem yd_X2_init : yX2_init.cls = RX2 ∧ yX2_init.cls ≠ "java/lang/invoke/MethodHandle" ∧ yX2_init.cls ≠ "java/lang/invoke/VarHandle" ∧ (parseMethodDescriptor yX2_init.desc).map (fun d => d.parameters.length) = some 0 := by decide +kernel
abbrev wsX2_gather : List Cond := .code yX2_gather cX2_gather 4 none :: wB
theorem yd_X2_gather : yX2_gather.cls = RX2 ∧ yX2_gather.cls ≠ "java/lang/invoke/MethodHandle" ∧ yX2_gather.cls ≠ "java/lang/invoke/VarHandle" ∧ (parseMethodDescriptor yX2_gather.desc).map (fun d => d.parameters.length) = some 2 := by decide +kernel
abbrev wsX2_gatherOf : List Cond := .code yX2_gatherOf cX2_gatherOf 4 none :: wB
theorem yd_X2_gatherOf : yX2_gatherOf.cls = RX2 ∧ yX2_gatherOf.cls ≠ "java/lang/invoke/MethodHandle" ∧ yX2_gatherOf.cls ≠ "java/lang/invoke/VarHandle" ∧ (parseMethodDescriptor yX2_gatherOf.desc).map (fun d => d.parameters.length) = some 2 := by decide +kernel
abbrev wsX2_unsettled : List Cond := .code yX2_unsettled cX2_unsettled 3 (some .int) :: wB
theorem yd_X2_unsettled : yX2_unsettled.cls = RX2 ∧ yX2_unsettled.cls ≠ "java/lang/invoke/MethodHandle" ∧ yX2_unsettled.cls ≠ "java/lang/invoke/VarHandle" ∧ (parseMethodDescriptor yX2_unsettled.desc).map (fun d => d.parameters.length) = some 0 := by decide +kernel
abbrev wsX2_has : List Cond := .code yX2_has cX2_has 2 (some .boolean) :: wB
theorem yd_X2_has : yX2_has.cls = RX2 ∧ yX2_has.cls ≠ "java/lang/invoke/MethodHandle" ∧ yX2_has.cls ≠ "java/lang/invoke/VarHandle" ∧ (parseMethodDescriptor yX2_has.desc).map (fun d => d.parameters.length) = some 1 := by decide +kernel
abbrev wsX2_objectOf : List Cond := .code yX2_objectOf cX2_objectOf 2 (some .int) :: wB
theorem yd_X2_objectOf : yX2_objectOf.cls = RX2 ∧ yX2_objectOf.cls ≠ "java/lang/invoke/MethodHandle" ∧ yX2_objectOf.cls ≠ "java/lang/invoke/VarHandle" ∧ (parseMethodDescriptor yX2_objectOf.desc).map (fun d => d.parameters.length) = some 1 := by decide +kernel
abbrev wsX2_fieldOf : List Cond := .code yX2_fieldOf cX2_fieldOf 2 (some .int) :: wB
theorem yd_X2_fieldOf : yX2_fieldOf.cls = RX2 ∧ yX2_fieldOf.cls ≠ "java/lang/invoke/MethodHandle" ∧ yX2_fieldOf.cls ≠ "java/lang/invoke/VarHandle" ∧ (parseMethodDescriptor yX2_fieldOf.desc).map (fun d => d.parameters.length) = some 1 := by decide +kernel
abbrev wsX3_init : List Cond := .code yX3_init cX3_init 3 none :: wB
theorem yd_X3_init : yX3_init.cls = RX3 ∧ yX3_init.cls ≠ "java/lang/invoke/MethodHandle" ∧ yX3_init.cls ≠ "java/lang/invoke/VarHandle" ∧ (parseMethodDescriptor yX3_init.desc).map (fun d => d.parameters.length) = some 1 := by decide +kernel
abbrev wsX3_below : List Cond := .code yX3_below cX3_below 2 (some .int) :: wB
theorem yd_X3_below : yX3_below.cls = RX3 ∧ yX3_below.cls ≠ "java/lang/invoke/MethodHandle" ∧ yX3_below.cls ≠ "java/lang/invoke/VarHandle" ∧ (parseMethodDescriptor yX3_below.desc).map (fun d => d.parameters.length) = some 1 := by decide +kernel
abbrev wsX4_init : List Cond := .code yX4_init cX4_init 1 none :: wB
theorem yd_X4_init : yX4_init.cls = RX4 ∧ yX4_init.cls ≠ "java/lang/invoke/MethodHandle" ∧ yX4_init.cls ≠ "java/lang/invoke/VarHandle" ∧ (parseMethodDescriptor yX4_init.desc).map (fun d => d.parameters.length) = some 0 := by decide +kernel
abbrev wsX4_add : List Cond := .code yX4_add cX4_add 5 (some .boolean) :: wB
theorem yd_X4_add : yX4_add.cls = RX4 ∧ yX4_add.cls ≠ "java/lang/invoke/MethodHandle" ∧ yX4_add.cls ≠ "java/lang/invoke/VarHandle" ∧ (parseMethodDescriptor yX4_add.desc).map (fun d => d.parameters.length) = some 1 := by decide +kernel
abbrev wsX4_bar : List Cond := .code yX4_bar cX4_bar 5 (some .boolean) :: wB
theorem yd_X4_bar : yX4_bar.cls = RX4 ∧ yX4_bar.cls ≠ "java/lang/invoke/MethodHandle" ∧ yX4_bar.cls ≠ "java/lang/invoke/VarHandle" ∧ (parseMethodDescriptor yX4_bar.desc).map (fun d => d.parameters.length) = some 2 := by decide +kernel
abbrev wsX4_release : List Cond := .code yX4_release cX4_release 4 none :: wB
theorem yd_X4_release : yX4_release.cls = RX4 ∧ yX4_release.cls ≠ "java/lang/invoke/MethodHandle" ∧ yX4_release.cls ≠ "java/lang/invoke/VarHandle" ∧ (parseMethodDescriptor yX4_release.desc).map (fun d => d.parameters.length) = some 1 := by decide +kernel
abbrev wsX5_init : List Cond := .code yX5_init cX5_init 1 none :: wB
theorem yd_X5_init : yX5_init.cls = RX5 ∧ yX5_init.cls ≠ "java/lang/invoke/MethodHandle" ∧ yX5_init.cls ≠ "java/lang/invoke/VarHandle" ∧ (parseMethodDescriptor yX5_init.desc).map (fun d => d.parameters.length) = some 0 := by decide +kernel
abbrev wsX5_value : List Cond := .code yX5_value cX5_value 2 (some .long) :: wB
theorem yd_X5_value : yX5_value.cls = RX5 ∧ yX5_value.cls ≠ "java/lang/invoke/MethodHandle" ∧ yX5_value.cls ≠ "java/lang/invoke/VarHandle" ∧ (parseMethodDescriptor yX5_value.desc).map (fun d => d.parameters.length) = some 1 := by decide +kernel
abbrev wsX5_with : List Cond := .code yX5_with cX5_with 6 (some (.object "ObjectMerge$Row")) :: wB
theorem yd_X5_with : yX5_with.cls = RX5 ∧ yX5_with.cls ≠ "java/lang/invoke/MethodHandle" ∧ yX5_with.cls ≠ "java/lang/invoke/VarHandle" ∧ (parseMethodDescriptor yX5_with.desc).map (fun d => d.parameters.length) = some 2 := by decide +kernel
abbrev wsX5_alike : List Cond := .code yX5_alike cX5_alike 3 (some .boolean) :: wB
theorem yd_X5_alike : yX5_alike.cls = RX5 ∧ yX5_alike.cls ≠ "java/lang/invoke/MethodHandle" ∧ yX5_alike.cls ≠ "java/lang/invoke/VarHandle" ∧ (parseMethodDescriptor yX5_alike.desc).map (fun d => d.parameters.length) = some 2 := by decide +kernel
abbrev wsX5_differ : List Cond := .code yX5_differ cX5_differ 3 (some .boolean) :: wB
theorem yd_X5_differ : yX5_differ.cls = RX5 ∧ yX5_differ.cls ≠ "java/lang/invoke/MethodHandle" ∧ yX5_differ.cls ≠ "java/lang/invoke/VarHandle" ∧ (parseMethodDescriptor yX5_differ.desc).map (fun d => d.parameters.length) = some 3 := by decide +kernel
abbrev wsX6_init : List Cond := .code yX6_init cX6_init 5 none :: wB
theorem yd_X6_init : yX6_init.cls = RX6 ∧ yX6_init.cls ≠ "java/lang/invoke/MethodHandle" ∧ yX6_init.cls ≠ "java/lang/invoke/VarHandle" ∧ (parseMethodDescriptor yX6_init.desc).map (fun d => d.parameters.length) = some 3 := by decide +kernel
abbrev wsX6_brokenIn : List Cond := .code yX6_brokenIn cX6_brokenIn 4 (some .boolean) :: wB
theorem yd_X6_brokenIn : yX6_brokenIn.cls = RX6 ∧ yX6_brokenIn.cls ≠ "java/lang/invoke/MethodHandle" ∧ yX6_brokenIn.cls ≠ "java/lang/invoke/VarHandle" ∧ (parseMethodDescriptor yX6_brokenIn.desc).map (fun d => d.parameters.length) = some 1 := by decide +kernel
abbrev wsX6_gap : List Cond := .code yX6_gap cX6_gap 6 (some .long) :: wB
theorem yd_X6_gap : yX6_gap.cls = RX6 ∧ yX6_gap.cls ≠ "java/lang/invoke/MethodHandle" ∧ yX6_gap.cls ≠ "java/lang/invoke/VarHandle" ∧ (parseMethodDescriptor yX6_gap.desc).map (fun d => d.parameters.length) = some 2 := by decide +kernel
abbrev wsX7_init : List Cond := .code yX7_init cX7_init 3 none :: wB
theorem yd_X7_init : yX7_init.cls = RX7 ∧ yX7_init.cls ≠ "java/lang/invoke/MethodHandle" ∧ yX7_init.cls ≠ "java/lang/invoke/VarHandle" ∧ (parseMethodDescriptor yX7_init.desc).map (fun d => d.parameters.length) = some 2 := by decide +kernel
abbrev wsX7_change : List Cond := .code yX7_change cX7_change 3 none :: wB
theorem yd_X7_change : yX7_change.cls = RX7 ∧ yX7_change.cls ≠ "java/lang/invoke/MethodHandle" ∧ yX7_change.cls ≠ "java/lang/invoke/VarHandle" ∧ (parseMethodDescriptor yX7_change.desc).map (fun d => d.parameters.length) = some 2 := by decide +kernel
abbrev wsX7_takeBack : List Cond := .code yX7_takeBack cX7_takeBack 1 (some .boolean) :: wB
theorem yd_X7_takeBack : yX7_takeBack.cls = RX7 ∧ yX7_takeBack.cls ≠ "java/lang/invoke/MethodHandle" ∧ yX7_takeBack.cls ≠ "java/lang/invoke/VarHandle" ∧ (parseMethodDescriptor yX7_takeBack.desc).map (fun d => d.parameters.length) = some 0 := by decide +kernel
abbrev wsX7_sideOf : List Cond := .code yX7_sideOf cX7_sideOf 4 (some .int) :: wB
theorem yd_X7_sideOf : yX7_sideOf.cls = RX7 ∧ yX7_sideOf.cls ≠ "java/lang/invoke/MethodHandle" ∧ yX7_sideOf.cls ≠ "java/lang/invoke/VarHandle" ∧ (parseMethodDescriptor yX7_sideOf.desc).map (fun d => d.parameters.length) = some 2 := by decide +kernel
abbrev wsX7_choose : List Cond := .code yX7_choose cX7_choose 5 none :: wB
theorem yd_X7_choose : yX7_choose.cls = RX7 ∧ yX7_choose.cls ≠ "java/lang/invoke/MethodHandle" ∧ yX7_choose.cls ≠ "java/lang/invoke/VarHandle" ∧ (parseMethodDescriptor yX7_choose.desc).map (fun d => d.parameters.length) = some 3 := by decide +kernel
abbrev wsX7_changed : List Cond := .code yX7_changed cX7_changed 2 (some .boolean) :: wB
theorem yd_X7_changed : yX7_changed.cls = RX7 ∧ yX7_changed.cls ≠ "java/lang/invoke/MethodHandle" ∧ yX7_changed.cls ≠ "java/lang/invoke/VarHandle" ∧ (parseMethodDescriptor yX7_changed.desc).map (fun d => d.parameters.length) = some 1 := by decide +kernel
abbrev wsX7_clashes : List Cond := .code yX7_clashes cX7_clashes 7 (some .boolean) :: wB
theorem yd_X7_clashes : yX7_clashes.cls = RX7 ∧ yX7_clashes.cls ≠ "java/lang/invoke/MethodHandle" ∧ yX7_clashes.cls ≠ "java/lang/invoke/VarHandle" ∧ (parseMethodDescriptor yX7_clashes.desc).map (fun d => d.parameters.length) = some 3 := by decide +kernel
abbrev wsX7_merged : List Cond := .code yX7_merged cX7_merged 8 (some (.object "ObjectMerge$Row")) :: wB
theorem yd_X7_merged : yX7_merged.cls = RX7 ∧ yX7_merged.cls ≠ "java/lang/invoke/MethodHandle" ∧ yX7_merged.cls ≠ "java/lang/invoke/VarHandle" ∧ (parseMethodDescriptor yX7_merged.desc).map (fun d => d.parameters.length) = some 2 := by decide +kernel
abbrev wsX7_takes : List Cond := .code yX7_takes cX7_takes 5 (some .boolean) :: wB
theorem yd_X7_takes : yX7_takes.cls = RX7 ∧ yX7_takes.cls ≠ "java/lang/invoke/MethodHandle" ∧ yX7_takes.cls ≠ "java/lang/invoke/VarHandle" ∧ (parseMethodDescriptor yX7_takes.desc).map (fun d => d.parameters.length) = some 3 := by decide +kernel
abbrev wsX8_init : List Cond := .code yX8_init cX8_init 1 none :: wB
theorem yd_X8_init : yX8_init.cls = RX8 ∧ yX8_init.cls ≠ "java/lang/invoke/MethodHandle" ∧ yX8_init.cls ≠ "java/lang/invoke/VarHandle" ∧ (parseMethodDescriptor yX8_init.desc).map (fun d => d.parameters.length) = some 0 := by decide +kernel
abbrev wsX8_row : List Cond := .code yX8_row cX8_row 2 (some (.object "ObjectMerge$Row")) :: wB
theorem yd_X8_row : yX8_row.cls = RX8 ∧ yX8_row.cls ≠ "java/lang/invoke/MethodHandle" ∧ yX8_row.cls ≠ "java/lang/invoke/VarHandle" ∧ (parseMethodDescriptor yX8_row.desc).map (fun d => d.parameters.length) = some 1 := by decide +kernel
abbrev wsX8_put : List Cond := .code yX8_put cX8_put 3 none :: wB
theorem yd_X8_put : yX8_put.cls = RX8 ∧ yX8_put.cls ≠ "java/lang/invoke/MethodHandle" ∧ yX8_put.cls ≠ "java/lang/invoke/VarHandle" ∧ (parseMethodDescriptor yX8_put.desc).map (fun d => d.parameters.length) = some 2 := by decide +kernel
abbrev wsX8_copy : List Cond := .code yX8_copy cX8_copy 3 (some (.object "ObjectMerge$State")) :: wB
theorem yd_X8_copy : yX8_copy.cls = RX8 ∧ yX8_copy.cls ≠ "java/lang/invoke/MethodHandle" ∧ yX8_copy.cls ≠ "java/lang/invoke/VarHandle" ∧ (parseMethodDescriptor yX8_copy.desc).map (fun d => d.parameters.length) = some 0 := by decide +kernel
abbrev wsX9_init : List Cond := .code yX9_init cX9_init 1 none :: wB
theorem yd_X9_init : yX9_init.cls = RX9 ∧ yX9_init.cls ≠ "java/lang/invoke/MethodHandle" ∧ yX9_init.cls ≠ "java/lang/invoke/VarHandle" ∧ (parseMethodDescriptor yX9_init.desc).map (fun d => d.parameters.length) = some 0 := by decide +kernel
abbrev wsX9_object : List Cond := .code yX9_object cX9_object 4 (some .int) :: wB
theorem yd_X9_object : yX9_object.cls = RX9 ∧ yX9_object.cls ≠ "java/lang/invoke/MethodHandle" ∧ yX9_object.cls ≠ "java/lang/invoke/VarHandle" ∧ (parseMethodDescriptor yX9_object.desc).map (fun d => d.parameters.length) = some 1 := by decide +kernel
abbrev wsX9_session : List Cond := .code yX9_session cX9_session 1 (some .int) :: wB
theorem yd_X9_session : yX9_session.cls = RX9 ∧ yX9_session.cls ≠ "java/lang/invoke/MethodHandle" ∧ yX9_session.cls ≠ "java/lang/invoke/VarHandle" ∧ (parseMethodDescriptor yX9_session.desc).map (fun d => d.parameters.length) = some 0 := by decide +kernel
abbrev wsX9_set : List Cond := .code yX9_set cX9_set 7 (some .boolean) :: wB
theorem yd_X9_set : yX9_set.cls = RX9 ∧ yX9_set.cls ≠ "java/lang/invoke/MethodHandle" ∧ yX9_set.cls ≠ "java/lang/invoke/VarHandle" ∧ (parseMethodDescriptor yX9_set.desc).map (fun d => d.parameters.length) = some 4 := by decide +kernel
abbrev wsX9_drop : List Cond := .code yX9_drop cX9_drop 4 (some .boolean) :: wB
theorem yd_X9_drop : yX9_drop.cls = RX9 ∧ yX9_drop.cls ≠ "java/lang/invoke/MethodHandle" ∧ yX9_drop.cls ≠ "java/lang/invoke/VarHandle" ∧ (parseMethodDescriptor yX9_drop.desc).map (fun d => d.parameters.length) = some 2 := by decide +kernel
abbrev wsX9_make : List Cond := .code yX9_make cX9_make 5 (some .int) :: wB
theorem yd_X9_make : yX9_make.cls = RX9 ∧ yX9_make.cls ≠ "java/lang/invoke/MethodHandle" ∧ yX9_make.cls ≠ "java/lang/invoke/VarHandle" ∧ (parseMethodDescriptor yX9_make.desc).map (fun d => d.parameters.length) = some 2 := by decide +kernel
abbrev wsX9_join : List Cond := .code yX9_join cX9_join 3 (some .int) :: wB
theorem yd_X9_join : yX9_join.cls = RX9 ∧ yX9_join.cls ≠ "java/lang/invoke/MethodHandle" ∧ yX9_join.cls ≠ "java/lang/invoke/VarHandle" ∧ (parseMethodDescriptor yX9_join.desc).map (fun d => d.parameters.length) = some 1 := by decide +kernel
abbrev wsX9_conflict : List Cond := .code yX9_conflict cX9_conflict 6 (some .int) :: wB
theorem yd_X9_conflict : yX9_conflict.cls = RX9 ∧ yX9_conflict.cls ≠ "java/lang/invoke/MethodHandle" ∧ yX9_conflict.cls ≠ "java/lang/invoke/VarHandle" ∧ (parseMethodDescriptor yX9_conflict.desc).map (fun d => d.parameters.length) = some 2 := by decide +kernel
abbrev wsX9_settle : List Cond := .code yX9_settle cX9_settle 7 (some .boolean) :: wB
theorem yd_X9_settle : yX9_settle.cls = RX9 ∧ yX9_settle.cls ≠ "java/lang/invoke/MethodHandle" ∧ yX9_settle.cls ≠ "java/lang/invoke/VarHandle" ∧ (parseMethodDescriptor yX9_settle.desc).map (fun d => d.parameters.length) = some 2 := by decide +kernel
abbrev wsX9_at : List Cond := .code yX9_at cX9_at 3 (some .long) :: wB
theorem yd_X9_at : yX9_at.cls = RX9 ∧ yX9_at.cls ≠ "java/lang/invoke/MethodHandle" ∧ yX9_at.cls ≠ "java/lang/invoke/VarHandle" ∧ (parseMethodDescriptor yX9_at.desc).map (fun d => d.parameters.length) = some 2 := by decide +kernel
abbrev wsX9_lock : List Cond := .code yX9_lock cX9_lock 11 (some .boolean) :: wB
theorem yd_X9_lock : yX9_lock.cls = RX9 ∧ yX9_lock.cls ≠ "java/lang/invoke/MethodHandle" ∧ yX9_lock.cls ≠ "java/lang/invoke/VarHandle" ∧ (parseMethodDescriptor yX9_lock.desc).map (fun d => d.parameters.length) = some 5 := by decide +kernel
abbrev wsX9_apart : List Cond := .code yX9_apart cX9_apart 5 (some .boolean) :: wB
theorem yd_X9_apart : yX9_apart.cls = RX9 ∧ yX9_apart.cls ≠ "java/lang/invoke/MethodHandle" ∧ yX9_apart.cls ≠ "java/lang/invoke/VarHandle" ∧ (parseMethodDescriptor yX9_apart.desc).map (fun d => d.parameters.length) = some 3 := by decide +kernel
abbrev wsX9_violation : List Cond := .code yX9_violation cX9_violation 6 (some .int) :: wB
theorem yd_X9_violation : yX9_violation.cls = RX9 ∧ yX9_violation.cls ≠ "java/lang/invoke/MethodHandle" ∧ yX9_violation.cls ≠ "java/lang/invoke/VarHandle" ∧ (parseMethodDescriptor yX9_violation.desc).map (fun d => d.parameters.length) = some 2 := by decide +kernel
abbrev wsX9_version : List Cond := .code yX9_version cX9_version 1 (some .int) :: wB
theorem yd_X9_version : yX9_version.cls = RX9 ∧ yX9_version.cls ≠ "java/lang/invoke/MethodHandle" ∧ yX9_version.cls ≠ "java/lang/invoke/VarHandle" ∧ (parseMethodDescriptor yX9_version.desc).map (fun d => d.parameters.length) = some 0 := by decide +kernel
abbrev wsX9_difference : List Cond := .code yX9_difference cX9_difference 9 (some .int) :: wB
theorem yd_X9_difference : yX9_difference.cls = RX9 ∧ yX9_difference.cls ≠ "java/lang/invoke/MethodHandle" ∧ yX9_difference.cls ≠ "java/lang/invoke/VarHandle" ∧ (parseMethodDescriptor yX9_difference.desc).map (fun d => d.parameters.length) = some 3 := by decide +kernel
abbrev wsX9_undo : List Cond := .code yX9_undo cX9_undo 3 (some .boolean) :: wB
theorem yd_X9_undo : yX9_undo.cls = RX9 ∧ yX9_undo.cls ≠ "java/lang/invoke/MethodHandle" ∧ yX9_undo.cls ≠ "java/lang/invoke/VarHandle" ∧ (parseMethodDescriptor yX9_undo.desc).map (fun d => d.parameters.length) = some 1 := by decide +kernel
abbrev wsX9_branch : List Cond := .code yX9_branch cX9_branch 3 (some .int) :: wB
theorem yd_X9_branch : yX9_branch.cls = RX9 ∧ yX9_branch.cls ≠ "java/lang/invoke/MethodHandle" ∧ yX9_branch.cls ≠ "java/lang/invoke/VarHandle" ∧ (parseMethodDescriptor yX9_branch.desc).map (fun d => d.parameters.length) = some 1 := by decide +kernel
abbrev wsX9_play : List Cond := .code yX9_play cX9_play 8 (some .int) :: wB
theorem yd_X9_play : yX9_play.cls = RX9 ∧ yX9_play.cls ≠ "java/lang/invoke/MethodHandle" ∧ yX9_play.cls ≠ "java/lang/invoke/VarHandle" ∧ (parseMethodDescriptor yX9_play.desc).map (fun d => d.parameters.length) = some 2 := by decide +kernel
abbrev wsX9_mark : List Cond := .code yX9_mark cX9_mark 3 (some .int) :: wB
theorem yd_X9_mark : yX9_mark.cls = RX9 ∧ yX9_mark.cls ≠ "java/lang/invoke/MethodHandle" ∧ yX9_mark.cls ≠ "java/lang/invoke/VarHandle" ∧ (parseMethodDescriptor yX9_mark.desc).map (fun d => d.parameters.length) = some 2 := by decide +kernel
abbrev wsX9_sessionOf : List Cond := .code yX9_sessionOf cX9_sessionOf 3 (some (.object "ObjectMerge$Session")) :: wB
theorem yd_X9_sessionOf : yX9_sessionOf.cls = RX9 ∧ yX9_sessionOf.cls ≠ "java/lang/invoke/MethodHandle" ∧ yX9_sessionOf.cls ≠ "java/lang/invoke/VarHandle" ∧ (parseMethodDescriptor yX9_sessionOf.desc).map (fun d => d.parameters.length) = some 1 := by decide +kernel
abbrev wsX9_versionOf : List Cond := .code yX9_versionOf cX9_versionOf 3 (some (.object "ObjectMerge$State")) :: wB
theorem yd_X9_versionOf : yX9_versionOf.cls = RX9 ∧ yX9_versionOf.cls ≠ "java/lang/invoke/MethodHandle" ∧ yX9_versionOf.cls ≠ "java/lang/invoke/VarHandle" ∧ (parseMethodDescriptor yX9_versionOf.desc).map (fun d => d.parameters.length) = some 1 := by decide +kernel
abbrev wsX9_sessionOfConflict : List Cond := .code yX9_sessionOfConflict cX9_sessionOfConflict 3 (some (.object "ObjectMerge$Session")) :: wB
theorem yd_X9_sessionOfConflict : yX9_sessionOfConflict.cls = RX9 ∧ yX9_sessionOfConflict.cls ≠ "java/lang/invoke/MethodHandle" ∧ yX9_sessionOfConflict.cls ≠ "java/lang/invoke/VarHandle" ∧ (parseMethodDescriptor yX9_sessionOfConflict.desc).map (fun d => d.parameters.length) = some 1 := by decide +kernel
abbrev wsX9_rowOf : List Cond := .code yX9_rowOf cX9_rowOf 3 (some (.object "ObjectMerge$Row")) :: wB
theorem yd_X9_rowOf : yX9_rowOf.cls = RX9 ∧ yX9_rowOf.cls ≠ "java/lang/invoke/MethodHandle" ∧ yX9_rowOf.cls ≠ "java/lang/invoke/VarHandle" ∧ (parseMethodDescriptor yX9_rowOf.desc).map (fun d => d.parameters.length) = some 2 := by decide +kernel
abbrev wsX9_checkObject : List Cond := .code yX9_checkObject cX9_checkObject 2 none :: wB
theorem yd_X9_checkObject : yX9_checkObject.cls = RX9 ∧ yX9_checkObject.cls ≠ "java/lang/invoke/MethodHandle" ∧ yX9_checkObject.cls ≠ "java/lang/invoke/VarHandle" ∧ (parseMethodDescriptor yX9_checkObject.desc).map (fun d => d.parameters.length) = some 1 := by decide +kernel
abbrev wsX9_checkField : List Cond := .code yX9_checkField cX9_checkField 1 none :: wB
theorem yd_X9_checkField : yX9_checkField.cls = RX9 ∧ yX9_checkField.cls ≠ "java/lang/invoke/MethodHandle" ∧ yX9_checkField.cls ≠ "java/lang/invoke/VarHandle" ∧ (parseMethodDescriptor yX9_checkField.desc).map (fun d => d.parameters.length) = some 1 := by decide +kernel
abbrev wsX9_checkOpen : List Cond := .code yX9_checkOpen cX9_checkOpen 1 none :: wB
theorem yd_X9_checkOpen : yX9_checkOpen.cls = RX9 ∧ yX9_checkOpen.cls ≠ "java/lang/invoke/MethodHandle" ∧ yX9_checkOpen.cls ≠ "java/lang/invoke/VarHandle" ∧ (parseMethodDescriptor yX9_checkOpen.desc).map (fun d => d.parameters.length) = some 1 := by decide +kernel
abbrev wsX9_checkKind : List Cond := .code yX9_checkKind cX9_checkKind 1 none :: wB
theorem yd_X9_checkKind : yX9_checkKind.cls = RX9 ∧ yX9_checkKind.cls ≠ "java/lang/invoke/MethodHandle" ∧ yX9_checkKind.cls ≠ "java/lang/invoke/VarHandle" ∧ (parseMethodDescriptor yX9_checkKind.desc).map (fun d => d.parameters.length) = some 1 := by decide +kernel
abbrev wsX9_newNumber : List Cond := .code yX9_newNumber cX9_newNumber 2 (some .int) :: wB
theorem yd_X9_newNumber : yX9_newNumber.cls = RX9 ∧ yX9_newNumber.cls ≠ "java/lang/invoke/MethodHandle" ∧ yX9_newNumber.cls ≠ "java/lang/invoke/VarHandle" ∧ (parseMethodDescriptor yX9_newNumber.desc).map (fun d => d.parameters.length) = some 0 := by decide +kernel
abbrev wsX9_begin : List Cond := .code yX9_begin cX9_begin 3 (some (.object "ObjectMerge$Session")) :: wB
theorem yd_X9_begin : yX9_begin.cls = RX9 ∧ yX9_begin.cls ≠ "java/lang/invoke/MethodHandle" ∧ yX9_begin.cls ≠ "java/lang/invoke/VarHandle" ∧ (parseMethodDescriptor yX9_begin.desc).map (fun d => d.parameters.length) = some 1 := by decide +kernel
abbrev wsX9_addVersion : List Cond := .code yX9_addVersion cX9_addVersion 2 none :: wB
theorem yd_X9_addVersion : yX9_addVersion.cls = RX9 ∧ yX9_addVersion.cls ≠ "java/lang/invoke/MethodHandle" ∧ yX9_addVersion.cls ≠ "java/lang/invoke/VarHandle" ∧ (parseMethodDescriptor yX9_addVersion.desc).map (fun d => d.parameters.length) = some 1 := by decide +kernel
abbrev wsX9_write : List Cond := .code yX9_write cX9_write 7 (some .boolean) :: wB
theorem yd_X9_write : yX9_write.cls = RX9 ∧ yX9_write.cls ≠ "java/lang/invoke/MethodHandle" ∧ yX9_write.cls ≠ "java/lang/invoke/VarHandle" ∧ (parseMethodDescriptor yX9_write.desc).map (fun d => d.parameters.length) = some 5 := by decide +kernel
abbrev wsX9_playTurn : List Cond := .code yX9_playTurn cX9_playTurn 8 (some .boolean) :: wB
theorem yd_X9_playTurn : yX9_playTurn.cls = RX9 ∧ yX9_playTurn.cls ≠ "java/lang/invoke/MethodHandle" ∧ yX9_playTurn.cls ≠ "java/lang/invoke/VarHandle" ∧ (parseMethodDescriptor yX9_playTurn.desc).map (fun d => d.parameters.length) = some 2 := by decide +kernel
abbrev wsX9_tryJoin : List Cond := .code yX9_tryJoin cX9_tryJoin 3 (some .int) :: wB
theorem yd_X9_tryJoin : yX9_tryJoin.cls = RX9 ∧ yX9_tryJoin.cls ≠ "java/lang/invoke/MethodHandle" ∧ yX9_tryJoin.cls ≠ "java/lang/invoke/VarHandle" ∧ (parseMethodDescriptor yX9_tryJoin.desc).map (fun d => d.parameters.length) = some 1 := by decide +kernel
abbrev wsX9_takeIn : List Cond := .code yX9_takeIn cX9_takeIn 5 none :: wB
theorem yd_X9_takeIn : yX9_takeIn.cls = RX9 ∧ yX9_takeIn.cls ≠ "java/lang/invoke/MethodHandle" ∧ yX9_takeIn.cls ≠ "java/lang/invoke/VarHandle" ∧ (parseMethodDescriptor yX9_takeIn.desc).map (fun d => d.parameters.length) = some 1 := by decide +kernel
abbrev wsX10_init : List Cond := .code yX10_init cX10_init 1 none :: wB
theorem yd_X10_init : yX10_init.cls = RX10 ∧ yX10_init.cls ≠ "java/lang/invoke/MethodHandle" ∧ yX10_init.cls ≠ "java/lang/invoke/VarHandle" ∧ (parseMethodDescriptor yX10_init.desc).map (fun d => d.parameters.length) = some 0 := by decide +kernel
abbrev wsX10_thrown : List Cond := .code yX10_thrown cX10_thrown 1 (some .int) :: wB
theorem yd_X10_thrown : yX10_thrown.cls = RX10 ∧ yX10_thrown.cls ≠ "java/lang/invoke/MethodHandle" ∧ yX10_thrown.cls ≠ "java/lang/invoke/VarHandle" ∧ (parseMethodDescriptor yX10_thrown.desc).map (fun d => d.parameters.length) = some 0 := by decide +kernel
abbrev wsX10_head : List Cond := .code yX10_head cX10_head 1 (some .int) :: wB
theorem yd_X10_head : yX10_head.cls = RX10 ∧ yX10_head.cls ≠ "java/lang/invoke/MethodHandle" ∧ yX10_head.cls ≠ "java/lang/invoke/VarHandle" ∧ (parseMethodDescriptor yX10_head.desc).map (fun d => d.parameters.length) = some 0 := by decide +kernel
abbrev wsX10_isKind : List Cond := .code yX10_isKind cX10_isKind 1 (some .boolean) :: wB
theorem yd_X10_isKind : yX10_isKind.cls = RX10 ∧ yX10_isKind.cls ≠ "java/lang/invoke/MethodHandle" ∧ yX10_isKind.cls ≠ "java/lang/invoke/VarHandle" ∧ (parseMethodDescriptor yX10_isKind.desc).map (fun d => d.parameters.length) = some 1 := by decide +kernel
abbrev wsX10_isObject : List Cond := .code yX10_isObject cX10_isObject 2 (some .boolean) :: wB
theorem yd_X10_isObject : yX10_isObject.cls = RX10 ∧ yX10_isObject.cls ≠ "java/lang/invoke/MethodHandle" ∧ yX10_isObject.cls ≠ "java/lang/invoke/VarHandle" ∧ (parseMethodDescriptor yX10_isObject.desc).map (fun d => d.parameters.length) = some 1 := by decide +kernel
abbrev wsX10_isSession : List Cond := .code yX10_isSession cX10_isSession 2 (some .boolean) :: wB
theorem yd_X10_isSession : yX10_isSession.cls = RX10 ∧ yX10_isSession.cls ≠ "java/lang/invoke/MethodHandle" ∧ yX10_isSession.cls ≠ "java/lang/invoke/VarHandle" ∧ (parseMethodDescriptor yX10_isSession.desc).map (fun d => d.parameters.length) = some 1 := by decide +kernel
abbrev wsX10_isField : List Cond := .code yX10_isField cX10_isField 1 (some .boolean) :: wB
theorem yd_X10_isField : yX10_isField.cls = RX10 ∧ yX10_isField.cls ≠ "java/lang/invoke/MethodHandle" ∧ yX10_isField.cls ≠ "java/lang/invoke/VarHandle" ∧ (parseMethodDescriptor yX10_isField.desc).map (fun d => d.parameters.length) = some 1 := by decide +kernel
abbrev wsX10_copyHead : List Cond := .code yX10_copyHead cX10_copyHead 4 none :: wB
theorem yd_X10_copyHead : yX10_copyHead.cls = RX10 ∧ yX10_copyHead.cls ≠ "java/lang/invoke/MethodHandle" ∧ yX10_copyHead.cls ≠ "java/lang/invoke/VarHandle" ∧ (parseMethodDescriptor yX10_copyHead.desc).map (fun d => d.parameters.length) = some 0 := by decide +kernel
abbrev wsX10_object : List Cond := .code yX10_object cX10_object 2 (some .int) :: wB
theorem yd_X10_object : yX10_object.cls = RX10 ∧ yX10_object.cls ≠ "java/lang/invoke/MethodHandle" ∧ yX10_object.cls ≠ "java/lang/invoke/VarHandle" ∧ (parseMethodDescriptor yX10_object.desc).map (fun d => d.parameters.length) = some 1 := by decide +kernel
abbrev wsX10_begin : List Cond := .code yX10_begin cX10_begin 3 (some .int) :: wB
theorem yd_X10_begin : yX10_begin.cls = RX10 ∧ yX10_begin.cls ≠ "java/lang/invoke/MethodHandle" ∧ yX10_begin.cls ≠ "java/lang/invoke/VarHandle" ∧ (parseMethodDescriptor yX10_begin.desc).map (fun d => d.parameters.length) = some 1 := by decide +kernel
abbrev wsX10_session : List Cond := .code yX10_session cX10_session 1 (some .int) :: wB
theorem yd_X10_session : yX10_session.cls = RX10 ∧ yX10_session.cls ≠ "java/lang/invoke/MethodHandle" ∧ yX10_session.cls ≠ "java/lang/invoke/VarHandle" ∧ (parseMethodDescriptor yX10_session.desc).map (fun d => d.parameters.length) = some 0 := by decide +kernel
abbrev wsX10_branch : List Cond := .code yX10_branch cX10_branch 2 (some .int) :: wB
theorem yd_X10_branch : yX10_branch.cls = RX10 ∧ yX10_branch.cls ≠ "java/lang/invoke/MethodHandle" ∧ yX10_branch.cls ≠ "java/lang/invoke/VarHandle" ∧ (parseMethodDescriptor yX10_branch.desc).map (fun d => d.parameters.length) = some 1 := by decide +kernel
abbrev wsX10_isBarred : List Cond := .code yX10_isBarred cX10_isBarred 9 (some .boolean) :: wB
theorem yd_X10_isBarred : yX10_isBarred.cls = RX10 ∧ yX10_isBarred.cls ≠ "java/lang/invoke/MethodHandle" ∧ yX10_isBarred.cls ≠ "java/lang/invoke/VarHandle" ∧ (parseMethodDescriptor yX10_isBarred.desc).map (fun d => d.parameters.length) = some 2 := by decide +kernel
abbrev wsX10_note : List Cond := .code yX10_note cX10_note 6 none :: wB
theorem yd_X10_note : yX10_note.cls = RX10 ∧ yX10_note.cls ≠ "java/lang/invoke/MethodHandle" ∧ yX10_note.cls ≠ "java/lang/invoke/VarHandle" ∧ (parseMethodDescriptor yX10_note.desc).map (fun d => d.parameters.length) = some 3 := by decide +kernel
abbrev wsX10_setsField : List Cond := .code yX10_setsField cX10_setsField 7 (some .boolean) :: wB
theorem yd_X10_setsField : yX10_setsField.cls = RX10 ∧ yX10_setsField.cls ≠ "java/lang/invoke/MethodHandle" ∧ yX10_setsField.cls ≠ "java/lang/invoke/VarHandle" ∧ (parseMethodDescriptor yX10_setsField.desc).map (fun d => d.parameters.length) = some 4 := by decide +kernel
abbrev wsX10_set : List Cond := .code yX10_set cX10_set 7 (some .boolean) :: wB
theorem yd_X10_set : yX10_set.cls = RX10 ∧ yX10_set.cls ≠ "java/lang/invoke/MethodHandle" ∧ yX10_set.cls ≠ "java/lang/invoke/VarHandle" ∧ (parseMethodDescriptor yX10_set.desc).map (fun d => d.parameters.length) = some 4 := by decide +kernel
abbrev wsX10_drop : List Cond := .code yX10_drop cX10_drop 4 (some .boolean) :: wB
theorem yd_X10_drop : yX10_drop.cls = RX10 ∧ yX10_drop.cls ≠ "java/lang/invoke/MethodHandle" ∧ yX10_drop.cls ≠ "java/lang/invoke/VarHandle" ∧ (parseMethodDescriptor yX10_drop.desc).map (fun d => d.parameters.length) = some 2 := by decide +kernel
abbrev wsX10_make : List Cond := .code yX10_make cX10_make 3 (some .int) :: wB
theorem yd_X10_make : yX10_make.cls = RX10 ∧ yX10_make.cls ≠ "java/lang/invoke/MethodHandle" ∧ yX10_make.cls ≠ "java/lang/invoke/VarHandle" ∧ (parseMethodDescriptor yX10_make.desc).map (fun d => d.parameters.length) = some 2 := by decide +kernel
abbrev wsX10_undo : List Cond := .code yX10_undo cX10_undo 4 (some .boolean) :: wB
theorem yd_X10_undo : yX10_undo.cls = RX10 ∧ yX10_undo.cls ≠ "java/lang/invoke/MethodHandle" ∧ yX10_undo.cls ≠ "java/lang/invoke/VarHandle" ∧ (parseMethodDescriptor yX10_undo.desc).map (fun d => d.parameters.length) = some 1 := by decide +kernel
abbrev wsX10_headHas : List Cond := .code yX10_headHas cX10_headHas 2 (some .boolean) :: wB
theorem yd_X10_headHas : yX10_headHas.cls = RX10 ∧ yX10_headHas.cls ≠ "java/lang/invoke/MethodHandle" ∧ yX10_headHas.cls ≠ "java/lang/invoke/VarHandle" ∧ (parseMethodDescriptor yX10_headHas.desc).map (fun d => d.parameters.length) = some 1 := by decide +kernel
abbrev wsX10_baseHas : List Cond := .code yX10_baseHas cX10_baseHas 3 (some .boolean) :: wB
theorem yd_X10_baseHas : yX10_baseHas.cls = RX10 ∧ yX10_baseHas.cls ≠ "java/lang/invoke/MethodHandle" ∧ yX10_baseHas.cls ≠ "java/lang/invoke/VarHandle" ∧ (parseMethodDescriptor yX10_baseHas.desc).map (fun d => d.parameters.length) = some 2 := by decide +kernel
abbrev wsX10_headValue : List Cond := .code yX10_headValue cX10_headValue 3 (some .long) :: wB
theorem yd_X10_headValue : yX10_headValue.cls = RX10 ∧ yX10_headValue.cls ≠ "java/lang/invoke/MethodHandle" ∧ yX10_headValue.cls ≠ "java/lang/invoke/VarHandle" ∧ (parseMethodDescriptor yX10_headValue.desc).map (fun d => d.parameters.length) = some 2 := by decide +kernel
abbrev wsX10_baseValue : List Cond := .code yX10_baseValue cX10_baseValue 4 (some .long) :: wB
theorem yd_X10_baseValue : yX10_baseValue.cls = RX10 ∧ yX10_baseValue.cls ≠ "java/lang/invoke/MethodHandle" ∧ yX10_baseValue.cls ≠ "java/lang/invoke/VarHandle" ∧ (parseMethodDescriptor yX10_baseValue.desc).map (fun d => d.parameters.length) = some 3 := by decide +kernel
abbrev wsX10_ownValue : List Cond := .code yX10_ownValue cX10_ownValue 4 (some .long) :: wB
theorem yd_X10_ownValue : yX10_ownValue.cls = RX10 ∧ yX10_ownValue.cls ≠ "java/lang/invoke/MethodHandle" ∧ yX10_ownValue.cls ≠ "java/lang/invoke/VarHandle" ∧ (parseMethodDescriptor yX10_ownValue.desc).map (fun d => d.parameters.length) = some 3 := by decide +kernel
abbrev wsX10_isHeadAsBase : List Cond := .code yX10_isHeadAsBase cX10_isHeadAsBase 5 (some .boolean) :: wB
theorem yd_X10_isHeadAsBase : yX10_isHeadAsBase.cls = RX10 ∧ yX10_isHeadAsBase.cls ≠ "java/lang/invoke/MethodHandle" ∧ yX10_isHeadAsBase.cls ≠ "java/lang/invoke/VarHandle" ∧ (parseMethodDescriptor yX10_isHeadAsBase.desc).map (fun d => d.parameters.length) = some 2 := by decide +kernel
abbrev wsX10_isOwnAsBase : List Cond := .code yX10_isOwnAsBase cX10_isOwnAsBase 5 (some .boolean) :: wB
theorem yd_X10_isOwnAsBase : yX10_isOwnAsBase.cls = RX10 ∧ yX10_isOwnAsBase.cls ≠ "java/lang/invoke/MethodHandle" ∧ yX10_isOwnAsBase.cls ≠ "java/lang/invoke/VarHandle" ∧ (parseMethodDescriptor yX10_isOwnAsBase.desc).map (fun d => d.parameters.length) = some 2 := by decide +kernel
abbrev wsX10_add : List Cond := .code yX10_add cX10_add 3 none :: wB
theorem yd_X10_add : yX10_add.cls = RX10 ∧ yX10_add.cls ≠ "java/lang/invoke/MethodHandle" ∧ yX10_add.cls ≠ "java/lang/invoke/VarHandle" ∧ (parseMethodDescriptor yX10_add.desc).map (fun d => d.parameters.length) = some 2 := by decide +kernel
abbrev wsX10_sideOf : List Cond := .code yX10_sideOf cX10_sideOf 4 (some .int) :: wB
theorem yd_X10_sideOf : yX10_sideOf.cls = RX10 ∧ yX10_sideOf.cls ≠ "java/lang/invoke/MethodHandle" ∧ yX10_sideOf.cls ≠ "java/lang/invoke/VarHandle" ∧ (parseMethodDescriptor yX10_sideOf.desc).map (fun d => d.parameters.length) = some 3 := by decide +kernel
abbrev wsX10_findConflicts : List Cond := .code yX10_findConflicts cX10_findConflicts 11 none :: wB
theorem yd_X10_findConflicts : yX10_findConflicts.cls = RX10 ∧ yX10_findConflicts.cls ≠ "java/lang/invoke/MethodHandle" ∧ yX10_findConflicts.cls ≠ "java/lang/invoke/VarHandle" ∧ (parseMethodDescriptor yX10_findConflicts.desc).map (fun d => d.parameters.length) = some 2 := by decide +kernel
abbrev wsX10_unsettled : List Cond := .code yX10_unsettled cX10_unsettled 4 (some .int) :: wB
theorem yd_X10_unsettled : yX10_unsettled.cls = RX10 ∧ yX10_unsettled.cls ≠ "java/lang/invoke/MethodHandle" ∧ yX10_unsettled.cls ≠ "java/lang/invoke/VarHandle" ∧ (parseMethodDescriptor yX10_unsettled.desc).map (fun d => d.parameters.length) = some 1 := by decide +kernel
abbrev wsX10_isConflict : List Cond := .code yX10_isConflict cX10_isConflict 5 (some .boolean) :: wB
theorem yd_X10_isConflict : yX10_isConflict.cls = RX10 ∧ yX10_isConflict.cls ≠ "java/lang/invoke/MethodHandle" ∧ yX10_isConflict.cls ≠ "java/lang/invoke/VarHandle" ∧ (parseMethodDescriptor yX10_isConflict.desc).map (fun d => d.parameters.length) = some 2 := by decide +kernel
abbrev wsX10_takeAll : List Cond := .code yX10_takeAll cX10_takeAll 4 none :: wB
theorem yd_X10_takeAll : yX10_takeAll.cls = RX10 ∧ yX10_takeAll.cls ≠ "java/lang/invoke/MethodHandle" ∧ yX10_takeAll.cls ≠ "java/lang/invoke/VarHandle" ∧ (parseMethodDescriptor yX10_takeAll.desc).map (fun d => d.parameters.length) = some 2 := by decide +kernel
abbrev wsX10_takeField : List Cond := .code yX10_takeField cX10_takeField 4 none :: wB
theorem yd_X10_takeField : yX10_takeField.cls = RX10 ∧ yX10_takeField.cls ≠ "java/lang/invoke/MethodHandle" ∧ yX10_takeField.cls ≠ "java/lang/invoke/VarHandle" ∧ (parseMethodDescriptor yX10_takeField.desc).map (fun d => d.parameters.length) = some 3 := by decide +kernel
abbrev wsX10_merge : List Cond := .code yX10_merge cX10_merge 6 none :: wB
theorem yd_X10_merge : yX10_merge.cls = RX10 ∧ yX10_merge.cls ≠ "java/lang/invoke/MethodHandle" ∧ yX10_merge.cls ≠ "java/lang/invoke/VarHandle" ∧ (parseMethodDescriptor yX10_merge.desc).map (fun d => d.parameters.length) = some 2 := by decide +kernel
abbrev wsX10_dropMarks : List Cond := .code yX10_dropMarks cX10_dropMarks 5 none :: wB
theorem yd_X10_dropMarks : yX10_dropMarks.cls = RX10 ∧ yX10_dropMarks.cls ≠ "java/lang/invoke/MethodHandle" ∧ yX10_dropMarks.cls ≠ "java/lang/invoke/VarHandle" ∧ (parseMethodDescriptor yX10_dropMarks.desc).map (fun d => d.parameters.length) = some 0 := by decide +kernel
abbrev wsX10_dropLocks : List Cond := .code yX10_dropLocks cX10_dropLocks 5 none :: wB
theorem yd_X10_dropLocks : yX10_dropLocks.cls = RX10 ∧ yX10_dropLocks.cls ≠ "java/lang/invoke/MethodHandle" ∧ yX10_dropLocks.cls ≠ "java/lang/invoke/VarHandle" ∧ (parseMethodDescriptor yX10_dropLocks.desc).map (fun d => d.parameters.length) = some 1 := by decide +kernel
abbrev wsX10_joins : List Cond := .code yX10_joins cX10_joins 4 (some .int) :: wB
theorem yd_X10_joins : yX10_joins.cls = RX10 ∧ yX10_joins.cls ≠ "java/lang/invoke/MethodHandle" ∧ yX10_joins.cls ≠ "java/lang/invoke/VarHandle" ∧ (parseMethodDescriptor yX10_joins.desc).map (fun d => d.parameters.length) = some 1 := by decide +kernel
abbrev wsX10_join : List Cond := .code yX10_join cX10_join 2 (some .int) :: wB
theorem yd_X10_join : yX10_join.cls = RX10 ∧ yX10_join.cls ≠ "java/lang/invoke/MethodHandle" ∧ yX10_join.cls ≠ "java/lang/invoke/VarHandle" ∧ (parseMethodDescriptor yX10_join.desc).map (fun d => d.parameters.length) = some 1 := by decide +kernel
abbrev wsX10_conflict : List Cond := .code yX10_conflict cX10_conflict 5 (some .int) :: wB
theorem yd_X10_conflict : yX10_conflict.cls = RX10 ∧ yX10_conflict.cls ≠ "java/lang/invoke/MethodHandle" ∧ yX10_conflict.cls ≠ "java/lang/invoke/VarHandle" ∧ (parseMethodDescriptor yX10_conflict.desc).map (fun d => d.parameters.length) = some 2 := by decide +kernel
abbrev wsX10_settle : List Cond := .code yX10_settle cX10_settle 5 (some .boolean) :: wB
theorem yd_X10_settle : yX10_settle.cls = RX10 ∧ yX10_settle.cls ≠ "java/lang/invoke/MethodHandle" ∧ yX10_settle.cls ≠ "java/lang/invoke/VarHandle" ∧ (parseMethodDescriptor yX10_settle.desc).map (fun d => d.parameters.length) = some 2 := by decide +kernel
abbrev wsX10_play : List Cond := .code yX10_play cX10_play 11 (some .int) :: wB
theorem yd_X10_play : yX10_play.cls = RX10 ∧ yX10_play.cls ≠ "java/lang/invoke/MethodHandle" ∧ yX10_play.cls ≠ "java/lang/invoke/VarHandle" ∧ (parseMethodDescriptor yX10_play.desc).map (fun d => d.parameters.length) = some 2 := by decide +kernel
abbrev wsX10_next : List Cond := .code yX10_next cX10_next 2 (some .long) :: wB
theorem yd_X10_next : yX10_next.cls = RX10 ∧ yX10_next.cls ≠ "java/lang/invoke/MethodHandle" ∧ yX10_next.cls ≠ "java/lang/invoke/VarHandle" ∧ (parseMethodDescriptor yX10_next.desc).map (fun d => d.parameters.length) = some 1 := by decide +kernel
abbrev wsX10_at : List Cond := .code yX10_at cX10_at 4 (some .long) :: wB
theorem yd_X10_at : yX10_at.cls = RX10 ∧ yX10_at.cls ≠ "java/lang/invoke/MethodHandle" ∧ yX10_at.cls ≠ "java/lang/invoke/VarHandle" ∧ (parseMethodDescriptor yX10_at.desc).map (fun d => d.parameters.length) = some 2 := by decide +kernel
abbrev wsX10_version : List Cond := .code yX10_version cX10_version 1 (some .int) :: wB
theorem yd_X10_version : yX10_version.cls = RX10 ∧ yX10_version.cls ≠ "java/lang/invoke/MethodHandle" ∧ yX10_version.cls ≠ "java/lang/invoke/VarHandle" ∧ (parseMethodDescriptor yX10_version.desc).map (fun d => d.parameters.length) = some 0 := by decide +kernel
abbrev wsX10_mark : List Cond := .code yX10_mark cX10_mark 5 (some .int) :: wB
theorem yd_X10_mark : yX10_mark.cls = RX10 ∧ yX10_mark.cls ≠ "java/lang/invoke/MethodHandle" ∧ yX10_mark.cls ≠ "java/lang/invoke/VarHandle" ∧ (parseMethodDescriptor yX10_mark.desc).map (fun d => d.parameters.length) = some 2 := by decide +kernel
abbrev wsX10_difference : List Cond := .code yX10_difference cX10_difference 11 (some .int) :: wB
theorem yd_X10_difference : yX10_difference.cls = RX10 ∧ yX10_difference.cls ≠ "java/lang/invoke/MethodHandle" ∧ yX10_difference.cls ≠ "java/lang/invoke/VarHandle" ∧ (parseMethodDescriptor yX10_difference.desc).map (fun d => d.parameters.length) = some 3 := by decide +kernel
abbrev wsX10_lock : List Cond := .code yX10_lock cX10_lock 12 (some .boolean) :: wB
theorem yd_X10_lock : yX10_lock.cls = RX10 ∧ yX10_lock.cls ≠ "java/lang/invoke/MethodHandle" ∧ yX10_lock.cls ≠ "java/lang/invoke/VarHandle" ∧ (parseMethodDescriptor yX10_lock.desc).map (fun d => d.parameters.length) = some 5 := by decide +kernel
abbrev wsX10_apart : List Cond := .code yX10_apart cX10_apart 5 (some .boolean) :: wB
theorem yd_X10_apart : yX10_apart.cls = RX10 ∧ yX10_apart.cls ≠ "java/lang/invoke/MethodHandle" ∧ yX10_apart.cls ≠ "java/lang/invoke/VarHandle" ∧ (parseMethodDescriptor yX10_apart.desc).map (fun d => d.parameters.length) = some 3 := by decide +kernel
abbrev wsX10_far : List Cond := .code yX10_far cX10_far 10 (some .long) :: wB
theorem yd_X10_far : yX10_far.cls = RX10 ∧ yX10_far.cls ≠ "java/lang/invoke/MethodHandle" ∧ yX10_far.cls ≠ "java/lang/invoke/VarHandle" ∧ (parseMethodDescriptor yX10_far.desc).map (fun d => d.parameters.length) = some 2 := by decide +kernel
abbrev wsX10_isBroken : List Cond := .code yX10_isBroken cX10_isBroken 4 (some .boolean) :: wB
theorem yd_X10_isBroken : yX10_isBroken.cls = RX10 ∧ yX10_isBroken.cls ≠ "java/lang/invoke/MethodHandle" ∧ yX10_isBroken.cls ≠ "java/lang/invoke/VarHandle" ∧ (parseMethodDescriptor yX10_isBroken.desc).map (fun d => d.parameters.length) = some 1 := by decide +kernel
abbrev wsX10_violation : List Cond := .code yX10_violation cX10_violation 5 (some .int) :: wB
theorem yd_X10_violation : yX10_violation.cls = RX10 ∧ yX10_violation.cls ≠ "java/lang/invoke/MethodHandle" ∧ yX10_violation.cls ≠ "java/lang/invoke/VarHandle" ∧ (parseMethodDescriptor yX10_violation.desc).map (fun d => d.parameters.length) = some 2 := by decide +kernel
abbrev wsL_object : List Cond := .codeWith yL_object cL_object 4 (some .int) [(0, 9, 12, 13)] :: wB
theorem yd_L_object : yL_object.cls = RL ∧ yL_object.cls ≠ "java/lang/invoke/MethodHandle" ∧ yL_object.cls ≠ "java/lang/invoke/VarHandle" ∧ (parseMethodDescriptor yL_object.desc).map (fun d => d.parameters.length) = some 3 := by decide +kernel
abbrev wsL_set : List Cond := .codeWith yL_set cL_set 8 (some .int) [(0, 21, 24, 19), (0, 21, 28, 21)] :: wB
theorem yd_L_set : yL_set.cls = RL ∧ yL_set.cls ≠ "java/lang/invoke/MethodHandle" ∧ yL_set.cls ≠ "java/lang/invoke/VarHandle" ∧ (parseMethodDescriptor yL_set.desc).map (fun d => d.parameters.length) = some 6 := by decide +kernel
abbrev wsL_drop : List Cond := .codeWith yL_drop cL_drop 5 (some .int) [(0, 17, 20, 19), (0, 17, 24, 21)] :: wB
theorem yd_L_drop : yL_drop.cls = RL ∧ yL_drop.cls ≠ "java/lang/invoke/MethodHandle" ∧ yL_drop.cls ≠ "java/lang/invoke/VarHandle" ∧ (parseMethodDescriptor yL_drop.desc).map (fun d => d.parameters.length) = some 4 := by decide +kernel
abbrev wsL_make : List Cond := .codeWith yL_make cL_make 5 (some .int) [(0, 10, 13, 19), (0, 10, 17, 21), (0, 10, 21, 13)] :: wB
theorem yd_L_make : yL_make.cls = RL ∧ yL_make.cls ≠ "java/lang/invoke/MethodHandle" ∧ yL_make.cls ≠ "java/lang/invoke/VarHandle" ∧ (parseMethodDescriptor yL_make.desc).map (fun d => d.parameters.length) = some 4 := by decide +kernel
abbrev wsL_join : List Cond := .codeWith yL_join cL_join 4 (some .int) [(0, 9, 12, 19), (0, 9, 15, 21)] :: wB
theorem yd_L_join : yL_join.cls = RL ∧ yL_join.cls ≠ "java/lang/invoke/MethodHandle" ∧ yL_join.cls ≠ "java/lang/invoke/VarHandle" ∧ (parseMethodDescriptor yL_join.desc).map (fun d => d.parameters.length) = some 3 := by decide +kernel
abbrev wsL_conflict : List Cond := .codeWith yL_conflict cL_conflict 5 (some .int) [(0, 10, 13, 19)] :: wB
theorem yd_L_conflict : yL_conflict.cls = RL ∧ yL_conflict.cls ≠ "java/lang/invoke/MethodHandle" ∧ yL_conflict.cls ≠ "java/lang/invoke/VarHandle" ∧ (parseMethodDescriptor yL_conflict.desc).map (fun d => d.parameters.length) = some 4 := by decide +kernel
abbrev wsL_settle : List Cond := .codeWith yL_settle cL_settle 5 (some .int) [(0, 17, 20, 19), (0, 17, 24, 21), (0, 17, 28, 13)] :: wB
theorem yd_L_settle : yL_settle.cls = RL ∧ yL_settle.cls ≠ "java/lang/invoke/MethodHandle" ∧ yL_settle.cls ≠ "java/lang/invoke/VarHandle" ∧ (parseMethodDescriptor yL_settle.desc).map (fun d => d.parameters.length) = some 4 := by decide +kernel
abbrev wsL_at : List Cond := .codeWith yL_at cL_at 5 (some .int) [(0, 9, 12, 19), (0, 9, 16, 21)] :: wB
theorem yd_L_at : yL_at.cls = RL ∧ yL_at.cls ≠ "java/lang/invoke/MethodHandle" ∧ yL_at.cls ≠ "java/lang/invoke/VarHandle" ∧ (parseMethodDescriptor yL_at.desc).map (fun d => d.parameters.length) = some 4 := by decide +kernel
abbrev wsL_lock : List Cond := .codeWith yL_lock cL_lock 12 (some .int) [(0, 24, 27, 19), (0, 24, 31, 21)] :: wB
theorem yd_L_lock : yL_lock.cls = RL ∧ yL_lock.cls ≠ "java/lang/invoke/MethodHandle" ∧ yL_lock.cls ≠ "java/lang/invoke/VarHandle" ∧ (parseMethodDescriptor yL_lock.desc).map (fun d => d.parameters.length) = some 7 := by decide +kernel
abbrev wsL_apart : List Cond := .codeWith yL_apart cL_apart 7 (some .int) [(0, 19, 22, 19), (0, 19, 26, 13)] :: wB
theorem yd_L_apart : yL_apart.cls = RL ∧ yL_apart.cls ≠ "java/lang/invoke/MethodHandle" ∧ yL_apart.cls ≠ "java/lang/invoke/VarHandle" ∧ (parseMethodDescriptor yL_apart.desc).map (fun d => d.parameters.length) = some 5 := by decide +kernel
abbrev wsL_violation : List Cond := .codeWith yL_violation cL_violation 5 (some .int) [(0, 10, 13, 19)] :: wB
theorem yd_L_violation : yL_violation.cls = RL ∧ yL_violation.cls ≠ "java/lang/invoke/MethodHandle" ∧ yL_violation.cls ≠ "java/lang/invoke/VarHandle" ∧ (parseMethodDescriptor yL_violation.desc).map (fun d => d.parameters.length) = some 4 := by decide +kernel
abbrev wsL_difference : List Cond := .codeWith yL_difference cL_difference 6 (some .int) [(0, 12, 15, 19)] :: wB
theorem yd_L_difference : yL_difference.cls = RL ∧ yL_difference.cls ≠ "java/lang/invoke/MethodHandle" ∧ yL_difference.cls ≠ "java/lang/invoke/VarHandle" ∧ (parseMethodDescriptor yL_difference.desc).map (fun d => d.parameters.length) = some 5 := by decide +kernel
abbrev wsL_undo : List Cond := .codeWith yL_undo cL_undo 4 (some .int) [(0, 16, 19, 19), (0, 16, 22, 21)] :: wB
theorem yd_L_undo : yL_undo.cls = RL ∧ yL_undo.cls ≠ "java/lang/invoke/MethodHandle" ∧ yL_undo.cls ≠ "java/lang/invoke/VarHandle" ∧ (parseMethodDescriptor yL_undo.desc).map (fun d => d.parameters.length) = some 3 := by decide +kernel
abbrev wsL_branch : List Cond := .codeWith yL_branch cL_branch 4 (some .int) [(0, 9, 12, 19)] :: wB
theorem yd_L_branch : yL_branch.cls = RL ∧ yL_branch.cls ≠ "java/lang/invoke/MethodHandle" ∧ yL_branch.cls ≠ "java/lang/invoke/VarHandle" ∧ (parseMethodDescriptor yL_branch.desc).map (fun d => d.parameters.length) = some 3 := by decide +kernel
abbrev wsL_play : List Cond := .codeWith yL_play cL_play 6 (some .int) [(0, 11, 14, 13)] :: wB
theorem yd_L_play : yL_play.cls = RL ∧ yL_play.cls ≠ "java/lang/invoke/MethodHandle" ∧ yL_play.cls ≠ "java/lang/invoke/VarHandle" ∧ (parseMethodDescriptor yL_play.desc).map (fun d => d.parameters.length) = some 4 := by decide +kernel
abbrev wsL_mark : List Cond := .codeWith yL_mark cL_mark 5 (some .int) [(0, 10, 13, 19), (0, 10, 17, 13)] :: wB
theorem yd_L_mark : yL_mark.cls = RL ∧ yL_mark.cls ≠ "java/lang/invoke/MethodHandle" ∧ yL_mark.cls ≠ "java/lang/invoke/VarHandle" ∧ (parseMethodDescriptor yL_mark.desc).map (fun d => d.parameters.length) = some 4 := by decide +kernel
end
section
/-! FUNCTION HEAPS: what the heap holds, as a function of the address. An object: the place of its class in 'cl', its field values. An array: its role (a place in the list of array types), length and contents. -/
abbrev fe : Type := (Nat × vp_A) ⊕ (Nat × List Value)
abbrev FH : Type := Nat → Option fe
abbrev fG : Type := va_G × (Nat → ClassId)
def fe_E (cA : Nat → ClassId) (e : fe) : va_E := match e with
  | .inl a => .inl (cA a.1, a.2)
  | .inr o => .inr o
def fh_P (G : fG) (cl : List vw_C) (h : FH) (H : Heap) : Prop := ∀ (a : Nat) (e : fe), h a = some e → va_at G.1 cl (a, fe_E G.2 e) H
def fh_up (h : FH) (a : Nat) (e : fe) : FH := fun j => if j = a then some e else h j
def fe_kd (e : fe) : Nat := match e with
  | .inl a => 2 * a.1 + 1
  | .inr o => 2 * o.1
theorem fh_up_self (h : FH) (a : Nat) (e : fe) : fh_up h a e a = some e := by simp [fh_up]
theorem fh_up_ne (h : FH) {a b : Nat} (e : fe) (hn : b ≠ a) : fh_up h a e b = h b := by simp [fh_up, hn]
theorem fh_ne {h : FH} {a b : Nat} {e e' : fe} (ha : h a = some e) (hb : h b = some e') (hk : (fe_kd e == fe_kd e') = false) : a ≠ b := by
  intro q
  subst q
  rw [ha] at hb
  cases hb
  simp at hk
/-- a fact about another kind of cell outlives a write -/
theorem fh_keep {h : FH} {w a : Nat} {e e0 e' : fe} (hw : h w = some e0) (ha : h a = some e) (hk : (fe_kd e == fe_kd e0) = false) : fh_up h w e' a = some e := by
  rw [fh_up_ne h e' (fh_ne ha hw hk)]; exact ha
theorem fh_keepN {h : FH} {w a : Nat} {e e' : fe} (ha : h a = some e) (hn : a ≠ w) : fh_up h w e' a = some e := by
  rw [fh_up_ne h e' hn]; exact ha
def fh_K (G : fG) (cl : List vw_C) (ty : List FieldType) (U : State) : Prop := (∀ (c : Nat) (q : vw_C), cl[c]? = some q → u_Kn U q.1 q.2.1 q.2.2 (G.1.1 c) (G.1.2 c)) ∧ ∀ (k : Nat) (t : FieldType), ty[k]? = some t → ArrOfT U (G.2 k) t ∧ va_RA U (G.2 k) t
section FHA
variable {G : fG} {cl : List vw_C} {ty : List FieldType} {U u : State} {h : FH} {H H1 : Heap} {a : Nat} {e : fe}
theorem fh_K.va (hK : fh_K G cl ty U) : va_K G.1 cl [] U := ⟨hK.1, fun k q hk => by simp at hk⟩
theorem fh_K.one (hK : fh_K G cl ty U) {k : Nat} {t : FieldType} (hk : ty[k]? = some t) : va_K G.1 cl [(G.2 k, t)] U := ⟨hK.1, fun j q hj => by
  cases j with
  | zero => simp at hj; subst hj; exact hK.2 k t hk
  | succ j => simp at hj⟩
theorem fh_K.moved (hvm : u.vm.Alike U.vm) (hK : fh_K G cl ty u) : fh_K G cl ty U := ⟨fun c q hq => u_Kn_moved hvm (hK.1 c q hq), fun k t hk => ⟨arrOfT_moved hvm (hK.2 k t hk).1, (hK.2 k t hk).2.moved hvm⟩⟩
theorem fh_P.one (hP : fh_P G cl h H) (ha : h a = some e) : va_P G.1 cl [(a, fe_E G.2 e)] H := fun k q hk => by
  cases k with
  | zero => simp at hk; subst hk; exact hP a e ha
  | succ k => simp at hk
theorem fh_P.lt (hP : fh_P G cl h H) (ha : h a = some e) : a < H.size := (hP a e ha).lt
theorem fh_P.set (hP : fh_P G cl h H) (he : va_at G.1 cl (a, fe_E G.2 e) H1) (oq : ∀ q : Nat, q ≠ a → H1[q]? = H[q]?) : fh_P G cl (fh_up h a e) H1 := by
  intro b e' hb
  unfold fh_up at hb
  split at hb
  · rename_i hq
    subst hq
    cases hb
    exact he
  · rename_i hq
    exact (hP b e' hb).kept (oq b hq)
theorem fh_P.kept (hP : fh_P G cl h H) (oq : ∀ q : Nat, q < H.size → H1[q]? = H[q]?) : fh_P G cl h H1 := fun b e hb => (hP b e hb).kept (oq b (hP.lt hb))
theorem fh_P.push (hP : fh_P G cl h H) (he : va_at G.1 cl (H.size, fe_E G.2 e) H1) (oq : ∀ q : Nat, q < H.size → H1[q]? = H[q]?) : fh_P G cl (fh_up h H.size e) H1 := by
  intro b e' hb
  unfold fh_up at hb
  split at hb
  · rename_i hq
    subst hq
    cases hb
    exact he
  · exact (hP b e' hb).kept (oq b (hP.lt hb))
end FHA
section FHR
variable {p : Program} {l : Launch} {e : Env} {R : Room} {s : State} {m : MethodId} {args : Array Value} {below : List Frame} {meth : Method} {c : Code} {H : Heap} {locs : List Loc} {cells slots : Nat} {Q : State → Prop}
variable {cc : ByteArray} {pc : Nat} {ls : Array Slot} {rest : List Value} {G : fG} {cl : List vw_C} {ty : List FieldType} {h : FH} {A : Nat → Prop} {a : Nat} {H0 : Heap}
theorem fh_get (hexec : p.tables.exec = Jvm.exec) (hb : c.code = cc) {own ref C : String} {T : u_T} {N ci index : Nat} {Ts : List Cond} (hts : ∀ w ∈ Ts, w.before args s = true) (hin : ∀ w ∈ u_ws C T N, w ∈ Ts) (hown : s.vm.findClass own = some m.cls) (hK : fh_K G cl ty s) (hP : fh_P G cl h H) {fs : List Value} (he : h a = some (.inr (ci, fs))) (hc : cl[ci]? = some (C, T, N)) (k : Nat) (hk : k < N) (hlink : (Cond.fieldLink own index ref (T k).2.1 (T k).2.2.1).before args s = true) (hsame : ∀ x, s.fieldFound? (T k).1 (T k).2.1 (T k).2.2.1 = some x → s.fieldFound? ref (T k).2.1 (T k).2.2.1 = some x) {v : Value} (hv : fs[k]? = some v) (hdg : decode cc pc = .ok (.getfield index, 3))
    (kk : W p l e R s m args below meth c H locs cells slots Q (F0 m (pc + 3) ls (v :: rest))) : W p l e R s m args below meth c H locs cells slots Q (F0 m pc ls (.ref a :: rest)) :=
  va_get hexec hb hts hin hown hK.va (hP.one he) 0 rfl hc k hk hlink hsame hv hdg kk
theorem fh_put (hexec : p.tables.exec = Jvm.exec) (hb : c.code = cc) {own ref C : String} {T : u_T} {N ci index : Nat} {Ts : List Cond} (hts : ∀ w ∈ Ts, w.before args s = true) (hin : ∀ w ∈ u_ws C T N, w ∈ Ts) (ty0 : Nat → FieldType) (hty : ∀ k, k < N → parseFieldDescriptor (T k).2.2.1 = some (ty0 k)) (hnm : ∀ a, a < N → ∀ b, b < N → a ≠ b → (T a).2.1 ≠ (T b).2.1) (hown : s.vm.findClass own = some m.cls) (hK : fh_K G cl ty s) (hP : fh_P G cl h H) (hS0 : va_S A H0 H locs) {fs : List Value} (he : h a = some (.inr (ci, fs))) (hA : A a) (hc : cl[ci]? = some (C, T, N)) (k : Nat) (hk : k < N) (hlink : (Cond.fieldLink own index ref (T k).2.1 (T k).2.2.1).before args s = true) (hsame : ∀ x, s.fieldFound? (T k).1 (T k).2.1 (T k).2.2.1 = some x → s.fieldFound? ref (T k).2.1 (T k).2.2.1 = some x) (hfin : (T k).2.2.2 = false) {t : FieldType} {v : Value} (hd : parseFieldDescriptor (T k).2.2.1 = some t) (hn : narrow t v = v) (hfit : fits t v = true) (hl : k < fs.length)
    (hdg : decode cc pc = .ok (.putfield index, 3)) (kk : ∀ (H1 : Heap) (locs1 : List Loc), fh_P G cl (fh_up h a (.inr (ci, fs.set k v))) H1 → H1.size = H.size → va_S A H0 H1 locs1 → W p l e R s m args below meth c H1 locs1 cells slots Q (F0 m (pc + 3) ls rest)) : W p l e R s m args below meth c H locs cells slots Q (F0 m pc ls (v :: .ref a :: rest)) := by
  have hap := va_apart (own := own) hts hin ty0 hty hnm hK.va hc
  obtain ⟨r, h1, cell, q1, q2, q3, q4⟩ := hP a _ he
  have hr : r = (C, T, N) := Option.some.inj (h1.symm.trans hc)
  subst hr
  obtain ⟨hS, hfc, kC, hkC, hkind⟩ := hK.1 ci _ hc
  obtain ⟨cf, kf, fi, f, hi, hsl⟩ := hS k hk
  have hlay := hts _ (hin _ (u_in_lay hk))
  unfold u_lay at hlay
  rw [if_neg (by rw [hfin]; decide)] at hlay
  have hst := (u_facts hfc hkC (u_lays hts hin hk) hi).1
  have h6 := u_store hfc hkC hkind hlay hi hd hn hfit
  refine W.putK hexec hb (f := f) ⟨hown, hlink, ⟨_, _, _, hsame _ hi⟩, hst⟩ (by rw [q2]; exact h6) q1 q3 (by rw [hsl]; exact k2_hasslot (q4 k hk)) rfl rfl hdg fun H' e1 e2 e3 => ?_
  rw [hsl] at e1 ⊢
  exact kk H' _ (hP.set ⟨_, hc, t_OB.to (V := updV (vp_V fs) k v) ⟨_, e1, q2, q3, t_set q4 hap hk v⟩ (fun j _ => vp_updV_set hl v j)⟩ e3) e2 (hS0.put e2 e3 hA)
theorem fh_putF (hexec : p.tables.exec = Jvm.exec) (hb : c.code = cc) {own ref C : String} {T : u_T} {N ci index : Nat} {Ts : List Cond} (hts : ∀ w ∈ Ts, w.before args s = true) (hin : ∀ w ∈ u_ws C T N, w ∈ Ts) (ty0 : Nat → FieldType) (hty : ∀ k, k < N → parseFieldDescriptor (T k).2.2.1 = some (ty0 k)) (hnm : ∀ a, a < N → ∀ b, b < N → a ≠ b → (T a).2.1 ≠ (T b).2.1) (hown : s.vm.findClass own = some m.cls) (hK : fh_K G cl ty s) (hP : fh_P G cl h H) (hS0 : va_S A H0 H locs) {fs : List Value} (he : h a = some (.inr (ci, fs))) (hA : A a) (hc : cl[ci]? = some (C, T, N)) (k : Nat) (hk : k < N) (hlink : (Cond.fieldLink own index ref (T k).2.1 (T k).2.2.1).before args s = true) (hsame : ∀ x, s.fieldFound? (T k).1 (T k).2.1 (T k).2.2.1 = some x → s.fieldFound? ref (T k).2.1 (T k).2.2.1 = some x) (hfin : (T k).2.2.2 = true) (hin2 : meth.name = "<init>") (hdecl : (T k).1 = own) {t : FieldType} {v : Value} (hd : parseFieldDescriptor (T k).2.2.1 = some t) (hn : narrow t v = v) (hfit : fits t v = true) (hl : k < fs.length)
    (hdg : decode cc pc = .ok (.putfield index, 3)) (kk : ∀ (H1 : Heap) (locs1 : List Loc), fh_P G cl (fh_up h a (.inr (ci, fs.set k v))) H1 → H1.size = H.size → va_S A H0 H1 locs1 → W p l e R s m args below meth c H1 locs1 cells slots Q (F0 m (pc + 3) ls rest)) : W p l e R s m args below meth c H locs cells slots Q (F0 m pc ls (v :: .ref a :: rest)) := by
  have hap := va_apart (own := own) hts hin ty0 hty hnm hK.va hc
  obtain ⟨r, h1, cell, q1, q2, q3, q4⟩ := hP a _ he
  have hr : r = (C, T, N) := Option.some.inj (h1.symm.trans hc)
  subst hr
  obtain ⟨hS, hfc, kC, hkC, hkind⟩ := hK.1 ci _ hc
  obtain ⟨cf, kf, fi, f, hi, hsl⟩ := hS k hk
  have hlay := hts _ (hin _ (u_in_lay hk))
  unfold u_lay at hlay
  rw [if_pos hfin] at hlay
  have hst := (u_facts hfc hkC (u_lays hts hin hk) hi).1
  have hcf : m.cls = cf := by
    obtain ⟨_, _, c', _, _, _, -, -, hf', -, -, -, hown2, -⟩ := Cond.laysFinal_spec hlay
    have e1 : c' = cf := by have := hi.symm.trans hf'; simp at this; exact this.1.symm
    rw [hdecl] at hown2
    rw [← e1]; exact Option.some.inj (hown.symm.trans hown2)
  have h6 := u_fits hfc hkC hkind (Or.inr hlay) hi hd hn hfit
  refine W.putFinK hexec hb hown hlink (hsame _ hi) hst hcf hin2 (by rw [q2]; exact h6) q1 q3 (by rw [hsl]; exact k2_hasslot (q4 k hk)) rfl rfl hdg fun H' e1 e2 e3 => ?_
  rw [hsl] at e1 ⊢
  exact kk H' _ (hP.set ⟨_, hc, t_OB.to (V := updV (vp_V fs) k v) ⟨_, e1, q2, q3, t_set q4 hap hk v⟩ (fun j _ => vp_updV_set hl v j)⟩ e3) e2 (hS0.put e2 e3 hA)
theorem fh_new (hexec : p.tables.exec = Jvm.exec) (hb : c.code = cc) {own C : String} {T : u_T} {N ci index : Nat} {Ts : List Cond} (hts : ∀ w ∈ Ts, w.before args s = true) (hin : ∀ w ∈ u_ws C T N, w ∈ Ts) (ty0 : Nat → FieldType) (hty : ∀ k, k < N → parseFieldDescriptor (T k).2.2.1 = some (ty0 k)) (hown : s.vm.findClass own = some m.cls) (hcl : (Cond.classLink own index C).before args s = true) (hinst : (Cond.instantiable C N).before args s = true) (hini : (Cond.initialized C).before args s = true)
    (hK : fh_K G cl ty s) (hP : fh_P G cl h H) (hS : va_S A H0 H locs) (hA : ∀ q, H0.size ≤ q → A q) (hc : cl[ci]? = some (C, T, N)) {fs : List Value} (hfs : ∀ j, j < N → defaultValue (ty0 j) = vp_V fs j) (hcells : cells + 1 ≤ R.cells) (hslots : slots + N ≤ R.slots) (hdg : decode cc pc = .ok (.new index, 3))
    (kk : ∀ (q : Nat) (H1 : Heap), q = H.size → A q → fh_P G cl (fh_up h q (.inr (ci, fs))) H1 → H1.size = q + 1 → va_S A H0 H1 locs →
      W p l e R s m args below meth c H1 locs (cells + 1) (slots + N) Q (F0 m (pc + 3) ls (.ref q :: rest))) : W p l e R s m args below meth c H locs cells slots Q (F0 m pc ls rest) := by
  have hKn := hK.1 ci _ hc
  refine W.newcK hexec hb hown hcl hinst hini rfl hdg hcells hslots hKn.2.1 rfl fun H1 kC hkC e1 z1 o1 => ?_
  refine kk H.size H1 rfl (hA _ hS.1) (hP.push ?_ o1) z1 ⟨Nat.le_trans hS.1 (by omega), fun x h1 h2 => (o1 x (Nat.lt_of_lt_of_le h1 hS.1)).trans (hS.2.1 x h1 h2), hS.2.2⟩
  exact ⟨_, hc, (u_born ty0 hts hin hKn hkC e1 hty).to hfs⟩
theorem fh_newa (hexec : p.tables.exec = Jvm.exec) (hb : c.code = cc) {atype : ArrayType} (harr : (Cond.arrayClass (newarray.typeOf atype)).before args s = true) {t0 : FieldType} (hty : newarray.typeOf atype = t0) (hK : fh_K G cl ty s) (hP : fh_P G cl h H) (hS : va_S A H0 H locs) (hA : ∀ q, H0.size ≤ q → A q) (t : Nat) (ht : ty[t]? = some t0)
    {n : Int32} {N' : Nat} {a0 : vp_A} (ha : ∀ cA : ClassId, vp_cell cA a0 = arrV cA N' (fun _ => defaultValue t0)) (hn : ¬ n < 0) (hN : n.toNatClampNeg = N') (hbytes : N' * componentBytes t0 ≤ 536870912) (hcells : cells + 1 ≤ R.cells) (hslots : slots + N' ≤ R.slots) (hdg : decode cc pc = .ok (.newarray atype, 2))
    (kk : ∀ (q : Nat) (H1 : Heap), q = H.size → A q → fh_P G cl (fh_up h q (.inl (t, a0))) H1 → H1.size = q + 1 → va_S A H0 H1 locs →
      W p l e R s m args below meth c H1 locs (cells + 1) (slots + N') Q (F0 m (pc + 2) ls (.ref q :: rest))) : W p l e R s m args below meth c H locs cells slots Q (F0 m pc ls (.int n :: rest)) := by
  subst hty
  refine va_newaK hexec hb harr rfl hdg rfl hn hN hbytes hcells hslots rfl fun H1 cA e1 z1 o1 hAr hNm => ?_
  have h9 : s.vm.findClass ("[" ++ (newarray.typeOf atype).toString) = some (G.2 t) := by
    have h8 := (hK.2 t _ ht).2
    cases atype <;> exact h8
  have hcA : cA = G.2 t := Option.some.inj (hNm.symm.trans h9)
  subst hcA
  refine kk H.size H1 rfl (hA _ hS.1) (hP.push ?_ o1) z1 ⟨Nat.le_trans hS.1 (by omega), fun x h1 h2 => (o1 x (Nat.lt_of_lt_of_le h1 hS.1)).trans (hS.2.1 x h1 h2), hS.2.2⟩
  show H1[H.size]? = some (vp_cell _ _)
  rw [ha]
  exact e1
theorem fh_newq (hexec : p.tables.exec = Jvm.exec) (hb : c.code = cc) {own C : String} {index : Nat} (hown : s.vm.findClass own = some m.cls) (hclink : (Cond.classLink own index C).before args s = true) (hover : va_AO C s) (hK : fh_K G cl ty s) (hP : fh_P G cl h H) (hS : va_S A H0 H locs) (hA : ∀ q, H0.size ≤ q → A q) (t : Nat) (ht : ty[t]? = some (.object C))
    {n : Int32} {N' : Nat} (hn : ¬ n < 0) (hN : n.toNatClampNeg = N') (hbytes : N' * 4 ≤ 536870912) (hcells : cells + 1 ≤ R.cells) (hslots : slots + N' ≤ R.slots) (hdg : decode cc pc = .ok (.anewarray index, 3))
    (kk : ∀ (q : Nat) (H1 : Heap), q = H.size → A q → fh_P G cl (fh_up h q (.inl (t, N', .inr (.inr (.inr (.inr (fun _ => none))))))) H1 → H1.size = q + 1 → va_S A H0 H1 locs →
      W p l e R s m args below meth c H1 locs (cells + 1) (slots + N') Q (F0 m (pc + 3) ls (.ref q :: rest))) : W p l e R s m args below meth c H locs cells slots Q (F0 m pc ls (.int n :: rest)) := by
  subst hN
  refine W.anew hexec hb hown hclink (va_AO.use hover) rfl hdg rfl hn hbytes hcells hslots fun cA kA comp f1 f2 f3 f4 => ?_
  obtain ⟨kA', comp', g1, g2, g3, g4⟩ := (hK.2 t _ ht).2
  have hcA : cA = G.2 t := Option.some.inj (f1.symm.trans g4)
  subst hcA
  generalize hH1 : H.push ({ cls := G.2 t, slots := Array.replicate n.toNatClampNeg .null, vm := .none } : Cell) = H1
  have z1 : H1.size = H.size + 1 := by rw [← hH1, Array.size_push]
  have e1 : H1[H.size]? = some (arrV (G.2 t) n.toNatClampNeg (fun _ => .null)) := by rw [← hH1, Array.getElem?_push_size, ← arrV_new]
  have o1 : ∀ q : Nat, q < H.size → H1[q]? = H[q]? := fun q hq => by rw [← hH1, Array.getElem?_push, if_neg (Nat.ne_of_lt hq)]
  refine kk H.size H1 rfl (hA _ hS.1) (hP.push ?_ o1) z1 ⟨Nat.le_trans hS.1 (by omega), fun x h1 h2 => (o1 x (Nat.lt_of_lt_of_le h1 hS.1)).trans (hS.2.1 x h1 h2), hS.2.2⟩
  show H1[H.size]? = some (vp_cell (G.2 t) (n.toNatClampNeg, .inr (.inr (.inr (.inr (fun _ => none))))))
  rw [vp_cell_q]
  exact e1
end FHR
end
section
section FHB
variable {p : Program} {l : Launch} {e : Env} {R : Room} {s : State} {m : MethodId} {args : Array Value} {below : List Frame} {meth : Method} {c : Code} {H : Heap} {locs : List Loc} {cells slots : Nat} {Q : State → Prop}
variable {cc : ByteArray} {pc : Nat} {ls : Array Slot} {rest : List Value} {G : fG} {cl : List vw_C} {ty : List FieldType} {h : FH} {A : Nat → Prop} {a : Nat} {H0 : Heap}
theorem fh_iald (hexec : p.tables.exec = Jvm.exec) (hb : c.code = cc) (hK : fh_K G cl ty s) (hP : fh_P G cl h H) {t n k : Nat} {f : Nat → Int32} (ha : h a = some (.inl (t, n, .inl f))) (ht : ty[t]? = some .int) (hk : k < n) (hn : n < 2 ^ 31) (hdg : decode cc pc = .ok (.iaload, 1))
    (kk : W p l e R s m args below meth c H locs cells slots Q (F0 m (pc + 1) ls (.int (f k) :: rest))) : W p l e R s m args below meth c H locs cells slots Q (F0 m pc ls (.int (nI k) :: .ref a :: rest)) := by
  refine va_iald hexec hb (hK.one ht) (hP.one ha) 0 0 rfl rfl (vp_in_nI hk hn) hdg ?_
  rw [nI_clamp (Nat.lt_trans hk hn)]
  exact kk
theorem fh_iast (hexec : p.tables.exec = Jvm.exec) (hb : c.code = cc) (hK : fh_K G cl ty s) (hP : fh_P G cl h H) (hS : va_S A H0 H locs) {t n k : Nat} {f : Nat → Int32} {x : Int32} (ha : h a = some (.inl (t, n, .inl f))) (hA : A a) (ht : ty[t]? = some .int) (hk : k < n) (hn : n < 2 ^ 31) (hdg : decode cc pc = .ok (.iastore, 1))
    (kk : ∀ (H1 : Heap) (locs1 : List Loc), fh_P G cl (fh_up h a (.inl (t, n, .inl (upd f k x)))) H1 → H1.size = H.size → va_S A H0 H1 locs1 → W p l e R s m args below meth c H1 locs1 cells slots Q (F0 m (pc + 1) ls rest)) : W p l e R s m args below meth c H locs cells slots Q (F0 m pc ls (.int (x) :: .int (nI k) :: .ref a :: rest)) := by
  have hc : H[a]? = some (vp_cell (G.2 t) (n, .inl f)) := hP a _ ha
  refine W.iast hexec hb hc ((hK.2 t _ ht).1 n (fun j => .int (f j))) (fun q => by cases q) (by show ¬ (nI k < 0 ∨ (arrV _ _ _).slots.size ≤ _); rw [arrV_size]; exact vp_in_nI hk hn) rfl rfl hdg fun H1 e1 z oq => ?_
  refine kk H1 _ (hP.set ?_ oq) z (hS.put z oq hA)
  show H1[a]? = some (vp_cell (G.2 t) (n, .inl (upd f k x)))
  rw [e1, vp_cell_i, vp_cell_i, arrV_store, nI_clamp (Nat.lt_trans hk hn)]
  congr 2
  funext q
  by_cases hq : q = k
  · subst hq
    simp [updV, upd]
  · simp [updV, upd, hq]
theorem fh_bald (hexec : p.tables.exec = Jvm.exec) (hb : c.code = cc) (hK : fh_K G cl ty s) (hP : fh_P G cl h H) {t n k : Nat} {f : Nat → Int32} (ha : h a = some (.inl (t, n, .inl f))) (ht : ty[t]? = some .byte) (hk : k < n) (hn : n < 2 ^ 31) (hdg : decode cc pc = .ok (.baload, 1))
    (kk : W p l e R s m args below meth c H locs cells slots Q (F0 m (pc + 1) ls (.int (f k) :: rest))) : W p l e R s m args below meth c H locs cells slots Q (F0 m pc ls (.int (nI k) :: .ref a :: rest)) := by
  refine va_bald hexec hb (hK.one ht) (hP.one ha) 0 0 rfl rfl (vp_in_nI hk hn) hdg ?_
  rw [nI_clamp (Nat.lt_trans hk hn)]
  exact kk
theorem fh_bast (hexec : p.tables.exec = Jvm.exec) (hb : c.code = cc) (hK : fh_K G cl ty s) (hP : fh_P G cl h H) (hS : va_S A H0 H locs) {t n k : Nat} {f : Nat → Int32} {x : Int32} (ha : h a = some (.inl (t, n, .inl f))) (hA : A a) (ht : ty[t]? = some .byte) (hk : k < n) (hn : n < 2 ^ 31) (hdg : decode cc pc = .ok (.bastore, 1))
    (kk : ∀ (H1 : Heap) (locs1 : List Loc), fh_P G cl (fh_up h a (.inl (t, n, .inl (upd f k (vp_nar .byte x))))) H1 → H1.size = H.size → va_S A H0 H1 locs1 → W p l e R s m args below meth c H1 locs1 cells slots Q (F0 m (pc + 1) ls rest)) : W p l e R s m args below meth c H locs cells slots Q (F0 m pc ls (.int (x) :: .int (nI k) :: .ref a :: rest)) := by
  have hc : H[a]? = some (vp_cell (G.2 t) (n, .inl f)) := hP a _ ha
  refine W.bast hexec hb hc ((hK.2 t _ ht).1 n (fun j => .int (f j))) (fun q => by cases q) (by show ¬ (nI k < 0 ∨ (arrV _ _ _).slots.size ≤ _); rw [arrV_size]; exact vp_in_nI hk hn) rfl rfl hdg fun H1 e1 z oq => ?_
  refine kk H1 _ (hP.set ?_ oq) z (hS.put z oq hA)
  show H1[a]? = some (vp_cell (G.2 t) (n, .inl (upd f k (vp_nar .byte x))))
  rw [e1, vp_cell_i, vp_cell_i, arrV_store, nI_clamp (Nat.lt_trans hk hn)]
  congr 2
  funext q
  by_cases hq : q = k
  · subst hq
    simp [updV, upd, vp_nar]
    try rfl
  · simp [updV, upd, hq]
theorem fh_zald (hexec : p.tables.exec = Jvm.exec) (hb : c.code = cc) (hK : fh_K G cl ty s) (hP : fh_P G cl h H) {t n k : Nat} {f : Nat → Int32} (ha : h a = some (.inl (t, n, .inl f))) (ht : ty[t]? = some .boolean) (hk : k < n) (hn : n < 2 ^ 31) (hdg : decode cc pc = .ok (.baload, 1))
    (kk : W p l e R s m args below meth c H locs cells slots Q (F0 m (pc + 1) ls (.int (f k) :: rest))) : W p l e R s m args below meth c H locs cells slots Q (F0 m pc ls (.int (nI k) :: .ref a :: rest)) := by
  refine va_zald hexec hb (hK.one ht) (hP.one ha) 0 0 rfl rfl (vp_in_nI hk hn) hdg ?_
  rw [nI_clamp (Nat.lt_trans hk hn)]
  exact kk
theorem fh_zast (hexec : p.tables.exec = Jvm.exec) (hb : c.code = cc) (hK : fh_K G cl ty s) (hP : fh_P G cl h H) (hS : va_S A H0 H locs) {t n k : Nat} {f : Nat → Int32} {x : Int32} (ha : h a = some (.inl (t, n, .inl f))) (hA : A a) (ht : ty[t]? = some .boolean) (hk : k < n) (hn : n < 2 ^ 31) (hdg : decode cc pc = .ok (.bastore, 1))
    (kk : ∀ (H1 : Heap) (locs1 : List Loc), fh_P G cl (fh_up h a (.inl (t, n, .inl (upd f k (vp_nar .boolean x))))) H1 → H1.size = H.size → va_S A H0 H1 locs1 → W p l e R s m args below meth c H1 locs1 cells slots Q (F0 m (pc + 1) ls rest)) : W p l e R s m args below meth c H locs cells slots Q (F0 m pc ls (.int (x) :: .int (nI k) :: .ref a :: rest)) := by
  have hc : H[a]? = some (vp_cell (G.2 t) (n, .inl f)) := hP a _ ha
  refine W.zast hexec hb hc ((hK.2 t _ ht).1 n (fun j => .int (f j))) (fun q => by cases q) (by show ¬ (nI k < 0 ∨ (arrV _ _ _).slots.size ≤ _); rw [arrV_size]; exact vp_in_nI hk hn) rfl rfl hdg fun H1 e1 z oq => ?_
  refine kk H1 _ (hP.set ?_ oq) z (hS.put z oq hA)
  show H1[a]? = some (vp_cell (G.2 t) (n, .inl (upd f k (vp_nar .boolean x))))
  rw [e1, vp_cell_i, vp_cell_i, arrV_store, nI_clamp (Nat.lt_trans hk hn)]
  congr 2
  funext q
  by_cases hq : q = k
  · subst hq
    simp [updV, upd, vp_nar]
    try rfl
  · simp [updV, upd, hq]
theorem fh_lald (hexec : p.tables.exec = Jvm.exec) (hb : c.code = cc) (hK : fh_K G cl ty s) (hP : fh_P G cl h H) {t n k : Nat} {f : Nat → Int64} (ha : h a = some (.inl (t, n, .inr (.inl f)))) (ht : ty[t]? = some .long) (hk : k < n) (hn : n < 2 ^ 31) (hdg : decode cc pc = .ok (.laload, 1))
    (kk : W p l e R s m args below meth c H locs cells slots Q (F0 m (pc + 1) ls (.long (f k) :: rest))) : W p l e R s m args below meth c H locs cells slots Q (F0 m pc ls (.int (nI k) :: .ref a :: rest)) := by
  refine va_lald hexec hb (hK.one ht) (hP.one ha) 0 0 rfl rfl (vp_in_nI hk hn) hdg ?_
  rw [nI_clamp (Nat.lt_trans hk hn)]
  exact kk
theorem fh_last (hexec : p.tables.exec = Jvm.exec) (hb : c.code = cc) (hK : fh_K G cl ty s) (hP : fh_P G cl h H) (hS : va_S A H0 H locs) {t n k : Nat} {f : Nat → Int64} {x : Int64} (ha : h a = some (.inl (t, n, .inr (.inl f)))) (hA : A a) (ht : ty[t]? = some .long) (hk : k < n) (hn : n < 2 ^ 31) (hdg : decode cc pc = .ok (.lastore, 1))
    (kk : ∀ (H1 : Heap) (locs1 : List Loc), fh_P G cl (fh_up h a (.inl (t, n, .inr (.inl (vp_updL f k x))))) H1 → H1.size = H.size → va_S A H0 H1 locs1 → W p l e R s m args below meth c H1 locs1 cells slots Q (F0 m (pc + 1) ls rest)) : W p l e R s m args below meth c H locs cells slots Q (F0 m pc ls (.long (x) :: .int (nI k) :: .ref a :: rest)) := by
  have hc : H[a]? = some (vp_cell (G.2 t) (n, .inr (.inl f))) := hP a _ ha
  refine W.last hexec hb hc ((hK.2 t _ ht).1 n (fun j => .long (f j))) (fun q => by cases q) (by show ¬ (nI k < 0 ∨ (arrV _ _ _).slots.size ≤ _); rw [arrV_size]; exact vp_in_nI hk hn) rfl rfl hdg fun H1 e1 z oq => ?_
  refine kk H1 _ (hP.set ?_ oq) z (hS.put z oq hA)
  show H1[a]? = some (vp_cell (G.2 t) (n, .inr (.inl (vp_updL f k x))))
  rw [e1, vp_cell_l, vp_cell_l, arrV_store, nI_clamp (Nat.lt_trans hk hn)]
  congr 2
  funext q
  by_cases hq : q = k
  · subst hq
    simp [updV, vp_updL]
  · simp [updV, vp_updL, hq]
theorem fh_aald (hexec : p.tables.exec = Jvm.exec) (hb : c.code = cc) (hK : fh_K G cl ty s) (hP : fh_P G cl h H) {t n k : Nat} {f : Nat → Option Nat} {C : String} (ha : h a = some (.inl (t, n, .inr (.inr (.inr (.inr f)))))) (ht : ty[t]? = some (.object C)) (hk : k < n) (hn : n < 2 ^ 31) (hdg : decode cc pc = .ok (.aaload, 1))
    (kk : W p l e R s m args below meth c H locs cells slots Q (F0 m (pc + 1) ls (va_rf (f k) :: rest))) : W p l e R s m args below meth c H locs cells slots Q (F0 m pc ls (.int (nI k) :: .ref a :: rest)) := by
  refine va_aldq hexec hb (hK.one ht) (hP.one ha) 0 0 rfl rfl (vp_in_nI hk hn) hdg ?_
  rw [nI_clamp (Nat.lt_trans hk hn)]
  exact kk
theorem fh_aast (hexec : p.tables.exec = Jvm.exec) (hb : c.code = cc) (hK : fh_K G cl ty s) (hP : fh_P G cl h H) (hS : va_S A H0 H locs) {t n k v ci : Nat} {f : Nat → Option Nat} {r : vw_C} {vs : List Value} (ha : h a = some (.inl (t, n, .inr (.inr (.inr (.inr f)))))) (hA : A a) (ht : ty[t]? = some (.object r.1)) (hv : h v = some (.inr (ci, vs))) (hc : cl[ci]? = some r) (hk : k < n) (hn : n < 2 ^ 31) (hdg : decode cc pc = .ok (.aastore, 1))
    (kk : ∀ (H1 : Heap) (locs1 : List Loc), fh_P G cl (fh_up h a (.inl (t, n, .inr (.inr (.inr (.inr (va_up f k (some v)))))))) H1 → H1.size = H.size → va_S A H0 H1 locs1 → W p l e R s m args below meth c H1 locs1 cells slots Q (F0 m (pc + 1) ls rest)) : W p l e R s m args below meth c H locs cells slots Q (F0 m pc ls (.ref v :: .int (nI k) :: .ref a :: rest)) := by
  have hca : H[a]? = some (vp_cell (G.2 t) (n, .inr (.inr (.inr (.inr f))))) := hP a _ ha
  obtain ⟨r', hr', cellV, g1, g2, g3, -⟩ := hP v _ hv
  have hcls := (hK.1 ci r hc).2
  obtain ⟨kA, comp, k1, k2, k3, -⟩ := (hK.2 t _ ht).2
  have hcomp : comp = G.1.1 ci := Option.some.inj (k3.symm.trans hcls.1)
  subst hcomp
  obtain ⟨kC, hkC, -⟩ := hcls.2
  refine W.aast hexec hb hca (fun q h => by cases h) (fun h => by cases h) k1 k2 rfl hkC ⟨nI_pos (Nat.lt_trans hk hn), by show _ < (arrV _ _ _).slots.size; rw [arrV_size, nI_clamp (Nat.lt_trans hk hn)]; exact hk⟩ g1 (fun q h => by rw [g3] at h; cases h) (by rw [g2]; exact hkC) (by rw [g2]; exact va_assign hcls) rfl rfl hdg fun H1 e1 z oq => ?_
  refine kk H1 _ (hP.set ?_ oq) z (hS.put z oq hA)
  show H1[a]? = some (vp_cell (G.2 t) (n, .inr (.inr (.inr (.inr (va_up f k (some v)))))))
  rw [e1, vp_cell_q, vp_cell_q, arrV_store, nI_clamp (Nat.lt_trans hk hn)]
  congr 2
  funext q
  by_cases hq : q = k
  · subst hq
    simp [updV, va_up, va_rf]
  · simp [updV, va_up, hq]
theorem fh_aastN (hexec : p.tables.exec = Jvm.exec) (hb : c.code = cc) (hK : fh_K G cl ty s) (hP : fh_P G cl h H) (hS : va_S A H0 H locs) {t n k : Nat} {f : Nat → Option Nat} {C : String} (ha : h a = some (.inl (t, n, .inr (.inr (.inr (.inr f)))))) (hA : A a) (ht : ty[t]? = some (.object C)) (hk : k < n) (hn : n < 2 ^ 31) (hdg : decode cc pc = .ok (.aastore, 1))
    (kk : ∀ (H1 : Heap) (locs1 : List Loc), fh_P G cl (fh_up h a (.inl (t, n, .inr (.inr (.inr (.inr (va_up f k none))))))) H1 → H1.size = H.size → va_S A H0 H1 locs1 → W p l e R s m args below meth c H1 locs1 cells slots Q (F0 m (pc + 1) ls rest)) : W p l e R s m args below meth c H locs cells slots Q (F0 m pc ls (.null :: .int (nI k) :: .ref a :: rest)) := by
  have hca : H[a]? = some (vp_cell (G.2 t) (n, .inr (.inr (.inr (.inr f))))) := hP a _ ha
  refine va_WaastN (C := C) hexec hb hca ((hK.2 t _ ht).1 n (fun j => va_rf (f j))) (fun h => by cases h) (by show ¬ (nI k < 0 ∨ (arrV _ _ _).slots.size ≤ _); rw [arrV_size]; exact vp_in_nI hk hn) rfl rfl hdg fun H1 e1 z oq => ?_
  refine kk H1 _ (hP.set ?_ oq) z (hS.put z oq hA)
  show H1[a]? = some (vp_cell (G.2 t) (n, .inr (.inr (.inr (.inr (va_up f k none))))))
  rw [e1, vp_cell_q, vp_cell_q, arrV_store, nI_clamp (Nat.lt_trans hk hn)]
  congr 2
  funext q
  by_cases hq : q = k
  · subst hq
    simp [updV, va_up, va_rf]
  · simp [updV, va_up, hq]
theorem fh_aastO (hexec : p.tables.exec = Jvm.exec) (hb : c.code = cc) (hK : fh_K G cl ty s) (hP : fh_P G cl h H) (hS : va_S A H0 H locs) {t n k ci : Nat} {f : Nat → Option Nat} {r : vw_C} {o : Option Nat} (ha : h a = some (.inl (t, n, .inr (.inr (.inr (.inr f)))))) (hA : A a) (ht : ty[t]? = some (.object r.1)) (hv : ∀ v, o = some v → ∃ vs, h v = some (.inr (ci, vs))) (hc : cl[ci]? = some r) (hk : k < n) (hn : n < 2 ^ 31) (hdg : decode cc pc = .ok (.aastore, 1))
    (kk : ∀ (H1 : Heap) (locs1 : List Loc), fh_P G cl (fh_up h a (.inl (t, n, .inr (.inr (.inr (.inr (va_up f k o))))))) H1 → H1.size = H.size → va_S A H0 H1 locs1 → W p l e R s m args below meth c H1 locs1 cells slots Q (F0 m (pc + 1) ls rest)) : W p l e R s m args below meth c H locs cells slots Q (F0 m pc ls (va_rf o :: .int (nI k) :: .ref a :: rest)) := by
  cases o with
  | none => exact fh_aastN hexec hb hK hP hS ha hA ht hk hn hdg kk
  | some v =>
    obtain ⟨vs, hvs⟩ := hv v rfl
    exact fh_aast hexec hb hK hP hS ha hA ht hvs hc hk hn hdg kk
theorem fh_alen (hexec : p.tables.exec = Jvm.exec) (hb : c.code = cc) (hK : fh_K G cl ty s) (hP : fh_P G cl h H) {t n : Nat} {x : (Nat → Int32) ⊕ (Nat → Int64) ⊕ (Nat → UInt32) ⊕ (Nat → UInt64) ⊕ (Nat → Option Nat)} {t0 : FieldType} (ha : h a = some (.inl (t, n, x))) (ht : ty[t]? = some t0) (hdg : decode cc pc = .ok (.arraylength, 1))
    (kk : W p l e R s m args below meth c H locs cells slots Q (F0 m (pc + 1) ls (.int (nI n) :: rest))) : W p l e R s m args below meth c H locs cells slots Q (F0 m pc ls (.ref a :: rest)) :=
  va_alen hexec hb (hK.one ht) (hP.one ha) 0 0 rfl rfl (show Int32.ofNat n = nI n from rfl) hdg kk
end FHB
end
section
/-! the roles of arrays, and what holds of the tables beside the good words -/
abbrev tyL : List FieldType := [.long, .object "ObjectMerge$Row", .int, .object "ObjectMerge$Row", .byte, .int, .object "ObjectMerge$Area", .object "ObjectMerge$State", .object "ObjectMerge$Session", .object "ObjectMerge$Rule", .int, .long, .int, .boolean, .long, .int, .boolean, .boolean, .long, .int, .int, .int, .boolean, .long, .int, .int, .int, .long, .int, .int, .long, .int]
def ssL : List (String × Nat × String) := [("ObjectMerge", 256, "a kind is 0 .. 9"), ("ObjectMerge", 227, "no such session"), ("ObjectMerge", 246, "no such object"), ("ObjectMerge", 248, "a field is 0 .. 5"), ("ObjectMerge", 254, "the session is not open"), ("ObjectMerge", 243, "the object is not there"), ("ObjectMerge", 239, "no such conflict"), ("ObjectMerge", 142, "what is 0, 1 or 2"), ("ObjectMerge", 149, "a side is 0 or 1"), ("ObjectMerge", 171, "a distance is 0 .. 1,000,000,000"), ("ObjectMerge", 179, "which is 0 or 1"), ("ObjectMerge", 229, "no such version"), ("ObjectMerge", 207, "turns are 0 .. 100"), ("ObjectMerge", 218, "the head has no such object"), ("ObjectMerge", 220, "a person is 0 .. 31")]
def aoL : List String := ["ObjectMerge$State", "ObjectMerge$Row", "ObjectMerge$Session", "ObjectMerge$Area", "ObjectMerge$Rule"]
def nlL : List (String × Nat × MethodName × String) := [("ObjectMerge", 15, ⟨"ObjectMerge$State", "<init>", "()V"⟩, "ObjectMerge"), ("ObjectMerge", 28, ⟨"ObjectMerge$Locks", "<init>", "()V"⟩, "ObjectMerge"), ("ObjectMerge", 41, ⟨"ObjectMerge$Conflicts", "<init>", "()V"⟩, "ObjectMerge"), ("ObjectMerge$Session", 17, ⟨"ObjectMerge$Changes", "<init>", "()V"⟩, "ObjectMerge"), ("ObjectMerge", 71, ⟨"ObjectMerge$Row", "<init>", "()V"⟩, "ObjectMerge")]
def ctL : List (String × String) := [("java/lang/IllegalArgumentException", "java/lang/IllegalArgumentException"), ("java/lang/IndexOutOfBoundsException", "java/lang/IndexOutOfBoundsException"), ("java/lang/IllegalStateException", "java/lang/IllegalStateException")]
def dcL : List MethodName := [⟨"java/lang/RuntimeException", "<init>", "()V"⟩, ⟨"java/lang/RuntimeException", "<init>", "(Ljava/lang/String;)V"⟩, ⟨"java/lang/Exception", "<init>", "()V"⟩, ⟨"java/lang/Exception", "<init>", "(Ljava/lang/String;)V"⟩, ⟨"java/lang/Throwable", "<init>", "()V"⟩, ⟨"java/lang/Throwable", "<init>", "(Ljava/lang/String;)V"⟩]
def ncL : List (String × String) := [("java/lang/IllegalArgumentException", "java/lang/IndexOutOfBoundsException"), ("java/lang/IllegalArgumentException", "java/lang/IllegalStateException"), ("java/lang/IndexOutOfBoundsException", "java/lang/IllegalArgumentException"), ("java/lang/IndexOutOfBoundsException", "java/lang/IllegalStateException"), ("java/lang/IllegalStateException", "java/lang/IllegalArgumentException"), ("java/lang/IllegalStateException", "java/lang/IndexOutOfBoundsException")]
def badL : List Cond := ctL.map (fun q => Cond.castable q.1 q.2) ++ dcL.map (fun x => Cond.declares x)
def envX (U : State) : Prop := (∀ q ∈ ssL, ∃ a, vk_R q.1 q.2.1 q.2.2 a U) ∧ (∀ C ∈ aoL, va_AO C U) ∧ (∀ q ∈ nlL, va_Nw (.methodLinkNest q.1 q.2.1 q.2.2.1 q.2.2.2) U) ∧ (∀ q ∈ ctL, va_Nw (.castable q.1 q.2) U) ∧ (∀ x ∈ dcL, va_Nw (.declares x) U) ∧ ∀ q ∈ ncL, va_Nc q.1 q.2 U
theorem envX_warm {s U : State} (hW : s.WarmedH U.vm) (h : envX s) : envX U := by
  obtain ⟨h1, h2, h3, h4, h5, h6⟩ := h
  refine ⟨fun q hq => ?_, fun C hC => va_AO.moved hW.alike (h2 C hC), fun q hq => va_Nw.warmM hW (h3 q hq), fun q hq => va_Nw.warmC hW (h4 q hq), fun x hx => va_Nw.warmD hW (h5 x hx), fun q hq => va_Nc.moved hW.alike (h6 q hq)⟩
  obtain ⟨a, ha⟩ := h1 q hq
  exact ⟨a, vk_R.warm hW ha⟩
theorem envX_same {u U : State} (h : U.vm = u.vm) (hx : envX u) : envX U := envX_warm (s := u) (by rw [h]; exact State.WarmedH.refl u) hx
theorem envX_bad {s : State} {args : Array Value} (h : envX s) : ∀ w ∈ badL, w.before args s = true := by
  intro w hw
  rcases List.mem_append.mp hw with hw | hw
  · obtain ⟨q, hq, rfl⟩ := List.mem_map.mp hw
    exact va_Nw.use rfl (h.2.2.2.1 q hq)
  · obtain ⟨q, hq, rfl⟩ := List.mem_map.mp hw
    exact va_Nw.use rfl (h.2.2.2.2.1 q hq)
abbrev exN : List String := ["java/lang/RuntimeException", "java/lang/Exception"]
abbrev xE0 : String := "java/lang/IllegalArgumentException"
theorem xg0 : ∀ w ∈ (vx_atS RX9 151 xE0 exN).filter goodWord, w ∈ lw_tbl := by decide +kernel
theorem xb0 : ∀ w ∈ (vx_atS RX9 151 xE0 exN).filter (fun w => !goodWord w), w ∈ badL := by decide +kernel
theorem xo0 : ∀ w ∈ Cond.classLink RX9 147 xE0 :: Cond.initialized xE0 :: vx_atS RX9 151 xE0 exN, vx_ot w = true := by decide +kernel
abbrev xE1 : String := "java/lang/IndexOutOfBoundsException"
theorem xg1 : ∀ w ∈ (vx_atS RX9 144 xE1 exN).filter goodWord, w ∈ lw_tbl := by decide +kernel
theorem xb1 : ∀ w ∈ (vx_atS RX9 144 xE1 exN).filter (fun w => !goodWord w), w ∈ badL := by decide +kernel
theorem xo1 : ∀ w ∈ Cond.classLink RX9 140 xE1 :: Cond.initialized xE1 :: vx_atS RX9 144 xE1 exN, vx_ot w = true := by decide +kernel
abbrev xE2 : String := "java/lang/IllegalStateException"
theorem xg2 : ∀ w ∈ (vx_atS RX9 245 xE2 exN).filter goodWord, w ∈ lw_tbl := by decide +kernel
theorem xb2 : ∀ w ∈ (vx_atS RX9 245 xE2 exN).filter (fun w => !goodWord w), w ∈ badL := by decide +kernel
theorem xo2 : ∀ w ∈ Cond.classLink RX9 241 xE2 :: Cond.initialized xE2 :: vx_atS RX9 245 xE2 exN, vx_ot w = true := by decide +kernel
end
section
/-! CONTRACTS over function heaps -/
def fh_Env (G : fG) (A : Nat → Prop) (U : State) (H : Heap) : Prop := fh_K G vwCl tyL U ∧ vx_Zq Bundle.tN "UNASSIGNED_STACK" Bundle.steD A U H ∧ vx_Zq Bundle.tN "SUPPRESSED_SENTINEL" Bundle.listD A U H ∧ envX U
theorem fh_Env.at {G : fG} {A : Nat → Prop} {s U : State} {H : Heap} {locs : List Loc} (hE : fh_Env G A s s.heap) (hS : va_S A s.heap H locs) (hU : U.heap = H) (hW : s.WarmedH U.vm) : fh_Env G A U U.heap := by
  rw [hU]
  exact ⟨hE.1.moved hW.alike, vx_Zq.moved hW.alike (hE.2.1.kept hS.2.1), vx_Zq.moved hW.alike (hE.2.2.1.kept hS.2.1), envX_warm hW hE.2.2.2⟩
def fh_Pre (G : fG) (A : Nat → Prop) (h : FH) (sz : Nat) (U : State) : Prop := U.heap.size = sz ∧ fh_P G vwCl h U.heap ∧ fh_Env G A U U.heap
theorem fh_blind {av : List Value} {G : fG} {A : Nat → Prop} {h : FH} {sz : Nat} : FrameBlind (va_Pc av (fh_Pre G A h sz)) := by
  intro a U g mk q
  obtain ⟨q0, q1, q2, q3, q4, q5, q6⟩ := q
  exact ⟨q0, q1, q2, fh_K.moved (u := U) (U := U.calling g mk a) (Vm.Alike.refl U.vm) q3, vx_Zq.moved (u := U) (U := U.calling g mk a) (Vm.Alike.refl U.vm) q4, vx_Zq.moved (u := U) (U := U.calling g mk a) (Vm.Alike.refl U.vm) q5, envX_same (u := U) (U := U.calling g mk a) rfl q6⟩
def fh_Q (G : fG) (post : Option Value → FH → Prop) (A : Nat → Prop) : Array Value → State → Outcome → State → Prop := fun _ st oc t => (∃ (v : Option Value) (u : FH), oc = .returned v ∧ post v u ∧ fh_P G vwCl u t.heap) ∧ va_F A st t
def fh_X (G : fG) (px : String → FH → Prop) (A : Nat → Prop) : String → State → State → Prop := fun E st t => ∃ u : FH, px E u ∧ fh_P G vwCl u t.heap ∧ va_F A st t
section FHC
variable {p : Program} {l : Launch} {e : Env} {R : Room} {s : State} {m : MethodId} {args : Array Value} {below : List Frame} {meth : Method} {c : Code} {H : Heap} {locs : List Loc} {cells slots : Nat} {Q : State → Prop}
variable {cc : ByteArray} {pc nL : Nat} {ls : Array Slot} {rest st0 : List Value} {G : fG} {h : FH} {A : Nat → Prop} {a : Array Value} {H0 : Heap} {mc ms mc' ms' : Nat} {post : Option Value → FH → Prop} {px px' : String → FH → Prop}
variable {y : MethodName} {bytes : ByteArray} {maxL n index : Nat} {ret : Option FieldType} {ws : List Cond} {rm : Room} {Ts : List Cond} {own C : String} {b : Nat} {As : List Value} {Qc : Array Value → State → Outcome → State → Prop}
theorem fh_go (hr : va_Run p l e R s m args below meth c H locs cells slots mc ms (F0 m pc ls st0) rest (fh_Q G post A a) A) (hS : va_S A H0 H locs)
    (kk : ∀ (v : Option Value) (u : FH) (H1 : Heap) (locs1 : List Loc), post v u → fh_P G vwCl u H1 → H.size ≤ H1.size → va_S A H0 H1 locs1 → W p l e R s m args below meth c H1 locs1 (cells + mc) (slots + ms) Q (F0 m (pc + 3) ls (v.toList ++ rest))) : W p l e R s m args below meth c H locs cells slots Q (F0 m pc ls st0) := by
  intro T hT X
  obtain ⟨v, st₀, t, T', L, h0, X', hL, e1, e2, ⟨⟨v', u, hv, hp, hb⟩, hF⟩, st⟩ := hr T hT X
  cases hv
  obtain ⟨k1, -, k3⟩ := vx_keep h0 e1 hS (fun q _ z => z) (fun q z => z) hL hF
  obtain ⟨t2, a1, b1⟩ := kk v u T'.heap (locs ++ L) hp (by rw [e1]; exact hb) k1 k3 T' rfl X'
  exact ⟨t2, st t2 a1, b1⟩
theorem fh_goX (hr : vx_Run p l e R s m args below meth c H locs cells slots mc ms (F0 m pc ls st0) rest (fh_Q G post A a) (fh_X G px A) A) (hS : va_S A H0 H locs)
    (kx : ∀ (E : String) (ce : Cell) (q9 : Addr) (u : FH) (H1 : Heap) (locs1 : List Loc), px E u → fh_P G vwCl u H1 → H.size ≤ H1.size → va_S A H0 H1 locs1 → H1[q9]? = some ce → ce.vm = .none → s.vm.findClass E = some ce.cls → vx_W p l e R s m args below meth c H1 locs1 (cells + mc) (slots + ms) Q (F0 m pc ls rest) q9)
    (kk : ∀ (v : Option Value) (u : FH) (H1 : Heap) (locs1 : List Loc), post v u → fh_P G vwCl u H1 → H.size ≤ H1.size → va_S A H0 H1 locs1 → W p l e R s m args below meth c H1 locs1 (cells + mc) (slots + ms) Q (F0 m (pc + 3) ls (v.toList ++ rest))) : W p l e R s m args below meth c H locs cells slots Q (F0 m pc ls st0) := by
  intro T hT X
  rcases hr T hT X with ⟨v, st₀, t, T', L, h0, X', hL, e1, e2, ⟨⟨v', u, hv, hp, hb⟩, hF⟩, st⟩ | ⟨q, st₀, t, T', L, E, ce, h0, X', hL, e1, e2, ⟨u, hp, hb, hF⟩, hce, hcv, hcl, st⟩
  · cases hv
    obtain ⟨k1, -, k3⟩ := vx_keep h0 e1 hS (fun q _ z => z) (fun q z => z) hL hF
    obtain ⟨t2, a1, b1⟩ := kk v u T'.heap (locs ++ L) hp (by rw [e1]; exact hb) k1 k3 T' rfl X'
    exact ⟨t2, st t2 a1, b1⟩
  · obtain ⟨k1, -, k3⟩ := vx_keep h0 e1 hS (fun q _ z => z) (fun q z => z) hL hF
    obtain ⟨t2, a1, b1⟩ := kx E ce q u T'.heap (locs ++ L) hp (by rw [e1]; exact hb) k1 k3 (by rw [e1]; exact hce) hcv hcl T' rfl X'
    exact ⟨t2, st.trans a1, b1⟩
/-- what a call needs of the caller's state -/
theorem fh_preS (hP : fh_P G vwCl h H) (hE : fh_Env G A s s.heap) (hS : va_S A s.heap H locs) : PreS s H (va_Pc As (fh_Pre G A h H.size)) As :=
  ⟨fh_blind, fun U hU hW => ⟨rfl, by rw [hU], by rw [hU]; exact hP, hE.at hS hU hW⟩⟩
theorem fh_preV {ci : Nat} {q : vw_C} {fs : List Value} (hP : fh_P G vwCl h H) (hE : fh_Env G A s s.heap) (hS : va_S A s.heap H locs) (hb : h b = some (.inr (ci, fs))) (hc : vwCl[ci]? = some q) : PreV s H q.1 b (va_Pc (.ref b :: As) (fh_Pre G A h H.size)) As :=
  ⟨fh_blind, va_recv hE.1.va (hP.one hb) (q0 := 0) hc rfl, fun U hU hW => ⟨rfl, by rw [hU], by rw [hU]; exact hP, hE.at hS hU hW⟩⟩
/-- an exception that this method doesn't catch -/
theorem fh_out {E : String} {ce : Cell} {q : Addr} {u : FH} (ht : ∀ x ∈ c.exceptionTable.toList, False) (hlocks : meth.locks = false) (hp : px' E u) (hP : fh_P G vwCl u H) (hS : va_S A s.heap H locs) (hcell : H[q]? = some ce) (hv : ce.vm = .none) (hcl : s.vm.findClass E = some ce.cls) (hc : cells ≤ mc') (hs : slots ≤ ms') :
    vx_W p l e R s m args below meth c H locs cells slots (vx_MQ below Qc (fh_X G px' A) args s mc' ms' A) (F0 m pc ls rest) q :=
  vx_out (fun x hx => (ht x hx).elim) hlocks hcell hv hcl (fun t hT _ => ⟨u, hp, by rw [hT]; exact hP, hS.F hT⟩) hS.2.2 hc hs
end FHC
section FHE
variable {p : Program} {l : Launch} {e : Env} {R : Room} {s : State} {m : MethodId} {args : Array Value} {below : List Frame} {meth : Method} {c : Code} {H : Heap} {locs : List Loc} {cells slots : Nat}
variable {cc : ByteArray} {pc : Nat} {ls : Array Slot} {G : fG} {h : FH} {A : Nat → Prop} {mc ms : Nat} {post : Option Value → FH → Prop}
theorem fh_end {v : Option Value} (hp : post v h) (hP : fh_P G vwCl h H) (hS : va_S A s.heap H locs) : ∀ t : State, t.heap = H → s.WarmedH t.vm → fh_Q G post A args s (.returned v) t := fun t ht _ => ⟨⟨v, h, rfl, hp, by rw [ht]; exact hP⟩, hS.F ht⟩
theorem fh_iret {v : Int32} (hx : p.tables.exec = Jvm.exec) (hb : c.code = cc) (hr : meth.sig.returnType = some .int) (hlocks : meth.locks = false) (hp : post (some (.int v)) h) (hP : fh_P G vwCl h H) (hS : va_S A s.heap H locs) (hc : cells ≤ mc) (hs : slots ≤ ms) (hdg : decode cc pc = .ok (.ireturn, 1)) :
    W p l e R s m args below meth c H locs cells slots (MQ below (fh_Q G post A) args s mc ms A) (F0 m pc ls [.int v]) :=
  W.widen hc hs (W.iret hx hb hr (fh_end hp hP hS) hS.2.2 hdg hlocks)
theorem fh_zret {v : Int32} (hx : p.tables.exec = Jvm.exec) (hb : c.code = cc) (hr : meth.sig.returnType = some .boolean) (hlocks : meth.locks = false) (hn : narrow .boolean (.int v) = .int v) (hp : post (some (.int v)) h) (hP : fh_P G vwCl h H) (hS : va_S A s.heap H locs) (hc : cells ≤ mc) (hs : slots ≤ ms) (hdg : decode cc pc = .ok (.ireturn, 1)) :
    W p l e R s m args below meth c H locs cells slots (MQ below (fh_Q G post A) args s mc ms A) (F0 m pc ls [.int v]) :=
  W.widen hc hs (W.zret hx hb hr hn (fh_end hp hP hS) hS.2.2 hdg hlocks)
theorem fh_lret {v : Int64} (hx : p.tables.exec = Jvm.exec) (hb : c.code = cc) (hr : meth.sig.returnType = some .long) (hlocks : meth.locks = false) (hp : post (some (.long v)) h) (hP : fh_P G vwCl h H) (hS : va_S A s.heap H locs) (hc : cells ≤ mc) (hs : slots ≤ ms) (hdg : decode cc pc = .ok (.lreturn, 1)) :
    W p l e R s m args below meth c H locs cells slots (MQ below (fh_Q G post A) args s mc ms A) (F0 m pc ls [.long v]) :=
  W.widen hc hs (W.lret hx hb hr (fh_end hp hP hS) hS.2.2 hdg hlocks)
theorem fh_vret (hx : p.tables.exec = Jvm.exec) (hb : c.code = cc) (hr : meth.sig.returnType = none) (hlocks : meth.locks = false) (hp : post none h) (hP : fh_P G vwCl h H) (hS : va_S A s.heap H locs) (hc : cells ≤ mc) (hs : slots ≤ ms) (hdg : decode cc pc = .ok (.return_, 1)) :
    W p l e R s m args below meth c H locs cells slots (MQ below (fh_Q G post A) args s mc ms A) (F0 m pc ls []) :=
  W.widen hc hs (W.vret hx hb hr (fh_end hp hP hS) hS.2.2 hdg hlocks)
theorem fh_aret {o : Option Nat} {C : String} (hx : p.tables.exec = Jvm.exec) (hb : c.code = cc) (hr : meth.sig.returnType = some (.object C)) (hlocks : meth.locks = false) (hp : post (some (va_rf o)) h) (hP : fh_P G vwCl h H) (hS : va_S A s.heap H locs) (hc : cells ≤ mc) (hs : slots ≤ ms) (hdg : decode cc pc = .ok (.areturn, 1)) :
    W p l e R s m args below meth c H locs cells slots (MQ below (fh_Q G post A) args s mc ms A) (F0 m pc ls [va_rf o]) :=
  W.widen hc hs (W.aret hx hb hr (Or.inl ⟨_, rfl⟩) (va_rf_or o) (fh_end hp hP hS) hS.2.2 hdg hlocks)
end FHE
section FHM
variable {l : Launch} {y : MethodName} {ws ws' : List Cond} {rm : Room} {cc : ByteArray} {maxL : Nat} {ret : Option FieldType} {G : fG} {A : Nat → Prop} {h : FH} {sz mc ms : Nat} {Qc : Array Value → State → Outcome → State → Prop} {XC : String → State → State → Prop}
theorem fh_Met (avs : List Value) (hy : plainName y.cls = true) (hw : ws = Cond.code y cc maxL ret :: ws') (hn : (lg_sl avs).length ≤ maxL)
    (body : ∀ p e s m below meth c, p.tables.exec = Jvm.exec → c.code = cc → meth.sig.returnType = ret → meth.locks = false → c.maxLocals = maxL → s.vm.findClass y.cls = some m.cls → meth.name = y.name → (∀ w ∈ ws, w.before avs.toArray s = true) → s.heap.size = sz → fh_P G vwCl h s.heap → fh_Env G A s s.heap → va_S A s.heap s.heap [] → ∀ ls, lv_has ls maxL (lv_args 0 avs) →
      W p l e (headSpec ws rm).room s m avs.toArray below meth c s.heap [] 0 0 (MQ below Qc avs.toArray s mc ms A) (F0 m 0 ls [])) : Met l y ws rm (va_Pc avs (fh_Pre G A h sz)) Qc mc ms A := by
  refine Met.ofW (cc := cc) (maxL := maxL) (ret := ret) hy hw ?_
  intro p e s m args below meth c s₁ B hml hv
  obtain ⟨rfl, hsz, hP, hE⟩ := hv
  have hl := lv_entry avs (n := maxL) hn
  rw [lg_entry_eq]
  exact body p e s m below meth c B.exec B.bytes B.returns B.notSynchronized hml (findClass_of_methodNamed B.named) (name_of_methodNamed B.named B.method).1 (atoms_spec (ws := ws) B.pre) hsz hP hE va_S.rf _ hl
theorem fh_MetX (avs : List Value) (hy : plainName y.cls = true) (hw : ws = Cond.code y cc maxL ret :: ws') (hn : (lg_sl avs).length ≤ maxL)
    (body : ∀ p e s m below meth c, p.tables.exec = Jvm.exec → c.code = cc → meth.sig.returnType = ret → meth.locks = false → c.maxLocals = maxL → s.vm.findClass y.cls = some m.cls → meth.name = y.name → (∀ w ∈ ws, w.before avs.toArray s = true) → s.heap.size = sz → fh_P G vwCl h s.heap → fh_Env G A s s.heap → va_S A s.heap s.heap [] → (∀ x ∈ c.exceptionTable.toList, False) → ∀ ls, lv_has ls maxL (lv_args 0 avs) →
      W p l e (headSpec ws rm).room s m avs.toArray below meth c s.heap [] 0 0 (vx_MQ below Qc XC avs.toArray s mc ms A) (F0 m 0 ls [])) : vx_Met l y ws rm (va_Pc avs (fh_Pre G A h sz)) Qc XC mc ms A := by
  refine vx_ofW (cc := cc) (maxL := maxL) (ret := ret) hy hw ?_
  intro p e s m args below meth c s₁ B hml ht hv
  obtain ⟨rfl, hsz, hP, hE⟩ := hv
  have hl := lv_entry avs (n := maxL) hn
  rw [lg_entry_eq]
  exact body p e s m below meth c B.exec B.bytes B.returns B.notSynchronized hml (findClass_of_methodNamed B.named) (name_of_methodNamed B.named B.method).1 (atoms_spec (ws := ws) B.pre) hsz hP hE va_S.rf ht _ hl
end FHM
section FHO
variable {p : Program} {l : Launch} {e : Env} {R : Room} {s : State} {m : MethodId} {args : Array Value} {below : List Frame} {meth : Method} {c : Code} {H : Heap} {locs : List Loc} {cells slots : Nat} {Q : State → Prop}
variable {cc : ByteArray} {pc : Nat} {ls : Array Slot} {rest : List Value}
/-- references that may be null, loaded, kept and looked at -/
theorem fh_aload_n (hexec : p.tables.exec = Jvm.exec) (hb : c.code = cc) {k : Fin 4} {i : Nat} {o : Option Nat} (hdg : decode cc pc = .ok (.aload_n k, 1)) (hi : (k : Nat) = i) (hl : ls[i]? = some (.val (va_rf o))) (kk : W p l e R s m args below meth c H locs cells slots Q (F0 m (pc + 1) ls (va_rf o :: rest))) : W p l e R s m args below meth c H locs cells slots Q (F0 m pc ls rest) := by
  cases o with
  | none => exact lv_aload_nN hexec hb hdg hi hl kk
  | some x => exact lv_aload_n hexec hb hdg hi hl kk
theorem fh_aload (hexec : p.tables.exec = Jvm.exec) (hb : c.code = cc) {i : Nat} {o : Option Nat} (hdg : decode cc pc = .ok (.aload i, 2)) (hl : ls[i]? = some (.val (va_rf o))) (kk : W p l e R s m args below meth c H locs cells slots Q (F0 m (pc + 2) ls (va_rf o :: rest))) : W p l e R s m args below meth c H locs cells slots Q (F0 m pc ls rest) := by
  cases o with
  | none => exact lv_aloadN hexec hb hdg hl kk
  | some x => exact lv_aload hexec hb hdg hl kk
theorem fh_astore_n (hexec : p.tables.exec = Jvm.exec) (hb : c.code = cc) {k : Fin 4} {i nL : Nat} {o : Option Nat} {lv lv' : List (Nat × Value)} (hdg : decode cc pc = .ok (.astore_n k, 1)) (hi : (k : Nat) = i) (h : lv_has ls nL lv) (hn : i < nL) (hl : (i, va_rf o) :: lv.filter (fun q => !(q.1 == i) && !(q.1 + 1 == i && q.2.category == 2)) = lv') (kk : ∀ ls' : Array Slot, lv_has ls' nL lv' → W p l e R s m args below meth c H locs cells slots Q (F0 m (pc + 1) ls' rest)) : W p l e R s m args below meth c H locs cells slots Q (F0 m pc ls (va_rf o :: rest)) := by
  cases o with
  | none => exact lv_astore_nN hexec hb hdg hi h hn hl kk
  | some x => exact lv_astore_n hexec hb hdg hi h hn hl kk
theorem fh_astore (hexec : p.tables.exec = Jvm.exec) (hb : c.code = cc) {i nL : Nat} {o : Option Nat} {lv lv' : List (Nat × Value)} (hdg : decode cc pc = .ok (.astore i, 2)) (h : lv_has ls nL lv) (hn : i < nL) (hl : (i, va_rf o) :: lv.filter (fun q => !(q.1 == i) && !(q.1 + 1 == i && q.2.category == 2)) = lv') (kk : ∀ ls' : Array Slot, lv_has ls' nL lv' → W p l e R s m args below meth c H locs cells slots Q (F0 m (pc + 2) ls' rest)) : W p l e R s m args below meth c H locs cells slots Q (F0 m pc ls (va_rf o :: rest)) := by
  cases o with
  | none => exact lv_astoreN hexec hb hdg h hn hl kk
  | some x => exact lv_astore hexec hb hdg h hn hl kk
theorem fh_ifnull (hexec : p.tables.exec = Jvm.exec) (hb : c.code = cc) {o : Option Nat} {off : Int} {tgt : Nat} (hdg : decode cc pc = .ok (.ifnull off, 3)) (ht : (pc : Int) + off = (tgt : Int)) (kn : o = none → W p l e R s m args below meth c H locs cells slots Q (F0 m tgt ls rest)) (ks : ∀ x, o = some x → W p l e R s m args below meth c H locs cells slots Q (F0 m (pc + 3) ls rest)) : W p l e R s m args below meth c H locs cells slots Q (F0 m pc ls (va_rf o :: rest)) := by
  cases o with
  | none => exact lv_ifnullN hexec hb hdg ht (kn rfl)
  | some x => exact lv_ifnull hexec hb hdg (ks x rfl)
theorem fh_ifnonnull (hexec : p.tables.exec = Jvm.exec) (hb : c.code = cc) {o : Option Nat} {off : Int} {tgt : Nat} (hdg : decode cc pc = .ok (.ifnonnull off, 3)) (ht : (pc : Int) + off = (tgt : Int)) (kn : o = none → W p l e R s m args below meth c H locs cells slots Q (F0 m (pc + 3) ls rest)) (ks : ∀ x, o = some x → W p l e R s m args below meth c H locs cells slots Q (F0 m tgt ls rest)) : W p l e R s m args below meth c H locs cells slots Q (F0 m pc ls (va_rf o :: rest)) := by
  cases o with
  | none => exact lv_ifnonnullN hexec hb hdg (kn rfl)
  | some x => exact lv_ifnonnull hexec hb hdg ht (ks x rfl)
end FHO
section FHK
variable {p : Program} {l : Launch} {e : Env} {R : Room} {s : State} {m : MethodId} {args : Array Value} {below : List Frame} {meth : Method} {c : Code} {H : Heap} {locs : List Loc} {cells slots : Nat} {Q : State → Prop}
variable {cc : ByteArray} {pc nL : Nat} {ls : Array Slot} {rest st0 : List Value} {G : fG} {h : FH} {A : Nat → Prop} {mc ms mc' ms' : Nat} {post : Option Value → FH → Prop} {px px' : String → FH → Prop}
variable {y : MethodName} {bytes : ByteArray} {maxL n index : Nat} {ret : Option FieldType} {ws : List Cond} {rm : Room} {Ts : List Cond} {own host : String} {b ci : Nat} {q : vw_C} {fs : List Value} {As : List Value} {Qc : Array Value → State → Outcome → State → Prop}
theorem fh_cV (S : CallFix p m c cc nL s args Ts own) (hM : Met l y ws rm (va_Pc (.ref b :: As) (fh_Pre G A h H.size)) (fh_Q G post A) mc ms A) (cw : CallW R s args own q.1 index y bytes maxL ret ws rm mc ms n) (hP : fh_P G vwCl h H) (hE : fh_Env G A s s.heap) (hS : va_S A s.heap H locs) (hbf : h b = some (.inr (ci, fs))) (hc : vwCl[ci]? = some q) (hn : As.length = n) (hsize : ls.size = nL) (hstack : st0 = As.reverse ++ .ref b :: rest) (hW : (rest.map fun v => v.category).sum ≤ 8) (hdg : decode cc pc = .ok (.invokevirtual index, 3)) (hf : cells + mc ≤ R.cells ∧ slots + ms ≤ R.slots)
    (kk : ∀ (v : Option Value) (u : FH) (H1 : Heap) (locs1 : List Loc), post v u → fh_P G vwCl u H1 → H.size ≤ H1.size → va_S A s.heap H1 locs1 → W p l e R s m args below meth c H1 locs1 (cells + mc) (slots + ms) Q (F0 m (pc + 3) ls (v.toList ++ rest))) : W p l e R s m args below meth c H locs cells slots Q (F0 m pc ls st0) :=
  fh_go (va_runV S hM cw (fh_preV hP hE hS hbf hc) rfl hn hsize hstack (lv_room hW) hdg hf) hS kk
theorem fh_cS (S : CallFix p m c cc nL s args Ts own) (hM : Met l y ws rm (va_Pc As (fh_Pre G A h H.size)) (fh_Q G post A) mc ms A) (cw : CallB R s args own index y bytes maxL ret ws rm mc ms n ∧ (Cond.static y).before args s = true) (hP : fh_P G vwCl h H) (hE : fh_Env G A s s.heap) (hS : va_S A s.heap H locs) (hn : As.length = n) (hsize : ls.size = nL) (hstack : st0 = As.reverse ++ rest) (hW : (rest.map fun v => v.category).sum ≤ 8) (hdg : decode cc pc = .ok (.invokestatic index, 3)) (hf : cells + mc ≤ R.cells ∧ slots + ms ≤ R.slots)
    (kk : ∀ (v : Option Value) (u : FH) (H1 : Heap) (locs1 : List Loc), post v u → fh_P G vwCl u H1 → H.size ≤ H1.size → va_S A s.heap H1 locs1 → W p l e R s m args below meth c H1 locs1 (cells + mc) (slots + ms) Q (F0 m (pc + 3) ls (v.toList ++ rest))) : W p l e R s m args below meth c H locs cells slots Q (F0 m pc ls st0) :=
  fh_go (va_runS S hM cw (fh_preS hP hE hS) rfl hn hsize hstack (lv_room hW) hdg hf) hS kk
theorem fh_cI (S : CallFix p m c cc nL s args Ts own) (hM : Met l y ws rm (va_Pc (.ref b :: As) (fh_Pre G A h H.size)) (fh_Q G post A) mc ms A) (cw : CallB R s args own index y bytes maxL none ws rm mc ms n ∧ y.name = "<init>" ∧ (Cond.instanceMethod y).before args s = true) (hP : fh_P G vwCl h H) (hE : fh_Env G A s s.heap) (hS : va_S A s.heap H locs) (hn : As.length = n) (hsize : ls.size = nL) (hstack : st0 = As.reverse ++ .ref b :: rest) (hW : (rest.map fun v => v.category).sum ≤ 8) (hdg : decode cc pc = .ok (.invokespecial index, 3)) (hf : cells + mc ≤ R.cells ∧ slots + ms ≤ R.slots)
    (kk : ∀ (v : Option Value) (u : FH) (H1 : Heap) (locs1 : List Loc), post v u → fh_P G vwCl u H1 → H.size ≤ H1.size → va_S A s.heap H1 locs1 → W p l e R s m args below meth c H1 locs1 (cells + mc) (slots + ms) Q (F0 m (pc + 3) ls (v.toList ++ rest))) : W p l e R s m args below meth c H locs cells slots Q (F0 m pc ls st0) :=
  fh_go (va_runI S hM cw (fh_preS hP hE hS) rfl hn hsize hstack (lv_room hW) hdg hf) hS kk
theorem fh_cIN (S : CallFix p m c cc nL s args Ts own) (hM : Met l y ws rm (va_Pc (.ref b :: As) (fh_Pre G A h H.size)) (fh_Q G post A) mc ms A) (cw : va_CN R s args own index y host bytes maxL none ws rm mc ms n ∧ y.name = "<init>" ∧ (Cond.instanceMethod y).before args s = true) (hP : fh_P G vwCl h H) (hE : fh_Env G A s s.heap) (hS : va_S A s.heap H locs) (hn : As.length = n) (hsize : ls.size = nL) (hstack : st0 = As.reverse ++ .ref b :: rest) (hW : (rest.map fun v => v.category).sum ≤ 8) (hdg : decode cc pc = .ok (.invokespecial index, 3)) (hf : cells + mc ≤ R.cells ∧ slots + ms ≤ R.slots)
    (kk : ∀ (v : Option Value) (u : FH) (H1 : Heap) (locs1 : List Loc), post v u → fh_P G vwCl u H1 → H.size ≤ H1.size → va_S A s.heap H1 locs1 → W p l e R s m args below meth c H1 locs1 (cells + mc) (slots + ms) Q (F0 m (pc + 3) ls (v.toList ++ rest))) : W p l e R s m args below meth c H locs cells slots Q (F0 m pc ls st0) :=
  fh_go (va_runIN S hM cw (fh_preS hP hE hS) rfl hn hsize hstack (lv_room hW) hdg hf) hS kk
theorem fh_cVX (S : CallFix p m c cc nL s args Ts own) (hM : vx_Met l y ws rm (va_Pc (.ref b :: As) (fh_Pre G A h H.size)) (fh_Q G post A) (fh_X G px A) mc ms A) (cw : CallW R s args own q.1 index y bytes maxL ret ws rm mc ms n) (hP : fh_P G vwCl h H) (hE : fh_Env G A s s.heap) (hS : va_S A s.heap H locs) (hbf : h b = some (.inr (ci, fs))) (hc : vwCl[ci]? = some q) (hn : As.length = n) (hsize : ls.size = nL) (hstack : st0 = As.reverse ++ .ref b :: rest) (hW : (rest.map fun v => v.category).sum ≤ 8) (hdg : decode cc pc = .ok (.invokevirtual index, 3)) (hf : cells + mc ≤ R.cells ∧ slots + ms ≤ R.slots)
    (hpx : ∀ E u, px E u → px' E u) (htb : ∀ x ∈ c.exceptionTable.toList, False) (hlocks : meth.locks = false) (hcm : cells + mc ≤ mc') (hsm : slots + ms ≤ ms')
    (kk : ∀ (v : Option Value) (u : FH) (H1 : Heap) (locs1 : List Loc), post v u → fh_P G vwCl u H1 → H.size ≤ H1.size → va_S A s.heap H1 locs1 → W p l e R s m args below meth c H1 locs1 (cells + mc) (slots + ms) (vx_MQ below Qc (fh_X G px' A) args s mc' ms' A) (F0 m (pc + 3) ls (v.toList ++ rest))) : W p l e R s m args below meth c H locs cells slots (vx_MQ below Qc (fh_X G px' A) args s mc' ms' A) (F0 m pc ls st0) :=
  fh_goX (vx_runV S hM cw (fh_preV hP hE hS hbf hc) rfl hn hsize hstack (lv_room hW) hdg hf) hS (fun E ce q9 u H1 locs1 hp hP1 _ hS1 h1 h2 h3 => fh_out htb hlocks (hpx E u hp) hP1 hS1 h1 h2 h3 hcm hsm) kk
theorem fh_cSX (S : CallFix p m c cc nL s args Ts own) (hM : vx_Met l y ws rm (va_Pc As (fh_Pre G A h H.size)) (fh_Q G post A) (fh_X G px A) mc ms A) (cw : CallB R s args own index y bytes maxL ret ws rm mc ms n ∧ (Cond.static y).before args s = true) (hP : fh_P G vwCl h H) (hE : fh_Env G A s s.heap) (hS : va_S A s.heap H locs) (hn : As.length = n) (hsize : ls.size = nL) (hstack : st0 = As.reverse ++ rest) (hW : (rest.map fun v => v.category).sum ≤ 8) (hdg : decode cc pc = .ok (.invokestatic index, 3)) (hf : cells + mc ≤ R.cells ∧ slots + ms ≤ R.slots)
    (hpx : ∀ E u, px E u → px' E u) (htb : ∀ x ∈ c.exceptionTable.toList, False) (hlocks : meth.locks = false) (hcm : cells + mc ≤ mc') (hsm : slots + ms ≤ ms')
    (kk : ∀ (v : Option Value) (u : FH) (H1 : Heap) (locs1 : List Loc), post v u → fh_P G vwCl u H1 → H.size ≤ H1.size → va_S A s.heap H1 locs1 → W p l e R s m args below meth c H1 locs1 (cells + mc) (slots + ms) (vx_MQ below Qc (fh_X G px' A) args s mc' ms' A) (F0 m (pc + 3) ls (v.toList ++ rest))) : W p l e R s m args below meth c H locs cells slots (vx_MQ below Qc (fh_X G px' A) args s mc' ms' A) (F0 m pc ls st0) :=
  fh_goX (vx_runS S hM cw (fh_preS hP hE hS) rfl hn hsize hstack (lv_room hW) hdg hf) hS (fun E ce q9 u H1 locs1 hp hP1 _ hS1 h1 h2 h3 => fh_out htb hlocks (hpx E u hp) hP1 hS1 h1 h2 h3 hcm hsm) kk
end FHK
section FHT
variable {p : Program} {l : Launch} {e : Env} {R : Room} {s : State} {m : MethodId} {args : Array Value} {below : List Frame} {meth : Method} {c : Code} {H : Heap} {locs : List Loc} {cells slots : Nat}
variable {cc : ByteArray} {pc : Nat} {ls : Array Slot} {rest : List Value} {G : fG} {h : FH} {A : Nat → Prop} {mc ms : Nat} {px : String → FH → Prop} {Qc : Array Value → State → Outcome → State → Prop}
/-- throw new E("text") in ObjectMerge -/
theorem fh_throwS {cls text : String} {ik is ic : Nat} (hx : p.tables.exec = Jvm.exec) (hb : c.code = cc) (hl : l.stackTraces = false) (ht : ∀ w ∈ wB, w.before args s = true) (hown : s.vm.findClass RX9 = some m.cls) (hcls : Bundle.fit cls = true) (hk : Cond.classLink RX9 ik cls ∈ wB) (hini : Cond.initialized cls ∈ wB)
    (xg : ∀ w ∈ (vx_atS RX9 ic cls exN).filter goodWord, w ∈ lw_tbl) (xb : ∀ w ∈ (vx_atS RX9 ic cls exN).filter (fun w => !goodWord w), w ∈ badL) (xo : ∀ w ∈ Cond.classLink RX9 ik cls :: Cond.initialized cls :: vx_atS RX9 ic cls exN, vx_ot w = true)
    (hstr : (RX9, is, text) ∈ ssL) (hE : fh_Env G A s s.heap) (hS : va_S A s.heap H locs) (hP : fh_P G vwCl h H) (hsize : ls.size = c.maxLocals)
    (d0 : decode cc pc = .ok (.new ik, 3)) (d3 : decode cc (pc + 3) = .ok (.dup, 1)) (d4 : decode cc (pc + 4) = .ok (.ldc is, 2)) (d6 : decode cc (pc + 6) = .ok (.invokespecial ic, 3)) (d9 : decode cc (pc + 9) = .ok (.athrow, 1))
    (htb : ∀ x ∈ c.exceptionTable.toList, False) (hRf : 5 < R.frames) (hRl : (rest.map fun v => v.category).sum + 82 ≤ R.locals) (hRc : cells + 1 ≤ R.cells) (hRs : slots + 6 ≤ R.slots) (hlocks : meth.locks = false)
    (hp : px cls h) (hc : cells + 1 ≤ mc) (hs : slots + 6 ≤ ms) : W p l e R s m args below meth c H locs cells slots (vx_MQ below Qc (fh_X G px A) args s mc ms A) (F0 m pc ls rest) := by
  obtain ⟨hK, hU, hN, hX⟩ := hE
  obtain ⟨sa, hsa⟩ := hX.1 _ hstr
  have hat : ∀ w ∈ vx_atS RX9 ic cls exN, w.before args s = true := vx_hat (fun w hw => ht w (List.mem_filter.mpr ⟨xg w hw, (List.mem_filter.mp hw).2⟩)) xb (envX_bad hX)
  refine vx_throwS hx hb hl hown hcls (by decide) (ht _ hk) (ht _ hini) hsa hat xo hU hN hS hsize d0 d3 d4 d6 d9 (fun x hx => (htb x hx).elim) hRf hRl hRc hRs hlocks (fun t hvm hz hq => ⟨h, hp, hP.kept hq, Nat.le_trans hS.1 hz, fun q h1 h2 => (hq q (Nat.lt_of_lt_of_le h1 hS.1)).trans (hS.2.1 q h1 h2)⟩) hS.2.2 hc hs
theorem fh_throwSW {cls text : String} {ik is ic : Nat} (hx : p.tables.exec = Jvm.exec) (hb : c.code = cc) (hl : l.stackTraces = false) (ht : ∀ w ∈ wB, w.before args s = true) (hown : s.vm.findClass RX9 = some m.cls) (hcls : Bundle.fit cls = true) (hk : Cond.classLink RX9 ik cls ∈ wB) (hini : Cond.initialized cls ∈ wB)
    (xg : ∀ w ∈ (vx_atS RX9 ic cls exN).filter goodWord, w ∈ lw_tbl) (xb : ∀ w ∈ (vx_atS RX9 ic cls exN).filter (fun w => !goodWord w), w ∈ badL) (xo : ∀ w ∈ Cond.classLink RX9 ik cls :: Cond.initialized cls :: vx_atS RX9 ic cls exN, vx_ot w = true)
    (hstr : (RX9, is, text) ∈ ssL) (hE : fh_Env G A s s.heap) (hS : va_S A s.heap H locs) (hP : fh_P G vwCl h H) (hsize : ls.size = c.maxLocals)
    (d0 : decode cc pc = .ok (.new ik, 3)) (d3 : decode cc (pc + 3) = .ok (.dup, 1)) (d4 : decode cc (pc + 4) = .ok (.ldc_w is, 3)) (d7 : decode cc (pc + 7) = .ok (.invokespecial ic, 3)) (d10 : decode cc (pc + 10) = .ok (.athrow, 1))
    (htb : ∀ x ∈ c.exceptionTable.toList, False) (hRf : 5 < R.frames) (hRl : (rest.map fun v => v.category).sum + 82 ≤ R.locals) (hRc : cells + 1 ≤ R.cells) (hRs : slots + 6 ≤ R.slots) (hlocks : meth.locks = false)
    (hp : px cls h) (hc : cells + 1 ≤ mc) (hs : slots + 6 ≤ ms) : W p l e R s m args below meth c H locs cells slots (vx_MQ below Qc (fh_X G px A) args s mc ms A) (F0 m pc ls rest) := by
  obtain ⟨hK, hU, hN, hX⟩ := hE
  obtain ⟨sa, hsa⟩ := hX.1 _ hstr
  have hat : ∀ w ∈ vx_atS RX9 ic cls exN, w.before args s = true := vx_hat (fun w hw => ht w (List.mem_filter.mpr ⟨xg w hw, (List.mem_filter.mp hw).2⟩)) xb (envX_bad hX)
  refine vx_throwSW hx hb hl hown hcls (by decide) (ht _ hk) (ht _ hini) hsa hat xo hU hN hS hsize d0 d3 d4 d7 d10 (fun x hx => (htb x hx).elim) hRf hRl hRc hRs hlocks (fun t hvm hz hq => ⟨h, hp, hP.kept hq, Nat.le_trans hS.1 hz, fun q h1 h2 => (hq q (Nat.lt_of_lt_of_le h1 hS.1)).trans (hS.2.1 q h1 h2)⟩) hS.2.2 hc hs
end FHT
section FHG
/-- the words of a callee among the good words -/
theorem gB {w1 : Cond} (h : w1 ∈ wB) : GoodIn wB (w1 :: wB) := fun w hw => by
  rcases List.mem_cons.mp hw with rfl | hw
  · exact ⟨h, good_of_word (wB_good _ h)⟩
  · exact ⟨hw, good_of_word (wB_good _ hw)⟩
theorem gV {own C : String} {idx : Nat} {y : MethodName} {w1 : Cond} (h1 : Cond.methodLink own idx y ∈ wB) (h2 : Cond.instanceMethod y ∈ wB) (h3 : Cond.selects C y y ∈ wB) (h4 : Cond.initialized C ∈ wB) (h5 : w1 ∈ wB) : GoodIn wB (wsV own idx C y (w1 :: wB)) := goodIn_app (fun w hw => by
  have hm : w ∈ wB := by
    rcases List.mem_cons.mp hw with rfl | hw
    · exact h1
    rcases List.mem_cons.mp hw with rfl | hw
    · exact h2
    rcases List.mem_cons.mp hw with rfl | hw
    · exact h3
    rcases List.mem_cons.mp hw with rfl | hw
    · exact h4
    cases hw
  exact ⟨hm, good_of_word (wB_good _ hm)⟩) (gB h5)
theorem gS {own : String} {idx : Nat} {y : MethodName} {w1 : Cond} (h1 : Cond.methodLink own idx y ∈ wB) (h2 : Cond.static y ∈ wB) (h4 : Cond.initialized y.cls ∈ wB) (h5 : w1 ∈ wB) : GoodIn wB (va_wsS own idx y (w1 :: wB)) := goodIn_app (fun w hw => by
  have hm : w ∈ wB := by
    rcases List.mem_cons.mp hw with rfl | hw
    · exact h1
    rcases List.mem_cons.mp hw with rfl | hw
    · exact h2
    rcases List.mem_cons.mp hw with rfl | hw
    · exact h4
    cases hw
  exact ⟨hm, good_of_word (wB_good _ hm)⟩) (gB h5)
end FHG
end
section
/-! SHAPES of the class's cells -/
abbrev oArea (ow : Int32) (x0 y0 x1 y1 : Int64) : fe := .inr (0, [.int ow, .long x0, .long y0, .long x1, .long y1])
abbrev oChg (ob rw : Nat) (nx ct : Int32) : fe := .inr (1, [.ref ob, .ref rw, .int nx, .int ct])
abbrev oCon (ow : Option Nat) (cd : Nat) (ct : Int32) : fe := .inr (2, [va_rf ow, .ref cd, .int ct])
abbrev oDraw (s : Int64) : fe := .inr (3, [.long s])
abbrev oLocks (a : Nat) : fe := .inr (4, [.ref a])
abbrev oRow (v : Nat) : fe := .inr (5, [.ref v])
abbrev oRule (f o : Int32) (d : Int64) : fe := .inr (6, [.int f, .int o, .long d])
abbrev oSes (num : Int32) (base now : Nat) (opn : Int32) (ch sd : Nat) : fe := .inr (7, [.int num, .ref base, .ref now, .int opn, .ref ch, .ref sd])
abbrev oSt (r : Nat) : fe := .inr (8, [.ref r])
abbrev aI (t n : Nat) (f : Nat → Int32) : fe := .inl (t, n, .inl f)
abbrev aL (t n : Nat) (f : Nat → Int64) : fe := .inl (t, n, .inr (.inl f))
abbrev aQ (t n : Nat) (f : Nat → Option Nat) : fe := .inl (t, n, .inr (.inr (.inr (.inr f))))
/-- nothing of what was there has changed: cells have come at most -/
def fh_ext (sz : Nat) (h u : FH) : Prop := ∀ a, a < sz → u a = h a
theorem fh_ext.rf {sz : Nat} {h : FH} : fh_ext sz h h := fun _ _ => rfl
theorem fh_ext.up {sz q : Nat} {h u : FH} {e : fe} (he : fh_ext sz h u) (hq : sz ≤ q) : fh_ext sz h (fh_up u q e) := fun a ha => by
  rw [fh_up_ne _ _ (Nat.ne_of_lt (Nat.lt_of_lt_of_le ha hq))]; exact he a ha
theorem fh_ext.trans {sz sz' : Nat} {h u w : FH} (h1 : fh_ext sz h u) (h2 : fh_ext sz' u w) (hs : sz ≤ sz') : fh_ext sz h w := fun a ha => (h2 a (Nat.lt_of_lt_of_le ha hs)).trans (h1 a ha)
theorem fh_ext.at {sz a : Nat} {h u : FH} {e : fe} (he : fh_ext sz h u) (ha : h a = some e) (hl : a < sz) : u a = some e := (he a hl).trans ha
end
section
/-! the values: a row of an object's fields, an object or none, a state -/
abbrev Rw : Type := Nat → Int64
abbrev Ro : Type := Option Rw
abbrev St : Type := Nat → Ro
theorem va_rf_cat (o : Option Nat) : (va_rf o).category = 1 := by cases o <;> rfl
def bI (b : Bool) : Int32 := if b then 1 else 0
def rwEq (f g : Rw) : Bool := (List.range 6).all (fun j => decide (f j = g j))
theorem rwEq_iff {f g : Rw} : rwEq f g = true ↔ ∀ j, j < 6 → f j = g j := by
  simp [rwEq, List.all_eq_true]
theorem rwEq_congr {f g f' g' : Rw} (hf : ∀ j, j < 6 → f j = f' j) (hg : ∀ j, j < 6 → g j = g' j) : rwEq f g = rwEq f' g' := by
  rw [Bool.eq_iff_iff, rwEq_iff, rwEq_iff]
  constructor
  · intro h j hj
    rw [← hf j hj, ← hg j hj]; exact h j hj
  · intro h j hj
    rw [hf j hj, hg j hj]; exact h j hj
def alikeO (a b : Ro) : Bool := match a, b with
  | none, none => true
  | some f, some g => rwEq f g
  | _, _ => false
def differO (a b : Ro) (k : Nat) : Bool := match a, b with
  | some f, some g => decide (k < 6) && decide (f k ≠ g k)
  | none, none => false
  | _, _ => decide (k = 6)
/-- the row at an address: its values, as far as fields go -/
def pRow (h : FH) (a : Nat) (f : Rw) : Prop := ∃ b g, h a = some (oRow b) ∧ h b = some (aL 0 6 g) ∧ ∀ j, j < 6 → g j = f j
def pRo (h : FH) (r : Option Nat) (o : Ro) : Prop := match r, o with
  | none, none => True
  | some a, some f => pRow h a f
  | _, _ => False
theorem pRo_none {h : FH} {o : Ro} (hp : pRo h none o) : o = none := by
  cases o with
  | none => rfl
  | some f => exact hp.elim
theorem pRo_some {h : FH} {a : Nat} {o : Ro} (hp : pRo h (some a) o) : ∃ f, o = some f ∧ pRow h a f := by
  cases o with
  | none => exact hp.elim
  | some f => exact ⟨f, rfl, hp⟩
theorem bI_1 {b : Bool} (h : b = true) : (nI 1 : Int32) = bI b := by rw [h]; rfl
theorem bI_0 {b : Bool} (h : ¬ b = true) : (nI 0 : Int32) = bI b := by
  cases b with
  | true => exact absurd rfl h
  | false => rfl
theorem bI_n (b : Bool) : narrow .boolean (.int (bI b)) = .int (bI b) := by cases b <;> rfl
theorem bI_eq {b : Bool} : bI b = 0 ↔ b = false := by cases b <;> decide
def rwSet (f : Rw) (j : Nat) (x : Int64) : Rw := fun k => if k = j then x else f k
theorem rwSet_s {f : Rw} {j : Nat} {x : Int64} : rwSet f j x j = x := by simp [rwSet]
theorem rwSet_n {f : Rw} {j k : Nat} {x : Int64} (h : k ≠ j) : rwSet f j x k = f k := by simp [rwSet, h]
def arHolds (x0 y0 x1 y1 x y : Int64) : Bool := decide (x0 ≤ x) && decide (x ≤ x1) && decide (y0 ≤ y) && decide (y ≤ y1)
def arMeets (x0 y0 x1 y1 x2 y2 x3 y3 : Int64) : Bool := decide (x0 ≤ x3) && decide (x2 ≤ x1) && decide (y0 ≤ y3) && decide (y2 ≤ y1)
theorem fh_upup (h : FH) (a : Nat) (e e' : fe) : fh_up (fh_up h a e) a e' = fh_up h a e' := by
  funext j
  by_cases hj : j = a <;> simp [fh_up, hj]
theorem fh_upcomm (h : FH) {a b : Nat} (e e' : fe) (hn : a ≠ b) : fh_up (fh_up h a e) b e' = fh_up (fh_up h b e') a e := by
  funext j
  by_cases hj : j = a
  · subst hj
    simp [fh_up, hn]
  · by_cases hk : j = b
    · subst hk
      simp [fh_up, Ne.symm hn]
    · simp [fh_up, hj, hk]
abbrev Ar : Type := Int32 × Int64 × Int64 × Int64 × Int64
abbrev oAr (a : Ar) : fe := oArea a.1 a.2.1 a.2.2.1 a.2.2.2.1 a.2.2.2.2
def lkHit (o : Option Ar) (sn : Int32) (x y : Int64) : Bool := match o with
  | none => false
  | some a => decide (a.1 ≠ sn) && arHolds a.2.1 a.2.2.1 a.2.2.2.1 a.2.2.2.2 x y
def lkBar (ar : Nat → Option Ar) (sn : Int32) (x y : Int64) : Bool := (List.range 10).any (fun i => lkHit (ar i) sn x y)
def lkMeet (o : Option Ar) (b : Ar) : Bool := match o with
  | none => false
  | some a => decide (a.1 ≠ b.1) && arMeets a.2.1 a.2.2.1 a.2.2.2.1 a.2.2.2.2 b.2.1 b.2.2.1 b.2.2.2.1 b.2.2.2.2
def lkClash (ar : Nat → Option Ar) (b : Ar) : Bool := (List.range 10).any (fun i => lkMeet (ar i) b)
def pAr (h : FH) (r : Option Nat) (o : Option Ar) : Prop := match r, o with
  | none, none => True
  | some a, some x => h a = some (oAr x)
  | _, _ => False
theorem pAr_none {h : FH} {o : Option Ar} (hp : pAr h none o) : o = none := by
  cases o with
  | none => rfl
  | some f => exact hp.elim
theorem pAr_some {h : FH} {a : Nat} {o : Option Ar} (hp : pAr h (some a) o) : ∃ f, o = some f ∧ h a = some (oAr f) := by
  cases o with
  | none => exact hp.elim
  | some f => exact ⟨f, rfl, hp⟩
theorem any10_t {p : Nat → Bool} {i : Nat} (hi : i < 10) (h : p i = true) : (List.range 10).any p = true := List.any_eq_true.mpr ⟨i, List.mem_range.mpr hi, h⟩
theorem any10_f {p : Nat → Bool} (h : ∀ i, i < 10 → p i = false) : ¬ (List.range 10).any p = true := fun q => by
  obtain ⟨i, hi, h1⟩ := List.any_eq_true.mp q
  rw [h i (List.mem_range.mp hi)] at h1
  cases h1
theorem fh_up_same {h : FH} {a : Nat} {e : fe} (ha : h a = some e) : fh_up h a e = h := by
  funext j
  by_cases hj : j = a
  · subst hj
    rw [fh_up_self, ha]
  · rw [fh_up_ne _ _ hj]
def lkOwn (o : Option Ar) (sn : Int32) : Bool := match o with
  | none => false
  | some a => decide (a.1 = sn)
def gapL (a b : Int64) : Int64 := if (if b < a then a else b) - (if b < a then b else a) < 0 then 1000000000 else if 1000000000 < (if b < a then a else b) - (if b < a then b else a) then 1000000000 else (if b < a then a else b) - (if b < a then b else a)
def rlBroken (a b : Ro) (d : Int64) : Bool := match a, b with
  | some f, some g => decide (gapL (f 0) (g 0) + gapL (f 1) (g 1) < d)
  | _, _ => false
def dr33 (x : Int64) : Int64 := (x.toUInt64 >>> ((nI 33).toInt64.toUInt64 &&& Int64.toUInt64 63)).toInt64
def drNext (x : Int64) : Int64 := x * 6364136223846793005 + 1442695040888963407
def drMod (x : Int64) (n : Int32) : Int32 := (dr33 x - dr33 x / n.toInt64 * n.toInt64).toInt32
theorem min40 {c : Nat} (h : c ≤ 40) : (if nI 40 < nI (c + 1) then nI 40 else nI (c + 1)) = nI (if c < 40 then c + 1 else 40) := by
  by_cases hc : c < 40
  · rw [if_neg (nI_nlt (by omega) (by decide)), if_pos hc]
  · rw [if_pos (nI_lt (by omega) (by omega)), if_neg hc]
theorem bI_nz {b : Bool} (h : ¬ bI b = 0) : b = true := by
  cases b with
  | true => rfl
  | false => exact absurd rfl h
def pSt (h : FH) (a b : Nat) (S : St) : Prop := h a = some (oSt b) ∧ ∃ f, h b = some (aQ 1 60 f) ∧ ∀ i, i < 60 → pRo h (f i) (S i)
def seClash (was mine theirs : Ro) (k : Nat) : Bool := match was with
  | none => false
  | some _ => if k = 6 then (match mine with
      | none => theirs.isSome && !alikeO theirs was
      | some _ => theirs.isNone) else differO mine was k && differO theirs was k && differO theirs mine k
theorem bI_n1 {b : Bool} (h : bI b = 0) : (nI 1 : Int32) = bI (!b) := by cases b <;> first | rfl | exact absurd h (by decide)
theorem bI_n0 {b : Bool} (h : ¬ bI b = 0) : (nI 0 : Int32) = bI (!b) := by cases b <;> first | rfl | exact absurd rfl h
theorem nar12 {x : Nat} (h : x < 2) : vp_nar .byte (nI (x + 1)).toInt8.toInt32 = nI (x + 1) := by
  rcases (show x = 0 ∨ x = 1 by omega) with rfl | rfl <;> decide
theorem catsum (l : List Value) : (l.map fun v => v.category).sum ≤ 2 * l.length := by
  induction l with
  | nil => exact Nat.le_refl _
  | cons v l ih =>
    have h2 : v.category ≤ 2 := by rcases lv_cat v with h | h <;> omega
    simp only [List.map_cons, List.sum_cons, List.length_cons]
    omega
def seTakes (was mine theirs : Ro) (k : Nat) (side : Int32) : Bool := differO mine was k && differO mine theirs k && (!seClash was mine theirs k || decide (side = nI 1))
def seMerged (was mine theirs : Ro) (side : Nat → Int32) : Ro :=
  if alikeO was mine = true then theirs
  else if seClash was mine theirs 6 = true then (if side 6 = nI 1 then mine else theirs)
  else match mine, theirs with
    | some m, some t => if alikeO theirs was = true then mine else some (fun k => if seTakes was mine theirs k (side k) = true then m k else t k)
    | _, _ => mine
theorem pRow_ext {sz : Nat} {h u : FH} {a : Nat} {f : Rw} (he : fh_ext sz h u) (hl : ∀ a e, h a = some e → a < sz) (hp : pRow h a f) : pRow u a f := by
  obtain ⟨b, g, h1, h2, h3⟩ := hp
  exact ⟨b, g, he.at h1 (hl _ _ h1), he.at h2 (hl _ _ h2), h3⟩
theorem pRo_ext {sz : Nat} {h u : FH} {r : Option Nat} {o : Ro} (he : fh_ext sz h u) (hl : ∀ a e, h a = some e → a < sz) (hp : pRo h r o) : pRo u r o := by
  cases r with
  | none => cases o with
    | none => trivial
    | some f => exact hp.elim
  | some a => cases o with
    | none => exact hp.elim
    | some f => exact pRow_ext he hl hp
theorem pSt_ext {sz : Nat} {h u : FH} {a b : Nat} {S : St} (he : fh_ext sz h u) (hl : ∀ a e, h a = some e → a < sz) (hp : pSt h a b S) : pSt u a b S := by
  obtain ⟨h1, f, h2, h3⟩ := hp
  exact ⟨he.at h1 (hl _ _ h1), f, he.at h2 (hl _ _ h2), fun i hi => pRo_ext he hl (h3 i hi)⟩
theorem pRow_eq {h : FH} {a : Nat} {f g : Rw} (hp : pRow h a f) (e : ∀ j, j < 6 → f j = g j) : pRow h a g := by
  obtain ⟨b, k, h1, h2, h3⟩ := hp
  exact ⟨b, k, h1, h2, fun j hj => (h3 j hj).trans (e j hj)⟩
theorem seM1 {w m t : Ro} {s : Nat → Int32} (e1 : alikeO w m = true) : seMerged w m t s = t := by unfold seMerged; rw [if_pos e1]
theorem seM2 {w m t : Ro} {s : Nat → Int32} (e1 : ¬ alikeO w m = true) (e2 : seClash w m t 6 = true) (c : s 6 = nI 1) : seMerged w m t s = m := by unfold seMerged; rw [if_neg e1, if_pos e2, if_pos c]
theorem seM3 {w m t : Ro} {s : Nat → Int32} (e1 : ¬ alikeO w m = true) (e2 : seClash w m t 6 = true) (c : ¬ s 6 = nI 1) : seMerged w m t s = t := by unfold seMerged; rw [if_neg e1, if_pos e2, if_neg c]
theorem seM4 {w m t : Ro} {s : Nat → Int32} (e1 : ¬ alikeO w m = true) (e2 : ¬ seClash w m t 6 = true) (e4 : m = none ∨ t = none) : seMerged w m t s = m := by
  unfold seMerged
  rw [if_neg e1, if_neg e2]
  rcases e4 with rfl | rfl
  · rfl
  · cases m <;> rfl
theorem seM6 {w : Ro} {m t : Rw} {s : Nat → Int32} (e1 : ¬ alikeO w (some m) = true) (e2 : ¬ seClash w (some m) (some t) 6 = true) (e6 : alikeO (some t) w = true) : seMerged w (some m) (some t) s = some m := by
  unfold seMerged
  rw [if_neg e1, if_neg e2]
  simp only [e6, if_true]
theorem seM7 {w : Ro} {m t : Rw} {s : Nat → Int32} (e1 : ¬ alikeO w (some m) = true) (e2 : ¬ seClash w (some m) (some t) 6 = true) (e6 : ¬ alikeO (some t) w = true) : seMerged w (some m) (some t) s = some (fun k => if seTakes w (some m) (some t) k (s k) = true then m k else t k) := by
  unfold seMerged
  rw [if_neg e1, if_neg e2]
  simp only [if_neg e6]
end
section
set_option maxRecDepth 100000 in
set_option maxHeartbeats 4000000 in
/-- Row() -/
theorem c_Row_init (l : Launch) (G : fG) (A : Nat → Prop) (h : FH) (sz : Nat) (hA : ∀ q, sz ≤ q → A q) (a : Nat) (hAa : A a) (ha : h a = some (.inr (5, [.null]))) : Met l yX5_init wsX5_init { frames := 1, cells := 1, slots := 6, locals := 12 } (va_Pc [.ref a] (fh_Pre G A h sz)) (fh_Q G (fun v u => ∃ q, sz ≤ q ∧ v = none ∧ u = fh_up (fh_up h q (aL 0 6 (fun _ => 0))) a (oRow q)) A) 1 6 A := by
  refine fh_Met [.ref a] (by decide) rfl (Nat.le_of_ble_eq_true rfl) ?_
  intro p e s m below meth c hx hb hr hlocks hml hown hnm hts hsz hP hE hS ls hl
  have ht : ∀ w ∈ wB, w.before _ s = true := fun w h9 => hts w (List.mem_cons_of_mem _ h9)
  have hl : lv_has ls 1 [(0, .ref a)] := hl
  have hA0 : ∀ q, s.heap.size ≤ q → A q := fun q hq => hA q (by rw [← hsz]; exact hq)
  refine lv_aload_n hx hb dX5_init_0 rfl (lv_at hl 0 rfl) ?_
  refine W.objInit hx hb hown (ht _ kw_263) (ht _ kw_26) (ht _ kw_27) rfl (by rw [hml]; exact hl.1) rfl dX5_init_1 (Nat.le_of_ble_eq_true rfl) (Nat.le_of_ble_eq_true rfl) ?_
  refine W.eq (g2 := F0 m 4 ls []) rfl ?_
  refine lv_aload_n hx hb dX5_init_4 rfl (lv_at hl 0 rfl) ?_
  refine lv_bipush (v := (nI 6)) hx hb dX5_init_5 (by decide) ?_
  have hge1 := hS.1
  have hlt1 := fun (a9 : Nat) (e9 : fe) (q9 : h a9 = some e9) => hP.lt q9
  refine fh_newa (atype := .long) (t0 := .long) (N' := 6) (a0 := (6, .inr (.inl (fun _ => 0)))) hx hb (ht _ kw_268) rfl hE.1 hP hS hA0 0 rfl (fun _ => rfl) (by decide) (by decide) (by decide) (Nat.le_of_ble_eq_true rfl) (Nat.le_of_ble_eq_true rfl) dX5_init_7 (fun q H eq hAq hP hz_q hS => ?_)
  obtain ⟨h_2, eh_2⟩ : ∃ z, z = fh_up h q (.inl (0, 6, .inr (.inl (fun _ => 0)))) := ⟨_, rfl⟩
  have g_2_0 := (congrFun eh_2 a).trans (fh_keepN ha (Nat.ne_of_lt (by rw [eq]; exact hlt1 _ _ ha)))
  have hP : fh_P G vwCl h_2 H := by rw [eh_2]; exact hP
  have f_2 : h_2 q = some (.inl (0, 6, .inr (.inl (fun _ => 0)))) := by rw [eh_2]; exact fh_up_self _ _ _
  have hsz_q : sz ≤ q := by rw [eq, ← hsz]; exact hge1
  refine fh_putF (C := RX5) (T := TX5) (N := 1) (t := (.array .long)) hx hb ht inX5 tyX5 tyX5_ok nmX5 hown hE.1 hP hS g_2_0 (hAa) rfl 0 (by decide) (ht _ kw_264) (fun _ h9 => h9) rfl hnm rfl (by decide +kernel) rfl rfl (Nat.le_of_ble_eq_true rfl) dX5_init_9 (fun H locs hP hz hS => ?_)
  obtain ⟨h_3, eh_3⟩ : ∃ z, z = fh_up h_2 a (.inr (5, [.ref q])) := ⟨_, rfl⟩
  have hP : fh_P G vwCl h_3 H := by rw [eh_3]; exact hP
  have f_3 : h_3 a = some (.inr (5, [.ref q])) := by rw [eh_3]; exact fh_up_self _ _ _
  have g_3_1 := (congrFun eh_3 q).trans (fh_keep g_2_0 f_2 rfl)
  exact fh_vret hx hb hr hlocks (⟨q, hsz_q, rfl, by rw [eh_3, eh_2]⟩) hP hS (Nat.le_of_ble_eq_true rfl) (Nat.le_of_ble_eq_true rfl) dX5_init_12

set_option maxRecDepth 100000 in
set_option maxHeartbeats 4000000 in
/-- Row.value(j) -/
theorem c_Row_value (l : Launch) (G : fG) (A : Nat → Prop) (h : FH) (sz : Nat) (a b j : Nat) (f : Nat → Int64) (ha : h a = some (oRow b)) (hb0 : h b = some (aL 0 6 f)) (hj : j < 6) : Met l yX5_value wsX5_value { frames := 0, cells := 0, slots := 0, locals := 0 } (va_Pc [.ref a, .int (nI j)] (fh_Pre G A h sz)) (fh_Q G (fun v u => v = some (.long (f j)) ∧ u = h) A) 0 0 A := by
  refine fh_Met [.ref a, .int (nI j)] (by decide) rfl (Nat.le_of_ble_eq_true rfl) ?_
  intro p e s m below meth c hx hb hr hlocks hml hown hnm hts hsz hP hE hS ls hl
  have ht : ∀ w ∈ wB, w.before _ s = true := fun w h9 => hts w (List.mem_cons_of_mem _ h9)
  have hl : lv_has ls 2 [(0, .ref a), (1, .int (nI j))] := hl
  refine lv_iload_n hx hb dX5_value_0 rfl (lv_at hl 1 rfl) ?_
  refine lv_if_lt (tgt := 10) hx hb dX5_value_1 (by decide) (fun c9 => absurd c9 (nI_pos (by omega))) (fun _ => ?_)
  refine lv_iload_n hx hb dX5_value_4 rfl (lv_at hl 1 rfl) ?_
  refine lv_bipush (v := (nI 6)) hx hb dX5_value_5 (by decide) ?_
  refine lv_icmp_lt (tgt := 14) hx hb dX5_value_7 (by decide) (fun _ => ?_) (fun c9 => absurd (nI_lt hj (by decide)) c9)
  refine lv_aload_n hx hb dX5_value_14 rfl (lv_at hl 0 rfl) ?_
  refine fh_get (C := RX5) (T := TX5) (N := 1) hx hb ht inX5 hown hE.1 hP ha rfl 0 (by decide) (ht _ kw_264) (fun _ h9 => h9) (v := .ref b) rfl dX5_value_15 ?_
  refine lv_iload_n hx hb dX5_value_18 rfl (lv_at hl 1 rfl) ?_
  refine fh_lald (k := j) hx hb hE.1 hP hb0 rfl (hj) (by decide) dX5_value_19 ?_
  exact fh_lret hx hb hr hlocks (⟨rfl, rfl⟩) hP hS (Nat.le_of_ble_eq_true rfl) (Nat.le_of_ble_eq_true rfl) dX5_value_20
end
section
set_option maxRecDepth 100000 in
set_option maxHeartbeats 4000000 in
/-- State.row(i) -/
theorem c_St_row (l : Launch) (G : fG) (A : Nat → Prop) (h : FH) (sz : Nat) (a b i : Nat) (f : Nat → Option Nat) (ha : h a = some (oSt b)) (hb0 : h b = some (aQ 1 60 f)) (hi : i < 60) : Met l yX8_row wsX8_row { frames := 0, cells := 0, slots := 0, locals := 0 } (va_Pc [.ref a, .int (nI i)] (fh_Pre G A h sz)) (fh_Q G (fun v u => v = some (va_rf (f i)) ∧ u = h) A) 0 0 A := by
  refine fh_Met [.ref a, .int (nI i)] (by decide) rfl (Nat.le_of_ble_eq_true rfl) ?_
  intro p e s m below meth c hx hb hr hlocks hml hown hnm hts hsz hP hE hS ls hl
  have ht : ∀ w ∈ wB, w.before _ s = true := fun w h9 => hts w (List.mem_cons_of_mem _ h9)
  have hl : lv_has ls 2 [(0, .ref a), (1, .int (nI i))] := hl
  refine lv_iload_n hx hb dX8_row_0 rfl (lv_at hl 1 rfl) ?_
  refine lv_if_lt (tgt := 10) hx hb dX8_row_1 (by decide) (fun c9 => absurd c9 (nI_pos (by omega))) (fun _ => ?_)
  refine lv_iload_n hx hb dX8_row_4 rfl (lv_at hl 1 rfl) ?_
  refine lv_bipush (v := (nI 60)) hx hb dX8_row_5 (by decide) ?_
  refine lv_icmp_lt (tgt := 14) hx hb dX8_row_7 (by decide) (fun _ => ?_) (fun c9 => absurd (nI_lt hi (by decide)) c9)
  refine lv_aload_n hx hb dX8_row_14 rfl (lv_at hl 0 rfl) ?_
  refine fh_get (C := RX8) (T := TX8) (N := 1) hx hb ht inX8 hown hE.1 hP ha rfl 0 (by decide) (ht _ kw_37) (fun _ h9 => h9) (v := .ref b) rfl dX8_row_15 ?_
  refine lv_iload_n hx hb dX8_row_18 rfl (lv_at hl 1 rfl) ?_
  refine fh_aald (k := i) hx hb hE.1 hP hb0 rfl (hi) (by decide) dX8_row_19 ?_
  exact fh_aret (o := f i) hx hb hr hlocks (⟨rfl, rfl⟩) hP hS (Nat.le_of_ble_eq_true rfl) (Nat.le_of_ble_eq_true rfl) dX8_row_20

set_option maxRecDepth 100000 in
set_option maxHeartbeats 4000000 in
/-- State.put(i, row) -/
theorem c_St_put (l : Launch) (G : fG) (A : Nat → Prop) (h : FH) (sz : Nat) (a b i : Nat) (f : Nat → Option Nat) (o : Option Nat) (ha : h a = some (oSt b)) (hb0 : h b = some (aQ 1 60 f)) (hAb : A b) (hi : i < 60) (ho : ∀ r, o = some r → ∃ vs, h r = some (.inr (5, vs))) : Met l yX8_put wsX8_put { frames := 0, cells := 0, slots := 0, locals := 0 } (va_Pc [.ref a, .int (nI i), va_rf o] (fh_Pre G A h sz)) (fh_Q G (fun v u => v = none ∧ u = fh_up h b (aQ 1 60 (va_up f i o))) A) 0 0 A := by
  refine fh_Met [.ref a, .int (nI i), va_rf o] (by decide) rfl (by cases o <;> exact (Nat.le_of_ble_eq_true rfl)) ?_
  intro p e s m below meth c hx hb hr hlocks hml hown hnm hts hsz hP hE hS ls hl
  have ht : ∀ w ∈ wB, w.before _ s = true := fun w h9 => hts w (List.mem_cons_of_mem _ h9)
  have e9 : lv_args 0 [.ref a, .int (nI i), va_rf o] = [(0, .ref a), (1, .int (nI i)), (2, va_rf o)] := by cases o <;> rfl
  rw [e9] at hl
  refine lv_iload_n hx hb dX8_put_0 rfl (lv_at hl 1 rfl) ?_
  refine lv_if_lt (tgt := 17) hx hb dX8_put_1 (by decide) (fun c9 => absurd c9 (nI_pos (by omega))) (fun _ => ?_)
  refine lv_iload_n hx hb dX8_put_4 rfl (lv_at hl 1 rfl) ?_
  refine lv_bipush (v := (nI 60)) hx hb dX8_put_5 (by decide) ?_
  refine lv_icmp_ge (tgt := 17) hx hb dX8_put_7 (by decide) (fun c9 => absurd c9 (nI_ge hi (by decide))) (fun _ => ?_)
  refine lv_aload_n hx hb dX8_put_10 rfl (lv_at hl 0 rfl) ?_
  refine fh_get (C := RX8) (T := TX8) (N := 1) hx hb ht inX8 hown hE.1 hP ha rfl 0 (by decide) (ht _ kw_37) (fun _ h9 => h9) (v := .ref b) rfl dX8_put_11 ?_
  refine lv_iload_n hx hb dX8_put_14 rfl (lv_at hl 1 rfl) ?_
  refine fh_aload_n hx hb dX8_put_15 rfl (lv_at hl 2 rfl) ?_
  refine fh_aastO (k := i) hx hb hE.1 hP hS hb0 (hAb) rfl (ho) rfl (hi) (by decide) dX8_put_16 (fun H locs hP hz hS => ?_)
  obtain ⟨h_1, eh_1⟩ : ∃ z, z = fh_up h b (.inl (1, 60, .inr (.inr (.inr (.inr (va_up f i o)))))) := ⟨_, rfl⟩
  have hP : fh_P G vwCl h_1 H := by rw [eh_1]; exact hP
  have f_1 : h_1 b = some (.inl (1, 60, .inr (.inr (.inr (.inr (va_up f i o)))))) := by rw [eh_1]; exact fh_up_self _ _ _
  have g_1_0 := (congrFun eh_1 a).trans (fh_keep hb0 ha rfl)
  exact fh_vret hx hb hr hlocks (⟨rfl, by rw [eh_1]⟩) hP hS (Nat.le_of_ble_eq_true rfl) (Nat.le_of_ble_eq_true rfl) dX8_put_17

set_option maxRecDepth 100000 in
set_option maxHeartbeats 4000000 in
/-- State() -/
theorem c_St_init (l : Launch) (G : fG) (A : Nat → Prop) (h : FH) (sz : Nat) (hA : ∀ q, sz ≤ q → A q) (a : Nat) (hAa : A a) (ha : h a = some (.inr (8, [.null]))) : Met l yX8_init wsX8_init { frames := 1, cells := 1, slots := 60, locals := 12 } (va_Pc [.ref a] (fh_Pre G A h sz)) (fh_Q G (fun v u => ∃ q, sz ≤ q ∧ v = none ∧ u = fh_up (fh_up h q (aQ 1 60 (fun _ => none))) a (oSt q)) A) 1 60 A := by
  refine fh_Met [.ref a] (by decide) rfl (Nat.le_of_ble_eq_true rfl) ?_
  intro p e s m below meth c hx hb hr hlocks hml hown hnm hts hsz hP hE hS ls hl
  have ht : ∀ w ∈ wB, w.before _ s = true := fun w h9 => hts w (List.mem_cons_of_mem _ h9)
  have hl : lv_has ls 1 [(0, .ref a)] := hl
  have hA0 : ∀ q, s.heap.size ≤ q → A q := fun q hq => hA q (by rw [← hsz]; exact hq)
  refine lv_aload_n hx hb dX8_init_0 rfl (lv_at hl 0 rfl) ?_
  refine W.objInit hx hb hown (ht _ kw_34) (ht _ kw_26) (ht _ kw_27) rfl (by rw [hml]; exact hl.1) rfl dX8_init_1 (Nat.le_of_ble_eq_true rfl) (Nat.le_of_ble_eq_true rfl) ?_
  refine W.eq (g2 := F0 m 4 ls []) rfl ?_
  refine lv_aload_n hx hb dX8_init_4 rfl (lv_at hl 0 rfl) ?_
  refine lv_bipush (v := (nI 60)) hx hb dX8_init_5 (by decide) ?_
  have hge1 := hS.1
  have hlt1 := fun (a9 : Nat) (e9 : fe) (q9 : h a9 = some e9) => hP.lt q9
  refine fh_newq (N' := 60) hx hb hown (ht _ kw_35) (hE.2.2.2.2.1 "ObjectMerge$Row" (by decide)) hE.1 hP hS hA0 1 rfl (by decide) (by decide) (by decide) (Nat.le_of_ble_eq_true rfl) (Nat.le_of_ble_eq_true rfl) dX8_init_7 (fun q H eq hAq hP hz_q hS => ?_)
  obtain ⟨h_2, eh_2⟩ : ∃ z, z = fh_up h q (.inl (1, 60, .inr (.inr (.inr (.inr (fun _ => none)))))) := ⟨_, rfl⟩
  have g_2_0 := (congrFun eh_2 a).trans (fh_keepN ha (Nat.ne_of_lt (by rw [eq]; exact hlt1 _ _ ha)))
  have hP : fh_P G vwCl h_2 H := by rw [eh_2]; exact hP
  have f_2 : h_2 q = some (.inl (1, 60, .inr (.inr (.inr (.inr (fun _ => none)))))) := by rw [eh_2]; exact fh_up_self _ _ _
  have hsz_q : sz ≤ q := by rw [eq, ← hsz]; exact hge1
  refine fh_putF (C := RX8) (T := TX8) (N := 1) (t := (.array (.object "ObjectMerge$Row"))) hx hb ht inX8 tyX8 tyX8_ok nmX8 hown hE.1 hP hS g_2_0 (hAa) rfl 0 (by decide) (ht _ kw_37) (fun _ h9 => h9) rfl hnm rfl (by decide +kernel) rfl rfl (Nat.le_of_ble_eq_true rfl) dX8_init_10 (fun H locs hP hz hS => ?_)
  obtain ⟨h_3, eh_3⟩ : ∃ z, z = fh_up h_2 a (.inr (8, [.ref q])) := ⟨_, rfl⟩
  have hP : fh_P G vwCl h_3 H := by rw [eh_3]; exact hP
  have f_3 : h_3 a = some (.inr (8, [.ref q])) := by rw [eh_3]; exact fh_up_self _ _ _
  have g_3_1 := (congrFun eh_3 q).trans (fh_keep g_2_0 f_2 rfl)
  exact fh_vret hx hb hr hlocks (⟨q, hsz_q, rfl, by rw [eh_3, eh_2]⟩) hP hS (Nat.le_of_ble_eq_true rfl) (Nat.le_of_ble_eq_true rfl) dX8_init_13
end
section
set_option maxRecDepth 100000 in
set_option maxHeartbeats 4000000 in
/-- Row.alike -/
theorem c_Row_alike (l : Launch) (G : fG) (A : Nat → Prop) (h : FH) (sz : Nat) (ra rb : Option Nat) (oa ob : Ro) (ha : pRo h ra oa) (hb0 : pRo h rb ob) : Met l yX5_alike wsX5_alike { frames := 0, cells := 0, slots := 0, locals := 0 } (va_Pc [va_rf ra, va_rf rb] (fh_Pre G A h sz)) (fh_Q G (fun v u => v = some (.int (bI (alikeO oa ob))) ∧ u = h) A) 0 0 A := by
  refine fh_Met [va_rf ra, va_rf rb] (by decide) rfl (by cases ra <;> cases rb <;> exact (Nat.le_of_ble_eq_true rfl)) ?_
  intro p e s m below meth c hx hb hr hlocks hml hown hnm hts hsz hP hE hS ls hl
  have ht : ∀ w ∈ wB, w.before _ s = true := fun w h9 => hts w (List.mem_cons_of_mem _ h9)
  have e9 : lv_args 0 [va_rf ra, va_rf rb] = [(0, va_rf ra), (1, va_rf rb)] := by cases ra <;> cases rb <;> rfl
  rw [e9] at hl
  cases ra with
  | none =>
    have hl : lv_has ls 3 [(0, .null), (1, va_rf rb)] := hl
    obtain rfl := pRo_none ha
    cases rb with
    | none =>
      have hl : lv_has ls 3 [(0, .null), (1, .null)] := hl
      obtain rfl := pRo_none hb0
      refine lv_aload_nN hx hb dX5_alike_0 rfl (lv_at hl 0 rfl) ?_
      refine lv_aload_nN hx hb dX5_alike_1 rfl (lv_at hl 1 rfl) ?_
      refine lv_acmp_ne (rx := none) (ry := none) (tgt := 7) hx hb dX5_alike_2 (by decide) (fun c9 => absurd (rfl) c9) (fun _ => ?_)
      refine lv_iconst (v := (nI 1)) hx hb dX5_alike_5 (by decide) ?_
      exact fh_zret hx hb hr hlocks rfl (⟨rfl, rfl⟩) hP hS (Nat.le_of_ble_eq_true rfl) (Nat.le_of_ble_eq_true rfl) dX5_alike_6
    | some b =>
      have hl : lv_has ls 3 [(0, .null), (1, .ref b)] := hl
      obtain ⟨fb, rfl, hb1⟩ := pRo_some hb0
      refine lv_aload_nN hx hb dX5_alike_0 rfl (lv_at hl 0 rfl) ?_
      refine lv_aload_n hx hb dX5_alike_1 rfl (lv_at hl 1 rfl) ?_
      refine lv_acmp_ne (rx := none) (ry := some b) (tgt := 7) hx hb dX5_alike_2 (by decide) (fun _ => ?_) (fun c9 => absurd c9 (fun z => nomatch z))
      refine lv_aload_nN hx hb dX5_alike_7 rfl (lv_at hl 0 rfl) ?_
      refine lv_ifnullN (tgt := 15) hx hb dX5_alike_8 (by decide) ?_
      refine lv_iconst (v := (nI 0)) hx hb dX5_alike_15 (by decide) ?_
      exact fh_zret hx hb hr hlocks rfl (⟨rfl, rfl⟩) hP hS (Nat.le_of_ble_eq_true rfl) (Nat.le_of_ble_eq_true rfl) dX5_alike_16
  | some a =>
    have hl : lv_has ls 3 [(0, .ref a), (1, va_rf rb)] := hl
    obtain ⟨fa, rfl, ba, ga, ha1, ha2, ha3⟩ := pRo_some ha
    cases rb with
    | none =>
      have hl : lv_has ls 3 [(0, .ref a), (1, .null)] := hl
      obtain rfl := pRo_none hb0
      refine lv_aload_n hx hb dX5_alike_0 rfl (lv_at hl 0 rfl) ?_
      refine lv_aload_nN hx hb dX5_alike_1 rfl (lv_at hl 1 rfl) ?_
      refine lv_acmp_ne (rx := some a) (ry := none) (tgt := 7) hx hb dX5_alike_2 (by decide) (fun _ => ?_) (fun c9 => absurd c9 (fun z => nomatch z))
      refine lv_aload_n hx hb dX5_alike_7 rfl (lv_at hl 0 rfl) ?_
      refine lv_ifnull hx hb dX5_alike_8 ?_
      refine lv_aload_nN hx hb dX5_alike_11 rfl (lv_at hl 1 rfl) ?_
      refine lv_ifnonnullN hx hb dX5_alike_12 ?_
      refine lv_iconst (v := (nI 0)) hx hb dX5_alike_15 (by decide) ?_
      exact fh_zret hx hb hr hlocks rfl (⟨rfl, rfl⟩) hP hS (Nat.le_of_ble_eq_true rfl) (Nat.le_of_ble_eq_true rfl) dX5_alike_16
    | some b =>
      have hl : lv_has ls 3 [(0, .ref a), (1, .ref b)] := hl
      obtain ⟨fb, rfl, bb, gb, hb1, hb2, hb3⟩ := pRo_some hb0
      refine lv_aload_n hx hb dX5_alike_0 rfl (lv_at hl 0 rfl) ?_
      refine lv_aload_n hx hb dX5_alike_1 rfl (lv_at hl 1 rfl) ?_
      refine lv_acmp_ne (rx := some a) (ry := some b) (tgt := 7) hx hb dX5_alike_2 (by decide) (fun c1 => ?_) (fun c1 => ?_)
      · refine lv_aload_n hx hb dX5_alike_7 rfl (lv_at hl 0 rfl) ?_
        refine lv_ifnull hx hb dX5_alike_8 ?_
        refine lv_aload_n hx hb dX5_alike_11 rfl (lv_at hl 1 rfl) ?_
        refine lv_ifnonnull (tgt := 17) hx hb dX5_alike_12 (by decide) ?_
        refine lv_iconst (v := (nI 0)) hx hb dX5_alike_17 (by decide) ?_
        refine lv_istore_n (lv' := [(2, .int (nI 0)), (0, .ref a), (1, .ref b)]) hx hb dX5_alike_18 rfl hl (by decide) rfl (fun ls hl => ?_)
        have loop : ∀ (n i : Nat), i + n = 6 → ∀ (_ : ∀ j, j < i → ga j = gb j), ∀ (H : Heap) (locs : List Loc) (ls : Array Slot), fh_P G vwCl h H → va_S A s.heap H locs → lv_has ls 3 [(2, .int (nI i)), (0, .ref a), (1, .ref b)] → W p l e (headSpec wsX5_alike { frames := 0, cells := 0, slots := 0, locals := 0 }).room s m [.ref a, .ref b].toArray below meth c H locs 0 0 (MQ below (fh_Q G (fun v u => v = some (.int (bI (alikeO (some fa) (some fb)))) ∧ u = h) A) [.ref a, .ref b].toArray s 0 0 A) (F0 m 19 ls []) := by
          intro n
          induction n with
          | zero =>
            intro i hin hij H locs ls hP hS hl
            refine lv_iload_n hx hb dX5_alike_19 rfl (lv_at hl 0 rfl) ?_
            refine lv_bipush (v := (nI 6)) hx hb dX5_alike_20 (by decide) ?_
            refine lv_icmp_ge (tgt := 49) hx hb dX5_alike_22 (by decide) (fun _ => ?_) (fun c9 => absurd (nI_le (by omega) (by omega)) c9)
            refine lv_iconst (v := (nI 1)) hx hb dX5_alike_49 (by decide) ?_
            exact fh_zret hx hb hr hlocks rfl (⟨congrArg (fun z => some (Value.int z)) (bI_1 (rwEq_iff.mpr (fun j hj => (ha3 j hj).symm.trans ((hij j (by omega)).trans (hb3 j hj))))), rfl⟩) hP hS (Nat.le_of_ble_eq_true rfl) (Nat.le_of_ble_eq_true rfl) dX5_alike_50
          | succ n ih =>
            intro i hin hij H locs ls hP hS hl
            refine lv_iload_n hx hb dX5_alike_19 rfl (lv_at hl 0 rfl) ?_
            refine lv_bipush (v := (nI 6)) hx hb dX5_alike_20 (by decide) ?_
            refine lv_icmp_ge (tgt := 49) hx hb dX5_alike_22 (by decide) (fun c9 => absurd c9 (nI_ge (by omega) (by decide))) (fun _ => ?_)
            refine lv_aload_n hx hb dX5_alike_25 rfl (lv_at hl 1 rfl) ?_
            refine fh_get (C := RX5) (T := TX5) (N := 1) hx hb ht inX5 hown hE.1 hP ha1 rfl 0 (by decide) (ht _ kw_264) (fun _ h9 => h9) (v := .ref ba) rfl dX5_alike_26 ?_
            refine lv_iload_n hx hb dX5_alike_29 rfl (lv_at hl 0 rfl) ?_
            refine fh_lald (k := i) hx hb hE.1 hP ha2 rfl (by omega) (by decide) dX5_alike_30 ?_
            refine lv_aload_n hx hb dX5_alike_31 rfl (lv_at hl 2 rfl) ?_
            refine fh_get (C := RX5) (T := TX5) (N := 1) hx hb ht inX5 hown hE.1 hP hb1 rfl 0 (by decide) (ht _ kw_264) (fun _ h9 => h9) (v := .ref bb) rfl dX5_alike_32 ?_
            refine lv_iload_n hx hb dX5_alike_35 rfl (lv_at hl 0 rfl) ?_
            refine fh_lald (k := i) hx hb hE.1 hP hb2 rfl (by omega) (by decide) dX5_alike_36 ?_
            refine W.lcmp hx hb dX5_alike_37 ?_
            refine lv_if_eq (tgt := 43) hx hb dX5_alike_38 (by decide) (fun c2 => ?_) (fun c2 => ?_)
            · refine lv_iinc (v := nI (i + 1)) (lv' := [(2, .int (nI (i + 1))), (0, .ref a), (1, .ref b)]) hx hb dX5_alike_43 hl (k := 0) rfl (nI_1 _) (by decide) rfl (fun ls hl => ?_)
              refine lv_goto (tgt := 19) hx hb dX5_alike_46 (by decide) ?_
              exact ih (i + 1) (by omega) (lt_s hij ((lg_cmp_eq _ _).mp c2)) H locs ls hP hS hl
            · refine lv_iconst (v := (nI 0)) hx hb dX5_alike_41 (by decide) ?_
              exact fh_zret hx hb hr hlocks rfl (⟨congrArg (fun z => some (Value.int z)) (bI_0 (fun q => c2 ((lg_cmp_eq _ _).mpr ((ha3 i (by omega)).trans ((rwEq_iff.mp q i (by omega)).trans (hb3 i (by omega)).symm))))), rfl⟩) hP hS (Nat.le_of_ble_eq_true rfl) (Nat.le_of_ble_eq_true rfl) dX5_alike_42
        exact loop 6 0 (by omega) (fun j hj => absurd hj (Nat.not_lt_zero j)) _ _ _ hP hS hl
      · cases c1
        rw [hb1] at ha1; cases ha1; rw [hb2] at ha2; cases ha2
        refine lv_iconst (v := (nI 1)) hx hb dX5_alike_5 (by decide) ?_
        exact fh_zret hx hb hr hlocks rfl (⟨congrArg (fun z => some (Value.int z)) (bI_1 (rwEq_iff.mpr (fun j hj => (ha3 j hj).symm.trans (hb3 j hj)))), rfl⟩) hP hS (Nat.le_of_ble_eq_true rfl) (Nat.le_of_ble_eq_true rfl) dX5_alike_6

set_option maxRecDepth 100000 in
set_option maxHeartbeats 4000000 in
/-- Row.differ -/
theorem c_Row_differ (l : Launch) (G : fG) (A : Nat → Prop) (h : FH) (sz : Nat) (ra rb : Option Nat) (oa ob : Ro) (k : Nat) (hk : k < 2 ^ 31) (ha : pRo h ra oa) (hb0 : pRo h rb ob) : Met l yX5_differ wsX5_differ { frames := 0, cells := 0, slots := 0, locals := 0 } (va_Pc [va_rf ra, va_rf rb, .int (nI k)] (fh_Pre G A h sz)) (fh_Q G (fun v u => v = some (.int (bI (differO oa ob k))) ∧ u = h) A) 0 0 A := by
  refine fh_Met [va_rf ra, va_rf rb, .int (nI k)] (by decide) rfl (by cases ra <;> cases rb <;> exact (Nat.le_of_ble_eq_true rfl)) ?_
  intro p e s m below meth c hx hb hr hlocks hml hown hnm hts hsz hP hE hS ls hl
  have ht : ∀ w ∈ wB, w.before _ s = true := fun w h9 => hts w (List.mem_cons_of_mem _ h9)
  have e9 : lv_args 0 [va_rf ra, va_rf rb, .int (nI k)] = [(0, va_rf ra), (1, va_rf rb), (2, .int (nI k))] := by cases ra <;> cases rb <;> rfl
  rw [e9] at hl
  cases ra with
  | none =>
    have hl : lv_has ls 3 [(0, .null), (1, va_rf rb), (2, .int (nI k))] := hl
    obtain rfl := pRo_none ha
    cases rb with
    | none =>
      have hl : lv_has ls 3 [(0, .null), (1, .null), (2, .int (nI k))] := hl
      obtain rfl := pRo_none hb0
      refine lv_aload_nN hx hb dX5_differ_0 rfl (lv_at hl 0 rfl) ?_
      refine lv_ifnullN (tgt := 8) hx hb dX5_differ_1 (by decide) ?_
      refine lv_iload_n hx hb dX5_differ_8 rfl (lv_at hl 2 rfl) ?_
      refine lv_bipush (v := (nI 6)) hx hb dX5_differ_9 (by decide) ?_
      refine lv_icmp_ne (tgt := 23) hx hb dX5_differ_11 (by decide) (fun c1 => ?_) (fun c1 => ?_)
      · refine lv_iconst (v := (nI 0)) hx hb dX5_differ_23 (by decide) ?_
        exact fh_zret hx hb hr hlocks rfl (⟨rfl, rfl⟩) hP hS (Nat.le_of_ble_eq_true rfl) (Nat.le_of_ble_eq_true rfl) dX5_differ_24
      · refine lv_aload_nN hx hb dX5_differ_14 rfl (lv_at hl 0 rfl) ?_
        refine lv_aload_nN hx hb dX5_differ_15 rfl (lv_at hl 1 rfl) ?_
        refine lv_acmp_eq (rx := none) (ry := none) (tgt := 23) hx hb dX5_differ_16 (by decide) (fun _ => ?_) (fun c9 => absurd (rfl) c9)
        refine lv_iconst (v := (nI 0)) hx hb dX5_differ_23 (by decide) ?_
        exact fh_zret hx hb hr hlocks rfl (⟨rfl, rfl⟩) hP hS (Nat.le_of_ble_eq_true rfl) (Nat.le_of_ble_eq_true rfl) dX5_differ_24
    | some b =>
      have hl : lv_has ls 3 [(0, .null), (1, .ref b), (2, .int (nI k))] := hl
      obtain ⟨fb, rfl, hb1⟩ := pRo_some hb0
      refine lv_aload_nN hx hb dX5_differ_0 rfl (lv_at hl 0 rfl) ?_
      refine lv_ifnullN (tgt := 8) hx hb dX5_differ_1 (by decide) ?_
      refine lv_iload_n hx hb dX5_differ_8 rfl (lv_at hl 2 rfl) ?_
      refine lv_bipush (v := (nI 6)) hx hb dX5_differ_9 (by decide) ?_
      refine lv_icmp_ne (tgt := 23) hx hb dX5_differ_11 (by decide) (fun c1 => ?_) (fun c1 => ?_)
      · refine lv_iconst (v := (nI 0)) hx hb dX5_differ_23 (by decide) ?_
        exact fh_zret hx hb hr hlocks rfl (⟨congrArg (fun z => some (Value.int z)) (bI_0 (fun q => c1 (by rw [of_decide_eq_true q]))), rfl⟩) hP hS (Nat.le_of_ble_eq_true rfl) (Nat.le_of_ble_eq_true rfl) dX5_differ_24
      · refine lv_aload_nN hx hb dX5_differ_14 rfl (lv_at hl 0 rfl) ?_
        refine lv_aload_n hx hb dX5_differ_15 rfl (lv_at hl 1 rfl) ?_
        refine lv_acmp_eq (rx := none) (ry := some b) (tgt := 23) hx hb dX5_differ_16 (by decide) (fun c9 => absurd c9 (fun z => nomatch z)) (fun _ => ?_)
        refine lv_iconst (v := (nI 1)) hx hb dX5_differ_19 (by decide) ?_
        refine lv_goto (tgt := 24) hx hb dX5_differ_20 (by decide) ?_
        exact fh_zret hx hb hr hlocks rfl (⟨congrArg (fun z => some (Value.int z)) (bI_1 (decide_eq_true ((nI_eq hk (by decide)).mp c1))), rfl⟩) hP hS (Nat.le_of_ble_eq_true rfl) (Nat.le_of_ble_eq_true rfl) dX5_differ_24
  | some a =>
    have hl : lv_has ls 3 [(0, .ref a), (1, va_rf rb), (2, .int (nI k))] := hl
    obtain ⟨fa, rfl, ba, ga, ha1, ha2, ha3⟩ := pRo_some ha
    cases rb with
    | none =>
      have hl : lv_has ls 3 [(0, .ref a), (1, .null), (2, .int (nI k))] := hl
      obtain rfl := pRo_none hb0
      refine lv_aload_n hx hb dX5_differ_0 rfl (lv_at hl 0 rfl) ?_
      refine lv_ifnull hx hb dX5_differ_1 ?_
      refine lv_aload_nN hx hb dX5_differ_4 rfl (lv_at hl 1 rfl) ?_
      refine lv_ifnonnullN hx hb dX5_differ_5 ?_
      refine lv_iload_n hx hb dX5_differ_8 rfl (lv_at hl 2 rfl) ?_
      refine lv_bipush (v := (nI 6)) hx hb dX5_differ_9 (by decide) ?_
      refine lv_icmp_ne (tgt := 23) hx hb dX5_differ_11 (by decide) (fun c1 => ?_) (fun c1 => ?_)
      · refine lv_iconst (v := (nI 0)) hx hb dX5_differ_23 (by decide) ?_
        exact fh_zret hx hb hr hlocks rfl (⟨congrArg (fun z => some (Value.int z)) (bI_0 (fun q => c1 (by rw [of_decide_eq_true q]))), rfl⟩) hP hS (Nat.le_of_ble_eq_true rfl) (Nat.le_of_ble_eq_true rfl) dX5_differ_24
      · refine lv_aload_n hx hb dX5_differ_14 rfl (lv_at hl 0 rfl) ?_
        refine lv_aload_nN hx hb dX5_differ_15 rfl (lv_at hl 1 rfl) ?_
        refine lv_acmp_eq (rx := some a) (ry := none) (tgt := 23) hx hb dX5_differ_16 (by decide) (fun c9 => absurd c9 (fun z => nomatch z)) (fun _ => ?_)
        refine lv_iconst (v := (nI 1)) hx hb dX5_differ_19 (by decide) ?_
        refine lv_goto (tgt := 24) hx hb dX5_differ_20 (by decide) ?_
        exact fh_zret hx hb hr hlocks rfl (⟨congrArg (fun z => some (Value.int z)) (bI_1 (decide_eq_true ((nI_eq hk (by decide)).mp c1))), rfl⟩) hP hS (Nat.le_of_ble_eq_true rfl) (Nat.le_of_ble_eq_true rfl) dX5_differ_24
    | some b =>
      have hl : lv_has ls 3 [(0, .ref a), (1, .ref b), (2, .int (nI k))] := hl
      obtain ⟨fb, rfl, bb, gb, hb1, hb2, hb3⟩ := pRo_some hb0
      refine lv_aload_n hx hb dX5_differ_0 rfl (lv_at hl 0 rfl) ?_
      refine lv_ifnull hx hb dX5_differ_1 ?_
      refine lv_aload_n hx hb dX5_differ_4 rfl (lv_at hl 1 rfl) ?_
      refine lv_ifnonnull (tgt := 25) hx hb dX5_differ_5 (by decide) ?_
      refine lv_iload_n hx hb dX5_differ_25 rfl (lv_at hl 2 rfl) ?_
      refine lv_if_lt (tgt := 55) hx hb dX5_differ_26 (by decide) (fun c9 => absurd c9 (nI_pos hk)) (fun _ => ?_)
      refine lv_iload_n hx hb dX5_differ_29 rfl (lv_at hl 2 rfl) ?_
      refine lv_bipush (v := (nI 6)) hx hb dX5_differ_30 (by decide) ?_
      refine lv_icmp_ge (tgt := 55) hx hb dX5_differ_32 (by decide) (fun c1 => ?_) (fun c1 => ?_)
      · refine lv_iconst (v := (nI 0)) hx hb dX5_differ_55 (by decide) ?_
        exact fh_zret hx hb hr hlocks rfl (⟨congrArg (fun z => some (Value.int z)) (bI_0 (fun q => by have q2 := (Bool.and_eq_true _ _ ▸ q : _ ∧ _).1; exact absurd c1 (nI_ge (of_decide_eq_true q2) (by decide)))), rfl⟩) hP hS (Nat.le_of_ble_eq_true rfl) (Nat.le_of_ble_eq_true rfl) dX5_differ_56
      · have hk6 : k < 6 := by
          rcases Nat.lt_or_ge k 6 with z | z
          · exact z
          · exact absurd (nI_le z hk) c1
        refine lv_aload_n hx hb dX5_differ_35 rfl (lv_at hl 0 rfl) ?_
        refine fh_get (C := RX5) (T := TX5) (N := 1) hx hb ht inX5 hown hE.1 hP ha1 rfl 0 (by decide) (ht _ kw_264) (fun _ h9 => h9) (v := .ref ba) rfl dX5_differ_36 ?_
        refine lv_iload_n hx hb dX5_differ_39 rfl (lv_at hl 2 rfl) ?_
        refine fh_lald (k := k) hx hb hE.1 hP ha2 rfl (hk6) (by decide) dX5_differ_40 ?_
        refine lv_aload_n hx hb dX5_differ_41 rfl (lv_at hl 1 rfl) ?_
        refine fh_get (C := RX5) (T := TX5) (N := 1) hx hb ht inX5 hown hE.1 hP hb1 rfl 0 (by decide) (ht _ kw_264) (fun _ h9 => h9) (v := .ref bb) rfl dX5_differ_42 ?_
        refine lv_iload_n hx hb dX5_differ_45 rfl (lv_at hl 2 rfl) ?_
        refine fh_lald (k := k) hx hb hE.1 hP hb2 rfl (hk6) (by decide) dX5_differ_46 ?_
        refine W.lcmp hx hb dX5_differ_47 ?_
        refine lv_if_eq (tgt := 55) hx hb dX5_differ_48 (by decide) (fun c2 => ?_) (fun c2 => ?_)
        · refine lv_iconst (v := (nI 0)) hx hb dX5_differ_55 (by decide) ?_
          exact fh_zret hx hb hr hlocks rfl (⟨congrArg (fun z => some (Value.int z)) (bI_0 (fun q => by have q2 := (Bool.and_eq_true _ _ ▸ q : _ ∧ _).2; exact absurd ((ha3 k hk6).symm.trans (((lg_cmp_eq _ _).mp c2).trans (hb3 k hk6))) (of_decide_eq_true q2))), rfl⟩) hP hS (Nat.le_of_ble_eq_true rfl) (Nat.le_of_ble_eq_true rfl) dX5_differ_56
        · refine lv_iconst (v := (nI 1)) hx hb dX5_differ_51 (by decide) ?_
          refine lv_goto (tgt := 56) hx hb dX5_differ_52 (by decide) ?_
          exact fh_zret hx hb hr hlocks rfl (⟨congrArg (fun z => some (Value.int z)) (bI_1 (by show (decide (k < 6) && decide (fa k ≠ fb k)) = true; rw [decide_eq_true hk6, decide_eq_true (show fa k ≠ fb k from fun q => c2 ((lg_cmp_eq _ _).mpr ((ha3 k hk6).trans (q.trans (hb3 k hk6).symm))))]; rfl)), rfl⟩) hP hS (Nat.le_of_ble_eq_true rfl) (Nat.le_of_ble_eq_true rfl) dX5_differ_56
end
section
set_option maxRecDepth 100000 in
set_option maxHeartbeats 4000000 in
/-- Row.with(j, x): a new row -/
theorem c_Row_with (l : Launch) (G : fG) (A : Nat → Prop) (h : FH) (sz : Nat) (hA : ∀ q, sz ≤ q → A q) (a j : Nat) (x : Int64) (f : Rw) (ha : pRow h a f) (hj : j < 6) : Met l yX5_with wsX5_with { frames := 2, cells := 2, slots := 7, locals := 32 } (va_Pc [.ref a, .int (nI j), .long x] (fh_Pre G A h sz)) (fh_Q G (fun v u => ∃ r, sz ≤ r ∧ v = some (.ref r) ∧ fh_ext sz h u ∧ pRow u r (rwSet f j x)) A) 2 7 A := by
  refine fh_Met [.ref a, .int (nI j), .long x] (by decide) rfl (Nat.le_of_ble_eq_true rfl) ?_
  intro p e s m below meth c hx hb hr hlocks hml hown hnm hts hsz hP hE hS ls hl
  have ht : ∀ w ∈ wB, w.before _ s = true := fun w h9 => hts w (List.mem_cons_of_mem _ h9)
  have hl : lv_has ls 6 [(0, .ref a), (1, .int (nI j)), (2, .long x)] := hl
  have hA0 : ∀ q, s.heap.size ≤ q → A q := fun q hq => hA q (by rw [← hsz]; exact hq)
  obtain ⟨b, g0, ha1, ha2, ha3⟩ := ha
  have hge1 := hS.1
  have hlt1 := fun (a9 : Nat) (e9 : fe) (q9 : h a9 = some e9) => hP.lt q9
  refine fh_new (ci := 5) (C := RX5) (T := TX5) (N := 1) (fs := [.null]) hx hb ht inX5 tyX5 tyX5_ok hown (ht _ kw_363) (ht _ kw_259) (ht _ kw_10) hE.1 hP hS hA0 rfl (fun j hj => by rcases (show j = 0 by omega) with rfl <;> rfl) (Nat.le_of_ble_eq_true rfl) (Nat.le_of_ble_eq_true rfl) dX5_with_0 (fun r H er hAr hP hz_r hS => ?_)
  obtain ⟨h_2, eh_2⟩ : ∃ z, z = fh_up h r (.inr (5, [.null])) := ⟨_, rfl⟩
  have g_2_0 := (congrFun eh_2 a).trans (fh_keepN ha1 (Nat.ne_of_lt (by rw [er]; exact hlt1 _ _ ha1)))
  have g_2_1 := (congrFun eh_2 b).trans (fh_keepN ha2 (Nat.ne_of_lt (by rw [er]; exact hlt1 _ _ ha2)))
  have hP : fh_P G vwCl h_2 H := by rw [eh_2]; exact hP
  have f_2 : h_2 r = some (.inr (5, [.null])) := by rw [eh_2]; exact fh_up_self _ _ _
  have hsz_r : sz ≤ r := by rw [er, ← hsz]; exact hge1
  have la := hlt1 _ _ ha1
  have lb := hlt1 _ _ ha2
  refine lv_dup hx hb dX5_with_3 rfl ?_
  refine fh_cI (As := []) (rest := [.ref r]) (b := r) ⟨hx, hb, hml, hown, ht⟩ (c_Row_init l G A _ _ (fun q hq => hA0 q (Nat.le_trans hS.1 hq)) r hAr f_2) (cwI 0 ht (gB kw_262) rfl rfl rfl (ht _ kw_10) (ht _ kw_364) (ht _ kw_261) rfl yd_X5_init.2 ⟨(Nat.le_of_ble_eq_true rfl), (Nat.le_of_ble_eq_true rfl)⟩) hP hE hS rfl hl.1 rfl (Nat.le_of_ble_eq_true rfl) dX5_with_4 ⟨(Nat.le_of_ble_eq_true rfl), (Nat.le_of_ble_eq_true rfl)⟩ (fun v u H locs hp hP hz hS => ?_)
  obtain ⟨q, hq, rfl, eu⟩ := hp
  refine W.eq (g2 := F0 m 7 ls [.ref r]) rfl ?_
  have nqr : q ≠ r := by omega
  have nar : a ≠ r := by omega
  have nbr : b ≠ r := by omega
  have naq : a ≠ q := by omega
  have nbq : b ≠ q := by omega
  have fr : u r = some (oRow q) := by rw [eu]; exact fh_up_self _ _ _
  have fq : u q = some (aL 0 6 (fun _ => 0)) := by rw [eu, fh_up_ne _ _ nqr]; exact fh_up_self _ _ _
  have fa : u a = some (oRow b) := by rw [eu, fh_up_ne _ _ nar, fh_up_ne _ _ naq]; exact g_2_0
  have fb : u b = some (aL 0 6 g0) := by rw [eu, fh_up_ne _ _ nbr, fh_up_ne _ _ nbq]; exact g_2_1
  have hsq : sz ≤ q := by omega
  have he : fh_ext sz h u := by rw [eu, eh_2]; exact ((fh_ext.rf.up hsz_r).up hsq).up hsz_r
  refine W.widen (k := 2) (n := 7) (by omega) (by omega) ?_
  refine lv_astore (lv' := [(4, .ref r), (0, .ref a), (1, .int (nI j)), (2, .long x)]) hx hb dX5_with_7 hl (by decide) rfl (fun ls hl => ?_)
  refine lv_iconst (v := (nI 0)) hx hb dX5_with_9 (by decide) ?_
  refine lv_istore (lv' := [(5, .int (nI 0)), (4, .ref r), (0, .ref a), (1, .int (nI j)), (2, .long x)]) hx hb dX5_with_10 hl (by decide) rfl (fun ls hl => ?_)
  have loop : ∀ (n i : Nat), i + n = 6 → ∀ (hh : FH) (gg : Nat → Int64) (_ : fh_ext sz h hh) (_ : hh r = some (oRow q)) (_ : hh q = some (aL 0 6 gg)) (_ : hh a = some (oRow b)) (_ : hh b = some (aL 0 6 g0)) (_ : ∀ k, k < i → gg k = rwSet f j x k), ∀ (H : Heap) (locs : List Loc) (ls : Array Slot), fh_P G vwCl hh H → va_S A s.heap H locs → lv_has ls 6 [(5, .int (nI i)), (4, .ref r), (0, .ref a), (1, .int (nI j)), (2, .long x)] → W p l e (headSpec wsX5_with { frames := 2, cells := 2, slots := 7, locals := 32 }).room s m [.ref a, .int (nI j), .long x].toArray below meth c H locs 2 7 (MQ below (fh_Q G (fun v u => ∃ r, sz ≤ r ∧ v = some (.ref r) ∧ fh_ext sz h u ∧ pRow u r (rwSet f j x)) A) [.ref a, .int (nI j), .long x].toArray s 2 7 A) (F0 m 12 ls []) := by
    intro n
    induction n with
    | zero =>
      intro i hin hh gg he fr fq fa fb hgg H locs ls hP hS hl
      refine lv_iload hx hb dX5_with_12 (lv_at hl 0 rfl) ?_
      refine lv_bipush (v := (nI 6)) hx hb dX5_with_14 (by decide) ?_
      refine lv_icmp_ge (tgt := 50) hx hb dX5_with_16 (by decide) (fun _ => ?_) (fun c9 => absurd (nI_le (by omega) (by omega)) c9)
      refine lv_aload hx hb dX5_with_50 (lv_at hl 1 rfl) ?_
      exact fh_aret (o := some r) hx hb hr hlocks (⟨r, hsz_r, rfl, he, q, gg, fr, fq, fun k hk => hgg k (by omega)⟩) hP hS (Nat.le_of_ble_eq_true rfl) (Nat.le_of_ble_eq_true rfl) dX5_with_52
    | succ n ih =>
      intro i hin hh gg he fr fq fa fb hgg H locs ls hP hS hl
      refine lv_iload hx hb dX5_with_12 (lv_at hl 0 rfl) ?_
      refine lv_bipush (v := (nI 6)) hx hb dX5_with_14 (by decide) ?_
      refine lv_icmp_ge (tgt := 50) hx hb dX5_with_16 (by decide) (fun c9 => absurd c9 (nI_ge (by omega) (by decide))) (fun _ => ?_)
      refine lv_aload hx hb dX5_with_19 (lv_at hl 1 rfl) ?_
      refine fh_get (C := RX5) (T := TX5) (N := 1) hx hb ht inX5 hown hE.1 hP fr rfl 0 (by decide) (ht _ kw_264) (fun _ h9 => h9) (v := .ref q) rfl dX5_with_21 ?_
      refine lv_iload hx hb dX5_with_24 (lv_at hl 0 rfl) ?_
      refine lv_iload hx hb dX5_with_26 (lv_at hl 0 rfl) ?_
      refine lv_iload_n hx hb dX5_with_28 rfl (lv_at hl 3 rfl) ?_
      refine lv_icmp_ne (tgt := 36) hx hb dX5_with_29 (by decide) (fun c1 => ?_) (fun c1 => ?_)
      · have nij : i ≠ j := fun z => c1 (by rw [z])
        refine lv_aload_n hx hb dX5_with_36 rfl (lv_at hl 2 rfl) ?_
        refine fh_get (C := RX5) (T := TX5) (N := 1) hx hb ht inX5 hown hE.1 hP fa rfl 0 (by decide) (ht _ kw_264) (fun _ h9 => h9) (v := .ref b) rfl dX5_with_37 ?_
        refine lv_iload hx hb dX5_with_40 (lv_at hl 0 rfl) ?_
        refine fh_lald (k := i) hx hb hE.1 hP fb rfl (by omega) (by decide) dX5_with_42 ?_
        refine fh_last (k := i) hx hb hE.1 hP hS fq (hA _ hsq) rfl (by omega) (by decide) dX5_with_43 (fun H locs hP hz hS => ?_)
        obtain ⟨h_3, eh_3⟩ : ∃ z, z = fh_up hh q (.inl (0, 6, .inr (.inl (vp_updL gg i (g0 i))))) := ⟨_, rfl⟩
        have hP : fh_P G vwCl h_3 H := by rw [eh_3]; exact hP
        have f_3 : h_3 q = some (.inl (0, 6, .inr (.inl (vp_updL gg i (g0 i))))) := by rw [eh_3]; exact fh_up_self _ _ _
        have g_3_0 := (congrFun eh_3 r).trans (fh_keep fq fr rfl)
        have g_3_2 := (congrFun eh_3 a).trans (fh_keep fq fa rfl)
        have g_3_3 := (congrFun eh_3 b).trans (fh_keepN fb (nbq))
        refine lv_iinc (v := nI (i + 1)) (lv' := [(5, .int (nI (i + 1))), (4, .ref r), (0, .ref a), (1, .int (nI j)), (2, .long x)]) hx hb dX5_with_44 hl (k := 0) rfl (nI_1 _) (by decide) rfl (fun ls hl => ?_)
        refine lv_goto (tgt := 12) hx hb dX5_with_47 (by decide) ?_
        exact ih (i + 1) (by omega) h_3 _ (by rw [eh_3]; exact he.up hsq) g_3_0 f_3 g_3_2 g_3_3 (lt_s (fun k hk => (pk_uLn (by omega)).trans (hgg k hk)) (pk_uLs.trans ((ha3 i (by omega)).trans (rwSet_n nij).symm))) H locs ls hP hS hl
      · have eij : i = j := (nI_eq (by omega) (by omega)).mp c1
        refine lv_lload_n hx hb dX5_with_32 rfl (lv_at hl 4 rfl) ?_
        refine lv_goto (tgt := 43) hx hb dX5_with_33 (by decide) ?_
        refine fh_last (k := i) hx hb hE.1 hP hS fq (hA _ hsq) rfl (by omega) (by decide) dX5_with_43 (fun H locs hP hz hS => ?_)
        obtain ⟨h_3, eh_3⟩ : ∃ z, z = fh_up hh q (.inl (0, 6, .inr (.inl (vp_updL gg i x)))) := ⟨_, rfl⟩
        have hP : fh_P G vwCl h_3 H := by rw [eh_3]; exact hP
        have f_3 : h_3 q = some (.inl (0, 6, .inr (.inl (vp_updL gg i x)))) := by rw [eh_3]; exact fh_up_self _ _ _
        have g_3_0 := (congrFun eh_3 r).trans (fh_keep fq fr rfl)
        have g_3_2 := (congrFun eh_3 a).trans (fh_keep fq fa rfl)
        have g_3_3 := (congrFun eh_3 b).trans (fh_keepN fb (nbq))
        refine lv_iinc (v := nI (i + 1)) (lv' := [(5, .int (nI (i + 1))), (4, .ref r), (0, .ref a), (1, .int (nI j)), (2, .long x)]) hx hb dX5_with_44 hl (k := 0) rfl (nI_1 _) (by decide) rfl (fun ls hl => ?_)
        refine lv_goto (tgt := 12) hx hb dX5_with_47 (by decide) ?_
        exact ih (i + 1) (by omega) h_3 _ (by rw [eh_3]; exact he.up hsq) g_3_0 f_3 g_3_2 g_3_3 (lt_s (fun k hk => (pk_uLn (by omega)).trans (hgg k hk)) (pk_uLs.trans (by rw [eij]; exact rwSet_s.symm))) H locs ls hP hS hl
  exact loop 6 0 (by omega) u _ he fr fq fa fb (fun k hk => absurd hk (Nat.not_lt_zero k)) _ _ _ hP hS hl
end
section
set_option maxRecDepth 100000 in
set_option maxHeartbeats 4000000 in
/-- State.copy() -/
theorem c_St_copy (l : Launch) (G : fG) (A : Nat → Prop) (h : FH) (sz : Nat) (hA : ∀ q, sz ≤ q → A q) (a b : Nat) (f : Nat → Option Nat) (ha1 : h a = some (oSt b)) (ha2 : h b = some (aQ 1 60 f)) (hf : ∀ i, i < 60 → ∀ r, f i = some r → ∃ vs, h r = some (.inr (5, vs))) : Met l yX8_copy wsX8_copy { frames := 2, cells := 2, slots := 61, locals := 32 } (va_Pc [.ref a] (fh_Pre G A h sz)) (fh_Q G (fun v u => ∃ r q g, sz ≤ r ∧ sz ≤ q ∧ v = some (.ref r) ∧ fh_ext sz h u ∧ u r = some (oSt q) ∧ u q = some (aQ 1 60 g) ∧ ∀ k, k < 60 → g k = f k) A) 2 61 A := by
  refine fh_Met [.ref a] (by decide) rfl (Nat.le_of_ble_eq_true rfl) ?_
  intro p e s m below meth c hx hb hr hlocks hml hown hnm hts hsz hP hE hS ls hl
  have ht : ∀ w ∈ wB, w.before _ s = true := fun w h9 => hts w (List.mem_cons_of_mem _ h9)
  have hl : lv_has ls 3 [(0, .ref a)] := hl
  have hA0 : ∀ q, s.heap.size ≤ q → A q := fun q hq => hA q (by rw [← hsz]; exact hq)
  have hl0 : ∀ i, i < 60 → ∀ r, f i = some r → ∃ vs, h r = some (.inr (5, vs)) ∧ r < sz := fun i hi r e9 => by obtain ⟨vs, h9⟩ := hf i hi r e9; exact ⟨vs, h9, by rw [← hsz]; exact hP.lt h9⟩
  have hge1 := hS.1
  have hlt1 := fun (a9 : Nat) (e9 : fe) (q9 : h a9 = some e9) => hP.lt q9
  refine fh_new (ci := 8) (C := RX8) (T := TX8) (N := 1) (fs := [.null]) hx hb ht inX8 tyX8 tyX8_ok hown (ht _ kw_146) (ht _ kw_30) (ht _ kw_2) hE.1 hP hS hA0 rfl (fun j hj => by rcases (show j = 0 by omega) with rfl <;> rfl) (Nat.le_of_ble_eq_true rfl) (Nat.le_of_ble_eq_true rfl) dX8_copy_0 (fun r H er hAr hP hz_r hS => ?_)
  obtain ⟨h_2, eh_2⟩ : ∃ z, z = fh_up h r (.inr (8, [.null])) := ⟨_, rfl⟩
  have g_2_0 := (congrFun eh_2 a).trans (fh_keepN ha1 (Nat.ne_of_lt (by rw [er]; exact hlt1 _ _ ha1)))
  have g_2_1 := (congrFun eh_2 b).trans (fh_keepN ha2 (Nat.ne_of_lt (by rw [er]; exact hlt1 _ _ ha2)))
  have hP : fh_P G vwCl h_2 H := by rw [eh_2]; exact hP
  have f_2 : h_2 r = some (.inr (8, [.null])) := by rw [eh_2]; exact fh_up_self _ _ _
  have hsz_r : sz ≤ r := by rw [er, ← hsz]; exact hge1
  have la := hlt1 _ _ ha1
  have lb := hlt1 _ _ ha2
  refine lv_dup hx hb dX8_copy_3 rfl ?_
  refine fh_cI (As := []) (rest := [.ref r]) (b := r) ⟨hx, hb, hml, hown, ht⟩ (c_St_init l G A _ _ (fun q hq => hA0 q (Nat.le_trans hS.1 hq)) r hAr f_2) (cwI 0 ht (gB kw_33) rfl rfl rfl (ht _ kw_2) (ht _ kw_147) (ht _ kw_32) rfl yd_X8_init.2 ⟨(Nat.le_of_ble_eq_true rfl), (Nat.le_of_ble_eq_true rfl)⟩) hP hE hS rfl hl.1 rfl (Nat.le_of_ble_eq_true rfl) dX8_copy_4 ⟨(Nat.le_of_ble_eq_true rfl), (Nat.le_of_ble_eq_true rfl)⟩ (fun v u H locs hp hP hz hS => ?_)
  obtain ⟨q, hq, rfl, eu⟩ := hp
  refine W.eq (g2 := F0 m 7 ls [.ref r]) rfl ?_
  have nqr : q ≠ r := by omega
  have nar : a ≠ r := by omega
  have nbr : b ≠ r := by omega
  have naq : a ≠ q := by omega
  have nbq : b ≠ q := by omega
  have fr : u r = some (oSt q) := by rw [eu]; exact fh_up_self _ _ _
  have fq : u q = some (aQ 1 60 (fun _ => none)) := by rw [eu, fh_up_ne _ _ nqr]; exact fh_up_self _ _ _
  have fa : u a = some (oSt b) := by rw [eu, fh_up_ne _ _ nar, fh_up_ne _ _ naq]; exact g_2_0
  have fb : u b = some (aQ 1 60 f) := by rw [eu, fh_up_ne _ _ nbr, fh_up_ne _ _ nbq]; exact g_2_1
  have hsq : sz ≤ q := by omega
  have he : fh_ext sz h u := by rw [eu, eh_2]; exact ((fh_ext.rf.up hsz_r).up hsq).up hsz_r
  refine W.widen (k := 2) (n := 61) (by omega) (by omega) ?_
  refine lv_astore_n (lv' := [(1, .ref r), (0, .ref a)]) hx hb dX8_copy_7 rfl hl (by decide) rfl (fun ls hl => ?_)
  refine lv_iconst (v := (nI 0)) hx hb dX8_copy_8 (by decide) ?_
  refine lv_istore_n (lv' := [(2, .int (nI 0)), (1, .ref r), (0, .ref a)]) hx hb dX8_copy_9 rfl hl (by decide) rfl (fun ls hl => ?_)
  have loop : ∀ (n i : Nat), i + n = 60 → ∀ (hh : FH) (gg : Nat → Option Nat) (_ : fh_ext sz h hh) (_ : hh r = some (oSt q)) (_ : hh q = some (aQ 1 60 gg)) (_ : hh a = some (oSt b)) (_ : hh b = some (aQ 1 60 f)) (_ : ∀ k, k < i → gg k = f k), ∀ (H : Heap) (locs : List Loc) (ls : Array Slot), fh_P G vwCl hh H → va_S A s.heap H locs → lv_has ls 3 [(2, .int (nI i)), (1, .ref r), (0, .ref a)] → W p l e (headSpec wsX8_copy { frames := 2, cells := 2, slots := 61, locals := 32 }).room s m [.ref a].toArray below meth c H locs 2 61 (MQ below (fh_Q G (fun v u => ∃ r q g, sz ≤ r ∧ sz ≤ q ∧ v = some (.ref r) ∧ fh_ext sz h u ∧ u r = some (oSt q) ∧ u q = some (aQ 1 60 g) ∧ ∀ k, k < 60 → g k = f k) A) [.ref a].toArray s 2 61 A) (F0 m 10 ls []) := by
    intro n
    induction n with
    | zero =>
      intro i hin hh gg he fr fq fa fb hgg H locs ls hP hS hl
      refine lv_iload_n hx hb dX8_copy_10 rfl (lv_at hl 0 rfl) ?_
      refine lv_bipush (v := (nI 60)) hx hb dX8_copy_11 (by decide) ?_
      refine lv_icmp_ge (tgt := 34) hx hb dX8_copy_13 (by decide) (fun _ => ?_) (fun c9 => absurd (nI_le (by omega) (by omega)) c9)
      refine lv_aload_n hx hb dX8_copy_34 rfl (lv_at hl 1 rfl) ?_
      exact fh_aret (o := some r) hx hb hr hlocks (⟨r, q, gg, hsz_r, hsq, rfl, he, fr, fq, fun k hk => hgg k (by omega)⟩) hP hS (Nat.le_of_ble_eq_true rfl) (Nat.le_of_ble_eq_true rfl) dX8_copy_35
    | succ n ih =>
      intro i hin hh gg he fr fq fa fb hgg H locs ls hP hS hl
      refine lv_iload_n hx hb dX8_copy_10 rfl (lv_at hl 0 rfl) ?_
      refine lv_bipush (v := (nI 60)) hx hb dX8_copy_11 (by decide) ?_
      refine lv_icmp_ge (tgt := 34) hx hb dX8_copy_13 (by decide) (fun c9 => absurd c9 (nI_ge (by omega) (by decide))) (fun _ => ?_)
      refine lv_aload_n hx hb dX8_copy_16 rfl (lv_at hl 1 rfl) ?_
      refine fh_get (C := RX8) (T := TX8) (N := 1) hx hb ht inX8 hown hE.1 hP fr rfl 0 (by decide) (ht _ kw_37) (fun _ h9 => h9) (v := .ref q) rfl dX8_copy_17 ?_
      refine lv_iload_n hx hb dX8_copy_20 rfl (lv_at hl 0 rfl) ?_
      refine lv_aload_n hx hb dX8_copy_21 rfl (lv_at hl 2 rfl) ?_
      refine fh_get (C := RX8) (T := TX8) (N := 1) hx hb ht inX8 hown hE.1 hP fa rfl 0 (by decide) (ht _ kw_37) (fun _ h9 => h9) (v := .ref b) rfl dX8_copy_22 ?_
      refine lv_iload_n hx hb dX8_copy_25 rfl (lv_at hl 0 rfl) ?_
      refine fh_aald (k := i) hx hb hE.1 hP fb rfl (by omega) (by decide) dX8_copy_26 ?_
      have ho : ∀ z, f i = some z → ∃ vs, hh z = some (.inr (5, vs)) := fun z ez => by obtain ⟨vs, h8, h9⟩ := hl0 i (by omega) z ez; exact ⟨vs, he.at h8 h9⟩
      refine fh_aastO (k := i) hx hb hE.1 hP hS fq (hA _ hsq) rfl (ho) rfl (by omega) (by decide) dX8_copy_27 (fun H locs hP hz hS => ?_)
      obtain ⟨h_3, eh_3⟩ : ∃ z, z = fh_up hh q (.inl (1, 60, .inr (.inr (.inr (.inr (va_up gg i (f i))))))) := ⟨_, rfl⟩
      have hP : fh_P G vwCl h_3 H := by rw [eh_3]; exact hP
      have f_3 : h_3 q = some (.inl (1, 60, .inr (.inr (.inr (.inr (va_up gg i (f i))))))) := by rw [eh_3]; exact fh_up_self _ _ _
      have g_3_0 := (congrFun eh_3 r).trans (fh_keep fq fr rfl)
      have g_3_2 := (congrFun eh_3 a).trans (fh_keep fq fa rfl)
      have g_3_3 := (congrFun eh_3 b).trans (fh_keepN fb (nbq))
      refine lv_iinc (v := nI (i + 1)) (lv' := [(2, .int (nI (i + 1))), (1, .ref r), (0, .ref a)]) hx hb dX8_copy_28 hl (k := 0) rfl (nI_1 _) (by decide) rfl (fun ls hl => ?_)
      refine lv_goto (tgt := 10) hx hb dX8_copy_31 (by decide) ?_
      exact ih (i + 1) (by omega) h_3 _ (by rw [eh_3]; exact he.up hsq) g_3_0 f_3 g_3_2 g_3_3 (lt_s (fun k hk => (va_up_ne _ _ (by omega)).trans (hgg k hk)) (va_up_self _ _ _)) H locs ls hP hS hl
  exact loop 60 0 (by omega) u _ he fr fq fa fb (fun k hk => absurd hk (Nat.not_lt_zero k)) _ _ _ hP hS hl
end
section
set_option maxRecDepth 100000 in
set_option maxHeartbeats 4000000 in
theorem c_Area_init (l : Launch) (G : fG) (A : Nat → Prop) (h : FH) (sz : Nat) (a : Nat) (ow : Int32) (x0 y0 x1 y1 : Int64) (hAa : A a) (ha : h a = some (.inr (0, [.int 0, .long 0, .long 0, .long 0, .long 0]))) : Met l yX0_init wsX0_init { frames := 1, cells := 0, slots := 0, locals := 12 } (va_Pc [.ref a, .int ow, .long x0, .long y0, .long x1, .long y1] (fh_Pre G A h sz)) (fh_Q G (fun v u => v = none ∧ u = fh_up h a (oArea ow x0 y0 x1 y1)) A) 0 0 A := by
  refine fh_Met [.ref a, .int ow, .long x0, .long y0, .long x1, .long y1] (by decide) rfl (Nat.le_of_ble_eq_true rfl) ?_
  intro p e s m below meth c hx hb hr hlocks hml hown hnm hts hsz hP hE hS ls hl
  have ht : ∀ w ∈ wB, w.before _ s = true := fun w h9 => hts w (List.mem_cons_of_mem _ h9)
  have hl : lv_has ls 10 [(0, .ref a), (1, .int ow), (2, .long x0), (4, .long y0), (6, .long x1), (8, .long y1)] := hl
  refine lv_aload_n hx hb dX0_init_0 rfl (lv_at hl 0 rfl) ?_
  refine W.objInit hx hb hown (ht _ kw_515) (ht _ kw_26) (ht _ kw_27) rfl (by rw [hml]; exact hl.1) rfl dX0_init_1 (Nat.le_of_ble_eq_true rfl) (Nat.le_of_ble_eq_true rfl) ?_
  refine W.eq (g2 := F0 m 4 ls []) rfl ?_
  refine lv_aload_n hx hb dX0_init_4 rfl (lv_at hl 0 rfl) ?_
  refine lv_iload_n hx hb dX0_init_5 rfl (lv_at hl 1 rfl) ?_
  refine fh_putF (C := RX0) (T := TX0) (N := 5) (t := .int) hx hb ht inX0 tyX0 tyX0_ok nmX0 hown hE.1 hP hS ha (hAa) rfl 0 (by decide) (ht _ kw_516) (fun _ h9 => h9) rfl hnm rfl (by decide +kernel) rfl rfl (Nat.le_of_ble_eq_true rfl) dX0_init_6 (fun H locs hP hz hS => ?_)
  obtain ⟨h_1, eh_1⟩ : ∃ z, z = fh_up h a (.inr (0, [.int ow, .long 0, .long 0, .long 0, .long 0])) := ⟨_, rfl⟩
  have hP : fh_P G vwCl h_1 H := by rw [eh_1]; exact hP
  have f_1 : h_1 a = some (.inr (0, [.int ow, .long 0, .long 0, .long 0, .long 0])) := by rw [eh_1]; exact fh_up_self _ _ _
  refine lv_aload_n hx hb dX0_init_9 rfl (lv_at hl 0 rfl) ?_
  refine lv_lload_n hx hb dX0_init_10 rfl (lv_at hl 2 rfl) ?_
  refine fh_putF (C := RX0) (T := TX0) (N := 5) (t := .long) hx hb ht inX0 tyX0 tyX0_ok nmX0 hown hE.1 hP hS f_1 (hAa) rfl 1 (by decide) (ht _ kw_518) (fun _ h9 => h9) rfl hnm rfl (by decide +kernel) rfl rfl (Nat.le_of_ble_eq_true rfl) dX0_init_11 (fun H locs hP hz hS => ?_)
  obtain ⟨h_2, eh_2⟩ : ∃ z, z = fh_up h_1 a (.inr (0, [.int ow, .long x0, .long 0, .long 0, .long 0])) := ⟨_, rfl⟩
  have hP : fh_P G vwCl h_2 H := by rw [eh_2]; exact hP
  have f_2 : h_2 a = some (.inr (0, [.int ow, .long x0, .long 0, .long 0, .long 0])) := by rw [eh_2]; exact fh_up_self _ _ _
  refine lv_aload_n hx hb dX0_init_14 rfl (lv_at hl 0 rfl) ?_
  refine lv_lload hx hb dX0_init_15 (lv_at hl 3 rfl) ?_
  refine fh_putF (C := RX0) (T := TX0) (N := 5) (t := .long) hx hb ht inX0 tyX0 tyX0_ok nmX0 hown hE.1 hP hS f_2 (hAa) rfl 2 (by decide) (ht _ kw_519) (fun _ h9 => h9) rfl hnm rfl (by decide +kernel) rfl rfl (Nat.le_of_ble_eq_true rfl) dX0_init_17 (fun H locs hP hz hS => ?_)
  obtain ⟨h_3, eh_3⟩ : ∃ z, z = fh_up h_2 a (.inr (0, [.int ow, .long x0, .long y0, .long 0, .long 0])) := ⟨_, rfl⟩
  have hP : fh_P G vwCl h_3 H := by rw [eh_3]; exact hP
  have f_3 : h_3 a = some (.inr (0, [.int ow, .long x0, .long y0, .long 0, .long 0])) := by rw [eh_3]; exact fh_up_self _ _ _
  refine lv_aload_n hx hb dX0_init_20 rfl (lv_at hl 0 rfl) ?_
  refine lv_lload hx hb dX0_init_21 (lv_at hl 4 rfl) ?_
  refine fh_putF (C := RX0) (T := TX0) (N := 5) (t := .long) hx hb ht inX0 tyX0 tyX0_ok nmX0 hown hE.1 hP hS f_3 (hAa) rfl 3 (by decide) (ht _ kw_520) (fun _ h9 => h9) rfl hnm rfl (by decide +kernel) rfl rfl (Nat.le_of_ble_eq_true rfl) dX0_init_23 (fun H locs hP hz hS => ?_)
  obtain ⟨h_4, eh_4⟩ : ∃ z, z = fh_up h_3 a (.inr (0, [.int ow, .long x0, .long y0, .long x1, .long 0])) := ⟨_, rfl⟩
  have hP : fh_P G vwCl h_4 H := by rw [eh_4]; exact hP
  have f_4 : h_4 a = some (.inr (0, [.int ow, .long x0, .long y0, .long x1, .long 0])) := by rw [eh_4]; exact fh_up_self _ _ _
  refine lv_aload_n hx hb dX0_init_26 rfl (lv_at hl 0 rfl) ?_
  refine lv_lload hx hb dX0_init_27 (lv_at hl 5 rfl) ?_
  refine fh_putF (C := RX0) (T := TX0) (N := 5) (t := .long) hx hb ht inX0 tyX0 tyX0_ok nmX0 hown hE.1 hP hS f_4 (hAa) rfl 4 (by decide) (ht _ kw_521) (fun _ h9 => h9) rfl hnm rfl (by decide +kernel) rfl rfl (Nat.le_of_ble_eq_true rfl) dX0_init_29 (fun H locs hP hz hS => ?_)
  obtain ⟨h_5, eh_5⟩ : ∃ z, z = fh_up h_4 a (.inr (0, [.int ow, .long x0, .long y0, .long x1, .long y1])) := ⟨_, rfl⟩
  have hP : fh_P G vwCl h_5 H := by rw [eh_5]; exact hP
  have f_5 : h_5 a = some (.inr (0, [.int ow, .long x0, .long y0, .long x1, .long y1])) := by rw [eh_5]; exact fh_up_self _ _ _
  exact fh_vret hx hb hr hlocks (⟨rfl, by rw [eh_5, eh_4, eh_3, eh_2, eh_1]; simp only [fh_upup]⟩) hP hS (Nat.le_of_ble_eq_true rfl) (Nat.le_of_ble_eq_true rfl) dX0_init_32

set_option maxRecDepth 100000 in
set_option maxHeartbeats 4000000 in
theorem c_Area_holds (l : Launch) (G : fG) (A : Nat → Prop) (h : FH) (sz : Nat) (a : Nat) (ow : Int32) (x0 y0 x1 y1 x y : Int64) (ha : h a = some (oArea ow x0 y0 x1 y1)) : Met l yX0_holds wsX0_holds { frames := 0, cells := 0, slots := 0, locals := 0 } (va_Pc [.ref a, .long x, .long y] (fh_Pre G A h sz)) (fh_Q G (fun v u => v = some (.int (bI (arHolds x0 y0 x1 y1 x y))) ∧ u = h) A) 0 0 A := by
  refine fh_Met [.ref a, .long x, .long y] (by decide) rfl (Nat.le_of_ble_eq_true rfl) ?_
  intro p e s m below meth c hx hb hr hlocks hml hown hnm hts hsz hP hE hS ls hl
  have ht : ∀ w ∈ wB, w.before _ s = true := fun w h9 => hts w (List.mem_cons_of_mem _ h9)
  have hl : lv_has ls 5 [(0, .ref a), (1, .long x), (3, .long y)] := hl
  refine lv_aload_n hx hb dX0_holds_0 rfl (lv_at hl 0 rfl) ?_
  refine fh_get (C := RX0) (T := TX0) (N := 5) hx hb ht inX0 hown hE.1 hP ha rfl 1 (by decide) (ht _ kw_518) (fun _ h9 => h9) (v := .long x0) rfl dX0_holds_1 ?_
  refine lv_lload_n hx hb dX0_holds_4 rfl (lv_at hl 1 rfl) ?_
  refine W.lcmp hx hb dX0_holds_5 ?_
  refine lv_if_gt (tgt := 40) hx hb dX0_holds_6 (by decide) (fun c0 => ?_) (fun c0 => ?_)
  · refine lv_iconst (v := (nI 0)) hx hb dX0_holds_40 (by decide) ?_
    exact fh_zret hx hb hr hlocks rfl (⟨congrArg (fun z => some (Value.int z)) (bI_0 (fun q => by have z := (lg_cmp_gt _ _).mp c0; simp only [arHolds, Bool.and_eq_true, decide_eq_true_eq, Int64.le_iff_toInt_le] at q; rw [Int64.lt_iff_toInt_lt] at z; omega)), rfl⟩) hP hS (Nat.le_of_ble_eq_true rfl) (Nat.le_of_ble_eq_true rfl) dX0_holds_41
  · refine lv_lload_n hx hb dX0_holds_9 rfl (lv_at hl 1 rfl) ?_
    refine lv_aload_n hx hb dX0_holds_10 rfl (lv_at hl 0 rfl) ?_
    refine fh_get (C := RX0) (T := TX0) (N := 5) hx hb ht inX0 hown hE.1 hP ha rfl 3 (by decide) (ht _ kw_520) (fun _ h9 => h9) (v := .long x1) rfl dX0_holds_11 ?_
    refine W.lcmp hx hb dX0_holds_14 ?_
    refine lv_if_gt (tgt := 40) hx hb dX0_holds_15 (by decide) (fun c1 => ?_) (fun c1 => ?_)
    · refine lv_iconst (v := (nI 0)) hx hb dX0_holds_40 (by decide) ?_
      exact fh_zret hx hb hr hlocks rfl (⟨congrArg (fun z => some (Value.int z)) (bI_0 (fun q => by have z := (lg_cmp_gt _ _).mp c1; simp only [arHolds, Bool.and_eq_true, decide_eq_true_eq, Int64.le_iff_toInt_le] at q; rw [Int64.lt_iff_toInt_lt] at z; omega)), rfl⟩) hP hS (Nat.le_of_ble_eq_true rfl) (Nat.le_of_ble_eq_true rfl) dX0_holds_41
    · refine lv_aload_n hx hb dX0_holds_18 rfl (lv_at hl 0 rfl) ?_
      refine fh_get (C := RX0) (T := TX0) (N := 5) hx hb ht inX0 hown hE.1 hP ha rfl 2 (by decide) (ht _ kw_519) (fun _ h9 => h9) (v := .long y0) rfl dX0_holds_19 ?_
      refine lv_lload_n hx hb dX0_holds_22 rfl (lv_at hl 2 rfl) ?_
      refine W.lcmp hx hb dX0_holds_23 ?_
      refine lv_if_gt (tgt := 40) hx hb dX0_holds_24 (by decide) (fun c2 => ?_) (fun c2 => ?_)
      · refine lv_iconst (v := (nI 0)) hx hb dX0_holds_40 (by decide) ?_
        exact fh_zret hx hb hr hlocks rfl (⟨congrArg (fun z => some (Value.int z)) (bI_0 (fun q => by have z := (lg_cmp_gt _ _).mp c2; simp only [arHolds, Bool.and_eq_true, decide_eq_true_eq, Int64.le_iff_toInt_le] at q; rw [Int64.lt_iff_toInt_lt] at z; omega)), rfl⟩) hP hS (Nat.le_of_ble_eq_true rfl) (Nat.le_of_ble_eq_true rfl) dX0_holds_41
      · refine lv_lload_n hx hb dX0_holds_27 rfl (lv_at hl 2 rfl) ?_
        refine lv_aload_n hx hb dX0_holds_28 rfl (lv_at hl 0 rfl) ?_
        refine fh_get (C := RX0) (T := TX0) (N := 5) hx hb ht inX0 hown hE.1 hP ha rfl 4 (by decide) (ht _ kw_521) (fun _ h9 => h9) (v := .long y1) rfl dX0_holds_29 ?_
        refine W.lcmp hx hb dX0_holds_32 ?_
        refine lv_if_gt (tgt := 40) hx hb dX0_holds_33 (by decide) (fun c3 => ?_) (fun c3 => ?_)
        · refine lv_iconst (v := (nI 0)) hx hb dX0_holds_40 (by decide) ?_
          exact fh_zret hx hb hr hlocks rfl (⟨congrArg (fun z => some (Value.int z)) (bI_0 (fun q => by have z := (lg_cmp_gt _ _).mp c3; simp only [arHolds, Bool.and_eq_true, decide_eq_true_eq, Int64.le_iff_toInt_le] at q; rw [Int64.lt_iff_toInt_lt] at z; omega)), rfl⟩) hP hS (Nat.le_of_ble_eq_true rfl) (Nat.le_of_ble_eq_true rfl) dX0_holds_41
        · refine lv_iconst (v := (nI 1)) hx hb dX0_holds_36 (by decide) ?_
          refine lv_goto (tgt := 41) hx hb dX0_holds_37 (by decide) ?_
          exact fh_zret hx hb hr hlocks rfl (⟨congrArg (fun z => some (Value.int z)) (bI_1 (by have z0 := mt (lg_cmp_gt _ _).mpr c0; rw [Int64.lt_iff_toInt_lt] at z0; have z1 := mt (lg_cmp_gt _ _).mpr c1; rw [Int64.lt_iff_toInt_lt] at z1; have z2 := mt (lg_cmp_gt _ _).mpr c2; rw [Int64.lt_iff_toInt_lt] at z2; have z3 := mt (lg_cmp_gt _ _).mpr c3; rw [Int64.lt_iff_toInt_lt] at z3; simp only [arHolds, Bool.and_eq_true, decide_eq_true_eq, Int64.le_iff_toInt_le]; omega)), rfl⟩) hP hS (Nat.le_of_ble_eq_true rfl) (Nat.le_of_ble_eq_true rfl) dX0_holds_41

set_option maxRecDepth 100000 in
set_option maxHeartbeats 4000000 in
theorem c_Area_meets (l : Launch) (G : fG) (A : Nat → Prop) (h : FH) (sz : Nat) (a b : Nat) (ow : Int32) (x0 y0 x1 y1 : Int64) (ow2 : Int32) (x2 y2 x3 y3 : Int64) (ha : h a = some (oArea ow x0 y0 x1 y1)) (hb0 : h b = some (oArea ow2 x2 y2 x3 y3)) : Met l yX0_meets wsX0_meets { frames := 0, cells := 0, slots := 0, locals := 0 } (va_Pc [.ref a, .ref b] (fh_Pre G A h sz)) (fh_Q G (fun v u => v = some (.int (bI (arMeets x0 y0 x1 y1 x2 y2 x3 y3))) ∧ u = h) A) 0 0 A := by
  refine fh_Met [.ref a, .ref b] (by decide) rfl (Nat.le_of_ble_eq_true rfl) ?_
  intro p e s m below meth c hx hb hr hlocks hml hown hnm hts hsz hP hE hS ls hl
  have ht : ∀ w ∈ wB, w.before _ s = true := fun w h9 => hts w (List.mem_cons_of_mem _ h9)
  have hl : lv_has ls 2 [(0, .ref a), (1, .ref b)] := hl
  refine lv_aload_n hx hb dX0_meets_0 rfl (lv_at hl 0 rfl) ?_
  refine fh_get (C := RX0) (T := TX0) (N := 5) hx hb ht inX0 hown hE.1 hP ha rfl 1 (by decide) (ht _ kw_518) (fun _ h9 => h9) (v := .long x0) rfl dX0_meets_1 ?_
  refine lv_aload_n hx hb dX0_meets_4 rfl (lv_at hl 1 rfl) ?_
  refine fh_get (C := RX0) (T := TX0) (N := 5) hx hb ht inX0 hown hE.1 hP hb0 rfl 3 (by decide) (ht _ kw_520) (fun _ h9 => h9) (v := .long x3) rfl dX0_meets_5 ?_
  refine W.lcmp hx hb dX0_meets_8 ?_
  refine lv_if_gt (tgt := 52) hx hb dX0_meets_9 (by decide) (fun c0 => ?_) (fun c0 => ?_)
  · refine lv_iconst (v := (nI 0)) hx hb dX0_meets_52 (by decide) ?_
    exact fh_zret hx hb hr hlocks rfl (⟨congrArg (fun z => some (Value.int z)) (bI_0 (fun q => by have z := (lg_cmp_gt _ _).mp c0; simp only [arMeets, Bool.and_eq_true, decide_eq_true_eq, Int64.le_iff_toInt_le] at q; rw [Int64.lt_iff_toInt_lt] at z; omega)), rfl⟩) hP hS (Nat.le_of_ble_eq_true rfl) (Nat.le_of_ble_eq_true rfl) dX0_meets_53
  · refine lv_aload_n hx hb dX0_meets_12 rfl (lv_at hl 1 rfl) ?_
    refine fh_get (C := RX0) (T := TX0) (N := 5) hx hb ht inX0 hown hE.1 hP hb0 rfl 1 (by decide) (ht _ kw_518) (fun _ h9 => h9) (v := .long x2) rfl dX0_meets_13 ?_
    refine lv_aload_n hx hb dX0_meets_16 rfl (lv_at hl 0 rfl) ?_
    refine fh_get (C := RX0) (T := TX0) (N := 5) hx hb ht inX0 hown hE.1 hP ha rfl 3 (by decide) (ht _ kw_520) (fun _ h9 => h9) (v := .long x1) rfl dX0_meets_17 ?_
    refine W.lcmp hx hb dX0_meets_20 ?_
    refine lv_if_gt (tgt := 52) hx hb dX0_meets_21 (by decide) (fun c1 => ?_) (fun c1 => ?_)
    · refine lv_iconst (v := (nI 0)) hx hb dX0_meets_52 (by decide) ?_
      exact fh_zret hx hb hr hlocks rfl (⟨congrArg (fun z => some (Value.int z)) (bI_0 (fun q => by have z := (lg_cmp_gt _ _).mp c1; simp only [arMeets, Bool.and_eq_true, decide_eq_true_eq, Int64.le_iff_toInt_le] at q; rw [Int64.lt_iff_toInt_lt] at z; omega)), rfl⟩) hP hS (Nat.le_of_ble_eq_true rfl) (Nat.le_of_ble_eq_true rfl) dX0_meets_53
    · refine lv_aload_n hx hb dX0_meets_24 rfl (lv_at hl 0 rfl) ?_
      refine fh_get (C := RX0) (T := TX0) (N := 5) hx hb ht inX0 hown hE.1 hP ha rfl 2 (by decide) (ht _ kw_519) (fun _ h9 => h9) (v := .long y0) rfl dX0_meets_25 ?_
      refine lv_aload_n hx hb dX0_meets_28 rfl (lv_at hl 1 rfl) ?_
      refine fh_get (C := RX0) (T := TX0) (N := 5) hx hb ht inX0 hown hE.1 hP hb0 rfl 4 (by decide) (ht _ kw_521) (fun _ h9 => h9) (v := .long y3) rfl dX0_meets_29 ?_
      refine W.lcmp hx hb dX0_meets_32 ?_
      refine lv_if_gt (tgt := 52) hx hb dX0_meets_33 (by decide) (fun c2 => ?_) (fun c2 => ?_)
      · refine lv_iconst (v := (nI 0)) hx hb dX0_meets_52 (by decide) ?_
        exact fh_zret hx hb hr hlocks rfl (⟨congrArg (fun z => some (Value.int z)) (bI_0 (fun q => by have z := (lg_cmp_gt _ _).mp c2; simp only [arMeets, Bool.and_eq_true, decide_eq_true_eq, Int64.le_iff_toInt_le] at q; rw [Int64.lt_iff_toInt_lt] at z; omega)), rfl⟩) hP hS (Nat.le_of_ble_eq_true rfl) (Nat.le_of_ble_eq_true rfl) dX0_meets_53
      · refine lv_aload_n hx hb dX0_meets_36 rfl (lv_at hl 1 rfl) ?_
        refine fh_get (C := RX0) (T := TX0) (N := 5) hx hb ht inX0 hown hE.1 hP hb0 rfl 2 (by decide) (ht _ kw_519) (fun _ h9 => h9) (v := .long y2) rfl dX0_meets_37 ?_
        refine lv_aload_n hx hb dX0_meets_40 rfl (lv_at hl 0 rfl) ?_
        refine fh_get (C := RX0) (T := TX0) (N := 5) hx hb ht inX0 hown hE.1 hP ha rfl 4 (by decide) (ht _ kw_521) (fun _ h9 => h9) (v := .long y1) rfl dX0_meets_41 ?_
        refine W.lcmp hx hb dX0_meets_44 ?_
        refine lv_if_gt (tgt := 52) hx hb dX0_meets_45 (by decide) (fun c3 => ?_) (fun c3 => ?_)
        · refine lv_iconst (v := (nI 0)) hx hb dX0_meets_52 (by decide) ?_
          exact fh_zret hx hb hr hlocks rfl (⟨congrArg (fun z => some (Value.int z)) (bI_0 (fun q => by have z := (lg_cmp_gt _ _).mp c3; simp only [arMeets, Bool.and_eq_true, decide_eq_true_eq, Int64.le_iff_toInt_le] at q; rw [Int64.lt_iff_toInt_lt] at z; omega)), rfl⟩) hP hS (Nat.le_of_ble_eq_true rfl) (Nat.le_of_ble_eq_true rfl) dX0_meets_53
        · refine lv_iconst (v := (nI 1)) hx hb dX0_meets_48 (by decide) ?_
          refine lv_goto (tgt := 53) hx hb dX0_meets_49 (by decide) ?_
          exact fh_zret hx hb hr hlocks rfl (⟨congrArg (fun z => some (Value.int z)) (bI_1 (by have z0 := mt (lg_cmp_gt _ _).mpr c0; rw [Int64.lt_iff_toInt_lt] at z0; have z1 := mt (lg_cmp_gt _ _).mpr c1; rw [Int64.lt_iff_toInt_lt] at z1; have z2 := mt (lg_cmp_gt _ _).mpr c2; rw [Int64.lt_iff_toInt_lt] at z2; have z3 := mt (lg_cmp_gt _ _).mpr c3; rw [Int64.lt_iff_toInt_lt] at z3; simp only [arMeets, Bool.and_eq_true, decide_eq_true_eq, Int64.le_iff_toInt_le]; omega)), rfl⟩) hP hS (Nat.le_of_ble_eq_true rfl) (Nat.le_of_ble_eq_true rfl) dX0_meets_53

set_option maxRecDepth 100000 in
set_option maxHeartbeats 4000000 in
theorem c_Chg_init (l : Launch) (G : fG) (A : Nat → Prop) (h : FH) (sz : Nat) (hA : ∀ q, sz ≤ q → A q) (a : Nat) (hAa : A a) (ha : h a = some (.inr (1, [.null, .null, .int 0, .int 0]))) : Met l yX1_init wsX1_init { frames := 1, cells := 2, slots := 80, locals := 12 } (va_Pc [.ref a] (fh_Pre G A h sz)) (fh_Q G (fun v u => ∃ q r, sz ≤ q ∧ q < r ∧ v = none ∧ u = fh_up (fh_up (fh_up h q (aI 2 40 (fun _ => 0))) r (aQ 3 40 (fun _ => none))) a (oChg q r 0 0)) A) 2 80 A := by
  refine fh_Met [.ref a] (by decide) rfl (Nat.le_of_ble_eq_true rfl) ?_
  intro p e s m below meth c hx hb hr hlocks hml hown hnm hts hsz hP hE hS ls hl
  have ht : ∀ w ∈ wB, w.before _ s = true := fun w h9 => hts w (List.mem_cons_of_mem _ h9)
  have hl : lv_has ls 1 [(0, .ref a)] := hl
  have hA0 : ∀ q, s.heap.size ≤ q → A q := fun q hq => hA q (by rw [← hsz]; exact hq)
  have la : a < sz := by rw [← hsz]; exact hP.lt ha
  refine lv_aload_n hx hb dX1_init_0 rfl (lv_at hl 0 rfl) ?_
  refine W.objInit hx hb hown (ht _ kw_127) (ht _ kw_26) (ht _ kw_27) rfl (by rw [hml]; exact hl.1) rfl dX1_init_1 (Nat.le_of_ble_eq_true rfl) (Nat.le_of_ble_eq_true rfl) ?_
  refine W.eq (g2 := F0 m 4 ls []) rfl ?_
  refine lv_aload_n hx hb dX1_init_4 rfl (lv_at hl 0 rfl) ?_
  refine lv_bipush (v := (nI 40)) hx hb dX1_init_5 (by decide) ?_
  have hge1 := hS.1
  have hlt1 := fun (a9 : Nat) (e9 : fe) (q9 : h a9 = some e9) => hP.lt q9
  refine fh_newa (atype := .int) (t0 := .int) (N' := 40) (a0 := (40, .inl (fun _ => 0))) hx hb (ht _ kw_74) rfl hE.1 hP hS hA0 2 rfl (fun _ => rfl) (by decide) (by decide) (by decide) (Nat.le_of_ble_eq_true rfl) (Nat.le_of_ble_eq_true rfl) dX1_init_7 (fun q H eq hAq hP hz_q hS => ?_)
  obtain ⟨h_2, eh_2⟩ : ∃ z, z = fh_up h q (.inl (2, 40, .inl (fun _ => 0))) := ⟨_, rfl⟩
  have g_2_0 := (congrFun eh_2 a).trans (fh_keepN ha (Nat.ne_of_lt (by rw [eq]; exact hlt1 _ _ ha)))
  have hP : fh_P G vwCl h_2 H := by rw [eh_2]; exact hP
  have f_2 : h_2 q = some (.inl (2, 40, .inl (fun _ => 0))) := by rw [eh_2]; exact fh_up_self _ _ _
  have hsz_q : sz ≤ q := by rw [eq, ← hsz]; exact hge1
  refine fh_putF (C := RX1) (T := TX1) (N := 4) (t := (.array .int)) hx hb ht inX1 tyX1 tyX1_ok nmX1 hown hE.1 hP hS g_2_0 (hAa) rfl 0 (by decide) (ht _ kw_129) (fun _ h9 => h9) rfl hnm rfl (by decide +kernel) rfl rfl (Nat.le_of_ble_eq_true rfl) dX1_init_9 (fun H locs hP hz hS => ?_)
  obtain ⟨h_3, eh_3⟩ : ∃ z, z = fh_up h_2 a (.inr (1, [.ref q, .null, .int 0, .int 0])) := ⟨_, rfl⟩
  have hP : fh_P G vwCl h_3 H := by rw [eh_3]; exact hP
  have f_3 : h_3 a = some (.inr (1, [.ref q, .null, .int 0, .int 0])) := by rw [eh_3]; exact fh_up_self _ _ _
  have g_3_1 := (congrFun eh_3 q).trans (fh_keep g_2_0 f_2 rfl)
  refine lv_aload_n hx hb dX1_init_12 rfl (lv_at hl 0 rfl) ?_
  refine lv_bipush (v := (nI 40)) hx hb dX1_init_13 (by decide) ?_
  have hzq := hz
  have hge4 := hS.1
  have hlt4 := fun (a9 : Nat) (e9 : fe) (q9 : h_3 a9 = some e9) => hP.lt q9
  refine fh_newq (N' := 40) hx hb hown (ht _ kw_128) (hE.2.2.2.2.1 "ObjectMerge$Row" (by decide)) hE.1 hP hS hA0 3 rfl (by decide) (by decide) (by decide) (Nat.le_of_ble_eq_true rfl) (Nat.le_of_ble_eq_true rfl) dX1_init_15 (fun r H er hAr hP hz_r hS => ?_)
  obtain ⟨h_5, eh_5⟩ : ∃ z, z = fh_up h_3 r (.inl (3, 40, .inr (.inr (.inr (.inr (fun _ => none)))))) := ⟨_, rfl⟩
  have g_5_0 := (congrFun eh_5 q).trans (fh_keepN g_3_1 (Nat.ne_of_lt (by rw [er]; exact hlt4 _ _ g_3_1)))
  have g_5_1 := (congrFun eh_5 a).trans (fh_keepN f_3 (Nat.ne_of_lt (by rw [er]; exact hlt4 _ _ f_3)))
  have hP : fh_P G vwCl h_5 H := by rw [eh_5]; exact hP
  have f_5 : h_5 r = some (.inl (3, 40, .inr (.inr (.inr (.inr (fun _ => none)))))) := by rw [eh_5]; exact fh_up_self _ _ _
  have hsz_r : sz ≤ r := by rw [er, ← hsz]; exact hge4
  refine fh_putF (C := RX1) (T := TX1) (N := 4) (t := (.array (.object "ObjectMerge$Row"))) hx hb ht inX1 tyX1 tyX1_ok nmX1 hown hE.1 hP hS g_5_1 (hAa) rfl 1 (by decide) (ht _ kw_130) (fun _ h9 => h9) rfl hnm rfl (by decide +kernel) rfl rfl (Nat.le_of_ble_eq_true rfl) dX1_init_18 (fun H locs hP hz hS => ?_)
  obtain ⟨h_6, eh_6⟩ : ∃ z, z = fh_up h_5 a (.inr (1, [.ref q, .ref r, .int 0, .int 0])) := ⟨_, rfl⟩
  have hP : fh_P G vwCl h_6 H := by rw [eh_6]; exact hP
  have f_6 : h_6 a = some (.inr (1, [.ref q, .ref r, .int 0, .int 0])) := by rw [eh_6]; exact fh_up_self _ _ _
  have g_6_0 := (congrFun eh_6 q).trans (fh_keep g_5_1 g_5_0 rfl)
  have g_6_2 := (congrFun eh_6 r).trans (fh_keep g_5_1 f_5 rfl)
  exact fh_vret hx hb hr hlocks (⟨q, r, hsz_q, by omega, rfl, by rw [eh_6, eh_5, eh_3, eh_2, fh_upcomm _ _ _ (show a ≠ r by omega)]; simp only [fh_upup]⟩) hP hS (Nat.le_of_ble_eq_true rfl) (Nat.le_of_ble_eq_true rfl) dX1_init_21

set_option maxRecDepth 100000 in
set_option maxHeartbeats 4000000 in
theorem c_Chg_obj (l : Launch) (G : fG) (A : Nat → Prop) (h : FH) (sz : Nat) (a ob rw nx : Nat) (ct : Int32) (fo : Nat → Int32) (fr : Nat → Option Nat) (ha : h a = some (oChg ob rw (nI nx) ct)) (ho : h ob = some (aI 2 40 fo)) (hr0 : h rw = some (aQ 3 40 fr)) (hn : nx < 40) : Met l yX1_changedObject wsX1_changedObject { frames := 0, cells := 0, slots := 0, locals := 0 } (va_Pc [.ref a] (fh_Pre G A h sz)) (fh_Q G (fun v u => v = some (.int (fo nx)) ∧ u = h) A) 0 0 A := by
  refine fh_Met [.ref a] (by decide) rfl (Nat.le_of_ble_eq_true rfl) ?_
  intro p e s m below meth c hx hb hr hlocks hml hown hnm hts hsz hP hE hS ls hl
  have ht : ∀ w ∈ wB, w.before _ s = true := fun w h9 => hts w (List.mem_cons_of_mem _ h9)
  have hl : lv_has ls 1 [(0, .ref a)] := hl
  refine lv_aload_n hx hb dX1_changedObject_0 rfl (lv_at hl 0 rfl) ?_
  refine fh_get (C := RX1) (T := TX1) (N := 4) hx hb ht inX1 hown hE.1 hP ha rfl 0 (by decide) (ht _ kw_129) (fun _ h9 => h9) (v := .ref ob) rfl dX1_changedObject_1 ?_
  refine lv_aload_n hx hb dX1_changedObject_4 rfl (lv_at hl 0 rfl) ?_
  refine fh_get (C := RX1) (T := TX1) (N := 4) hx hb ht inX1 hown hE.1 hP ha rfl 2 (by decide) (ht _ kw_131) (fun _ h9 => h9) (v := .int (nI nx)) rfl dX1_changedObject_5 ?_
  refine fh_iald (k := nx) hx hb hE.1 hP ho rfl (hn) (by decide) dX1_changedObject_8 ?_
  exact fh_iret hx hb hr hlocks (⟨rfl, rfl⟩) hP hS (Nat.le_of_ble_eq_true rfl) (Nat.le_of_ble_eq_true rfl) dX1_changedObject_9

set_option maxRecDepth 100000 in
set_option maxHeartbeats 4000000 in
theorem c_Chg_row (l : Launch) (G : fG) (A : Nat → Prop) (h : FH) (sz : Nat) (a ob rw nx : Nat) (ct : Int32) (fo : Nat → Int32) (fr : Nat → Option Nat) (ha : h a = some (oChg ob rw (nI nx) ct)) (ho : h ob = some (aI 2 40 fo)) (hr0 : h rw = some (aQ 3 40 fr)) (hn : nx < 40) : Met l yX1_rowBefore wsX1_rowBefore { frames := 0, cells := 0, slots := 0, locals := 0 } (va_Pc [.ref a] (fh_Pre G A h sz)) (fh_Q G (fun v u => v = some (va_rf (fr nx)) ∧ u = h) A) 0 0 A := by
  refine fh_Met [.ref a] (by decide) rfl (Nat.le_of_ble_eq_true rfl) ?_
  intro p e s m below meth c hx hb hr hlocks hml hown hnm hts hsz hP hE hS ls hl
  have ht : ∀ w ∈ wB, w.before _ s = true := fun w h9 => hts w (List.mem_cons_of_mem _ h9)
  have hl : lv_has ls 1 [(0, .ref a)] := hl
  refine lv_aload_n hx hb dX1_rowBefore_0 rfl (lv_at hl 0 rfl) ?_
  refine fh_get (C := RX1) (T := TX1) (N := 4) hx hb ht inX1 hown hE.1 hP ha rfl 1 (by decide) (ht _ kw_130) (fun _ h9 => h9) (v := .ref rw) rfl dX1_rowBefore_1 ?_
  refine lv_aload_n hx hb dX1_rowBefore_4 rfl (lv_at hl 0 rfl) ?_
  refine fh_get (C := RX1) (T := TX1) (N := 4) hx hb ht inX1 hown hE.1 hP ha rfl 2 (by decide) (ht _ kw_131) (fun _ h9 => h9) (v := .int (nI nx)) rfl dX1_rowBefore_5 ?_
  refine fh_aald (k := nx) hx hb hE.1 hP hr0 rfl (hn) (by decide) dX1_rowBefore_8 ?_
  exact fh_aret (o := fr nx) hx hb hr hlocks (⟨rfl, rfl⟩) hP hS (Nat.le_of_ble_eq_true rfl) (Nat.le_of_ble_eq_true rfl) dX1_rowBefore_9

set_option maxRecDepth 100000 in
set_option maxHeartbeats 4000000 in
theorem c_Draw_init (l : Launch) (G : fG) (A : Nat → Prop) (h : FH) (sz : Nat) (a : Nat) (x : Int64) (hAa : A a) (ha : h a = some (.inr (3, [.long 0]))) : Met l yX3_init wsX3_init { frames := 1, cells := 0, slots := 0, locals := 12 } (va_Pc [.ref a, .long x] (fh_Pre G A h sz)) (fh_Q G (fun v u => v = none ∧ u = fh_up h a (oDraw x)) A) 0 0 A := by
  refine fh_Met [.ref a, .long x] (by decide) rfl (Nat.le_of_ble_eq_true rfl) ?_
  intro p e s m below meth c hx hb hr hlocks hml hown hnm hts hsz hP hE hS ls hl
  have ht : ∀ w ∈ wB, w.before _ s = true := fun w h9 => hts w (List.mem_cons_of_mem _ h9)
  have hl : lv_has ls 3 [(0, .ref a), (1, .long x)] := hl
  refine lv_aload_n hx hb dX3_init_0 rfl (lv_at hl 0 rfl) ?_
  refine W.objInit hx hb hown (ht _ kw_647) (ht _ kw_26) (ht _ kw_27) rfl (by rw [hml]; exact hl.1) rfl dX3_init_1 (Nat.le_of_ble_eq_true rfl) (Nat.le_of_ble_eq_true rfl) ?_
  refine W.eq (g2 := F0 m 4 ls []) rfl ?_
  refine lv_aload_n hx hb dX3_init_4 rfl (lv_at hl 0 rfl) ?_
  refine lv_lload_n hx hb dX3_init_5 rfl (lv_at hl 1 rfl) ?_
  refine fh_put (C := RX3) (T := TX3) (N := 1) (t := .long) hx hb ht inX3 tyX3 tyX3_ok nmX3 hown hE.1 hP hS ha (hAa) rfl 0 (by decide) (ht _ kw_648) (fun _ h9 => h9) rfl (by decide +kernel) rfl rfl (Nat.le_of_ble_eq_true rfl) dX3_init_6 (fun H locs hP hz hS => ?_)
  obtain ⟨h_1, eh_1⟩ : ∃ z, z = fh_up h a (.inr (3, [.long x])) := ⟨_, rfl⟩
  have hP : fh_P G vwCl h_1 H := by rw [eh_1]; exact hP
  have f_1 : h_1 a = some (.inr (3, [.long x])) := by rw [eh_1]; exact fh_up_self _ _ _
  exact fh_vret hx hb hr hlocks (⟨rfl, by rw [eh_1]⟩) hP hS (Nat.le_of_ble_eq_true rfl) (Nat.le_of_ble_eq_true rfl) dX3_init_9
end
section
set_option maxRecDepth 100000 in
set_option maxHeartbeats 4000000 in
theorem c_Lk_init (l : Launch) (G : fG) (A : Nat → Prop) (h : FH) (sz : Nat) (hA : ∀ q, sz ≤ q → A q) (a : Nat) (hAa : A a) (ha : h a = some (.inr (4, [.null]))) : Met l yX4_init wsX4_init { frames := 1, cells := 1, slots := 10, locals := 12 } (va_Pc [.ref a] (fh_Pre G A h sz)) (fh_Q G (fun v u => ∃ q, sz ≤ q ∧ v = none ∧ u = fh_up (fh_up h q (aQ 6 10 (fun _ => none))) a (oLocks q)) A) 1 10 A := by
  refine fh_Met [.ref a] (by decide) rfl (Nat.le_of_ble_eq_true rfl) ?_
  intro p e s m below meth c hx hb hr hlocks hml hown hnm hts hsz hP hE hS ls hl
  have ht : ∀ w ∈ wB, w.before _ s = true := fun w h9 => hts w (List.mem_cons_of_mem _ h9)
  have hl : lv_has ls 1 [(0, .ref a)] := hl
  have hA0 : ∀ q, s.heap.size ≤ q → A q := fun q hq => hA q (by rw [← hsz]; exact hq)
  refine lv_aload_n hx hb dX4_init_0 rfl (lv_at hl 0 rfl) ?_
  refine W.objInit hx hb hown (ht _ kw_48) (ht _ kw_26) (ht _ kw_27) rfl (by rw [hml]; exact hl.1) rfl dX4_init_1 (Nat.le_of_ble_eq_true rfl) (Nat.le_of_ble_eq_true rfl) ?_
  refine W.eq (g2 := F0 m 4 ls []) rfl ?_
  refine lv_aload_n hx hb dX4_init_4 rfl (lv_at hl 0 rfl) ?_
  refine lv_bipush (v := (nI 10)) hx hb dX4_init_5 (by decide) ?_
  have hge1 := hS.1
  have hlt1 := fun (a9 : Nat) (e9 : fe) (q9 : h a9 = some e9) => hP.lt q9
  refine fh_newq (N' := 10) hx hb hown (ht _ kw_49) (hE.2.2.2.2.1 "ObjectMerge$Area" (by decide)) hE.1 hP hS hA0 6 rfl (by decide) (by decide) (by decide) (Nat.le_of_ble_eq_true rfl) (Nat.le_of_ble_eq_true rfl) dX4_init_7 (fun q H eq hAq hP hz_q hS => ?_)
  obtain ⟨h_2, eh_2⟩ : ∃ z, z = fh_up h q (.inl (6, 10, .inr (.inr (.inr (.inr (fun _ => none)))))) := ⟨_, rfl⟩
  have g_2_0 := (congrFun eh_2 a).trans (fh_keepN ha (Nat.ne_of_lt (by rw [eq]; exact hlt1 _ _ ha)))
  have hP : fh_P G vwCl h_2 H := by rw [eh_2]; exact hP
  have f_2 : h_2 q = some (.inl (6, 10, .inr (.inr (.inr (.inr (fun _ => none)))))) := by rw [eh_2]; exact fh_up_self _ _ _
  have hsz_q : sz ≤ q := by rw [eq, ← hsz]; exact hge1
  refine fh_putF (C := RX4) (T := TX4) (N := 1) (t := (.array (.object "ObjectMerge$Area"))) hx hb ht inX4 tyX4 tyX4_ok nmX4 hown hE.1 hP hS g_2_0 (hAa) rfl 0 (by decide) (ht _ kw_51) (fun _ h9 => h9) rfl hnm rfl (by decide +kernel) rfl rfl (Nat.le_of_ble_eq_true rfl) dX4_init_10 (fun H locs hP hz hS => ?_)
  obtain ⟨h_3, eh_3⟩ : ∃ z, z = fh_up h_2 a (.inr (4, [.ref q])) := ⟨_, rfl⟩
  have hP : fh_P G vwCl h_3 H := by rw [eh_3]; exact hP
  have f_3 : h_3 a = some (.inr (4, [.ref q])) := by rw [eh_3]; exact fh_up_self _ _ _
  have g_3_1 := (congrFun eh_3 q).trans (fh_keep g_2_0 f_2 rfl)
  exact fh_vret hx hb hr hlocks (⟨q, hsz_q, rfl, by rw [eh_3, eh_2]⟩) hP hS (Nat.le_of_ble_eq_true rfl) (Nat.le_of_ble_eq_true rfl) dX4_init_13

set_option maxRecDepth 100000 in
set_option maxHeartbeats 4000000 in
theorem c_Lk_bar (l : Launch) (G : fG) (A : Nat → Prop) (h : FH) (sz : Nat) (a b : Nat) (fa : Nat → Option Nat) (ar : Nat → Option Ar) (ha : h a = some (oLocks b)) (hb0 : h b = some (aQ 6 10 fa)) (har : ∀ i, i < 10 → pAr h (fa i) (ar i)) (sn : Int32) (r : Nat) (f : Rw) (hr0 : pRow h r f) : Met l yX4_bar wsX4_bar { frames := 1, cells := 0, slots := 0, locals := 24 } (va_Pc [.ref a, .int sn, .ref r] (fh_Pre G A h sz)) (fh_Q G (fun v u => v = some (.int (bI (lkBar ar sn (f 0) (f 1)))) ∧ u = h) A) 0 0 A := by
  refine fh_Met [.ref a, .int sn, .ref r] (by decide) rfl (Nat.le_of_ble_eq_true rfl) ?_
  intro p e s m below meth c hx hb hr hlocks hml hown hnm hts hsz hP hE hS ls hl
  have ht : ∀ w ∈ wB, w.before _ s = true := fun w h9 => hts w (List.mem_cons_of_mem _ h9)
  have hl : lv_has ls 5 [(0, .ref a), (1, .int sn), (2, .ref r)] := hl
  obtain ⟨rb, g0, hr1, hr2, hr3⟩ := hr0
  refine lv_iconst (v := (nI 0)) hx hb dX4_bar_0 (by decide) ?_
  refine lv_istore_n (lv' := [(3, .int (nI 0)), (0, .ref a), (1, .int sn), (2, .ref r)]) hx hb dX4_bar_1 rfl hl (by decide) rfl (fun ls hl => ?_)
  have loop : ∀ (n i : Nat), i + n = 10 → ∀ (_ : ∀ k, k < i → lkHit (ar k) sn (f 0) (f 1) = false), ∀ (H : Heap) (locs : List Loc) (ls : Array Slot), fh_P G vwCl h H → va_S A s.heap H locs → lv_has ls 5 [(3, .int (nI i)), (0, .ref a), (1, .int sn), (2, .ref r)] → W p l e (headSpec wsX4_bar { frames := 1, cells := 0, slots := 0, locals := 24 }).room s m [.ref a, .int sn, .ref r].toArray below meth c H locs 0 0 (MQ below (fh_Q G (fun v u => v = some (.int (bI (lkBar ar sn (f 0) (f 1)))) ∧ u = h) A) [.ref a, .int sn, .ref r].toArray s 0 0 A) (F0 m 2 ls []) := by
    intro n
    induction n with
    | zero =>
      intro i hin hk H locs ls hP hS hl
      refine lv_iload_n hx hb dX4_bar_2 rfl (lv_at hl 0 rfl) ?_
      refine lv_bipush (v := (nI 10)) hx hb dX4_bar_3 (by decide) ?_
      refine lv_icmp_ge (tgt := 56) hx hb dX4_bar_5 (by decide) (fun _ => ?_) (fun c9 => absurd (nI_le (by omega) (by omega)) c9)
      refine lv_iconst (v := (nI 0)) hx hb dX4_bar_56 (by decide) ?_
      exact fh_zret hx hb hr hlocks rfl (⟨congrArg (fun z => some (Value.int z)) (bI_0 (any10_f (fun k hk9 => hk k (by omega)))), rfl⟩) hP hS (Nat.le_of_ble_eq_true rfl) (Nat.le_of_ble_eq_true rfl) dX4_bar_57
    | succ n ih =>
      intro i hin hk H locs ls hP hS hl
      refine lv_iload_n hx hb dX4_bar_2 rfl (lv_at hl 0 rfl) ?_
      refine lv_bipush (v := (nI 10)) hx hb dX4_bar_3 (by decide) ?_
      refine lv_icmp_ge (tgt := 56) hx hb dX4_bar_5 (by decide) (fun c9 => absurd c9 (nI_ge (by omega) (by decide))) (fun _ => ?_)
      refine lv_aload_n hx hb dX4_bar_8 rfl (lv_at hl 1 rfl) ?_
      refine fh_get (C := RX4) (T := TX4) (N := 1) hx hb ht inX4 hown hE.1 hP ha rfl 0 (by decide) (ht _ kw_51) (fun _ h9 => h9) (v := .ref b) rfl dX4_bar_9 ?_
      refine lv_iload_n hx hb dX4_bar_12 rfl (lv_at hl 0 rfl) ?_
      refine fh_aald (k := i) hx hb hE.1 hP hb0 rfl (by omega) (by decide) dX4_bar_13 ?_
      have hi := har i (by omega)
      generalize efi : fa i = o at hi ⊢
      refine fh_astore (lv' := [(4, va_rf o), (3, .int (nI i)), (0, .ref a), (1, .int sn), (2, .ref r)]) hx hb dX4_bar_14 hl (by decide) rfl (fun ls hl => ?_)
      refine fh_aload hx hb dX4_bar_16 (lv_at hl 0 rfl) ?_
      refine fh_ifnull (tgt := 50) hx hb dX4_bar_18 (by decide) (fun eo => ?_) (fun x eo => ?_)
      · subst eo; have e8 := pAr_none hi
        have hl : lv_has ls 5 [(4, .null), (3, .int (nI i)), (0, .ref a), (1, .int sn), (2, .ref r)] := hl
        refine lv_iinc (v := nI (i + 1)) (lv' := [(3, .int (nI (i + 1))), (4, .null), (0, .ref a), (1, .int sn), (2, .ref r)]) hx hb dX4_bar_50 hl (k := 1) rfl (nI_1 _) (by decide) rfl (fun ls hl => ?_)
        refine lv_goto (tgt := 2) hx hb dX4_bar_53 (by decide) ?_
        exact ih (i + 1) (by omega) (lt_s hk (by rw [e8]; rfl)) H locs ls hP hS (lv_sub hl [0, 2, 3, 4] rfl)
      · subst eo; obtain ⟨x1, e8, hx1⟩ := pAr_some hi
        have hl : lv_has ls 5 [(4, .ref x), (3, .int (nI i)), (0, .ref a), (1, .int sn), (2, .ref r)] := hl
        refine lv_aload hx hb dX4_bar_21 (lv_at hl 0 rfl) ?_
        refine fh_get (C := RX0) (T := TX0) (N := 5) hx hb ht inX0 hown hE.1 hP hx1 rfl 0 (by decide) (ht _ kw_517) (fun _ h9 => h9) (v := .int x1.1) rfl dX4_bar_23 ?_
        refine lv_iload_n hx hb dX4_bar_26 rfl (lv_at hl 3 rfl) ?_
        refine lv_icmp_eq (tgt := 50) hx hb dX4_bar_27 (by decide) (fun c1 => ?_) (fun c1 => ?_)
        · refine lv_iinc (v := nI (i + 1)) (lv' := [(3, .int (nI (i + 1))), (4, .ref x), (0, .ref a), (1, .int sn), (2, .ref r)]) hx hb dX4_bar_50 hl (k := 1) rfl (nI_1 _) (by decide) rfl (fun ls hl => ?_)
          refine lv_goto (tgt := 2) hx hb dX4_bar_53 (by decide) ?_
          exact ih (i + 1) (by omega) (lt_s hk (by rw [e8]; simp [lkHit, c1])) H locs ls hP hS (lv_sub hl [0, 2, 3, 4] rfl)
        · refine lv_aload hx hb dX4_bar_30 (lv_at hl 0 rfl) ?_
          refine lv_aload_n hx hb dX4_bar_32 rfl (lv_at hl 4 rfl) ?_
          refine lv_iconst (v := (nI 0)) hx hb dX4_bar_33 (by decide) ?_
          refine fh_cV (q := (RX5, TX5, 1)) (As := [.int (nI 0)]) (rest := [.ref x]) (b := r) ⟨hx, hb, hml, hown, ht⟩ (c_Row_value l G A h _ r rb 0 g0 hr1 hr2 (by decide)) (cwV 1 ht (gV kw_354 kw_347 kw_348 kw_10 kw_349) rfl rfl rfl yd_X5_value ⟨(Nat.le_of_ble_eq_true rfl), (Nat.le_of_ble_eq_true rfl)⟩) hP hE hS hr1 rfl rfl hl.1 rfl (Nat.le_of_ble_eq_true rfl) dX4_bar_34 ⟨(Nat.le_of_ble_eq_true rfl), (Nat.le_of_ble_eq_true rfl)⟩ (fun v u H locs hp hP hz hS => ?_)
          obtain ⟨rfl, eu⟩ := hp
          rw [eu] at hP
          refine W.eq (g2 := F0 m 37 ls [.long (g0 0), .ref x]) rfl ?_
          refine lv_aload_n hx hb dX4_bar_37 rfl (lv_at hl 4 rfl) ?_
          refine lv_iconst (v := (nI 1)) hx hb dX4_bar_38 (by decide) ?_
          refine fh_cV (q := (RX5, TX5, 1)) (As := [.int (nI 1)]) (rest := [.long (g0 0), .ref x]) (b := r) ⟨hx, hb, hml, hown, ht⟩ (c_Row_value l G A h _ r rb 1 g0 hr1 hr2 (by decide)) (cwV 1 ht (gV kw_354 kw_347 kw_348 kw_10 kw_349) rfl rfl rfl yd_X5_value ⟨(Nat.le_of_ble_eq_true rfl), (Nat.le_of_ble_eq_true rfl)⟩) hP hE hS hr1 rfl rfl hl.1 rfl (Nat.le_of_ble_eq_true rfl) dX4_bar_39 ⟨(Nat.le_of_ble_eq_true rfl), (Nat.le_of_ble_eq_true rfl)⟩ (fun v u H locs hp hP hz hS => ?_)
          obtain ⟨rfl, eu⟩ := hp
          rw [eu] at hP
          refine W.eq (g2 := F0 m 42 ls [.long (g0 1), .long (g0 0), .ref x]) rfl ?_
          refine fh_cV (q := (RX0, TX0, 5)) (As := [.long (g0 0), .long (g0 1)]) (rest := []) (b := x) ⟨hx, hb, hml, hown, ht⟩ (c_Area_holds l G A h _ x x1.1 x1.2.1 x1.2.2.1 x1.2.2.2.1 x1.2.2.2.2 (g0 0) (g0 1) hx1) (cwV 2 ht (gV kw_355 kw_356 kw_357 kw_16 kw_358) rfl rfl rfl yd_X0_holds ⟨(Nat.le_of_ble_eq_true rfl), (Nat.le_of_ble_eq_true rfl)⟩) hP hE hS hx1 rfl rfl hl.1 rfl (Nat.le_of_ble_eq_true rfl) dX4_bar_42 ⟨(Nat.le_of_ble_eq_true rfl), (Nat.le_of_ble_eq_true rfl)⟩ (fun v u H locs hp hP hz hS => ?_)
          obtain ⟨rfl, eu⟩ := hp
          rw [eu] at hP
          refine W.eq (g2 := F0 m 45 ls [.int (bI (arHolds x1.2.1 x1.2.2.1 x1.2.2.2.1 x1.2.2.2.2 (g0 0) (g0 1)))]) rfl ?_
          rw [hr3 0 (by decide), hr3 1 (by decide)]
          refine lv_if_eq (tgt := 50) hx hb dX4_bar_45 (by decide) (fun c2 => ?_) (fun c2 => ?_)
          · refine lv_iinc (v := nI (i + 1)) (lv' := [(3, .int (nI (i + 1))), (4, .ref x), (0, .ref a), (1, .int sn), (2, .ref r)]) hx hb dX4_bar_50 hl (k := 1) rfl (nI_1 _) (by decide) rfl (fun ls hl => ?_)
            refine lv_goto (tgt := 2) hx hb dX4_bar_53 (by decide) ?_
            exact ih (i + 1) (by omega) (lt_s hk (by rw [e8]; simp [lkHit, bI_eq.mp c2])) H locs ls hP hS (lv_sub hl [0, 2, 3, 4] rfl)
          · refine lv_iconst (v := (nI 1)) hx hb dX4_bar_48 (by decide) ?_
            exact fh_zret hx hb hr hlocks rfl (⟨congrArg (fun z => some (Value.int z)) (bI_1 (any10_t (i := i) (by omega) (by rw [e8]; simp [lkHit, c1, show arHolds x1.2.1 x1.2.2.1 x1.2.2.2.1 x1.2.2.2.2 (f 0) (f 1) = true from by cases hq : arHolds x1.2.1 x1.2.2.1 x1.2.2.2.1 x1.2.2.2.2 (f 0) (f 1) with | true => rfl | false => exact absurd (bI_eq.mpr hq) c2]))), rfl⟩) hP hS (Nat.le_of_ble_eq_true rfl) (Nat.le_of_ble_eq_true rfl) dX4_bar_49
  exact loop 10 0 (by omega) (fun k hk => absurd hk (Nat.not_lt_zero k)) _ _ _ hP hS hl
end
section
set_option maxRecDepth 100000 in
set_option maxHeartbeats 4000000 in
theorem c_Lk_release (l : Launch) (G : fG) (A : Nat → Prop) (h : FH) (sz : Nat) (a b : Nat) (fa : Nat → Option Nat) (ar : Nat → Option Ar) (ha : h a = some (oLocks b)) (hb0 : h b = some (aQ 6 10 fa)) (hAb : A b) (har : ∀ i, i < 10 → pAr h (fa i) (ar i)) (sn : Int32) : Met l yX4_release wsX4_release { frames := 0, cells := 0, slots := 0, locals := 0 } (va_Pc [.ref a, .int sn] (fh_Pre G A h sz)) (fh_Q G (fun v u => ∃ gg, v = none ∧ u = fh_up h b (aQ 6 10 gg) ∧ ∀ i, i < 10 → gg i = if lkOwn (ar i) sn = true then none else fa i) A) 0 0 A := by
  refine fh_Met [.ref a, .int sn] (by decide) rfl (Nat.le_of_ble_eq_true rfl) ?_
  intro p e s m below meth c hx hb hr hlocks hml hown hnm hts hsz hP hE hS ls hl
  have ht : ∀ w ∈ wB, w.before _ s = true := fun w h9 => hts w (List.mem_cons_of_mem _ h9)
  have hl : lv_has ls 4 [(0, .ref a), (1, .int sn)] := hl
  refine lv_iconst (v := (nI 0)) hx hb dX4_release_0 (by decide) ?_
  refine lv_istore_n (lv' := [(2, .int (nI 0)), (0, .ref a), (1, .int sn)]) hx hb dX4_release_1 rfl hl (by decide) rfl (fun ls hl => ?_)
  have loop : ∀ (n i : Nat), i + n = 10 → ∀ (gg : Nat → Option Nat) (_ : ∀ k, k < i → gg k = if lkOwn (ar k) sn = true then none else fa k) (_ : ∀ k, i ≤ k → gg k = fa k), ∀ (H : Heap) (locs : List Loc) (ls : Array Slot), fh_P G vwCl (fh_up h b (aQ 6 10 gg)) H → va_S A s.heap H locs → lv_has ls 4 [(2, .int (nI i)), (0, .ref a), (1, .int sn)] → W p l e (headSpec wsX4_release { frames := 0, cells := 0, slots := 0, locals := 0 }).room s m [.ref a, .int sn].toArray below meth c H locs 0 0 (MQ below (fh_Q G (fun v u => ∃ gg, v = none ∧ u = fh_up h b (aQ 6 10 gg) ∧ ∀ i, i < 10 → gg i = if lkOwn (ar i) sn = true then none else fa i) A) [.ref a, .int sn].toArray s 0 0 A) (F0 m 2 ls []) := by
    intro n
    induction n with
    | zero =>
      intro i hin gg h1 h2 H locs ls hP hS hl
      refine lv_iload_n hx hb dX4_release_2 rfl (lv_at hl 0 rfl) ?_
      refine lv_bipush (v := (nI 10)) hx hb dX4_release_3 (by decide) ?_
      refine lv_icmp_ge (tgt := 40) hx hb dX4_release_5 (by decide) (fun _ => ?_) (fun c9 => absurd (nI_le (by omega) (by omega)) c9)
      exact fh_vret hx hb hr hlocks (⟨gg, rfl, rfl, fun k hk => h1 k (by omega)⟩) hP hS (Nat.le_of_ble_eq_true rfl) (Nat.le_of_ble_eq_true rfl) dX4_release_40
    | succ n ih =>
      intro i hin gg h1 h2 H locs ls hP hS hl
      refine lv_iload_n hx hb dX4_release_2 rfl (lv_at hl 0 rfl) ?_
      refine lv_bipush (v := (nI 10)) hx hb dX4_release_3 (by decide) ?_
      refine lv_icmp_ge (tgt := 40) hx hb dX4_release_5 (by decide) (fun c9 => absurd c9 (nI_ge (by omega) (by decide))) (fun _ => ?_)
      refine lv_aload_n hx hb dX4_release_8 rfl (lv_at hl 1 rfl) ?_
      refine fh_get (C := RX4) (T := TX4) (N := 1) hx hb ht inX4 hown hE.1 hP (fh_keep hb0 ha rfl) rfl 0 (by decide) (ht _ kw_51) (fun _ h9 => h9) (v := .ref b) rfl dX4_release_9 ?_
      refine lv_iload_n hx hb dX4_release_12 rfl (lv_at hl 0 rfl) ?_
      refine fh_aald (k := i) hx hb hE.1 hP (fh_up_self h b (aQ 6 10 gg)) rfl (by omega) (by decide) dX4_release_13 ?_
      rw [h2 i (Nat.le_refl i)]
      have hi := har i (by omega)
      generalize efi : fa i = o at hi ⊢
      refine fh_astore_n (lv' := [(3, va_rf o), (2, .int (nI i)), (0, .ref a), (1, .int sn)]) hx hb dX4_release_14 rfl hl (by decide) rfl (fun ls hl => ?_)
      refine fh_aload_n hx hb dX4_release_15 rfl (lv_at hl 0 rfl) ?_
      refine fh_ifnull (tgt := 34) hx hb dX4_release_16 (by decide) (fun eo => ?_) (fun x eo => ?_)
      · subst eo; have e8 := pAr_none hi
        have hl : lv_has ls 4 [(3, .null), (2, .int (nI i)), (0, .ref a), (1, .int sn)] := hl
        refine lv_iinc (v := nI (i + 1)) (lv' := [(2, .int (nI (i + 1))), (3, .null), (0, .ref a), (1, .int sn)]) hx hb dX4_release_34 hl (k := 1) rfl (nI_1 _) (by decide) rfl (fun ls hl => ?_)
        refine lv_goto (tgt := 2) hx hb dX4_release_37 (by decide) ?_
        exact ih (i + 1) (by omega) gg (lt_s h1 (by rw [h2 i (Nat.le_refl i), e8, efi]; simp [lkOwn])) (fun k hk => h2 k (by omega)) H locs ls hP hS (lv_sub hl [0, 2, 3] rfl)
      · subst eo; obtain ⟨x1, e8, hx1⟩ := pAr_some hi
        have hl : lv_has ls 4 [(3, .ref x), (2, .int (nI i)), (0, .ref a), (1, .int sn)] := hl
        have hx2 : fh_up h b (aQ 6 10 gg) x = some (oAr x1) := fh_keep hb0 hx1 rfl
        refine lv_aload_n hx hb dX4_release_19 rfl (lv_at hl 0 rfl) ?_
        refine fh_get (C := RX0) (T := TX0) (N := 5) hx hb ht inX0 hown hE.1 hP hx2 rfl 0 (by decide) (ht _ kw_517) (fun _ h9 => h9) (v := .int x1.1) rfl dX4_release_20 ?_
        refine lv_iload_n hx hb dX4_release_23 rfl (lv_at hl 3 rfl) ?_
        refine lv_icmp_ne (tgt := 34) hx hb dX4_release_24 (by decide) (fun c1 => ?_) (fun c1 => ?_)
        · refine lv_iinc (v := nI (i + 1)) (lv' := [(2, .int (nI (i + 1))), (3, .ref x), (0, .ref a), (1, .int sn)]) hx hb dX4_release_34 hl (k := 1) rfl (nI_1 _) (by decide) rfl (fun ls hl => ?_)
          refine lv_goto (tgt := 2) hx hb dX4_release_37 (by decide) ?_
          exact ih (i + 1) (by omega) gg (lt_s h1 (by rw [h2 i (Nat.le_refl i), e8, efi]; simp [lkOwn, c1])) (fun k hk => h2 k (by omega)) H locs ls hP hS (lv_sub hl [0, 2, 3] rfl)
        · refine lv_aload_n hx hb dX4_release_27 rfl (lv_at hl 2 rfl) ?_
          refine fh_get (C := RX4) (T := TX4) (N := 1) hx hb ht inX4 hown hE.1 hP (fh_keep hb0 ha rfl) rfl 0 (by decide) (ht _ kw_51) (fun _ h9 => h9) (v := .ref b) rfl dX4_release_28 ?_
          refine lv_iload_n hx hb dX4_release_31 rfl (lv_at hl 1 rfl) ?_
          refine lv_null hx hb dX4_release_32 ?_
          refine fh_aastN (k := i) hx hb hE.1 hP hS (fh_up_self h b (aQ 6 10 gg)) (hAb) rfl (by omega) (by decide) dX4_release_33 (fun H locs hP hz hS => ?_)
          obtain ⟨h_1, eh_1⟩ : ∃ z, z = fh_up (fh_up h b (aQ 6 10 gg)) b (.inl (6, 10, .inr (.inr (.inr (.inr (va_up gg i none)))))) := ⟨_, rfl⟩
          have hP : fh_P G vwCl h_1 H := by rw [eh_1]; exact hP
          have f_1 : h_1 b = some (.inl (6, 10, .inr (.inr (.inr (.inr (va_up gg i none)))))) := by rw [eh_1]; exact fh_up_self _ _ _
          have g_1_0 := (congrFun eh_1 a).trans (fh_keep (fh_up_self h b (aQ 6 10 gg)) (fh_keep hb0 ha rfl) rfl)
          have g_1_2 := (congrFun eh_1 x).trans (fh_keep (fh_up_self h b (aQ 6 10 gg)) hx2 rfl)
          have hP : fh_P G vwCl (fh_up h b (aQ 6 10 (va_up gg i none))) H := by rw [eh_1, fh_upup] at hP; exact hP
          refine lv_iinc (v := nI (i + 1)) (lv' := [(2, .int (nI (i + 1))), (3, .ref x), (0, .ref a), (1, .int sn)]) hx hb dX4_release_34 hl (k := 1) rfl (nI_1 _) (by decide) rfl (fun ls hl => ?_)
          refine lv_goto (tgt := 2) hx hb dX4_release_37 (by decide) ?_
          exact ih (i + 1) (by omega) (va_up gg i none) (lt_s (fun k hk => (va_up_ne _ _ (by omega)).trans (h1 k hk)) ((va_up_self _ _ _).trans (by rw [e8]; simp [lkOwn, c1]))) (fun k hk => (va_up_ne _ _ (by omega)).trans (h2 k (by omega))) H locs ls hP hS (lv_sub hl [0, 2, 3] rfl)
  exact loop 10 0 (by omega) fa (fun k hk => absurd hk (Nat.not_lt_zero k)) (fun _ _ => rfl) _ _ _ (by rw [fh_up_same hb0]; exact hP) hS hl

set_option maxRecDepth 100000 in
set_option maxHeartbeats 4000000 in
theorem c_Lk_add (l : Launch) (G : fG) (A : Nat → Prop) (h : FH) (sz : Nat) (a b : Nat) (fa : Nat → Option Nat) (ar : Nat → Option Ar) (ha : h a = some (oLocks b)) (hb0 : h b = some (aQ 6 10 fa)) (hAb : A b) (har : ∀ i, i < 10 → pAr h (fa i) (ar i)) (d : Nat) (dv : Ar) (hd : h d = some (oAr dv)) : Met l yX4_add wsX4_add { frames := 1, cells := 0, slots := 0, locals := 24 } (va_Pc [.ref a, .ref d] (fh_Pre G A h sz)) (fh_Q G (fun v u => (v = some (.int 0) ∧ u = h ∧ (lkClash ar dv = true ∨ ∀ i, i < 10 → ar i ≠ none)) ∨ (v = some (.int 1) ∧ lkClash ar dv = false ∧ ∃ k, k < 10 ∧ ar k = none ∧ u = fh_up h b (aQ 6 10 (va_up fa k (some d))))) A) 0 0 A := by
  refine fh_Met [.ref a, .ref d] (by decide) rfl (Nat.le_of_ble_eq_true rfl) ?_
  intro p e s m below meth c hx hb hr hlocks hml hown hnm hts hsz hP hE hS ls hl
  have ht : ∀ w ∈ wB, w.before _ s = true := fun w h9 => hts w (List.mem_cons_of_mem _ h9)
  have hl : lv_has ls 5 [(0, .ref a), (1, .ref d)] := hl
  refine lv_iconst (v := (-1)) hx hb dX4_add_0 (by decide) ?_
  refine lv_istore_n (lv' := [(2, .int (-1)), (0, .ref a), (1, .ref d)]) hx hb dX4_add_1 rfl hl (by decide) rfl (fun ls hl => ?_)
  refine lv_iconst (v := (nI 0)) hx hb dX4_add_2 (by decide) ?_
  refine lv_istore_n (lv' := [(3, .int (nI 0)), (2, .int (-1)), (0, .ref a), (1, .ref d)]) hx hb dX4_add_3 rfl hl (by decide) rfl (fun ls hl => ?_)
  have loop : ∀ (n i : Nat), i + n = 10 → ∀ (fr : Int32) (_ : (fr = -1 ∧ ∀ k, k < i → ar k ≠ none) ∨ ∃ k, k < 10 ∧ fr = nI k ∧ ar k = none) (_ : ∀ k, k < i → lkMeet (ar k) dv = false), ∀ (H : Heap) (locs : List Loc) (ls : Array Slot), fh_P G vwCl h H → va_S A s.heap H locs → lv_has ls 5 [(3, .int (nI i)), (2, .int fr), (0, .ref a), (1, .ref d)] → W p l e (headSpec wsX4_add { frames := 1, cells := 0, slots := 0, locals := 24 }).room s m [.ref a, .ref d].toArray below meth c H locs 0 0 (MQ below (fh_Q G (fun v u => (v = some (.int 0) ∧ u = h ∧ (lkClash ar dv = true ∨ ∀ i, i < 10 → ar i ≠ none)) ∨ (v = some (.int 1) ∧ lkClash ar dv = false ∧ ∃ k, k < 10 ∧ ar k = none ∧ u = fh_up h b (aQ 6 10 (va_up fa k (some d))))) A) [.ref a, .ref d].toArray s 0 0 A) (F0 m 4 ls []) := by
    intro n
    induction n with
    | zero =>
      intro i hin fr h1 h2 H locs ls hP hS hl
      have hcl : lkClash ar dv = false := by cases hq : lkClash ar dv with
        | false => rfl
        | true => exact absurd hq (any10_f (fun k hk => h2 k (by omega)))
      refine lv_iload_n hx hb dX4_add_4 rfl (lv_at hl 0 rfl) ?_
      refine lv_bipush (v := (nI 10)) hx hb dX4_add_5 (by decide) ?_
      refine lv_icmp_ge (tgt := 57) hx hb dX4_add_7 (by decide) (fun _ => ?_) (fun c9 => absurd (nI_le (by omega) (by omega)) c9)
      refine lv_iload_n hx hb dX4_add_57 rfl (lv_at hl 1 rfl) ?_
      rcases h1 with ⟨rfl, hf⟩ | ⟨k, hk, rfl, hn⟩
      · refine lv_if_ge (tgt := 63) hx hb dX4_add_58 (by decide) (fun c9 => absurd c9 (by decide)) (fun _ => ?_)
        refine lv_iconst (v := (nI 0)) hx hb dX4_add_61 (by decide) ?_
        exact fh_zret hx hb hr hlocks rfl (Or.inl ⟨rfl, rfl, Or.inr (fun k hk => hf k (by omega))⟩) hP hS (Nat.le_of_ble_eq_true rfl) (Nat.le_of_ble_eq_true rfl) dX4_add_62
      · refine lv_if_ge (tgt := 63) hx hb dX4_add_58 (by decide) (fun _ => ?_) (fun c9 => absurd (nI_pos' (by omega)) c9)
        refine lv_aload_n hx hb dX4_add_63 rfl (lv_at hl 2 rfl) ?_
        refine fh_get (C := RX4) (T := TX4) (N := 1) hx hb ht inX4 hown hE.1 hP ha rfl 0 (by decide) (ht _ kw_51) (fun _ h9 => h9) (v := .ref b) rfl dX4_add_64 ?_
        refine lv_iload_n hx hb dX4_add_67 rfl (lv_at hl 1 rfl) ?_
        refine lv_aload_n hx hb dX4_add_68 rfl (lv_at hl 3 rfl) ?_
        refine fh_aast (k := k) hx hb hE.1 hP hS hb0 (hAb) rfl hd rfl (hk) (by decide) dX4_add_69 (fun H locs hP hz hS => ?_)
        obtain ⟨h_1, eh_1⟩ : ∃ z, z = fh_up h b (.inl (6, 10, .inr (.inr (.inr (.inr (va_up fa k (some d))))))) := ⟨_, rfl⟩
        have hP : fh_P G vwCl h_1 H := by rw [eh_1]; exact hP
        have f_1 : h_1 b = some (.inl (6, 10, .inr (.inr (.inr (.inr (va_up fa k (some d))))))) := by rw [eh_1]; exact fh_up_self _ _ _
        have g_1_0 := (congrFun eh_1 a).trans (fh_keep hb0 ha rfl)
        have g_1_2 := (congrFun eh_1 d).trans (fh_keep hb0 hd rfl)
        refine lv_iconst (v := (nI 1)) hx hb dX4_add_70 (by decide) ?_
        exact fh_zret hx hb hr hlocks rfl (Or.inr ⟨rfl, hcl, k, hk, hn, by rw [eh_1]⟩) hP hS (Nat.le_of_ble_eq_true rfl) (Nat.le_of_ble_eq_true rfl) dX4_add_71
    | succ n ih =>
      intro i hin fr h1 h2 H locs ls hP hS hl
      refine lv_iload_n hx hb dX4_add_4 rfl (lv_at hl 0 rfl) ?_
      refine lv_bipush (v := (nI 10)) hx hb dX4_add_5 (by decide) ?_
      refine lv_icmp_ge (tgt := 57) hx hb dX4_add_7 (by decide) (fun c9 => absurd c9 (nI_ge (by omega) (by decide))) (fun _ => ?_)
      refine lv_aload_n hx hb dX4_add_10 rfl (lv_at hl 2 rfl) ?_
      refine fh_get (C := RX4) (T := TX4) (N := 1) hx hb ht inX4 hown hE.1 hP ha rfl 0 (by decide) (ht _ kw_51) (fun _ h9 => h9) (v := .ref b) rfl dX4_add_11 ?_
      refine lv_iload_n hx hb dX4_add_14 rfl (lv_at hl 0 rfl) ?_
      refine fh_aald (k := i) hx hb hE.1 hP hb0 rfl (by omega) (by decide) dX4_add_15 ?_
      have hi := har i (by omega)
      generalize efi : fa i = o at hi ⊢
      refine fh_astore (lv' := [(4, va_rf o), (3, .int (nI i)), (2, .int fr), (0, .ref a), (1, .ref d)]) hx hb dX4_add_16 hl (by decide) rfl (fun ls hl => ?_)
      refine fh_aload hx hb dX4_add_18 (lv_at hl 0 rfl) ?_
      refine fh_ifnonnull (tgt := 28) hx hb dX4_add_20 (by decide) (fun eo => ?_) (fun x eo => ?_)
      · subst eo; have e8 := pAr_none hi
        have hl : lv_has ls 5 [(4, .null), (3, .int (nI i)), (2, .int fr), (0, .ref a), (1, .ref d)] := hl
        refine lv_iload_n hx hb dX4_add_23 rfl (lv_at hl 1 rfl) ?_
        refine lv_istore_n (lv' := [(2, .int (nI i)), (4, .null), (3, .int (nI i)), (0, .ref a), (1, .ref d)]) hx hb dX4_add_24 rfl hl (by decide) rfl (fun ls hl => ?_)
        refine lv_goto (tgt := 51) hx hb dX4_add_25 (by decide) ?_
        refine lv_iinc (v := nI (i + 1)) (lv' := [(3, .int (nI (i + 1))), (2, .int (nI i)), (4, .null), (0, .ref a), (1, .ref d)]) hx hb dX4_add_51 hl (k := 2) rfl (nI_1 _) (by decide) rfl (fun ls hl => ?_)
        refine lv_goto (tgt := 4) hx hb dX4_add_54 (by decide) ?_
        exact ih (i + 1) (by omega) (nI i) (Or.inr ⟨i, by omega, rfl, e8⟩) (lt_s h2 (by rw [e8]; rfl)) H locs ls hP hS (lv_sub hl [0, 1, 3, 4] rfl)
      · subst eo; obtain ⟨x1, e8, hx1⟩ := pAr_some hi
        have hl : lv_has ls 5 [(4, .ref x), (3, .int (nI i)), (2, .int fr), (0, .ref a), (1, .ref d)] := hl
        have h3 : (fr = -1 ∧ ∀ k, k < i + 1 → ar k ≠ none) ∨ ∃ k, k < 10 ∧ fr = nI k ∧ ar k = none := h1.imp (fun z => ⟨z.1, lt_s z.2 (by rw [e8]; exact fun q => nomatch q)⟩) id
        refine lv_aload hx hb dX4_add_28 (lv_at hl 0 rfl) ?_
        refine fh_get (C := RX0) (T := TX0) (N := 5) hx hb ht inX0 hown hE.1 hP hx1 rfl 0 (by decide) (ht _ kw_517) (fun _ h9 => h9) (v := .int x1.1) rfl dX4_add_30 ?_
        refine lv_aload_n hx hb dX4_add_33 rfl (lv_at hl 4 rfl) ?_
        refine fh_get (C := RX0) (T := TX0) (N := 5) hx hb ht inX0 hown hE.1 hP hd rfl 0 (by decide) (ht _ kw_517) (fun _ h9 => h9) (v := .int dv.1) rfl dX4_add_34 ?_
        refine lv_icmp_eq (tgt := 51) hx hb dX4_add_37 (by decide) (fun c1 => ?_) (fun c1 => ?_)
        · refine lv_iinc (v := nI (i + 1)) (lv' := [(3, .int (nI (i + 1))), (4, .ref x), (2, .int fr), (0, .ref a), (1, .ref d)]) hx hb dX4_add_51 hl (k := 1) rfl (nI_1 _) (by decide) rfl (fun ls hl => ?_)
          refine lv_goto (tgt := 4) hx hb dX4_add_54 (by decide) ?_
          exact ih (i + 1) (by omega) fr (h3) (lt_s h2 (by rw [e8]; simp [lkMeet, c1])) H locs ls hP hS (lv_sub hl [0, 2, 3, 4] rfl)
        · refine lv_aload hx hb dX4_add_40 (lv_at hl 0 rfl) ?_
          refine lv_aload_n hx hb dX4_add_42 rfl (lv_at hl 4 rfl) ?_
          refine fh_cV (q := (RX0, TX0, 5)) (As := [.ref d]) (rest := []) (b := x) ⟨hx, hb, hml, hown, ht⟩ (c_Area_meets l G A h _ x d x1.1 x1.2.1 x1.2.2.1 x1.2.2.2.1 x1.2.2.2.2 dv.1 dv.2.1 dv.2.2.1 dv.2.2.2.1 dv.2.2.2.2 hx1 hd) (cwV 1 ht (gV kw_537 kw_538 kw_539 kw_16 kw_540) rfl rfl rfl yd_X0_meets ⟨(Nat.le_of_ble_eq_true rfl), (Nat.le_of_ble_eq_true rfl)⟩) hP hE hS hx1 rfl rfl hl.1 rfl (Nat.le_of_ble_eq_true rfl) dX4_add_43 ⟨(Nat.le_of_ble_eq_true rfl), (Nat.le_of_ble_eq_true rfl)⟩ (fun v u H locs hp hP hz hS => ?_)
          obtain ⟨rfl, eu⟩ := hp
          rw [eu] at hP
          refine W.eq (g2 := F0 m 46 ls [.int (bI (arMeets x1.2.1 x1.2.2.1 x1.2.2.2.1 x1.2.2.2.2 dv.2.1 dv.2.2.1 dv.2.2.2.1 dv.2.2.2.2))]) rfl ?_
          refine lv_if_eq (tgt := 51) hx hb dX4_add_46 (by decide) (fun c2 => ?_) (fun c2 => ?_)
          · refine lv_iinc (v := nI (i + 1)) (lv' := [(3, .int (nI (i + 1))), (4, .ref x), (2, .int fr), (0, .ref a), (1, .ref d)]) hx hb dX4_add_51 hl (k := 1) rfl (nI_1 _) (by decide) rfl (fun ls hl => ?_)
            refine lv_goto (tgt := 4) hx hb dX4_add_54 (by decide) ?_
            exact ih (i + 1) (by omega) fr (h3) (lt_s h2 (by rw [e8]; simp [lkMeet, bI_eq.mp c2])) H locs ls hP hS (lv_sub hl [0, 2, 3, 4] rfl)
          · refine lv_iconst (v := (nI 0)) hx hb dX4_add_49 (by decide) ?_
            exact fh_zret hx hb hr hlocks rfl (Or.inl ⟨rfl, rfl, Or.inl (any10_t (i := i) (by omega) (by rw [e8]; simp [lkMeet, c1, bI_nz c2]))⟩) hP hS (Nat.le_of_ble_eq_true rfl) (Nat.le_of_ble_eq_true rfl) dX4_add_50
  exact loop 10 0 (by omega) (-1) (Or.inl ⟨rfl, fun k hk => absurd hk (Nat.not_lt_zero k)⟩) (fun k hk => absurd hk (Nat.not_lt_zero k)) _ _ _ hP hS hl
end
section
set_option maxRecDepth 100000 in
set_option maxHeartbeats 4000000 in
theorem c_Chg_keep (l : Launch) (G : fG) (A : Nat → Prop) (h : FH) (sz : Nat) (a ob rw nx ct : Nat) (fo : Nat → Int32) (fr : Nat → Option Nat) (ha : h a = some (oChg ob rw (nI nx) (nI ct))) (ho : h ob = some (aI 2 40 fo)) (hr0 : h rw = some (aQ 3 40 fr)) (hn : nx < 40) (hc : ct ≤ 40) (hAa : A a) (hAo : A ob) (hAr : A rw) (x : Int32) (o : Option Nat) (hov : ∀ r, o = some r → ∃ vs, h r = some (.inr (5, vs))) : Met l yX1_keep wsX1_keep { frames := 1, cells := 0, slots := 0, locals := 22 } (va_Pc [.ref a, .int x, va_rf o] (fh_Pre G A h sz)) (fh_Q G (fun v u => v = none ∧ u = fh_up (fh_up (fh_up h ob (aI 2 40 (upd fo nx x))) rw (aQ 3 40 (va_up fr nx o))) a (oChg ob rw (nI (if nx + 1 < 40 then nx + 1 else 0)) (nI (if ct < 40 then ct + 1 else 40)))) A) 0 0 A := by
  refine fh_Met [.ref a, .int x, va_rf o] (by decide) rfl (by cases o <;> exact (Nat.le_of_ble_eq_true rfl)) ?_
  intro p e s m below meth c hx hb hr hlocks hml hown hnm hts hsz hP hE hS ls hl
  have ht : ∀ w ∈ wB, w.before _ s = true := fun w h9 => hts w (List.mem_cons_of_mem _ h9)
  have e9 : lv_args 0 [.ref a, .int x, va_rf o] = [(0, .ref a), (1, .int x), (2, va_rf o)] := by cases o <;> rfl
  rw [e9] at hl
  refine lv_aload_n hx hb dX1_keep_0 rfl (lv_at hl 0 rfl) ?_
  refine fh_get (C := RX1) (T := TX1) (N := 4) hx hb ht inX1 hown hE.1 hP ha rfl 0 (by decide) (ht _ kw_129) (fun _ h9 => h9) (v := .ref ob) rfl dX1_keep_1 ?_
  refine lv_aload_n hx hb dX1_keep_4 rfl (lv_at hl 0 rfl) ?_
  refine fh_get (C := RX1) (T := TX1) (N := 4) hx hb ht inX1 hown hE.1 hP ha rfl 2 (by decide) (ht _ kw_131) (fun _ h9 => h9) (v := .int (nI nx)) rfl dX1_keep_5 ?_
  refine lv_iload_n hx hb dX1_keep_8 rfl (lv_at hl 1 rfl) ?_
  refine fh_iast (k := nx) hx hb hE.1 hP hS ho (hAo) rfl (hn) (by decide) dX1_keep_9 (fun H locs hP hz hS => ?_)
  obtain ⟨h_1, eh_1⟩ : ∃ z, z = fh_up h ob (.inl (2, 40, .inl (upd fo nx x))) := ⟨_, rfl⟩
  have hP : fh_P G vwCl h_1 H := by rw [eh_1]; exact hP
  have f_1 : h_1 ob = some (.inl (2, 40, .inl (upd fo nx x))) := by rw [eh_1]; exact fh_up_self _ _ _
  have g_1_0 := (congrFun eh_1 a).trans (fh_keep ho ha rfl)
  have g_1_2 := (congrFun eh_1 rw).trans (fh_keep ho hr0 rfl)
  have hov1 : ∀ r, o = some r → ∃ vs, h_1 r = some (.inr (5, vs)) := fun r er => by obtain ⟨vs, h9⟩ := hov r er; exact ⟨vs, (congrFun eh_1 r).trans (fh_keep ho h9 rfl)⟩
  refine lv_aload_n hx hb dX1_keep_10 rfl (lv_at hl 0 rfl) ?_
  refine fh_get (C := RX1) (T := TX1) (N := 4) hx hb ht inX1 hown hE.1 hP g_1_0 rfl 1 (by decide) (ht _ kw_130) (fun _ h9 => h9) (v := .ref rw) rfl dX1_keep_11 ?_
  refine lv_aload_n hx hb dX1_keep_14 rfl (lv_at hl 0 rfl) ?_
  refine fh_get (C := RX1) (T := TX1) (N := 4) hx hb ht inX1 hown hE.1 hP g_1_0 rfl 2 (by decide) (ht _ kw_131) (fun _ h9 => h9) (v := .int (nI nx)) rfl dX1_keep_15 ?_
  refine fh_aload_n hx hb dX1_keep_18 rfl (lv_at hl 2 rfl) ?_
  refine fh_aastO (k := nx) hx hb hE.1 hP hS g_1_2 (hAr) rfl (hov1) rfl (hn) (by decide) dX1_keep_19 (fun H locs hP hz hS => ?_)
  obtain ⟨h_2, eh_2⟩ : ∃ z, z = fh_up h_1 rw (.inl (3, 40, .inr (.inr (.inr (.inr (va_up fr nx o)))))) := ⟨_, rfl⟩
  have hP : fh_P G vwCl h_2 H := by rw [eh_2]; exact hP
  have f_2 : h_2 rw = some (.inl (3, 40, .inr (.inr (.inr (.inr (va_up fr nx o)))))) := by rw [eh_2]; exact fh_up_self _ _ _
  have g_2_0 := (congrFun eh_2 a).trans (fh_keep g_1_2 g_1_0 rfl)
  have g_2_2 := (congrFun eh_2 ob).trans (fh_keep g_1_2 f_1 rfl)
  refine lv_aload_n hx hb dX1_keep_20 rfl (lv_at hl 0 rfl) ?_
  refine lv_aload_n hx hb dX1_keep_21 rfl (lv_at hl 0 rfl) ?_
  refine fh_get (C := RX1) (T := TX1) (N := 4) hx hb ht inX1 hown hE.1 hP g_2_0 rfl 2 (by decide) (ht _ kw_131) (fun _ h9 => h9) (v := .int (nI nx)) rfl dX1_keep_22 ?_
  refine lv_iconst (v := (nI 1)) hx hb dX1_keep_25 (by decide) ?_
  refine lv_iadd hx hb dX1_keep_26 ?_
  refine lv_topi (fun z9 ez9 => ?_)
  rw [show z9 = nI (nx + 1) from ez9.trans (nI_add _ _)]
  refine lv_bipush (v := (nI 40)) hx hb dX1_keep_27 (by decide) ?_
  refine lv_icmp_lt (tgt := 36) hx hb dX1_keep_29 (by decide) (fun c1 => ?_) (fun c1 => ?_)
  · refine lv_aload_n hx hb dX1_keep_36 rfl (lv_at hl 0 rfl) ?_
    refine fh_get (C := RX1) (T := TX1) (N := 4) hx hb ht inX1 hown hE.1 hP g_2_0 rfl 2 (by decide) (ht _ kw_131) (fun _ h9 => h9) (v := .int (nI nx)) rfl dX1_keep_37 ?_
    refine lv_iconst (v := (nI 1)) hx hb dX1_keep_40 (by decide) ?_
    refine lv_iadd hx hb dX1_keep_41 ?_
    refine lv_topi (fun z9 ez9 => ?_)
    rw [show z9 = nI (nx + 1) from ez9.trans (nI_add _ _)]
    have en : nI (nx + 1) = nI (if nx + 1 < 40 then nx + 1 else 0) := by rw [if_pos ((nI_ltI (by omega) (by decide)).mp c1)]
    rw [en]
    refine fh_put (C := RX1) (T := TX1) (N := 4) (t := .int) hx hb ht inX1 tyX1 tyX1_ok nmX1 hown hE.1 hP hS g_2_0 (hAa) rfl 2 (by decide) (ht _ kw_131) (fun _ h9 => h9) rfl (by decide +kernel) rfl rfl (Nat.le_of_ble_eq_true rfl) dX1_keep_42 (fun H locs hP hz hS => ?_)
    obtain ⟨h_3, eh_3⟩ : ∃ z, z = fh_up h_2 a (.inr (1, [.ref ob, .ref rw, .int (nI (if nx + 1 < 40 then nx + 1 else 0)), .int (nI ct)])) := ⟨_, rfl⟩
    have hP : fh_P G vwCl h_3 H := by rw [eh_3]; exact hP
    have f_3 : h_3 a = some (.inr (1, [.ref ob, .ref rw, .int (nI (if nx + 1 < 40 then nx + 1 else 0)), .int (nI ct)])) := by rw [eh_3]; exact fh_up_self _ _ _
    have g_3_1 := (congrFun eh_3 ob).trans (fh_keep g_2_0 g_2_2 rfl)
    have g_3_2 := (congrFun eh_3 rw).trans (fh_keep g_2_0 f_2 rfl)
    refine lv_aload_n hx hb dX1_keep_45 rfl (lv_at hl 0 rfl) ?_
    refine lv_aload_n hx hb dX1_keep_46 rfl (lv_at hl 0 rfl) ?_
    refine fh_get (C := RX1) (T := TX1) (N := 4) hx hb ht inX1 hown hE.1 hP f_3 rfl 3 (by decide) (ht _ kw_132) (fun _ h9 => h9) (v := .int (nI ct)) rfl dX1_keep_47 ?_
    refine lv_iconst (v := (nI 1)) hx hb dX1_keep_50 (by decide) ?_
    refine lv_iadd hx hb dX1_keep_51 ?_
    refine lv_topi (fun z9 ez9 => ?_)
    rw [show z9 = nI (ct + 1) from ez9.trans (nI_add _ _)]
    refine lv_bipush (v := (nI 40)) hx hb dX1_keep_52 (by decide) ?_
    refine va_mmin hx hb (hml.trans hl.1.symm) hown (ht _ kw_374) (ht _ kw_375) (ht _ kw_15) (ht _ kw_376) (Nat.le_of_ble_eq_true rfl) (Nat.le_of_ble_eq_true rfl) (Nat.le_of_ble_eq_true rfl) (Nat.le_of_ble_eq_true rfl) dX1_keep_54 ?_
    rw [min40 hc]
    refine fh_put (C := RX1) (T := TX1) (N := 4) (t := .int) hx hb ht inX1 tyX1 tyX1_ok nmX1 hown hE.1 hP hS f_3 (hAa) rfl 3 (by decide) (ht _ kw_132) (fun _ h9 => h9) rfl (by decide +kernel) rfl rfl (Nat.le_of_ble_eq_true rfl) dX1_keep_57 (fun H locs hP hz hS => ?_)
    obtain ⟨h_4, eh_4⟩ : ∃ z, z = fh_up h_3 a (.inr (1, [.ref ob, .ref rw, .int (nI (if nx + 1 < 40 then nx + 1 else 0)), .int (nI (if ct < 40 then ct + 1 else 40))])) := ⟨_, rfl⟩
    have hP : fh_P G vwCl h_4 H := by rw [eh_4]; exact hP
    have f_4 : h_4 a = some (.inr (1, [.ref ob, .ref rw, .int (nI (if nx + 1 < 40 then nx + 1 else 0)), .int (nI (if ct < 40 then ct + 1 else 40))])) := by rw [eh_4]; exact fh_up_self _ _ _
    have g_4_0 := (congrFun eh_4 ob).trans (fh_keep f_3 g_3_1 rfl)
    have g_4_1 := (congrFun eh_4 rw).trans (fh_keep f_3 g_3_2 rfl)
    exact fh_vret hx hb hr hlocks (⟨rfl, by rw [eh_4, eh_3, eh_2, eh_1, fh_upup]⟩) hP hS (Nat.le_of_ble_eq_true rfl) (Nat.le_of_ble_eq_true rfl) dX1_keep_60
  · refine lv_iconst (v := (nI 0)) hx hb dX1_keep_32 (by decide) ?_
    refine lv_goto (tgt := 42) hx hb dX1_keep_33 (by decide) ?_
    have en : (nI 0) = nI (if nx + 1 < 40 then nx + 1 else 0) := by rw [if_neg (fun q => c1 (nI_lt q (by decide)))]
    rw [en]
    refine fh_put (C := RX1) (T := TX1) (N := 4) (t := .int) hx hb ht inX1 tyX1 tyX1_ok nmX1 hown hE.1 hP hS g_2_0 (hAa) rfl 2 (by decide) (ht _ kw_131) (fun _ h9 => h9) rfl (by decide +kernel) rfl rfl (Nat.le_of_ble_eq_true rfl) dX1_keep_42 (fun H locs hP hz hS => ?_)
    obtain ⟨h_3, eh_3⟩ : ∃ z, z = fh_up h_2 a (.inr (1, [.ref ob, .ref rw, .int (nI (if nx + 1 < 40 then nx + 1 else 0)), .int (nI ct)])) := ⟨_, rfl⟩
    have hP : fh_P G vwCl h_3 H := by rw [eh_3]; exact hP
    have f_3 : h_3 a = some (.inr (1, [.ref ob, .ref rw, .int (nI (if nx + 1 < 40 then nx + 1 else 0)), .int (nI ct)])) := by rw [eh_3]; exact fh_up_self _ _ _
    have g_3_1 := (congrFun eh_3 ob).trans (fh_keep g_2_0 g_2_2 rfl)
    have g_3_2 := (congrFun eh_3 rw).trans (fh_keep g_2_0 f_2 rfl)
    refine lv_aload_n hx hb dX1_keep_45 rfl (lv_at hl 0 rfl) ?_
    refine lv_aload_n hx hb dX1_keep_46 rfl (lv_at hl 0 rfl) ?_
    refine fh_get (C := RX1) (T := TX1) (N := 4) hx hb ht inX1 hown hE.1 hP f_3 rfl 3 (by decide) (ht _ kw_132) (fun _ h9 => h9) (v := .int (nI ct)) rfl dX1_keep_47 ?_
    refine lv_iconst (v := (nI 1)) hx hb dX1_keep_50 (by decide) ?_
    refine lv_iadd hx hb dX1_keep_51 ?_
    refine lv_topi (fun z9 ez9 => ?_)
    rw [show z9 = nI (ct + 1) from ez9.trans (nI_add _ _)]
    refine lv_bipush (v := (nI 40)) hx hb dX1_keep_52 (by decide) ?_
    refine va_mmin hx hb (hml.trans hl.1.symm) hown (ht _ kw_374) (ht _ kw_375) (ht _ kw_15) (ht _ kw_376) (Nat.le_of_ble_eq_true rfl) (Nat.le_of_ble_eq_true rfl) (Nat.le_of_ble_eq_true rfl) (Nat.le_of_ble_eq_true rfl) dX1_keep_54 ?_
    rw [min40 hc]
    refine fh_put (C := RX1) (T := TX1) (N := 4) (t := .int) hx hb ht inX1 tyX1 tyX1_ok nmX1 hown hE.1 hP hS f_3 (hAa) rfl 3 (by decide) (ht _ kw_132) (fun _ h9 => h9) rfl (by decide +kernel) rfl rfl (Nat.le_of_ble_eq_true rfl) dX1_keep_57 (fun H locs hP hz hS => ?_)
    obtain ⟨h_4, eh_4⟩ : ∃ z, z = fh_up h_3 a (.inr (1, [.ref ob, .ref rw, .int (nI (if nx + 1 < 40 then nx + 1 else 0)), .int (nI (if ct < 40 then ct + 1 else 40))])) := ⟨_, rfl⟩
    have hP : fh_P G vwCl h_4 H := by rw [eh_4]; exact hP
    have f_4 : h_4 a = some (.inr (1, [.ref ob, .ref rw, .int (nI (if nx + 1 < 40 then nx + 1 else 0)), .int (nI (if ct < 40 then ct + 1 else 40))])) := by rw [eh_4]; exact fh_up_self _ _ _
    have g_4_0 := (congrFun eh_4 ob).trans (fh_keep f_3 g_3_1 rfl)
    have g_4_1 := (congrFun eh_4 rw).trans (fh_keep f_3 g_3_2 rfl)
    exact fh_vret hx hb hr hlocks (⟨rfl, by rw [eh_4, eh_3, eh_2, eh_1, fh_upup]⟩) hP hS (Nat.le_of_ble_eq_true rfl) (Nat.le_of_ble_eq_true rfl) dX1_keep_60

set_option maxRecDepth 100000 in
set_option maxHeartbeats 4000000 in
theorem c_Chg_back (l : Launch) (G : fG) (A : Nat → Prop) (h : FH) (sz : Nat) (a ob rw nx ct : Nat) (fo : Nat → Int32) (fr : Nat → Option Nat) (ha : h a = some (oChg ob rw (nI nx) (nI ct))) (ho : h ob = some (aI 2 40 fo)) (hr0 : h rw = some (aQ 3 40 fr)) (hn : nx < 40) (hc : ct ≤ 40) (hAa : A a) : Met l yX1_stepBack wsX1_stepBack { frames := 0, cells := 0, slots := 0, locals := 0 } (va_Pc [.ref a] (fh_Pre G A h sz)) (fh_Q G (fun v u => (ct = 0 ∧ v = some (.int 0) ∧ u = h) ∨ (0 < ct ∧ v = some (.int 1) ∧ u = fh_up h a (oChg ob rw (nI (if nx = 0 then 39 else nx - 1)) (nI (ct - 1))))) A) 0 0 A := by
  refine fh_Met [.ref a] (by decide) rfl (Nat.le_of_ble_eq_true rfl) ?_
  intro p e s m below meth c hx hb hr hlocks hml hown hnm hts hsz hP hE hS ls hl
  have ht : ∀ w ∈ wB, w.before _ s = true := fun w h9 => hts w (List.mem_cons_of_mem _ h9)
  have hl : lv_has ls 1 [(0, .ref a)] := hl
  refine lv_aload_n hx hb dX1_stepBack_0 rfl (lv_at hl 0 rfl) ?_
  refine fh_get (C := RX1) (T := TX1) (N := 4) hx hb ht inX1 hown hE.1 hP ha rfl 3 (by decide) (ht _ kw_132) (fun _ h9 => h9) (v := .int (nI ct)) rfl dX1_stepBack_1 ?_
  refine lv_if_ne (tgt := 9) hx hb dX1_stepBack_4 (by decide) (fun c1 => ?_) (fun c1 => ?_)
  · have c0 : 0 < ct := Nat.pos_of_ne_zero (fun q => c1 (by rw [q]; rfl))
    refine lv_aload_n hx hb dX1_stepBack_9 rfl (lv_at hl 0 rfl) ?_
    refine lv_dup hx hb dX1_stepBack_10 rfl ?_
    refine fh_get (C := RX1) (T := TX1) (N := 4) hx hb ht inX1 hown hE.1 hP ha rfl 3 (by decide) (ht _ kw_132) (fun _ h9 => h9) (v := .int (nI ct)) rfl dX1_stepBack_11 ?_
    refine lv_iconst (v := (nI 1)) hx hb dX1_stepBack_14 (by decide) ?_
    refine lv_isub hx hb dX1_stepBack_15 ?_
    refine lv_topi (fun z9 ez9 => ?_)
    rw [show z9 = nI (ct - 1) from ez9.trans (pk_sub (by omega))]
    refine fh_put (C := RX1) (T := TX1) (N := 4) (t := .int) hx hb ht inX1 tyX1 tyX1_ok nmX1 hown hE.1 hP hS ha (hAa) rfl 3 (by decide) (ht _ kw_132) (fun _ h9 => h9) rfl (by decide +kernel) rfl rfl (Nat.le_of_ble_eq_true rfl) dX1_stepBack_16 (fun H locs hP hz hS => ?_)
    obtain ⟨h_1, eh_1⟩ : ∃ z, z = fh_up h a (.inr (1, [.ref ob, .ref rw, .int (nI nx), .int (nI (ct - 1))])) := ⟨_, rfl⟩
    have hP : fh_P G vwCl h_1 H := by rw [eh_1]; exact hP
    have f_1 : h_1 a = some (.inr (1, [.ref ob, .ref rw, .int (nI nx), .int (nI (ct - 1))])) := by rw [eh_1]; exact fh_up_self _ _ _
    have g_1_1 := (congrFun eh_1 ob).trans (fh_keep ha ho rfl)
    have g_1_2 := (congrFun eh_1 rw).trans (fh_keep ha hr0 rfl)
    refine lv_aload_n hx hb dX1_stepBack_19 rfl (lv_at hl 0 rfl) ?_
    refine lv_aload_n hx hb dX1_stepBack_20 rfl (lv_at hl 0 rfl) ?_
    refine fh_get (C := RX1) (T := TX1) (N := 4) hx hb ht inX1 hown hE.1 hP f_1 rfl 2 (by decide) (ht _ kw_131) (fun _ h9 => h9) (v := .int (nI nx)) rfl dX1_stepBack_21 ?_
    refine lv_if_ne (tgt := 32) hx hb dX1_stepBack_24 (by decide) (fun c2 => ?_) (fun c2 => ?_)
    · have n0 : ¬ nx = 0 := fun q => c2 (by rw [q]; rfl)
      refine lv_aload_n hx hb dX1_stepBack_32 rfl (lv_at hl 0 rfl) ?_
      refine fh_get (C := RX1) (T := TX1) (N := 4) hx hb ht inX1 hown hE.1 hP f_1 rfl 2 (by decide) (ht _ kw_131) (fun _ h9 => h9) (v := .int (nI nx)) rfl dX1_stepBack_33 ?_
      refine lv_iconst (v := (nI 1)) hx hb dX1_stepBack_36 (by decide) ?_
      refine lv_isub hx hb dX1_stepBack_37 ?_
      refine lv_topi (fun z9 ez9 => ?_)
      rw [show z9 = nI (nx - 1) from ez9.trans (pk_sub (by omega))]
      have en : nI (nx - 1) = nI (if nx = 0 then 39 else nx - 1) := by rw [if_neg n0]
      rw [en]
      refine fh_put (C := RX1) (T := TX1) (N := 4) (t := .int) hx hb ht inX1 tyX1 tyX1_ok nmX1 hown hE.1 hP hS f_1 (hAa) rfl 2 (by decide) (ht _ kw_131) (fun _ h9 => h9) rfl (by decide +kernel) rfl rfl (Nat.le_of_ble_eq_true rfl) dX1_stepBack_38 (fun H locs hP hz hS => ?_)
      obtain ⟨h_2, eh_2⟩ : ∃ z, z = fh_up h_1 a (.inr (1, [.ref ob, .ref rw, .int (nI (if nx = 0 then 39 else nx - 1)), .int (nI (ct - 1))])) := ⟨_, rfl⟩
      have hP : fh_P G vwCl h_2 H := by rw [eh_2]; exact hP
      have f_2 : h_2 a = some (.inr (1, [.ref ob, .ref rw, .int (nI (if nx = 0 then 39 else nx - 1)), .int (nI (ct - 1))])) := by rw [eh_2]; exact fh_up_self _ _ _
      have g_2_0 := (congrFun eh_2 ob).trans (fh_keep f_1 g_1_1 rfl)
      have g_2_1 := (congrFun eh_2 rw).trans (fh_keep f_1 g_1_2 rfl)
      refine lv_iconst (v := (nI 1)) hx hb dX1_stepBack_41 (by decide) ?_
      exact fh_zret hx hb hr hlocks rfl (Or.inr ⟨c0, rfl, by rw [eh_2, eh_1, fh_upup]⟩) hP hS (Nat.le_of_ble_eq_true rfl) (Nat.le_of_ble_eq_true rfl) dX1_stepBack_42
    · have n0 : nx = 0 := (nI_eq (by omega) (by decide)).mp c2
      refine lv_bipush (v := (nI 39)) hx hb dX1_stepBack_27 (by decide) ?_
      refine lv_goto (tgt := 38) hx hb dX1_stepBack_29 (by decide) ?_
      have en : (nI 39) = nI (if nx = 0 then 39 else nx - 1) := by rw [if_pos n0]
      rw [en]
      refine fh_put (C := RX1) (T := TX1) (N := 4) (t := .int) hx hb ht inX1 tyX1 tyX1_ok nmX1 hown hE.1 hP hS f_1 (hAa) rfl 2 (by decide) (ht _ kw_131) (fun _ h9 => h9) rfl (by decide +kernel) rfl rfl (Nat.le_of_ble_eq_true rfl) dX1_stepBack_38 (fun H locs hP hz hS => ?_)
      obtain ⟨h_2, eh_2⟩ : ∃ z, z = fh_up h_1 a (.inr (1, [.ref ob, .ref rw, .int (nI (if nx = 0 then 39 else nx - 1)), .int (nI (ct - 1))])) := ⟨_, rfl⟩
      have hP : fh_P G vwCl h_2 H := by rw [eh_2]; exact hP
      have f_2 : h_2 a = some (.inr (1, [.ref ob, .ref rw, .int (nI (if nx = 0 then 39 else nx - 1)), .int (nI (ct - 1))])) := by rw [eh_2]; exact fh_up_self _ _ _
      have g_2_0 := (congrFun eh_2 ob).trans (fh_keep f_1 g_1_1 rfl)
      have g_2_1 := (congrFun eh_2 rw).trans (fh_keep f_1 g_1_2 rfl)
      refine lv_iconst (v := (nI 1)) hx hb dX1_stepBack_41 (by decide) ?_
      exact fh_zret hx hb hr hlocks rfl (Or.inr ⟨c0, rfl, by rw [eh_2, eh_1, fh_upup]⟩) hP hS (Nat.le_of_ble_eq_true rfl) (Nat.le_of_ble_eq_true rfl) dX1_stepBack_42
  · have c0 : ct = 0 := (nI_eq (by omega) (by decide)).mp c1
    refine lv_iconst (v := (nI 0)) hx hb dX1_stepBack_7 (by decide) ?_
    exact fh_zret hx hb hr hlocks rfl (Or.inl ⟨c0, rfl, rfl⟩) hP hS (Nat.le_of_ble_eq_true rfl) (Nat.le_of_ble_eq_true rfl) dX1_stepBack_8

set_option maxRecDepth 100000 in
set_option maxHeartbeats 4000000 in
theorem c_Draw_below (l : Launch) (G : fG) (A : Nat → Prop) (h : FH) (sz : Nat) (a b : Nat) (x : Int64) (hAa : A a) (ha : h a = some (oDraw x)) (hb1 : 0 < b) (hb2 : b < 2 ^ 31) : Met l yX3_below wsX3_below { frames := 0, cells := 0, slots := 0, locals := 0 } (va_Pc [.ref a, .int (nI b)] (fh_Pre G A h sz)) (fh_Q G (fun v u => v = some (.int (drMod (drNext x) (nI b))) ∧ u = fh_up h a (oDraw (drNext x))) A) 0 0 A := by
  refine fh_Met [.ref a, .int (nI b)] (by decide) rfl (Nat.le_of_ble_eq_true rfl) ?_
  intro p e s m below meth c hx hb hr hlocks hml hown hnm hts hsz hP hE hS ls hl
  have ht : ∀ w ∈ wB, w.before _ s = true := fun w h9 => hts w (List.mem_cons_of_mem _ h9)
  have hl : lv_has ls 2 [(0, .ref a), (1, .int (nI b))] := hl
  refine lv_aload_n hx hb dX3_below_0 rfl (lv_at hl 0 rfl) ?_
  refine lv_aload_n hx hb dX3_below_1 rfl (lv_at hl 0 rfl) ?_
  refine fh_get (C := RX3) (T := TX3) (N := 1) hx hb ht inX3 hown hE.1 hP ha rfl 0 (by decide) (ht _ kw_648) (fun _ h9 => h9) (v := .long x) rfl dX3_below_2 ?_
  refine lv_ldc2 (v := 6364136223846793005) hx hb hown (ht _ kw_660) dX3_below_5 ?_
  refine lv_lmul hx hb dX3_below_8 ?_
  refine lv_ldc2 (v := 1442695040888963407) hx hb hown (ht _ kw_661) dX3_below_9 ?_
  refine lv_ladd hx hb dX3_below_12 ?_
  refine W.eq (g2 := F0 m 13 ls [.long (drNext x), .ref a]) rfl ?_
  refine fh_put (C := RX3) (T := TX3) (N := 1) (t := .long) hx hb ht inX3 tyX3 tyX3_ok nmX3 hown hE.1 hP hS ha (hAa) rfl 0 (by decide) (ht _ kw_648) (fun _ h9 => h9) rfl (by decide +kernel) rfl rfl (Nat.le_of_ble_eq_true rfl) dX3_below_13 (fun H locs hP hz hS => ?_)
  obtain ⟨h_1, eh_1⟩ : ∃ z, z = fh_up h a (.inr (3, [.long (drNext x)])) := ⟨_, rfl⟩
  have hP : fh_P G vwCl h_1 H := by rw [eh_1]; exact hP
  have f_1 : h_1 a = some (.inr (3, [.long (drNext x)])) := by rw [eh_1]; exact fh_up_self _ _ _
  refine lv_iload_n hx hb dX3_below_16 rfl (lv_at hl 1 rfl) ?_
  refine lv_if_gt (tgt := 24) hx hb dX3_below_17 (by decide) (fun _ => ?_) (fun c9 => absurd (nI_lt (a := 0) hb1 hb2) c9)
  refine lv_aload_n hx hb dX3_below_24 rfl (lv_at hl 0 rfl) ?_
  refine fh_get (C := RX3) (T := TX3) (N := 1) hx hb ht inX3 hown hE.1 hP f_1 rfl 0 (by decide) (ht _ kw_648) (fun _ h9 => h9) (v := .long (drNext x)) rfl dX3_below_25 ?_
  refine lv_bipush (v := (nI 33)) hx hb dX3_below_28 (by decide) ?_
  refine lv_lushr (v := ((drNext x).toUInt64 >>> (((nI 33) : Int32).toInt64.toUInt64 &&& Int64.toUInt64 63)).toInt64) hx hb dX3_below_30 rfl ?_
  refine lv_iload_n hx hb dX3_below_31 rfl (lv_at hl 1 rfl) ?_
  refine lv_i2l (v := (nI b : Int32).toInt64) hx hb dX3_below_32 rfl ?_
  refine lv_lrem hx hb dX3_below_33 (fun q => by have z := congrArg Int64.toInt q; rw [nI_l hb2, lN_toInt hb2] at z; simp at z; omega) ?_
  refine lv_l2i (v := ((((drNext x).toUInt64 >>> (((nI 33) : Int32).toInt64.toUInt64 &&& Int64.toUInt64 63)).toInt64) - (((drNext x).toUInt64 >>> (((nI 33) : Int32).toInt64.toUInt64 &&& Int64.toUInt64 63)).toInt64) / ((nI b : Int32).toInt64) * ((nI b : Int32).toInt64)).toInt32) hx hb dX3_below_34 rfl ?_
  exact fh_iret hx hb hr hlocks (⟨rfl, by rw [eh_1]⟩) hP hS (Nat.le_of_ble_eq_true rfl) (Nat.le_of_ble_eq_true rfl) dX3_below_35

set_option maxRecDepth 100000 in
set_option maxHeartbeats 4000000 in
theorem c_Rule_init (l : Launch) (G : fG) (A : Nat → Prop) (h : FH) (sz : Nat) (a : Nat) (x y : Int32) (d : Int64) (hAa : A a) (ha : h a = some (.inr (6, [.int 0, .int 0, .long 0]))) : Met l yX6_init wsX6_init { frames := 1, cells := 0, slots := 0, locals := 12 } (va_Pc [.ref a, .int x, .int y, .long d] (fh_Pre G A h sz)) (fh_Q G (fun v u => v = none ∧ u = fh_up h a (oRule x y d)) A) 0 0 A := by
  refine fh_Met [.ref a, .int x, .int y, .long d] (by decide) rfl (Nat.le_of_ble_eq_true rfl) ?_
  intro p e s m below meth c hx hb hr hlocks hml hown hnm hts hsz hP hE hS ls hl
  have ht : ∀ w ∈ wB, w.before _ s = true := fun w h9 => hts w (List.mem_cons_of_mem _ h9)
  have hl : lv_has ls 5 [(0, .ref a), (1, .int x), (2, .int y), (3, .long d)] := hl
  refine lv_aload_n hx hb dX6_init_0 rfl (lv_at hl 0 rfl) ?_
  refine W.objInit hx hb hown (ht _ kw_554) (ht _ kw_26) (ht _ kw_27) rfl (by rw [hml]; exact hl.1) rfl dX6_init_1 (Nat.le_of_ble_eq_true rfl) (Nat.le_of_ble_eq_true rfl) ?_
  refine W.eq (g2 := F0 m 4 ls []) rfl ?_
  refine lv_aload_n hx hb dX6_init_4 rfl (lv_at hl 0 rfl) ?_
  refine lv_iload_n hx hb dX6_init_5 rfl (lv_at hl 1 rfl) ?_
  refine fh_putF (C := RX6) (T := TX6) (N := 3) (t := .int) hx hb ht inX6 tyX6 tyX6_ok nmX6 hown hE.1 hP hS ha (hAa) rfl 0 (by decide) (ht _ kw_555) (fun _ h9 => h9) rfl hnm rfl (by decide +kernel) rfl rfl (Nat.le_of_ble_eq_true rfl) dX6_init_6 (fun H locs hP hz hS => ?_)
  obtain ⟨h_1, eh_1⟩ : ∃ z, z = fh_up h a (.inr (6, [.int x, .int 0, .long 0])) := ⟨_, rfl⟩
  have hP : fh_P G vwCl h_1 H := by rw [eh_1]; exact hP
  have f_1 : h_1 a = some (.inr (6, [.int x, .int 0, .long 0])) := by rw [eh_1]; exact fh_up_self _ _ _
  refine lv_aload_n hx hb dX6_init_9 rfl (lv_at hl 0 rfl) ?_
  refine lv_iload_n hx hb dX6_init_10 rfl (lv_at hl 2 rfl) ?_
  refine fh_putF (C := RX6) (T := TX6) (N := 3) (t := .int) hx hb ht inX6 tyX6 tyX6_ok nmX6 hown hE.1 hP hS f_1 (hAa) rfl 1 (by decide) (ht _ kw_557) (fun _ h9 => h9) rfl hnm rfl (by decide +kernel) rfl rfl (Nat.le_of_ble_eq_true rfl) dX6_init_11 (fun H locs hP hz hS => ?_)
  obtain ⟨h_2, eh_2⟩ : ∃ z, z = fh_up h_1 a (.inr (6, [.int x, .int y, .long 0])) := ⟨_, rfl⟩
  have hP : fh_P G vwCl h_2 H := by rw [eh_2]; exact hP
  have f_2 : h_2 a = some (.inr (6, [.int x, .int y, .long 0])) := by rw [eh_2]; exact fh_up_self _ _ _
  refine lv_aload_n hx hb dX6_init_14 rfl (lv_at hl 0 rfl) ?_
  refine lv_lload_n hx hb dX6_init_15 rfl (lv_at hl 3 rfl) ?_
  refine fh_putF (C := RX6) (T := TX6) (N := 3) (t := .long) hx hb ht inX6 tyX6 tyX6_ok nmX6 hown hE.1 hP hS f_2 (hAa) rfl 2 (by decide) (ht _ kw_559) (fun _ h9 => h9) rfl hnm rfl (by decide +kernel) rfl rfl (Nat.le_of_ble_eq_true rfl) dX6_init_16 (fun H locs hP hz hS => ?_)
  obtain ⟨h_3, eh_3⟩ : ∃ z, z = fh_up h_2 a (.inr (6, [.int x, .int y, .long d])) := ⟨_, rfl⟩
  have hP : fh_P G vwCl h_3 H := by rw [eh_3]; exact hP
  have f_3 : h_3 a = some (.inr (6, [.int x, .int y, .long d])) := by rw [eh_3]; exact fh_up_self _ _ _
  exact fh_vret hx hb hr hlocks (⟨rfl, by rw [eh_3, eh_2, eh_1]; simp only [fh_upup]⟩) hP hS (Nat.le_of_ble_eq_true rfl) (Nat.le_of_ble_eq_true rfl) dX6_init_19

set_option maxRecDepth 100000 in
set_option maxHeartbeats 4000000 in
theorem c_Rule_gap (l : Launch) (G : fG) (A : Nat → Prop) (h : FH) (sz : Nat) (x y : Int64) : Met l yX6_gap wsX6_gap { frames := 1, cells := 0, slots := 0, locals := 20 } (va_Pc [.long x, .long y] (fh_Pre G A h sz)) (fh_Q G (fun v u => v = some (.long (gapL x y)) ∧ u = h) A) 0 0 A := by
  refine fh_Met [.long x, .long y] (by decide) rfl (Nat.le_of_ble_eq_true rfl) ?_
  intro p e s m below meth c hx hb hr hlocks hml hown hnm hts hsz hP hE hS ls hl
  have ht : ∀ w ∈ wB, w.before _ s = true := fun w h9 => hts w (List.mem_cons_of_mem _ h9)
  have hl : lv_has ls 6 [(0, .long x), (2, .long y)] := hl
  refine lv_lload_n hx hb dX6_gap_0 rfl (lv_at hl 0 rfl) ?_
  refine lv_lload_n hx hb dX6_gap_1 rfl (lv_at hl 1 rfl) ?_
  refine va_mmax_long hx hb (hml.trans hl.1.symm) hown (ht _ kw_584) (ht _ kw_585) (ht _ kw_15) (ht _ kw_586) (Nat.le_of_ble_eq_true rfl) (Nat.le_of_ble_eq_true rfl) (Nat.le_of_ble_eq_true rfl) (Nat.le_of_ble_eq_true rfl) dX6_gap_2 ?_
  refine lv_lload_n hx hb dX6_gap_5 rfl (lv_at hl 0 rfl) ?_
  refine lv_lload_n hx hb dX6_gap_6 rfl (lv_at hl 1 rfl) ?_
  refine va_mmin_long hx hb (hml.trans hl.1.symm) hown (ht _ kw_587) (ht _ kw_588) (ht _ kw_15) (ht _ kw_589) (Nat.le_of_ble_eq_true rfl) (Nat.le_of_ble_eq_true rfl) (Nat.le_of_ble_eq_true rfl) (Nat.le_of_ble_eq_true rfl) dX6_gap_7 ?_
  refine lv_lsub hx hb dX6_gap_10 ?_
  refine lv_topl (fun k ek => ?_)
  refine lv_lstore (lv' := [(4, .long k), (0, .long x), (2, .long y)]) hx hb dX6_gap_11 hl (by decide) rfl (fun ls hl => ?_)
  refine lv_lload hx hb dX6_gap_13 (lv_at hl 0 rfl) ?_
  refine lv_lconst (v := 0) hx hb dX6_gap_15 (by decide) ?_
  refine W.lcmp hx hb dX6_gap_16 ?_
  refine lv_if_ge (tgt := 26) hx hb dX6_gap_17 (by decide) (fun c1 => ?_) (fun c1 => ?_)
  · have hk : ¬ k < 0 := by rw [Int64.lt_iff_toInt_lt]; have z := (lg_cmp_ge k 0).mp c1; rw [Int64.le_iff_toInt_le] at z; omega
    refine lv_lload hx hb dX6_gap_26 (lv_at hl 0 rfl) ?_
    refine lv_ldc2 (v := 1000000000) hx hb hown (ht _ kw_590) dX6_gap_28 ?_
    refine va_mmin_long hx hb (hml.trans hl.1.symm) hown (ht _ kw_587) (ht _ kw_588) (ht _ kw_15) (ht _ kw_589) (Nat.le_of_ble_eq_true rfl) (Nat.le_of_ble_eq_true rfl) (Nat.le_of_ble_eq_true rfl) (Nat.le_of_ble_eq_true rfl) dX6_gap_31 ?_
    exact fh_lret hx hb hr hlocks (⟨congrArg (fun z => some (Value.long z)) (by rw [gapL, ← ek, if_neg hk]), rfl⟩) hP hS (Nat.le_of_ble_eq_true rfl) (Nat.le_of_ble_eq_true rfl) dX6_gap_34
  · have hk : k < 0 := by rw [Int64.lt_iff_toInt_lt]; have z := mt (lg_cmp_ge k 0).mpr c1; rw [Int64.le_iff_toInt_le] at z; omega
    refine lv_ldc2 (v := 1000000000) hx hb hown (ht _ kw_590) dX6_gap_20 ?_
    refine lv_goto (tgt := 34) hx hb dX6_gap_23 (by decide) ?_
    exact fh_lret hx hb hr hlocks (⟨congrArg (fun z => some (Value.long z)) (by rw [gapL, ← ek, if_pos hk]), rfl⟩) hP hS (Nat.le_of_ble_eq_true rfl) (Nat.le_of_ble_eq_true rfl) dX6_gap_34
end
section
set_option maxRecDepth 100000 in
set_option maxHeartbeats 4000000 in
theorem c_Ses_changed (l : Launch) (G : fG) (A : Nat → Prop) (h : FH) (sz : Nat) (a ba na ch sd bb nb : Nat) (num opn : Int32) (B N : St) (ha : h a = some (oSes num ba na opn ch sd)) (hB : pSt h ba bb B) (hN : pSt h na nb N) (i : Nat) (hi : i < 60) : Met l yX7_changed wsX7_changed { frames := 1, cells := 0, slots := 0, locals := 24 } (va_Pc [.ref a, .int (nI i)] (fh_Pre G A h sz)) (fh_Q G (fun v u => v = some (.int (bI (!alikeO (B i) (N i)))) ∧ u = h) A) 0 0 A := by
  refine fh_Met [.ref a, .int (nI i)] (by decide) rfl (Nat.le_of_ble_eq_true rfl) ?_
  intro p e s m below meth c hx hb hr hlocks hml hown hnm hts hsz hP hE hS ls hl
  have ht : ∀ w ∈ wB, w.before _ s = true := fun w h9 => hts w (List.mem_cons_of_mem _ h9)
  have hl : lv_has ls 2 [(0, .ref a), (1, .int (nI i))] := hl
  obtain ⟨hb1, fb, hb2, hb3⟩ := hB
  obtain ⟨hn1, fn, hn2, hn3⟩ := hN
  refine lv_aload_n hx hb dX7_changed_0 rfl (lv_at hl 0 rfl) ?_
  refine fh_get (C := RX7) (T := TX7) (N := 6) hx hb ht inX7 hown hE.1 hP ha rfl 1 (by decide) (ht _ kw_150) (fun _ h9 => h9) (v := .ref ba) rfl dX7_changed_1 ?_
  refine lv_iload_n hx hb dX7_changed_4 rfl (lv_at hl 1 rfl) ?_
  refine fh_cV (q := (RX8, TX8, 1)) (As := [.int (nI i)]) (rest := []) (b := ba) ⟨hx, hb, hml, hown, ht⟩ (c_St_row l G A h _ ba bb i fb hb1 hb2 hi) (cwV 1 ht (gV kw_369 kw_338 kw_339 kw_2 kw_340) rfl rfl rfl yd_X8_row ⟨(Nat.le_of_ble_eq_true rfl), (Nat.le_of_ble_eq_true rfl)⟩) hP hE hS hb1 rfl rfl hl.1 rfl (Nat.le_of_ble_eq_true rfl) dX7_changed_5 ⟨(Nat.le_of_ble_eq_true rfl), (Nat.le_of_ble_eq_true rfl)⟩ (fun v u H locs hp hP hz hS => ?_)
  obtain ⟨rfl, eu⟩ := hp
  rw [eu] at hP
  refine W.eq (g2 := F0 m 8 ls [va_rf (fb i)]) rfl ?_
  refine lv_aload_n hx hb dX7_changed_8 rfl (lv_at hl 0 rfl) ?_
  refine fh_get (C := RX7) (T := TX7) (N := 6) hx hb ht inX7 hown hE.1 hP ha rfl 2 (by decide) (ht _ kw_151) (fun _ h9 => h9) (v := .ref na) rfl dX7_changed_9 ?_
  refine lv_iload_n hx hb dX7_changed_12 rfl (lv_at hl 1 rfl) ?_
  refine fh_cV (q := (RX8, TX8, 1)) (As := [.int (nI i)]) (rest := [va_rf (fb i)]) (b := na) ⟨hx, hb, hml, hown, ht⟩ (c_St_row l G A h _ na nb i fn hn1 hn2 hi) (cwV 1 ht (gV kw_369 kw_338 kw_339 kw_2 kw_340) rfl rfl rfl yd_X8_row ⟨(Nat.le_of_ble_eq_true rfl), (Nat.le_of_ble_eq_true rfl)⟩) hP hE hS hn1 rfl rfl hl.1 rfl (Nat.le_trans (catsum _) (Nat.le_of_ble_eq_true rfl)) dX7_changed_13 ⟨(Nat.le_of_ble_eq_true rfl), (Nat.le_of_ble_eq_true rfl)⟩ (fun v u H locs hp hP hz hS => ?_)
  obtain ⟨rfl, eu⟩ := hp
  rw [eu] at hP
  refine W.eq (g2 := F0 m 16 ls [va_rf (fn i), va_rf (fb i)]) rfl ?_
  refine fh_cS (As := [va_rf (fb i), va_rf (fn i)]) (rest := []) ⟨hx, hb, hml, hown, ht⟩ (c_Row_alike l G A h _ (fb i) (fn i) (B i) (N i) (hb3 i hi) (hn3 i hi)) (va_cwS 2 ht (gS kw_411 kw_412 kw_10 kw_413) rfl rfl rfl yd_X5_alike.2 ⟨(Nat.le_of_ble_eq_true rfl), (Nat.le_of_ble_eq_true rfl)⟩) hP hE hS rfl hl.1 rfl (Nat.le_of_ble_eq_true rfl) dX7_changed_16 ⟨(Nat.le_of_ble_eq_true rfl), (Nat.le_of_ble_eq_true rfl)⟩ (fun v u H locs hp hP hz hS => ?_)
  obtain ⟨rfl, eu⟩ := hp
  rw [eu] at hP
  refine W.eq (g2 := F0 m 19 ls [.int (bI (alikeO (B i) (N i)))]) rfl ?_
  refine lv_if_ne (tgt := 26) hx hb dX7_changed_19 (by decide) (fun c1 => ?_) (fun c1 => ?_)
  · refine lv_iconst (v := (nI 0)) hx hb dX7_changed_26 (by decide) ?_
    exact fh_zret hx hb hr hlocks rfl (⟨congrArg (fun z => some (Value.int z)) (bI_n0 c1), rfl⟩) hP hS (Nat.le_of_ble_eq_true rfl) (Nat.le_of_ble_eq_true rfl) dX7_changed_27
  · refine lv_iconst (v := (nI 1)) hx hb dX7_changed_22 (by decide) ?_
    refine lv_goto (tgt := 27) hx hb dX7_changed_23 (by decide) ?_
    exact fh_zret hx hb hr hlocks rfl (⟨congrArg (fun z => some (Value.int z)) (bI_n1 c1), rfl⟩) hP hS (Nat.le_of_ble_eq_true rfl) (Nat.le_of_ble_eq_true rfl) dX7_changed_27

set_option maxRecDepth 100000 in
set_option maxHeartbeats 4000000 in
theorem c_Ses_side (l : Launch) (G : fG) (A : Nat → Prop) (h : FH) (sz : Nat) (a ba na ch sd : Nat) (num opn : Int32) (sf : Nat → Int32) (ha : h a = some (oSes num ba na opn ch sd)) (hs : h sd = some (aI 4 420 sf)) (i k : Nat) (hi : i < 60) (hk : k < 7) : Met l yX7_sideOf wsX7_sideOf { frames := 0, cells := 0, slots := 0, locals := 0 } (va_Pc [.ref a, .int (nI i), .int (nI k)] (fh_Pre G A h sz)) (fh_Q G (fun v u => v = some (.int (sf (i * 7 + k) - nI 1)) ∧ u = h) A) 0 0 A := by
  refine fh_Met [.ref a, .int (nI i), .int (nI k)] (by decide) rfl (Nat.le_of_ble_eq_true rfl) ?_
  intro p e s m below meth c hx hb hr hlocks hml hown hnm hts hsz hP hE hS ls hl
  have ht : ∀ w ∈ wB, w.before _ s = true := fun w h9 => hts w (List.mem_cons_of_mem _ h9)
  have hl : lv_has ls 4 [(0, .ref a), (1, .int (nI i)), (2, .int (nI k))] := hl
  refine lv_iload_n hx hb dX7_sideOf_0 rfl (lv_at hl 1 rfl) ?_
  refine lv_bipush (v := (nI 7)) hx hb dX7_sideOf_1 (by decide) ?_
  refine lv_imul hx hb dX7_sideOf_3 ?_
  refine lv_topi (fun z9 ez9 => ?_)
  rw [show z9 = nI (i * 7) from ez9.trans (pk_mul _ _)]
  refine lv_iload_n hx hb dX7_sideOf_4 rfl (lv_at hl 2 rfl) ?_
  refine lv_iadd hx hb dX7_sideOf_5 ?_
  refine lv_topi (fun z9 ez9 => ?_)
  rw [show z9 = nI ((i * 7) + k) from ez9.trans (nI_add _ _)]
  refine lv_istore_n (lv' := [(3, .int (nI ((i * 7) + k))), (0, .ref a), (1, .int (nI i)), (2, .int (nI k))]) hx hb dX7_sideOf_6 rfl hl (by decide) rfl (fun ls hl => ?_)
  refine lv_iload_n hx hb dX7_sideOf_7 rfl (lv_at hl 0 rfl) ?_
  refine lv_if_lt (tgt := 20) hx hb dX7_sideOf_8 (by decide) (fun c9 => absurd c9 (nI_pos (by omega))) (fun _ => ?_)
  refine lv_iload_n hx hb dX7_sideOf_11 rfl (lv_at hl 0 rfl) ?_
  refine lv_aload_n hx hb dX7_sideOf_12 rfl (lv_at hl 1 rfl) ?_
  refine fh_get (C := RX7) (T := TX7) (N := 6) hx hb ht inX7 hown hE.1 hP ha rfl 5 (by decide) (ht _ kw_156) (fun _ h9 => h9) (v := .ref sd) rfl dX7_sideOf_13 ?_
  refine fh_alen hx hb hE.1 hP hs rfl dX7_sideOf_16 ?_
  refine lv_icmp_lt (tgt := 24) hx hb dX7_sideOf_17 (by decide) (fun _ => ?_) (fun c9 => absurd (nI_lt (by omega) (by decide)) c9)
  refine lv_aload_n hx hb dX7_sideOf_24 rfl (lv_at hl 1 rfl) ?_
  refine fh_get (C := RX7) (T := TX7) (N := 6) hx hb ht inX7 hown hE.1 hP ha rfl 5 (by decide) (ht _ kw_156) (fun _ h9 => h9) (v := .ref sd) rfl dX7_sideOf_25 ?_
  refine lv_iload_n hx hb dX7_sideOf_28 rfl (lv_at hl 0 rfl) ?_
  refine fh_bald (k := ((i * 7) + k)) hx hb hE.1 hP hs rfl (by omega) (by decide) dX7_sideOf_29 ?_
  refine lv_iconst (v := (nI 1)) hx hb dX7_sideOf_30 (by decide) ?_
  refine lv_isub hx hb dX7_sideOf_31 ?_
  exact fh_iret hx hb hr hlocks (⟨rfl, rfl⟩) hP hS (Nat.le_of_ble_eq_true rfl) (Nat.le_of_ble_eq_true rfl) dX7_sideOf_32

set_option maxRecDepth 100000 in
set_option maxHeartbeats 4000000 in
theorem c_Ses_choose (l : Launch) (G : fG) (A : Nat → Prop) (h : FH) (sz : Nat) (a ba na ch sd : Nat) (num opn : Int32) (sf : Nat → Int32) (ha : h a = some (oSes num ba na opn ch sd)) (hs : h sd = some (aI 4 420 sf)) (hAs : A sd) (i k x : Nat) (hi : i < 60) (hk : k < 7) (hx2 : x < 2) : Met l yX7_choose wsX7_choose { frames := 0, cells := 0, slots := 0, locals := 0 } (va_Pc [.ref a, .int (nI i), .int (nI k), .int (nI x)] (fh_Pre G A h sz)) (fh_Q G (fun v u => v = none ∧ u = fh_up h sd (aI 4 420 (upd sf (i * 7 + k) (nI (x + 1))))) A) 0 0 A := by
  refine fh_Met [.ref a, .int (nI i), .int (nI k), .int (nI x)] (by decide) rfl (Nat.le_of_ble_eq_true rfl) ?_
  intro p e s m below meth c hx hb hr hlocks hml hown hnm hts hsz hP hE hS ls hl
  have ht : ∀ w ∈ wB, w.before _ s = true := fun w h9 => hts w (List.mem_cons_of_mem _ h9)
  have hl : lv_has ls 5 [(0, .ref a), (1, .int (nI i)), (2, .int (nI k)), (3, .int (nI x))] := hl
  refine lv_iload_n hx hb dX7_choose_0 rfl (lv_at hl 1 rfl) ?_
  refine lv_bipush (v := (nI 7)) hx hb dX7_choose_1 (by decide) ?_
  refine lv_imul hx hb dX7_choose_3 ?_
  refine lv_topi (fun z9 ez9 => ?_)
  rw [show z9 = nI (i * 7) from ez9.trans (pk_mul _ _)]
  refine lv_iload_n hx hb dX7_choose_4 rfl (lv_at hl 2 rfl) ?_
  refine lv_iadd hx hb dX7_choose_5 ?_
  refine lv_topi (fun z9 ez9 => ?_)
  rw [show z9 = nI ((i * 7) + k) from ez9.trans (nI_add _ _)]
  refine lv_istore (lv' := [(4, .int (nI ((i * 7) + k))), (0, .ref a), (1, .int (nI i)), (2, .int (nI k)), (3, .int (nI x))]) hx hb dX7_choose_6 hl (by decide) rfl (fun ls hl => ?_)
  refine lv_iload hx hb dX7_choose_8 (lv_at hl 0 rfl) ?_
  refine lv_if_lt (tgt := 34) hx hb dX7_choose_10 (by decide) (fun c9 => absurd c9 (nI_pos (by omega))) (fun _ => ?_)
  refine lv_iload hx hb dX7_choose_13 (lv_at hl 0 rfl) ?_
  refine lv_aload_n hx hb dX7_choose_15 rfl (lv_at hl 1 rfl) ?_
  refine fh_get (C := RX7) (T := TX7) (N := 6) hx hb ht inX7 hown hE.1 hP ha rfl 5 (by decide) (ht _ kw_156) (fun _ h9 => h9) (v := .ref sd) rfl dX7_choose_16 ?_
  refine fh_alen hx hb hE.1 hP hs rfl dX7_choose_19 ?_
  refine lv_icmp_ge (tgt := 34) hx hb dX7_choose_20 (by decide) (fun c9 => absurd c9 (nI_ge (by omega) (by decide))) (fun _ => ?_)
  refine lv_aload_n hx hb dX7_choose_23 rfl (lv_at hl 1 rfl) ?_
  refine fh_get (C := RX7) (T := TX7) (N := 6) hx hb ht inX7 hown hE.1 hP ha rfl 5 (by decide) (ht _ kw_156) (fun _ h9 => h9) (v := .ref sd) rfl dX7_choose_24 ?_
  refine lv_iload hx hb dX7_choose_27 (lv_at hl 0 rfl) ?_
  refine lv_iload_n hx hb dX7_choose_29 rfl (lv_at hl 4 rfl) ?_
  refine lv_iconst (v := (nI 1)) hx hb dX7_choose_30 (by decide) ?_
  refine lv_iadd hx hb dX7_choose_31 ?_
  refine lv_topi (fun z9 ez9 => ?_)
  rw [show z9 = nI (x + 1) from ez9.trans (nI_add _ _)]
  refine lv_i2b (v := (nI (x + 1)).toInt8.toInt32) hx hb dX7_choose_32 rfl ?_
  refine fh_bast (k := ((i * 7) + k)) hx hb hE.1 hP hS hs (hAs) rfl (by omega) (by decide) dX7_choose_33 (fun H locs hP hz hS => ?_)
  obtain ⟨h_1, eh_1⟩ : ∃ z, z = fh_up h sd (.inl (4, 420, .inl (upd sf ((i * 7) + k) (vp_nar .byte ((nI (x + 1)).toInt8.toInt32))))) := ⟨_, rfl⟩
  have hP : fh_P G vwCl h_1 H := by rw [eh_1]; exact hP
  have f_1 : h_1 sd = some (.inl (4, 420, .inl (upd sf ((i * 7) + k) (vp_nar .byte ((nI (x + 1)).toInt8.toInt32))))) := by rw [eh_1]; exact fh_up_self _ _ _
  have g_1_0 := (congrFun eh_1 a).trans (fh_keep hs ha rfl)
  exact fh_vret hx hb hr hlocks (⟨rfl, by rw [eh_1, nar12 hx2]⟩) hP hS (Nat.le_of_ble_eq_true rfl) (Nat.le_of_ble_eq_true rfl) dX7_choose_34

set_option maxRecDepth 100000 in
set_option maxHeartbeats 4000000 in
theorem c_Ses_clashes (l : Launch) (G : fG) (A : Nat → Prop) (h : FH) (sz : Nat) (a ba na ch sd bb nb : Nat) (num opn : Int32) (B N : St) (ha : h a = some (oSes num ba na opn ch sd)) (hB : pSt h ba bb B) (hN : pSt h na nb N) (ta tb : Nat) (T : St) (hT : pSt h ta tb T) (i k : Nat) (hi : i < 60) (hk : k < 7) : Met l yX7_clashes wsX7_clashes { frames := 1, cells := 0, slots := 0, locals := 26 } (va_Pc [.ref a, .int (nI i), .int (nI k), .ref ta] (fh_Pre G A h sz)) (fh_Q G (fun v u => v = some (.int (bI (seClash (B i) (N i) (T i) k))) ∧ u = h) A) 0 0 A := by
  refine fh_Met [.ref a, .int (nI i), .int (nI k), .ref ta] (by decide) rfl (Nat.le_of_ble_eq_true rfl) ?_
  intro p e s m below meth c hx hb hr hlocks hml hown hnm hts hsz hP hE hS ls hl
  have ht : ∀ w ∈ wB, w.before _ s = true := fun w h9 => hts w (List.mem_cons_of_mem _ h9)
  have hl : lv_has ls 7 [(0, .ref a), (1, .int (nI i)), (2, .int (nI k)), (3, .ref ta)] := hl
  obtain ⟨hb1, fb, hb2, hb3⟩ := hB
  obtain ⟨hn1, fn, hn2, hn3⟩ := hN
  obtain ⟨ht1, ft, ht2, ht3⟩ := hT
  refine lv_aload_n hx hb dX7_clashes_0 rfl (lv_at hl 0 rfl) ?_
  refine fh_get (C := RX7) (T := TX7) (N := 6) hx hb ht inX7 hown hE.1 hP ha rfl 1 (by decide) (ht _ kw_150) (fun _ h9 => h9) (v := .ref ba) rfl dX7_clashes_1 ?_
  refine lv_iload_n hx hb dX7_clashes_4 rfl (lv_at hl 1 rfl) ?_
  refine fh_cV (q := (RX8, TX8, 1)) (As := [.int (nI i)]) (rest := []) (b := ba) ⟨hx, hb, hml, hown, ht⟩ (c_St_row l G A h _ ba bb i fb hb1 hb2 hi) (cwV 1 ht (gV kw_369 kw_338 kw_339 kw_2 kw_340) rfl rfl rfl yd_X8_row ⟨(Nat.le_of_ble_eq_true rfl), (Nat.le_of_ble_eq_true rfl)⟩) hP hE hS hb1 rfl rfl hl.1 rfl (Nat.le_of_ble_eq_true rfl) dX7_clashes_5 ⟨(Nat.le_of_ble_eq_true rfl), (Nat.le_of_ble_eq_true rfl)⟩ (fun v u H locs hp hP hz hS => ?_)
  obtain ⟨rfl, eu⟩ := hp
  rw [eu] at hP
  refine W.eq (g2 := F0 m 8 ls [va_rf (fb i)]) rfl ?_
  refine fh_astore (lv' := [(4, va_rf (fb i)), (0, .ref a), (1, .int (nI i)), (2, .int (nI k)), (3, .ref ta)]) hx hb dX7_clashes_8 hl (by decide) rfl (fun ls hl => ?_)
  refine lv_aload_n hx hb dX7_clashes_10 rfl (lv_at hl 1 rfl) ?_
  refine fh_get (C := RX7) (T := TX7) (N := 6) hx hb ht inX7 hown hE.1 hP ha rfl 2 (by decide) (ht _ kw_151) (fun _ h9 => h9) (v := .ref na) rfl dX7_clashes_11 ?_
  refine lv_iload_n hx hb dX7_clashes_14 rfl (lv_at hl 2 rfl) ?_
  refine fh_cV (q := (RX8, TX8, 1)) (As := [.int (nI i)]) (rest := []) (b := na) ⟨hx, hb, hml, hown, ht⟩ (c_St_row l G A h _ na nb i fn hn1 hn2 hi) (cwV 1 ht (gV kw_369 kw_338 kw_339 kw_2 kw_340) rfl rfl rfl yd_X8_row ⟨(Nat.le_of_ble_eq_true rfl), (Nat.le_of_ble_eq_true rfl)⟩) hP hE hS hn1 rfl rfl hl.1 rfl (Nat.le_of_ble_eq_true rfl) dX7_clashes_15 ⟨(Nat.le_of_ble_eq_true rfl), (Nat.le_of_ble_eq_true rfl)⟩ (fun v u H locs hp hP hz hS => ?_)
  obtain ⟨rfl, eu⟩ := hp
  rw [eu] at hP
  refine W.eq (g2 := F0 m 18 ls [va_rf (fn i)]) rfl ?_
  refine fh_astore (lv' := [(5, va_rf (fn i)), (4, va_rf (fb i)), (0, .ref a), (1, .int (nI i)), (2, .int (nI k)), (3, .ref ta)]) hx hb dX7_clashes_18 hl (by decide) (by first | rfl | simp [List.filter, va_rf_cat]) (fun ls hl => ?_)
  refine lv_aload_n hx hb dX7_clashes_20 rfl (lv_at hl 5 rfl) ?_
  refine lv_iload_n hx hb dX7_clashes_21 rfl (lv_at hl 3 rfl) ?_
  refine fh_cV (q := (RX8, TX8, 1)) (As := [.int (nI i)]) (rest := []) (b := ta) ⟨hx, hb, hml, hown, ht⟩ (c_St_row l G A h _ ta tb i ft ht1 ht2 hi) (cwV 1 ht (gV kw_369 kw_338 kw_339 kw_2 kw_340) rfl rfl rfl yd_X8_row ⟨(Nat.le_of_ble_eq_true rfl), (Nat.le_of_ble_eq_true rfl)⟩) hP hE hS ht1 rfl rfl hl.1 rfl (Nat.le_of_ble_eq_true rfl) dX7_clashes_22 ⟨(Nat.le_of_ble_eq_true rfl), (Nat.le_of_ble_eq_true rfl)⟩ (fun v u H locs hp hP hz hS => ?_)
  obtain ⟨rfl, eu⟩ := hp
  rw [eu] at hP
  refine W.eq (g2 := F0 m 25 ls [va_rf (ft i)]) rfl ?_
  refine fh_astore (lv' := [(6, va_rf (ft i)), (5, va_rf (fn i)), (4, va_rf (fb i)), (0, .ref a), (1, .int (nI i)), (2, .int (nI k)), (3, .ref ta)]) hx hb dX7_clashes_25 hl (by decide) (by first | rfl | simp [List.filter, va_rf_cat]) (fun ls hl => ?_)
  refine fh_aload hx hb dX7_clashes_27 (lv_at hl 2 rfl) ?_
  refine fh_ifnonnull (tgt := 34) hx hb dX7_clashes_29 (by decide) (fun eo => ?_) (fun x4 eo => ?_)
  · have e4 := pRo_none (eo ▸ hb3 i hi)
    refine lv_iconst (v := (nI 0)) hx hb dX7_clashes_32 (by decide) ?_
    exact fh_zret hx hb hr hlocks rfl (⟨congrArg (fun z => some (Value.int z)) (by rw [e4]; rfl), rfl⟩) hP hS (Nat.le_of_ble_eq_true rfl) (Nat.le_of_ble_eq_true rfl) dX7_clashes_33
  · obtain ⟨f4, e4, -⟩ := pRo_some (eo ▸ hb3 i hi)
    refine lv_iload_n hx hb dX7_clashes_34 rfl (lv_at hl 5 rfl) ?_
    refine lv_bipush (v := (nI 6)) hx hb dX7_clashes_35 (by decide) ?_
    refine lv_icmp_ne (tgt := 79) hx hb dX7_clashes_37 (by decide) (fun c1 => ?_) (fun c1 => ?_)
    · have k6 : ¬ k = 6 := fun q => c1 (by rw [q])
      refine fh_aload hx hb dX7_clashes_79 (lv_at hl 1 rfl) ?_
      refine fh_aload hx hb dX7_clashes_81 (lv_at hl 2 rfl) ?_
      refine lv_iload_n hx hb dX7_clashes_83 rfl (lv_at hl 5 rfl) ?_
      refine fh_cS (As := [va_rf (fn i), va_rf (fb i), .int (nI k)]) (rest := []) ⟨hx, hb, hml, hown, ht⟩ (c_Row_differ l G A h _ (fn i) (fb i) (N i) (B i) k (by omega) (hn3 i hi) (hb3 i hi)) (va_cwS 3 ht (gS kw_422 kw_423 kw_10 kw_424) rfl rfl rfl yd_X5_differ.2 ⟨(Nat.le_of_ble_eq_true rfl), (Nat.le_of_ble_eq_true rfl)⟩) hP hE hS rfl hl.1 rfl (Nat.le_of_ble_eq_true rfl) dX7_clashes_84 ⟨(Nat.le_of_ble_eq_true rfl), (Nat.le_of_ble_eq_true rfl)⟩ (fun v u H locs hp hP hz hS => ?_)
      obtain ⟨rfl, eu⟩ := hp
      rw [eu] at hP
      refine W.eq (g2 := F0 m 87 ls [.int (bI (differO (N i) (B i) k))]) rfl ?_
      refine lv_if_eq (tgt := 116) hx hb dX7_clashes_87 (by decide) (fun d0 => ?_) (fun d0 => ?_)
      · refine lv_iconst (v := (nI 0)) hx hb dX7_clashes_116 (by decide) ?_
        exact fh_zret hx hb hr hlocks rfl (⟨congrArg (fun z => some (Value.int z)) (bI_0 (fun q => by rw [e4] at q d0; simp [seClash, k6, bI_eq.mp d0] at q)), rfl⟩) hP hS (Nat.le_of_ble_eq_true rfl) (Nat.le_of_ble_eq_true rfl) dX7_clashes_117
      · refine fh_aload hx hb dX7_clashes_90 (lv_at hl 0 rfl) ?_
        refine fh_aload hx hb dX7_clashes_92 (lv_at hl 2 rfl) ?_
        refine lv_iload_n hx hb dX7_clashes_94 rfl (lv_at hl 5 rfl) ?_
        refine fh_cS (As := [va_rf (ft i), va_rf (fb i), .int (nI k)]) (rest := []) ⟨hx, hb, hml, hown, ht⟩ (c_Row_differ l G A h _ (ft i) (fb i) (T i) (B i) k (by omega) (ht3 i hi) (hb3 i hi)) (va_cwS 3 ht (gS kw_422 kw_423 kw_10 kw_424) rfl rfl rfl yd_X5_differ.2 ⟨(Nat.le_of_ble_eq_true rfl), (Nat.le_of_ble_eq_true rfl)⟩) hP hE hS rfl hl.1 rfl (Nat.le_of_ble_eq_true rfl) dX7_clashes_95 ⟨(Nat.le_of_ble_eq_true rfl), (Nat.le_of_ble_eq_true rfl)⟩ (fun v u H locs hp hP hz hS => ?_)
        obtain ⟨rfl, eu⟩ := hp
        rw [eu] at hP
        refine W.eq (g2 := F0 m 98 ls [.int (bI (differO (T i) (B i) k))]) rfl ?_
        refine lv_if_eq (tgt := 116) hx hb dX7_clashes_98 (by decide) (fun d1 => ?_) (fun d1 => ?_)
        · refine lv_iconst (v := (nI 0)) hx hb dX7_clashes_116 (by decide) ?_
          exact fh_zret hx hb hr hlocks rfl (⟨congrArg (fun z => some (Value.int z)) (bI_0 (fun q => by rw [e4] at q d1; simp [seClash, k6, bI_eq.mp d1] at q)), rfl⟩) hP hS (Nat.le_of_ble_eq_true rfl) (Nat.le_of_ble_eq_true rfl) dX7_clashes_117
        · refine fh_aload hx hb dX7_clashes_101 (lv_at hl 0 rfl) ?_
          refine fh_aload hx hb dX7_clashes_103 (lv_at hl 1 rfl) ?_
          refine lv_iload_n hx hb dX7_clashes_105 rfl (lv_at hl 5 rfl) ?_
          refine fh_cS (As := [va_rf (ft i), va_rf (fn i), .int (nI k)]) (rest := []) ⟨hx, hb, hml, hown, ht⟩ (c_Row_differ l G A h _ (ft i) (fn i) (T i) (N i) k (by omega) (ht3 i hi) (hn3 i hi)) (va_cwS 3 ht (gS kw_422 kw_423 kw_10 kw_424) rfl rfl rfl yd_X5_differ.2 ⟨(Nat.le_of_ble_eq_true rfl), (Nat.le_of_ble_eq_true rfl)⟩) hP hE hS rfl hl.1 rfl (Nat.le_of_ble_eq_true rfl) dX7_clashes_106 ⟨(Nat.le_of_ble_eq_true rfl), (Nat.le_of_ble_eq_true rfl)⟩ (fun v u H locs hp hP hz hS => ?_)
          obtain ⟨rfl, eu⟩ := hp
          rw [eu] at hP
          refine W.eq (g2 := F0 m 109 ls [.int (bI (differO (T i) (N i) k))]) rfl ?_
          refine lv_if_eq (tgt := 116) hx hb dX7_clashes_109 (by decide) (fun d2 => ?_) (fun d2 => ?_)
          · refine lv_iconst (v := (nI 0)) hx hb dX7_clashes_116 (by decide) ?_
            exact fh_zret hx hb hr hlocks rfl (⟨congrArg (fun z => some (Value.int z)) (bI_0 (fun q => by rw [e4] at q; simp [seClash, k6, bI_eq.mp d2] at q)), rfl⟩) hP hS (Nat.le_of_ble_eq_true rfl) (Nat.le_of_ble_eq_true rfl) dX7_clashes_117
          · refine lv_iconst (v := (nI 1)) hx hb dX7_clashes_112 (by decide) ?_
            refine lv_goto (tgt := 117) hx hb dX7_clashes_113 (by decide) ?_
            exact fh_zret hx hb hr hlocks rfl (⟨congrArg (fun z => some (Value.int z)) (bI_1 (by have z0 := bI_nz d0; have z1 := bI_nz d1; have z2 := bI_nz d2; rw [e4] at z0 z1 ⊢; simp [seClash, k6, z0, z1, z2])), rfl⟩) hP hS (Nat.le_of_ble_eq_true rfl) (Nat.le_of_ble_eq_true rfl) dX7_clashes_117
    · have k6 : k = 6 := (nI_eq (by omega) (by decide)).mp c1
      subst k6
      refine fh_aload hx hb dX7_clashes_40 (lv_at hl 1 rfl) ?_
      refine fh_ifnonnull (tgt := 68) hx hb dX7_clashes_42 (by decide) (fun eo => ?_) (fun x5 eo => ?_)
      · have e5 := pRo_none (eo ▸ hn3 i hi)
        refine fh_aload hx hb dX7_clashes_45 (lv_at hl 0 rfl) ?_
        refine fh_ifnull (tgt := 64) hx hb dX7_clashes_47 (by decide) (fun eo => ?_) (fun x6 eo => ?_)
        · have e6 := pRo_none (eo ▸ ht3 i hi)
          refine lv_iconst (v := (nI 0)) hx hb dX7_clashes_64 (by decide) ?_
          refine lv_goto (tgt := 78) hx hb dX7_clashes_65 (by decide) ?_
          exact fh_zret hx hb hr hlocks rfl (⟨congrArg (fun z => some (Value.int z)) (by rw [e4, e5, e6]; rfl), rfl⟩) hP hS (Nat.le_of_ble_eq_true rfl) (Nat.le_of_ble_eq_true rfl) dX7_clashes_78
        · obtain ⟨f6, e6, -⟩ := pRo_some (eo ▸ ht3 i hi)
          refine fh_aload hx hb dX7_clashes_50 (lv_at hl 0 rfl) ?_
          refine fh_aload hx hb dX7_clashes_52 (lv_at hl 2 rfl) ?_
          refine fh_cS (As := [va_rf (ft i), va_rf (fb i)]) (rest := []) ⟨hx, hb, hml, hown, ht⟩ (c_Row_alike l G A h _ (ft i) (fb i) (T i) (B i) (ht3 i hi) (hb3 i hi)) (va_cwS 2 ht (gS kw_411 kw_412 kw_10 kw_413) rfl rfl rfl yd_X5_alike.2 ⟨(Nat.le_of_ble_eq_true rfl), (Nat.le_of_ble_eq_true rfl)⟩) hP hE hS rfl hl.1 rfl (Nat.le_of_ble_eq_true rfl) dX7_clashes_54 ⟨(Nat.le_of_ble_eq_true rfl), (Nat.le_of_ble_eq_true rfl)⟩ (fun v u H locs hp hP hz hS => ?_)
          obtain ⟨rfl, eu⟩ := hp
          rw [eu] at hP
          refine W.eq (g2 := F0 m 57 ls [.int (bI (alikeO (T i) (B i)))]) rfl ?_
          refine lv_if_ne (tgt := 64) hx hb dX7_clashes_57 (by decide) (fun c2 => ?_) (fun c2 => ?_)
          · refine lv_iconst (v := (nI 0)) hx hb dX7_clashes_64 (by decide) ?_
            refine lv_goto (tgt := 78) hx hb dX7_clashes_65 (by decide) ?_
            exact fh_zret hx hb hr hlocks rfl (⟨congrArg (fun z => some (Value.int z)) (by rw [e4, e5]; rw [e4] at c2; rw [e6] at c2 ⊢; exact bI_n0 c2), rfl⟩) hP hS (Nat.le_of_ble_eq_true rfl) (Nat.le_of_ble_eq_true rfl) dX7_clashes_78
          · refine lv_iconst (v := (nI 1)) hx hb dX7_clashes_60 (by decide) ?_
            refine lv_goto (tgt := 78) hx hb dX7_clashes_61 (by decide) ?_
            exact fh_zret hx hb hr hlocks rfl (⟨congrArg (fun z => some (Value.int z)) (by rw [e4, e5]; rw [e4] at c2; rw [e6] at c2 ⊢; exact bI_n1 c2), rfl⟩) hP hS (Nat.le_of_ble_eq_true rfl) (Nat.le_of_ble_eq_true rfl) dX7_clashes_78
      · obtain ⟨f5, e5, -⟩ := pRo_some (eo ▸ hn3 i hi)
        refine fh_aload hx hb dX7_clashes_68 (lv_at hl 0 rfl) ?_
        refine fh_ifnonnull (tgt := 77) hx hb dX7_clashes_70 (by decide) (fun eo => ?_) (fun x6 eo => ?_)
        · have e6 := pRo_none (eo ▸ ht3 i hi)
          refine lv_iconst (v := (nI 1)) hx hb dX7_clashes_73 (by decide) ?_
          refine lv_goto (tgt := 78) hx hb dX7_clashes_74 (by decide) ?_
          exact fh_zret hx hb hr hlocks rfl (⟨congrArg (fun z => some (Value.int z)) (by rw [e4, e5, e6]; rfl), rfl⟩) hP hS (Nat.le_of_ble_eq_true rfl) (Nat.le_of_ble_eq_true rfl) dX7_clashes_78
        · obtain ⟨f6, e6, -⟩ := pRo_some (eo ▸ ht3 i hi)
          refine lv_iconst (v := (nI 0)) hx hb dX7_clashes_77 (by decide) ?_
          exact fh_zret hx hb hr hlocks rfl (⟨congrArg (fun z => some (Value.int z)) (by rw [e4, e5, e6]; rfl), rfl⟩) hP hS (Nat.le_of_ble_eq_true rfl) (Nat.le_of_ble_eq_true rfl) dX7_clashes_78
end
section
set_option maxRecDepth 100000 in
set_option maxHeartbeats 4000000 in
theorem c_Ses_takes (l : Launch) (G : fG) (A : Nat → Prop) (h : FH) (sz : Nat) (a ba na ch sd bb nb : Nat) (num opn : Int32) (B N : St) (ha : h a = some (oSes num ba na opn ch sd)) (hB : pSt h ba bb B) (hN : pSt h na nb N) (sf : Nat → Int32) (hs : h sd = some (aI 4 420 sf)) (ta tb : Nat) (T : St) (hT : pSt h ta tb T) (i : Nat) (hi : i < 60) (k : Nat) (hk : k < 7) : Met l yX7_takes wsX7_takes { frames := 2, cells := 0, slots := 0, locals := 52 } (va_Pc [.ref a, .int (nI i), .int (nI k), .ref ta] (fh_Pre G A h sz)) (fh_Q G (fun v u => v = some (.int (bI (seTakes (B i) (N i) (T i) k (sf (i * 7 + k) - nI 1)))) ∧ u = h) A) 0 0 A := by
  refine fh_Met [.ref a, .int (nI i), .int (nI k), .ref ta] (by decide) rfl (Nat.le_of_ble_eq_true rfl) ?_
  intro p e s m below meth c hx hb hr hlocks hml hown hnm hts hsz hP hE hS ls hl
  have ht : ∀ w ∈ wB, w.before _ s = true := fun w h9 => hts w (List.mem_cons_of_mem _ h9)
  have hl : lv_has ls 5 [(0, .ref a), (1, .int (nI i)), (2, .int (nI k)), (3, .ref ta)] := hl
  have hB0 := hB; have hN0 := hN; have hT0 := hT
  obtain ⟨hb1, fb, hb2, hb3⟩ := hB
  obtain ⟨hn1, fn, hn2, hn3⟩ := hN
  obtain ⟨ht1, ft, ht2, ht3⟩ := hT
  refine lv_aload_n hx hb dX7_takes_0 rfl (lv_at hl 0 rfl) ?_
  refine fh_get (C := RX7) (T := TX7) (N := 6) hx hb ht inX7 hown hE.1 hP ha rfl 2 (by decide) (ht _ kw_151) (fun _ h9 => h9) (v := .ref na) rfl dX7_takes_1 ?_
  refine lv_iload_n hx hb dX7_takes_4 rfl (lv_at hl 1 rfl) ?_
  refine fh_cV (q := (RX8, TX8, 1)) (As := [.int (nI i)]) (rest := []) (b := na) ⟨hx, hb, hml, hown, ht⟩ (c_St_row l G A h _ na nb i fn hn1 hn2 hi) (cwV 1 ht (gV kw_369 kw_338 kw_339 kw_2 kw_340) rfl rfl rfl yd_X8_row ⟨(Nat.le_of_ble_eq_true rfl), (Nat.le_of_ble_eq_true rfl)⟩) hP hE hS hn1 rfl rfl hl.1 rfl (Nat.le_of_ble_eq_true rfl) dX7_takes_5 ⟨(Nat.le_of_ble_eq_true rfl), (Nat.le_of_ble_eq_true rfl)⟩ (fun v u H locs hp hP hz hS => ?_)
  obtain ⟨rfl, eu⟩ := hp
  rw [eu] at hP
  refine W.eq (g2 := F0 m 8 ls [va_rf (fn i)]) rfl ?_
  refine fh_astore (lv' := [(4, va_rf (fn i)), (0, .ref a), (1, .int (nI i)), (2, .int (nI k)), (3, .ref ta)]) hx hb dX7_takes_8 hl (by decide) rfl (fun ls hl => ?_)
  refine fh_aload hx hb dX7_takes_10 (lv_at hl 0 rfl) ?_
  refine lv_aload_n hx hb dX7_takes_12 rfl (lv_at hl 1 rfl) ?_
  refine fh_get (C := RX7) (T := TX7) (N := 6) hx hb ht inX7 hown hE.1 hP ha rfl 1 (by decide) (ht _ kw_150) (fun _ h9 => h9) (v := .ref ba) rfl dX7_takes_13 ?_
  refine lv_iload_n hx hb dX7_takes_16 rfl (lv_at hl 2 rfl) ?_
  refine fh_cV (q := (RX8, TX8, 1)) (As := [.int (nI i)]) (rest := [va_rf (fn i)]) (b := ba) ⟨hx, hb, hml, hown, ht⟩ (c_St_row l G A h _ ba bb i fb hb1 hb2 hi) (cwV 1 ht (gV kw_369 kw_338 kw_339 kw_2 kw_340) rfl rfl rfl yd_X8_row ⟨(Nat.le_of_ble_eq_true rfl), (Nat.le_of_ble_eq_true rfl)⟩) hP hE hS hb1 rfl rfl hl.1 rfl (Nat.le_trans (catsum _) (Nat.le_of_ble_eq_true rfl)) dX7_takes_17 ⟨(Nat.le_of_ble_eq_true rfl), (Nat.le_of_ble_eq_true rfl)⟩ (fun v u H locs hp hP hz hS => ?_)
  obtain ⟨rfl, eu⟩ := hp
  rw [eu] at hP
  refine W.eq (g2 := F0 m 20 ls [va_rf (fb i), va_rf (fn i)]) rfl ?_
  refine lv_iload_n hx hb dX7_takes_20 rfl (lv_at hl 3 rfl) ?_
  refine fh_cS (As := [va_rf (fn i), va_rf (fb i), .int (nI k)]) (rest := []) ⟨hx, hb, hml, hown, ht⟩ (c_Row_differ l G A h _ (fn i) (fb i) (N i) (B i) k (by omega) (hn3 i hi) (hb3 i hi)) (va_cwS 3 ht (gS kw_422 kw_423 kw_10 kw_424) rfl rfl rfl yd_X5_differ.2 ⟨(Nat.le_of_ble_eq_true rfl), (Nat.le_of_ble_eq_true rfl)⟩) hP hE hS rfl hl.1 rfl (Nat.le_of_ble_eq_true rfl) dX7_takes_21 ⟨(Nat.le_of_ble_eq_true rfl), (Nat.le_of_ble_eq_true rfl)⟩ (fun v u H locs hp hP hz hS => ?_)
  obtain ⟨rfl, eu⟩ := hp
  rw [eu] at hP
  refine W.eq (g2 := F0 m 24 ls [.int (bI (differO (N i) (B i) k))]) rfl ?_
  refine lv_if_eq (tgt := 65) hx hb dX7_takes_24 (by decide) (fun d0 => ?_) (fun d0 => ?_)
  · refine lv_iconst (v := (nI 0)) hx hb dX7_takes_65 (by decide) ?_
    exact fh_zret hx hb hr hlocks rfl (⟨congrArg (fun z => some (Value.int z)) (bI_0 (fun q => by simp [seTakes, bI_eq.mp d0] at q)), rfl⟩) hP hS (Nat.le_of_ble_eq_true rfl) (Nat.le_of_ble_eq_true rfl) dX7_takes_66
  · refine fh_aload hx hb dX7_takes_27 (lv_at hl 0 rfl) ?_
    refine lv_aload_n hx hb dX7_takes_29 rfl (lv_at hl 4 rfl) ?_
    refine lv_iload_n hx hb dX7_takes_30 rfl (lv_at hl 2 rfl) ?_
    refine fh_cV (q := (RX8, TX8, 1)) (As := [.int (nI i)]) (rest := [va_rf (fn i)]) (b := ta) ⟨hx, hb, hml, hown, ht⟩ (c_St_row l G A h _ ta tb i ft ht1 ht2 hi) (cwV 1 ht (gV kw_369 kw_338 kw_339 kw_2 kw_340) rfl rfl rfl yd_X8_row ⟨(Nat.le_of_ble_eq_true rfl), (Nat.le_of_ble_eq_true rfl)⟩) hP hE hS ht1 rfl rfl hl.1 rfl (Nat.le_trans (catsum _) (Nat.le_of_ble_eq_true rfl)) dX7_takes_31 ⟨(Nat.le_of_ble_eq_true rfl), (Nat.le_of_ble_eq_true rfl)⟩ (fun v u H locs hp hP hz hS => ?_)
    obtain ⟨rfl, eu⟩ := hp
    rw [eu] at hP
    refine W.eq (g2 := F0 m 34 ls [va_rf (ft i), va_rf (fn i)]) rfl ?_
    refine lv_iload_n hx hb dX7_takes_34 rfl (lv_at hl 3 rfl) ?_
    refine fh_cS (As := [va_rf (fn i), va_rf (ft i), .int (nI k)]) (rest := []) ⟨hx, hb, hml, hown, ht⟩ (c_Row_differ l G A h _ (fn i) (ft i) (N i) (T i) k (by omega) (hn3 i hi) (ht3 i hi)) (va_cwS 3 ht (gS kw_422 kw_423 kw_10 kw_424) rfl rfl rfl yd_X5_differ.2 ⟨(Nat.le_of_ble_eq_true rfl), (Nat.le_of_ble_eq_true rfl)⟩) hP hE hS rfl hl.1 rfl (Nat.le_of_ble_eq_true rfl) dX7_takes_35 ⟨(Nat.le_of_ble_eq_true rfl), (Nat.le_of_ble_eq_true rfl)⟩ (fun v u H locs hp hP hz hS => ?_)
    obtain ⟨rfl, eu⟩ := hp
    rw [eu] at hP
    refine W.eq (g2 := F0 m 38 ls [.int (bI (differO (N i) (T i) k))]) rfl ?_
    refine lv_if_eq (tgt := 65) hx hb dX7_takes_38 (by decide) (fun d1 => ?_) (fun d1 => ?_)
    · refine lv_iconst (v := (nI 0)) hx hb dX7_takes_65 (by decide) ?_
      exact fh_zret hx hb hr hlocks rfl (⟨congrArg (fun z => some (Value.int z)) (bI_0 (fun q => by simp [seTakes, bI_eq.mp d1] at q)), rfl⟩) hP hS (Nat.le_of_ble_eq_true rfl) (Nat.le_of_ble_eq_true rfl) dX7_takes_66
    · refine lv_aload_n hx hb dX7_takes_41 rfl (lv_at hl 1 rfl) ?_
      refine lv_iload_n hx hb dX7_takes_42 rfl (lv_at hl 2 rfl) ?_
      refine lv_iload_n hx hb dX7_takes_43 rfl (lv_at hl 3 rfl) ?_
      refine lv_aload_n hx hb dX7_takes_44 rfl (lv_at hl 4 rfl) ?_
      refine fh_cV (q := (RX7, TX7, 6)) (As := [.int (nI i), .int (nI k), .ref ta]) (rest := []) (b := a) ⟨hx, hb, hml, hown, ht⟩ (c_Ses_clashes l G A h _ a ba na ch sd bb nb num opn B N ha hB0 hN0 ta tb T hT0 i k hi hk) (cwV 3 ht (gV kw_454 kw_419 kw_420 kw_11 kw_421) rfl rfl rfl yd_X7_clashes ⟨(Nat.le_of_ble_eq_true rfl), (Nat.le_of_ble_eq_true rfl)⟩) hP hE hS ha rfl rfl hl.1 rfl (Nat.le_of_ble_eq_true rfl) dX7_takes_45 ⟨(Nat.le_of_ble_eq_true rfl), (Nat.le_of_ble_eq_true rfl)⟩ (fun v u H locs hp hP hz hS => ?_)
      obtain ⟨rfl, eu⟩ := hp
      rw [eu] at hP
      refine W.eq (g2 := F0 m 48 ls [.int (bI (seClash (B i) (N i) (T i) k))]) rfl ?_
      refine lv_if_eq (tgt := 61) hx hb dX7_takes_48 (by decide) (fun d2 => ?_) (fun d2 => ?_)
      · refine lv_iconst (v := (nI 1)) hx hb dX7_takes_61 (by decide) ?_
        refine lv_goto (tgt := 66) hx hb dX7_takes_62 (by decide) ?_
        exact fh_zret hx hb hr hlocks rfl (⟨congrArg (fun z => some (Value.int z)) (bI_1 (by simp [seTakes, bI_nz d0, bI_nz d1, bI_eq.mp d2])), rfl⟩) hP hS (Nat.le_of_ble_eq_true rfl) (Nat.le_of_ble_eq_true rfl) dX7_takes_66
      · refine lv_aload_n hx hb dX7_takes_51 rfl (lv_at hl 1 rfl) ?_
        refine lv_iload_n hx hb dX7_takes_52 rfl (lv_at hl 2 rfl) ?_
        refine lv_iload_n hx hb dX7_takes_53 rfl (lv_at hl 3 rfl) ?_
        refine fh_cV (q := (RX7, TX7, 6)) (As := [.int (nI i), .int (nI k)]) (rest := []) (b := a) ⟨hx, hb, hml, hown, ht⟩ (c_Ses_side l G A h _ a ba na ch sd num opn sf ha hs i k hi hk) (cwV 2 ht (gV kw_455 kw_442 kw_443 kw_11 kw_444) rfl rfl rfl yd_X7_sideOf ⟨(Nat.le_of_ble_eq_true rfl), (Nat.le_of_ble_eq_true rfl)⟩) hP hE hS ha rfl rfl hl.1 rfl (Nat.le_of_ble_eq_true rfl) dX7_takes_54 ⟨(Nat.le_of_ble_eq_true rfl), (Nat.le_of_ble_eq_true rfl)⟩ (fun v u H locs hp hP hz hS => ?_)
        obtain ⟨rfl, eu⟩ := hp
        rw [eu] at hP
        refine W.eq (g2 := F0 m 57 ls [.int (sf (i * 7 + k) - nI 1)]) rfl ?_
        refine lv_iconst (v := (nI 1)) hx hb dX7_takes_57 (by decide) ?_
        refine lv_icmp_ne (tgt := 65) hx hb dX7_takes_58 (by decide) (fun d3 => ?_) (fun d3 => ?_)
        · refine lv_iconst (v := (nI 0)) hx hb dX7_takes_65 (by decide) ?_
          exact fh_zret hx hb hr hlocks rfl (⟨congrArg (fun z => some (Value.int z)) (bI_0 (fun q => by simp [seTakes, bI_nz d2, d3] at q)), rfl⟩) hP hS (Nat.le_of_ble_eq_true rfl) (Nat.le_of_ble_eq_true rfl) dX7_takes_66
        · refine lv_iconst (v := (nI 1)) hx hb dX7_takes_61 (by decide) ?_
          refine lv_goto (tgt := 66) hx hb dX7_takes_62 (by decide) ?_
          exact fh_zret hx hb hr hlocks rfl (⟨congrArg (fun z => some (Value.int z)) (bI_1 (by simp [seTakes, bI_nz d0, bI_nz d1, d3])), rfl⟩) hP hS (Nat.le_of_ble_eq_true rfl) (Nat.le_of_ble_eq_true rfl) dX7_takes_66

set_option maxRecDepth 100000 in
set_option maxHeartbeats 4000000 in
theorem c_Ses_merged (l : Launch) (G : fG) (A : Nat → Prop) (h : FH) (sz : Nat) (hA : ∀ q, sz ≤ q → A q) (a ba na ch sd bb nb : Nat) (num opn : Int32) (B N : St) (ha : h a = some (oSes num ba na opn ch sd)) (hB : pSt h ba bb B) (hN : pSt h na nb N) (sf : Nat → Int32) (hs : h sd = some (aI 4 420 sf)) (ta tb : Nat) (T : St) (hT : pSt h ta tb T) (i : Nat) (hi : i < 60) : Met l yX7_merged wsX7_merged { frames := 3, cells := 12, slots := 42, locals := 80 } (va_Pc [.ref a, .int (nI i), .ref ta] (fh_Pre G A h sz)) (fh_Q G (fun v u => ∃ o, v = some (va_rf o) ∧ fh_ext sz h u ∧ pRo u o (seMerged (B i) (N i) (T i) (fun k => sf (i * 7 + k) - nI 1))) A) 12 42 A := by
  refine fh_Met [.ref a, .int (nI i), .ref ta] (by decide) rfl (Nat.le_of_ble_eq_true rfl) ?_
  intro p e s m below meth c hx hb hr hlocks hml hown hnm hts hsz hP hE hS ls hl
  have ht : ∀ w ∈ wB, w.before _ s = true := fun w h9 => hts w (List.mem_cons_of_mem _ h9)
  have hl : lv_has ls 8 [(0, .ref a), (1, .int (nI i)), (2, .ref ta)] := hl
  have hA0 : ∀ q, s.heap.size ≤ q → A q := fun q hq => hA q (by rw [← hsz]; exact hq)
  have hlt0 : ∀ a e, h a = some e → a < sz := fun a9 e9 q9 => by rw [← hsz]; exact hP.lt q9
  have hB0 := hB; have hN0 := hN; have hT0 := hT
  obtain ⟨hb1, fb, hb2, hb3⟩ := hB
  obtain ⟨hn1, fn, hn2, hn3⟩ := hN
  obtain ⟨ht1, ft, ht2, ht3⟩ := hT
  refine lv_aload_n hx hb dX7_merged_0 rfl (lv_at hl 0 rfl) ?_
  refine fh_get (C := RX7) (T := TX7) (N := 6) hx hb ht inX7 hown hE.1 hP ha rfl 1 (by decide) (ht _ kw_150) (fun _ h9 => h9) (v := .ref ba) rfl dX7_merged_1 ?_
  refine lv_iload_n hx hb dX7_merged_4 rfl (lv_at hl 1 rfl) ?_
  refine fh_cV (q := (RX8, TX8, 1)) (As := [.int (nI i)]) (rest := []) (b := ba) ⟨hx, hb, hml, hown, ht⟩ (c_St_row l G A h _ ba bb i fb hb1 hb2 hi) (cwV 1 ht (gV kw_369 kw_338 kw_339 kw_2 kw_340) rfl rfl rfl yd_X8_row ⟨(Nat.le_of_ble_eq_true rfl), (Nat.le_of_ble_eq_true rfl)⟩) hP hE hS hb1 rfl rfl hl.1 rfl (Nat.le_of_ble_eq_true rfl) dX7_merged_5 ⟨(Nat.le_of_ble_eq_true rfl), (Nat.le_of_ble_eq_true rfl)⟩ (fun v u H locs hp hP hz hS => ?_)
  obtain ⟨rfl, eu⟩ := hp
  rw [eu] at hP
  refine W.eq (g2 := F0 m 8 ls [va_rf (fb i)]) rfl ?_
  refine fh_astore_n (lv' := [(3, va_rf (fb i)), (0, .ref a), (1, .int (nI i)), (2, .ref ta)]) hx hb dX7_merged_8 rfl hl (by decide) rfl (fun ls hl => ?_)
  refine lv_aload_n hx hb dX7_merged_9 rfl (lv_at hl 1 rfl) ?_
  refine fh_get (C := RX7) (T := TX7) (N := 6) hx hb ht inX7 hown hE.1 hP ha rfl 2 (by decide) (ht _ kw_151) (fun _ h9 => h9) (v := .ref na) rfl dX7_merged_10 ?_
  refine lv_iload_n hx hb dX7_merged_13 rfl (lv_at hl 2 rfl) ?_
  refine fh_cV (q := (RX8, TX8, 1)) (As := [.int (nI i)]) (rest := []) (b := na) ⟨hx, hb, hml, hown, ht⟩ (c_St_row l G A h _ na nb i fn hn1 hn2 hi) (cwV 1 ht (gV kw_369 kw_338 kw_339 kw_2 kw_340) rfl rfl rfl yd_X8_row ⟨(Nat.le_of_ble_eq_true rfl), (Nat.le_of_ble_eq_true rfl)⟩) hP hE hS hn1 rfl rfl hl.1 rfl (Nat.le_of_ble_eq_true rfl) dX7_merged_14 ⟨(Nat.le_of_ble_eq_true rfl), (Nat.le_of_ble_eq_true rfl)⟩ (fun v u H locs hp hP hz hS => ?_)
  obtain ⟨rfl, eu⟩ := hp
  rw [eu] at hP
  refine W.eq (g2 := F0 m 17 ls [va_rf (fn i)]) rfl ?_
  refine fh_astore (lv' := [(4, va_rf (fn i)), (3, va_rf (fb i)), (0, .ref a), (1, .int (nI i)), (2, .ref ta)]) hx hb dX7_merged_17 hl (by decide) (by first | rfl | simp [List.filter, va_rf_cat]) (fun ls hl => ?_)
  refine lv_aload_n hx hb dX7_merged_19 rfl (lv_at hl 4 rfl) ?_
  refine lv_iload_n hx hb dX7_merged_20 rfl (lv_at hl 3 rfl) ?_
  refine fh_cV (q := (RX8, TX8, 1)) (As := [.int (nI i)]) (rest := []) (b := ta) ⟨hx, hb, hml, hown, ht⟩ (c_St_row l G A h _ ta tb i ft ht1 ht2 hi) (cwV 1 ht (gV kw_369 kw_338 kw_339 kw_2 kw_340) rfl rfl rfl yd_X8_row ⟨(Nat.le_of_ble_eq_true rfl), (Nat.le_of_ble_eq_true rfl)⟩) hP hE hS ht1 rfl rfl hl.1 rfl (Nat.le_of_ble_eq_true rfl) dX7_merged_21 ⟨(Nat.le_of_ble_eq_true rfl), (Nat.le_of_ble_eq_true rfl)⟩ (fun v u H locs hp hP hz hS => ?_)
  obtain ⟨rfl, eu⟩ := hp
  rw [eu] at hP
  refine W.eq (g2 := F0 m 24 ls [va_rf (ft i)]) rfl ?_
  refine fh_astore (lv' := [(5, va_rf (ft i)), (4, va_rf (fn i)), (3, va_rf (fb i)), (0, .ref a), (1, .int (nI i)), (2, .ref ta)]) hx hb dX7_merged_24 hl (by decide) (by first | rfl | simp [List.filter, va_rf_cat]) (fun ls hl => ?_)
  refine lv_aload_n hx hb dX7_merged_26 rfl (lv_at hl 3 rfl) ?_
  refine lv_iload_n hx hb dX7_merged_27 rfl (lv_at hl 4 rfl) ?_
  refine fh_cV (q := (RX7, TX7, 6)) (As := [.int (nI i)]) (rest := []) (b := a) ⟨hx, hb, hml, hown, ht⟩ (c_Ses_changed l G A h _ a ba na ch sd bb nb num opn B N ha hB0 hN0 i hi) (cwV 1 ht (gV kw_453 kw_408 kw_409 kw_11 kw_410) rfl rfl rfl yd_X7_changed ⟨(Nat.le_of_ble_eq_true rfl), (Nat.le_of_ble_eq_true rfl)⟩) hP hE hS ha rfl rfl hl.1 rfl (Nat.le_of_ble_eq_true rfl) dX7_merged_28 ⟨(Nat.le_of_ble_eq_true rfl), (Nat.le_of_ble_eq_true rfl)⟩ (fun v u H locs hp hP hz hS => ?_)
  obtain ⟨rfl, eu⟩ := hp
  rw [eu] at hP
  refine W.eq (g2 := F0 m 31 ls [.int (bI (!alikeO (B i) (N i)))]) rfl ?_
  refine lv_if_ne (tgt := 37) hx hb dX7_merged_31 (by decide) (fun c1 => ?_) (fun c1 => ?_)
  · have e1 : ¬ alikeO (B i) (N i) = true := by have z := bI_nz c1; revert z; cases alikeO (B i) (N i) <;> decide
    refine lv_aload_n hx hb dX7_merged_37 rfl (lv_at hl 3 rfl) ?_
    refine lv_iload_n hx hb dX7_merged_38 rfl (lv_at hl 4 rfl) ?_
    refine lv_bipush (v := (nI 6)) hx hb dX7_merged_39 (by decide) ?_
    refine lv_aload_n hx hb dX7_merged_41 rfl (lv_at hl 5 rfl) ?_
    refine fh_cV (q := (RX7, TX7, 6)) (As := [.int (nI i), .int (nI 6), .ref ta]) (rest := []) (b := a) ⟨hx, hb, hml, hown, ht⟩ (c_Ses_clashes l G A h _ a ba na ch sd bb nb num opn B N ha hB0 hN0 ta tb T hT0 i 6 hi (by decide)) (cwV 3 ht (gV kw_454 kw_419 kw_420 kw_11 kw_421) rfl rfl rfl yd_X7_clashes ⟨(Nat.le_of_ble_eq_true rfl), (Nat.le_of_ble_eq_true rfl)⟩) hP hE hS ha rfl rfl hl.1 rfl (Nat.le_of_ble_eq_true rfl) dX7_merged_42 ⟨(Nat.le_of_ble_eq_true rfl), (Nat.le_of_ble_eq_true rfl)⟩ (fun v u H locs hp hP hz hS => ?_)
    obtain ⟨rfl, eu⟩ := hp
    rw [eu] at hP
    refine W.eq (g2 := F0 m 45 ls [.int (bI (seClash (B i) (N i) (T i) 6))]) rfl ?_
    refine lv_if_eq (tgt := 67) hx hb dX7_merged_45 (by decide) (fun c2 => ?_) (fun c2 => ?_)
    · have e2 : ¬ seClash (B i) (N i) (T i) 6 = true := by rw [bI_eq.mp c2]; decide
      refine fh_aload hx hb dX7_merged_67 (lv_at hl 1 rfl) ?_
      refine fh_ifnull (tgt := 86) hx hb dX7_merged_69 (by decide) (fun eo => ?_) (fun x4 eo => ?_)
      · have e4 := pRo_none (eo ▸ hn3 i hi)
        refine fh_aload hx hb dX7_merged_86 (lv_at hl 1 rfl) ?_
        exact fh_aret (o := (fn i)) hx hb hr hlocks (⟨fn i, rfl, fh_ext.rf, by rw [seM4 e1 e2 (Or.inl e4)]; exact hn3 i hi⟩) hP hS (Nat.le_of_ble_eq_true rfl) (Nat.le_of_ble_eq_true rfl) dX7_merged_88
      · obtain ⟨m4, e4, hm4⟩ := pRo_some (eo ▸ hn3 i hi)
        have hl : lv_has ls 8 [(5, va_rf (ft i)), (4, .ref x4), (3, va_rf (fb i)), (0, .ref a), (1, .int (nI i)), (2, .ref ta)] := by rw [eo] at hl; exact hl
        have hro4 : pRo h (some x4) (N i) := eo ▸ hn3 i hi
        refine fh_aload hx hb dX7_merged_72 (lv_at hl 0 rfl) ?_
        refine fh_ifnull (tgt := 86) hx hb dX7_merged_74 (by decide) (fun eo => ?_) (fun x5 eo => ?_)
        · have e5 := pRo_none (eo ▸ ht3 i hi)
          refine lv_aload hx hb dX7_merged_86 (lv_at hl 1 rfl) ?_
          exact fh_aret (o := some x4) hx hb hr hlocks (⟨some x4, rfl, fh_ext.rf, by rw [seM4 e1 e2 (Or.inr e5)]; exact hro4⟩) hP hS (Nat.le_of_ble_eq_true rfl) (Nat.le_of_ble_eq_true rfl) dX7_merged_88
        · obtain ⟨m5, e5, hm5⟩ := pRo_some (eo ▸ ht3 i hi)
          have hl : lv_has ls 8 [(5, .ref x5), (4, .ref x4), (3, va_rf (fb i)), (0, .ref a), (1, .int (nI i)), (2, .ref ta)] := by rw [eo] at hl; exact hl
          refine lv_aload hx hb dX7_merged_77 (lv_at hl 0 rfl) ?_
          refine fh_aload_n hx hb dX7_merged_79 rfl (lv_at hl 2 rfl) ?_
          have hro5 : pRo h (some x5) (T i) := eo ▸ ht3 i hi
          refine fh_cS (As := [.ref x5, va_rf (fb i)]) (rest := []) ⟨hx, hb, hml, hown, ht⟩ (c_Row_alike l G A h _ (some x5) (fb i) (T i) (B i) hro5 (hb3 i hi)) (va_cwS 2 ht (gS kw_411 kw_412 kw_10 kw_413) rfl rfl rfl yd_X5_alike.2 ⟨(Nat.le_of_ble_eq_true rfl), (Nat.le_of_ble_eq_true rfl)⟩) hP hE hS rfl hl.1 rfl (Nat.le_of_ble_eq_true rfl) dX7_merged_80 ⟨(Nat.le_of_ble_eq_true rfl), (Nat.le_of_ble_eq_true rfl)⟩ (fun v u H locs hp hP hz hS => ?_)
          obtain ⟨rfl, eu⟩ := hp
          rw [eu] at hP
          refine W.eq (g2 := F0 m 83 ls [.int (bI (alikeO (T i) (B i)))]) rfl ?_
          refine lv_if_eq (tgt := 89) hx hb dX7_merged_83 (by decide) (fun c6 => ?_) (fun c6 => ?_)
          · have e6 : ¬ alikeO (T i) (B i) = true := by rw [bI_eq.mp c6]; decide
            refine lv_aload hx hb dX7_merged_89 (lv_at hl 0 rfl) ?_
            refine lv_astore (lv' := [(6, .ref x5), (5, .ref x5), (4, .ref x4), (3, va_rf (fb i)), (0, .ref a), (1, .int (nI i)), (2, .ref ta)]) hx hb dX7_merged_91 hl (by decide) rfl (fun ls hl => ?_)
            refine lv_iconst (v := (nI 0)) hx hb dX7_merged_93 (by decide) ?_
            refine lv_istore (lv' := [(7, .int (nI 0)), (6, .ref x5), (5, .ref x5), (4, .ref x4), (3, va_rf (fb i)), (0, .ref a), (1, .int (nI i)), (2, .ref ta)]) hx hb dX7_merged_94 hl (by decide) rfl (fun ls hl => ?_)
            have loop : ∀ (n j : Nat), j + n = 6 → ∀ (hh : FH) (cr : Nat) (gg : Rw) (_ : fh_ext sz h hh) (_ : pRow hh cr gg) (_ : ∀ k, k < j → gg k = if seTakes (B i) (N i) (T i) k (sf (i * 7 + k) - nI 1) = true then m4 k else m5 k) (_ : ∀ k, j ≤ k → k < 6 → gg k = m5 k), ∀ (H : Heap) (locs : List Loc) (ls : Array Slot), fh_P G vwCl hh H → va_S A s.heap H locs → lv_has ls 8 [(7, .int (nI j)), (6, .ref cr), (5, .ref x5), (4, .ref x4), (3, va_rf (fb i)), (0, .ref a), (1, .int (nI i)), (2, .ref ta)] → W p l e (headSpec wsX7_merged { frames := 3, cells := 12, slots := 42, locals := 80 }).room s m [.ref a, .int (nI i), .ref ta].toArray below meth c H locs (2 * j) (7 * j) (MQ below (fh_Q G (fun v u => ∃ o, v = some (va_rf o) ∧ fh_ext sz h u ∧ pRo u o (seMerged (B i) (N i) (T i) (fun k => sf (i * 7 + k) - nI 1))) A) [.ref a, .int (nI i), .ref ta].toArray s 12 42 A) (F0 m 96 ls []) := by
              intro n
              induction n with
              | zero =>
                intro j hin hh cr gg he hcr h1 h2 H locs ls hP hS hl
                refine lv_iload hx hb dX7_merged_96 (lv_at hl 0 rfl) ?_
                refine lv_bipush (v := (nI 6)) hx hb dX7_merged_98 (by decide) ?_
                refine lv_icmp_ge (tgt := 136) hx hb dX7_merged_100 (by decide) (fun _ => ?_) (fun c9 => absurd (nI_le (by omega) (by omega)) c9)
                refine lv_aload hx hb dX7_merged_136 (lv_at hl 1 rfl) ?_
                exact fh_aret (o := some cr) hx hb hr hlocks (⟨some cr, rfl, he, by rw [e4] at e1 e2 h1 ⊢; rw [e5] at e2 e6 h1 ⊢; rw [seM7 e1 e2 e6]; exact pRow_eq hcr (fun k hk => h1 k (by omega))⟩) hP hS (by omega) (by omega) dX7_merged_138
              | succ n ih =>
                intro j hin hh cr gg he hcr h1 h2 H locs ls hP hS hl
                have hs0 : hh sd = some (aI 4 420 sf) := he.at hs (hlt0 _ _ hs)
                have ha0 : hh a = some (oSes num ba na opn ch sd) := he.at ha (hlt0 _ _ ha)
                refine lv_iload hx hb dX7_merged_96 (lv_at hl 0 rfl) ?_
                refine lv_bipush (v := (nI 6)) hx hb dX7_merged_98 (by decide) ?_
                refine lv_icmp_ge (tgt := 136) hx hb dX7_merged_100 (by decide) (fun c9 => absurd c9 (nI_ge (by omega) (by decide))) (fun _ => ?_)
                refine lv_aload_n hx hb dX7_merged_103 rfl (lv_at hl 5 rfl) ?_
                refine lv_iload_n hx hb dX7_merged_104 rfl (lv_at hl 6 rfl) ?_
                refine lv_iload hx hb dX7_merged_105 (lv_at hl 0 rfl) ?_
                refine lv_aload_n hx hb dX7_merged_107 rfl (lv_at hl 7 rfl) ?_
                refine fh_cV (q := (RX7, TX7, 6)) (As := [.int (nI i), .int (nI j), .ref ta]) (rest := []) (b := a) ⟨hx, hb, hml, hown, ht⟩ (c_Ses_takes l G A hh _ a ba na ch sd bb nb num opn B N ha0 (pSt_ext he hlt0 hB0) (pSt_ext he hlt0 hN0) sf hs0 ta tb T (pSt_ext he hlt0 hT0) i hi j (by omega)) (cwV 3 ht (gV kw_456 kw_458 kp_10 kw_11 kw_459) rfl rfl rfl yd_X7_takes ⟨(Nat.le_of_ble_eq_true rfl), (Nat.le_of_ble_eq_true rfl)⟩) hP hE hS ha0 rfl rfl hl.1 rfl (Nat.le_of_ble_eq_true rfl) dX7_merged_108 ⟨(by show _ ≤ 12; omega), (by show _ ≤ 42; omega)⟩ (fun v u H locs hp hP hz hS => ?_)
                obtain ⟨rfl, eu⟩ := hp
                rw [eu] at hP
                refine W.eq (g2 := F0 m 111 ls [.int (bI (seTakes (B i) (N i) (T i) j (sf (i * 7 + j) - nI 1)))]) rfl ?_
                refine lv_if_eq (tgt := 130) hx hb dX7_merged_111 (by decide) (fun c7 => ?_) (fun c7 => ?_)
                · refine lv_iinc (v := nI (j + 1)) (lv' := [(7, .int (nI (j + 1))), (6, .ref cr), (5, .ref x5), (4, .ref x4), (3, va_rf (fb i)), (0, .ref a), (1, .int (nI i)), (2, .ref ta)]) hx hb dX7_merged_130 hl (k := 0) rfl (nI_1 _) (by decide) rfl (fun ls hl => ?_)
                  refine lv_goto (tgt := 96) hx hb dX7_merged_133 (by decide) ?_
                  refine W.widen (k := 2 * (j + 1)) (n := 7 * (j + 1)) (by omega) (by omega) ?_
                  exact ih (j + 1) (by omega) hh cr gg he hcr (lt_s h1 (by rw [bI_eq.mp c7]; exact h2 j (Nat.le_refl j) (by omega))) (fun k hk => h2 k (by omega)) H locs ls hP hS (lv_sub hl [0, 1, 2, 3, 4, 5, 6, 7] rfl)
                · have hm4u : pRow hh x4 m4 := pRow_ext he hlt0 hm4
                  obtain ⟨y4, g4, hy1, hy2, hy3⟩ := hm4u
                  have hcr0 := hcr
                  obtain ⟨yc, gc, hc1, hc2, hc3⟩ := hcr0
                  refine lv_aload hx hb dX7_merged_114 (lv_at hl 1 rfl) ?_
                  refine lv_iload hx hb dX7_merged_116 (lv_at hl 0 rfl) ?_
                  refine lv_aload hx hb dX7_merged_118 (lv_at hl 3 rfl) ?_
                  refine lv_iload hx hb dX7_merged_120 (lv_at hl 0 rfl) ?_
                  refine fh_cV (q := (RX5, TX5, 1)) (As := [.int (nI j)]) (rest := [.int (nI j), .ref cr]) (b := x4) ⟨hx, hb, hml, hown, ht⟩ (c_Row_value l G A hh _ x4 y4 j g4 hy1 hy2 (by omega)) (cwV 1 ht (gV kw_460 kw_347 kw_348 kw_10 kw_349) rfl rfl rfl yd_X5_value ⟨(Nat.le_of_ble_eq_true rfl), (Nat.le_of_ble_eq_true rfl)⟩) hP hE hS hy1 rfl rfl hl.1 rfl (Nat.le_of_ble_eq_true rfl) dX7_merged_122 ⟨(by show _ ≤ 12; omega), (by show _ ≤ 42; omega)⟩ (fun v u H locs hp hP hz hS => ?_)
                  obtain ⟨rfl, eu⟩ := hp
                  rw [eu] at hP
                  refine W.eq (g2 := F0 m 125 ls [.long (g4 j), .int (nI j), .ref cr]) rfl ?_
                  have hS9 := hS.1
                  refine fh_cV (q := (RX5, TX5, 1)) (As := [.int (nI j), .long (g4 j)]) (rest := []) (b := cr) ⟨hx, hb, hml, hown, ht⟩ (c_Row_with l G A hh _ (fun q hq => hA0 q (Nat.le_trans hS.1 hq)) cr j (g4 j) gg hcr (by omega)) (cwV 2 ht (gV kw_461 kw_360 kw_361 kw_10 kw_362) rfl rfl rfl yd_X5_with ⟨(Nat.le_of_ble_eq_true rfl), (Nat.le_of_ble_eq_true rfl)⟩) hP hE hS hc1 rfl rfl hl.1 rfl (Nat.le_of_ble_eq_true rfl) dX7_merged_125 ⟨(by show _ ≤ 12; omega), (by show _ ≤ 42; omega)⟩ (fun v u H locs hp hP hz hS => ?_)
                  obtain ⟨r, hr9, rfl, he9, hr8⟩ := hp
                  refine W.eq (g2 := F0 m 128 ls [.ref r]) rfl ?_
                  refine lv_astore (lv' := [(6, .ref r), (7, .int (nI j)), (5, .ref x5), (4, .ref x4), (3, va_rf (fb i)), (0, .ref a), (1, .int (nI i)), (2, .ref ta)]) hx hb dX7_merged_128 hl (by decide) rfl (fun ls hl => ?_)
                  refine lv_iinc (v := nI (j + 1)) (lv' := [(7, .int (nI (j + 1))), (6, .ref r), (5, .ref x5), (4, .ref x4), (3, va_rf (fb i)), (0, .ref a), (1, .int (nI i)), (2, .ref ta)]) hx hb dX7_merged_130 hl (k := 1) rfl (nI_1 _) (by decide) rfl (fun ls hl => ?_)
                  refine lv_goto (tgt := 96) hx hb dX7_merged_133 (by decide) ?_
                  refine W.widen (k := 2 * (j + 1)) (n := 7 * (j + 1)) (by omega) (by omega) ?_
                  exact ih (j + 1) (by omega) u r (rwSet gg j (g4 j)) (he.trans he9 (by rw [← hsz]; exact Nat.le_trans hS9 (Nat.le_refl _))) hr8 (lt_s (fun k hk => (rwSet_n (by omega)).trans (h1 k hk)) (by rw [rwSet_s, if_pos (bI_nz c7)]; exact hy3 j (by omega))) (fun k hk h6 => (rwSet_n (by omega)).trans (h2 k (by omega) h6)) H locs ls hP hS (lv_sub hl [0, 1, 2, 3, 4, 5, 6, 7] rfl)
            exact loop 6 0 (by omega) h x5 m5 fh_ext.rf hm5 (fun k hk => absurd hk (Nat.not_lt_zero k)) (fun _ _ _ => rfl) _ _ _ hP hS hl
          · refine lv_aload hx hb dX7_merged_86 (lv_at hl 1 rfl) ?_
            have e6 := bI_nz c6
            exact fh_aret (o := some x4) hx hb hr hlocks (⟨some x4, rfl, fh_ext.rf, by rw [e4] at e1 e2 hro4 ⊢; rw [e5] at e2 e6 ⊢; rw [seM6 e1 e2 e6]; exact hro4⟩) hP hS (Nat.le_of_ble_eq_true rfl) (Nat.le_of_ble_eq_true rfl) dX7_merged_88
    · have e2 := bI_nz c2
      refine lv_aload_n hx hb dX7_merged_48 rfl (lv_at hl 3 rfl) ?_
      refine lv_iload_n hx hb dX7_merged_49 rfl (lv_at hl 4 rfl) ?_
      refine lv_bipush (v := (nI 6)) hx hb dX7_merged_50 (by decide) ?_
      refine fh_cV (q := (RX7, TX7, 6)) (As := [.int (nI i), .int (nI 6)]) (rest := []) (b := a) ⟨hx, hb, hml, hown, ht⟩ (c_Ses_side l G A h _ a ba na ch sd num opn sf ha hs i 6 hi (by decide)) (cwV 2 ht (gV kw_455 kw_442 kw_443 kw_11 kw_444) rfl rfl rfl yd_X7_sideOf ⟨(Nat.le_of_ble_eq_true rfl), (Nat.le_of_ble_eq_true rfl)⟩) hP hE hS ha rfl rfl hl.1 rfl (Nat.le_of_ble_eq_true rfl) dX7_merged_52 ⟨(Nat.le_of_ble_eq_true rfl), (Nat.le_of_ble_eq_true rfl)⟩ (fun v u H locs hp hP hz hS => ?_)
      obtain ⟨rfl, eu⟩ := hp
      rw [eu] at hP
      refine W.eq (g2 := F0 m 55 ls [.int (sf (i * 7 + 6) - nI 1)]) rfl ?_
      refine lv_iconst (v := (nI 1)) hx hb dX7_merged_55 (by decide) ?_
      refine lv_icmp_ne (tgt := 64) hx hb dX7_merged_56 (by decide) (fun c3 => ?_) (fun c3 => ?_)
      · refine fh_aload hx hb dX7_merged_64 (lv_at hl 0 rfl) ?_
        exact fh_aret (o := (ft i)) hx hb hr hlocks (⟨ft i, rfl, fh_ext.rf, by rw [seM3 e1 e2 c3]; exact ht3 i hi⟩) hP hS (Nat.le_of_ble_eq_true rfl) (Nat.le_of_ble_eq_true rfl) dX7_merged_66
      · refine fh_aload hx hb dX7_merged_59 (lv_at hl 1 rfl) ?_
        refine lv_goto (tgt := 66) hx hb dX7_merged_61 (by decide) ?_
        exact fh_aret (o := (fn i)) hx hb hr hlocks (⟨fn i, rfl, fh_ext.rf, by rw [seM2 e1 e2 c3]; exact hn3 i hi⟩) hP hS (Nat.le_of_ble_eq_true rfl) (Nat.le_of_ble_eq_true rfl) dX7_merged_66
  · have e1 : alikeO (B i) (N i) = true := by have z := bI_eq.mp c1; revert z; cases alikeO (B i) (N i) <;> decide
    refine fh_aload hx hb dX7_merged_34 (lv_at hl 0 rfl) ?_
    exact fh_aret (o := (ft i)) hx hb hr hlocks (⟨ft i, rfl, fh_ext.rf, by rw [seM1 e1]; exact ht3 i hi⟩) hP hS (Nat.le_of_ble_eq_true rfl) (Nat.le_of_ble_eq_true rfl) dX7_merged_36
end
