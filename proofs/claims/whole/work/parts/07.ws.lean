abbrev wsX0_init : List Cond := .code yX0_init cX0_init 10 none :: wB
theorem yd_X0_init : yX0_init.cls = RX0 ∧ yX0_init.cls ≠ "java/lang/invoke/MethodHandle" ∧ yX0_init.cls ≠ "java/lang/invoke/VarHandle" ∧ (parseMethodDescriptor yX0_init.desc).map (fun d => d.parameters.length) = some 5 := by decide +kernel
abbrev wsX0_holds : List Cond := .code yX0_holds cX0_holds 5 (some .boolean) :: wB
theorem yd_X0_holds : yX0_holds.cls = RX0 ∧ yX0_holds.cls ≠ "java/lang/invoke/MethodHandle" ∧ yX0_holds.cls ≠ "java/lang/invoke/VarHandle" ∧ (parseMethodDescriptor yX0_holds.desc).map (fun d => d.parameters.length) = some 2 := by decide +kernel
abbrev wsX0_meets : List Cond := .code yX0_meets cX0_meets 2 (some .boolean) :: wB
theorem yd_X0_meets : yX0_meets.cls = RX0 ∧ yX0_meets.cls ≠ "java/lang/invoke/MethodHandle" ∧ yX0_meets.cls ≠ "java/lang/invoke/VarHandle" ∧ (parseMethodDescriptor yX0_meets.desc).map (fun d => d.parameters.length) = some 1 := by decide +kernel
abbrev wsX1_init : List Cond := .code yX1_init cX1_init 1 none :: wB
theorem yd_X1_init : yX1_init.cls = RX1 ∧ yX1_init.cls ≠ "java/lang/invoke/MethodHandle" ∧ yX1_init.cls ≠ "java/lang/invoke/VarHandle" ∧ (parseMethodDescriptor yX1_init.desc).map (fun d => d.parameters.length) = some 0 := by decide +kernel
abbrev wsX1_keep : List Cond := .code yX1_keep cX1_keep 4 none :: wB
theorem yd_X1_keep : yX1_keep.cls = RX1 ∧ yX1_keep.cls ≠ "java/lang/invoke/MethodHandle" ∧ yX1_keep.cls ≠ "java/lang/invoke/VarHandle" ∧ (parseMethodDescriptor yX1_keep.desc).map (fun d => d.parameters.length) = some 2 := by decide +kernel
abbrev wsX1_stepBack : List Cond := .code yX1_stepBack cX1_stepBack 1 (some .boolean) :: wB
theorem yd_X1_stepBack : yX1_stepBack.cls = RX1 ∧ yX1_stepBack.cls ≠ "java/lang/invoke/MethodHandle" ∧ yX1_stepBack.cls ≠ "java/lang/invoke/VarHandle" ∧ (parseMethodDescriptor yX1_stepBack.desc).map (fun d => d.parameters.length) = some 0 := by decide +kernel
abbrev wsX1_changedObject : List Cond := .code yX1_changedObject cX1_changedObject 1 (some .int) :: wB
theorem yd_X1_changedObject : yX1_changedObject.cls = RX1 ∧ yX1_changedObject.cls ≠ "java/lang/invoke/MethodHandle" ∧ yX1_changedObject.cls ≠ "java/lang/invoke/VarHandle" ∧ (parseMethodDescriptor yX1_changedObject.desc).map (fun d => d.parameters.length) = some 0 := by decide +kernel
abbrev wsX1_rowBefore : List Cond := .code yX1_rowBefore cX1_rowBefore 1 (some (.object "ObjectMerge$Row")) :: wB
theorem yd_X1_rowBefore : yX1_rowBefore.cls = RX1 ∧ yX1_rowBefore.cls ≠ "java/lang/invoke/MethodHandle" ∧ yX1_rowBefore.cls ≠ "java/lang/invoke/VarHandle" ∧ (parseMethodDescriptor yX1_rowBefore.desc).map (fun d => d.parameters.length) = some 0 := by decide +kernel
abbrev wsX1_place : List Cond := .code yX1_place cX1_place 1 (some .int) :: wB
theorem yd_X1_place : yX1_place.cls = RX1 ∧ yX1_place.cls ≠ "java/lang/invoke/MethodHandle" ∧ yX1_place.cls ≠ "java/lang/invoke/VarHandle" ∧ (parseMethodDescriptor yX1_place.desc).map (fun d => d.parameters.length) = some 0 := by decide +kernel
abbrev wsX2_init : List Cond := .code yX2_init cX2_init 1 none :: wB
theorem yd_X2_init : yX2_init.cls = RX2 ∧ yX2_init.cls ≠ "java/lang/invoke/MethodHandle" ∧ yX2_init.cls ≠ "java/lang/invoke/VarHandle" ∧ (parseMethodDescriptor yX2_init.desc).map (fun d => d.parameters.length) = some 0 := by decide +kernel
abbrev wsX2_gather : List Cond := .code yX2_gather cX2_gather 4 none :: wB
theorem yd_X2_gather : yX2_gather.cls = RX2 ∧ yX2_gather.cls ≠ "java/lang/invoke/MethodHandle" ∧ yX2_gather.cls ≠ "java/lang/invoke/VarHandle" ∧ (parseMethodDescriptor yX2_gather.desc).map (fun d => d.parameters.length) = some 2 := by decide +kernel
abbrev wsX2_gatherOf : List Cond := .code yX2_gatherOf cX2_gatherOf 4 none :: wB
theorem yd_X2_gatherOf : yX2_gatherOf.cls = RX2 ∧ yX2_gatherOf.cls ≠ "java/lang/invoke/MethodHandle" ∧ yX2_gatherOf.cls ≠ "java/lang/invoke/VarHandle" ∧ (parseMethodDescriptor yX2_gatherOf.desc).map (fun d => d.parameters.length) = some 2 := by decide +kernel
abbrev wsX2_unsettled : List Cond := .code yX2_unsettled cX2_unsettled 3 (some .int) :: wB
theorem yd_X2_unsettled : yX2_unsettled.cls = RX2 ∧ yX2_unsettled.cls ≠ "java/lang/invoke/MethodHandle" ∧ yX2_unsettled.cls ≠ "java/lang/invoke/VarHandle" ∧ (parseMethodDescriptor yX2_unsettled.desc).map (fun d => d.parameters.length) = some 0 := by decide +kernel
abbrev wsX2_has : List Cond := .code yX2_has cX2_has 2 (some .boolean) :: wB
theorem yd_X2_has : yX2_has.cls = RX2 ∧ yX2_has.cls ≠ "java/lang/invoke/MethodHandle" ∧ yX2_has.cls ≠ "java/lang/invoke/VarHandle" ∧ (parseMethodDescriptor yX2_has.desc).map (fun d => d.parameters.length) = some 1 := by decide +kernel
abbrev wsX2_objectOf : List Cond := .code yX2_objectOf cX2_objectOf 2 (some .int) :: wB
theorem yd_X2_objectOf : yX2_objectOf.cls = RX2 ∧ yX2_objectOf.cls ≠ "java/lang/invoke/MethodHandle" ∧ yX2_objectOf.cls ≠ "java/lang/invoke/VarHandle" ∧ (parseMethodDescriptor yX2_objectOf.desc).map (fun d => d.parameters.length) = some 1 := by decide +kernel
abbrev wsX2_fieldOf : List Cond := .code yX2_fieldOf cX2_fieldOf 2 (some .int) :: wB
theorem yd_X2_fieldOf : yX2_fieldOf.cls = RX2 ∧ yX2_fieldOf.cls ≠ "java/lang/invoke/MethodHandle" ∧ yX2_fieldOf.cls ≠ "java/lang/invoke/VarHandle" ∧ (parseMethodDescriptor yX2_fieldOf.desc).map (fun d => d.parameters.length) = some 1 := by decide +kernel
abbrev wsX3_init : List Cond := .code yX3_init cX3_init 3 none :: wB
theorem yd_X3_init : yX3_init.cls = RX3 ∧ yX3_init.cls ≠ "java/lang/invoke/MethodHandle" ∧ yX3_init.cls ≠ "java/lang/invoke/VarHandle" ∧ (parseMethodDescriptor yX3_init.desc).map (fun d => d.parameters.length) = some 1 := by decide +kernel
abbrev wsX3_below : List Cond := .code yX3_below cX3_below 2 (some .int) :: wB
theorem yd_X3_below : yX3_below.cls = RX3 ∧ yX3_below.cls ≠ "java/lang/invoke/MethodHandle" ∧ yX3_below.cls ≠ "java/lang/invoke/VarHandle" ∧ (parseMethodDescriptor yX3_below.desc).map (fun d => d.parameters.length) = some 1 := by decide +kernel
abbrev wsX4_init : List Cond := .code yX4_init cX4_init 1 none :: wB
theorem yd_X4_init : yX4_init.cls = RX4 ∧ yX4_init.cls ≠ "java/lang/invoke/MethodHandle" ∧ yX4_init.cls ≠ "java/lang/invoke/VarHandle" ∧ (parseMethodDescriptor yX4_init.desc).map (fun d => d.parameters.length) = some 0 := by decide +kernel
abbrev wsX4_add : List Cond := .code yX4_add cX4_add 5 (some .boolean) :: wB
theorem yd_X4_add : yX4_add.cls = RX4 ∧ yX4_add.cls ≠ "java/lang/invoke/MethodHandle" ∧ yX4_add.cls ≠ "java/lang/invoke/VarHandle" ∧ (parseMethodDescriptor yX4_add.desc).map (fun d => d.parameters.length) = some 1 := by decide +kernel
abbrev wsX4_bar : List Cond := .code yX4_bar cX4_bar 5 (some .boolean) :: wB
theorem yd_X4_bar : yX4_bar.cls = RX4 ∧ yX4_bar.cls ≠ "java/lang/invoke/MethodHandle" ∧ yX4_bar.cls ≠ "java/lang/invoke/VarHandle" ∧ (parseMethodDescriptor yX4_bar.desc).map (fun d => d.parameters.length) = some 2 := by decide +kernel
abbrev wsX4_release : List Cond := .code yX4_release cX4_release 4 none :: wB
theorem yd_X4_release : yX4_release.cls = RX4 ∧ yX4_release.cls ≠ "java/lang/invoke/MethodHandle" ∧ yX4_release.cls ≠ "java/lang/invoke/VarHandle" ∧ (parseMethodDescriptor yX4_release.desc).map (fun d => d.parameters.length) = some 1 := by decide +kernel
abbrev wsX5_init : List Cond := .code yX5_init cX5_init 1 none :: wB
theorem yd_X5_init : yX5_init.cls = RX5 ∧ yX5_init.cls ≠ "java/lang/invoke/MethodHandle" ∧ yX5_init.cls ≠ "java/lang/invoke/VarHandle" ∧ (parseMethodDescriptor yX5_init.desc).map (fun d => d.parameters.length) = some 0 := by decide +kernel
abbrev wsX5_value : List Cond := .code yX5_value cX5_value 2 (some .long) :: wB
theorem yd_X5_value : yX5_value.cls = RX5 ∧ yX5_value.cls ≠ "java/lang/invoke/MethodHandle" ∧ yX5_value.cls ≠ "java/lang/invoke/VarHandle" ∧ (parseMethodDescriptor yX5_value.desc).map (fun d => d.parameters.length) = some 1 := by decide +kernel
abbrev wsX5_with : List Cond := .code yX5_with cX5_with 6 (some (.object "ObjectMerge$Row")) :: wB
theorem yd_X5_with : yX5_with.cls = RX5 ∧ yX5_with.cls ≠ "java/lang/invoke/MethodHandle" ∧ yX5_with.cls ≠ "java/lang/invoke/VarHandle" ∧ (parseMethodDescriptor yX5_with.desc).map (fun d => d.parameters.length) = some 2 := by decide +kernel
abbrev wsX5_alike : List Cond := .code yX5_alike cX5_alike 3 (some .boolean) :: wB
theorem yd_X5_alike : yX5_alike.cls = RX5 ∧ yX5_alike.cls ≠ "java/lang/invoke/MethodHandle" ∧ yX5_alike.cls ≠ "java/lang/invoke/VarHandle" ∧ (parseMethodDescriptor yX5_alike.desc).map (fun d => d.parameters.length) = some 2 := by decide +kernel
abbrev wsX5_differ : List Cond := .code yX5_differ cX5_differ 3 (some .boolean) :: wB
theorem yd_X5_differ : yX5_differ.cls = RX5 ∧ yX5_differ.cls ≠ "java/lang/invoke/MethodHandle" ∧ yX5_differ.cls ≠ "java/lang/invoke/VarHandle" ∧ (parseMethodDescriptor yX5_differ.desc).map (fun d => d.parameters.length) = some 3 := by decide +kernel
abbrev wsX6_init : List Cond := .code yX6_init cX6_init 5 none :: wB
theorem yd_X6_init : yX6_init.cls = RX6 ∧ yX6_init.cls ≠ "java/lang/invoke/MethodHandle" ∧ yX6_init.cls ≠ "java/lang/invoke/VarHandle" ∧ (parseMethodDescriptor yX6_init.desc).map (fun d => d.parameters.length) = some 3 := by decide +kernel
abbrev wsX6_brokenIn : List Cond := .code yX6_brokenIn cX6_brokenIn 4 (some .boolean) :: wB
theorem yd_X6_brokenIn : yX6_brokenIn.cls = RX6 ∧ yX6_brokenIn.cls ≠ "java/lang/invoke/MethodHandle" ∧ yX6_brokenIn.cls ≠ "java/lang/invoke/VarHandle" ∧ (parseMethodDescriptor yX6_brokenIn.desc).map (fun d => d.parameters.length) = some 1 := by decide +kernel
abbrev wsX6_gap : List Cond := .code yX6_gap cX6_gap 6 (some .long) :: wB
theorem yd_X6_gap : yX6_gap.cls = RX6 ∧ yX6_gap.cls ≠ "java/lang/invoke/MethodHandle" ∧ yX6_gap.cls ≠ "java/lang/invoke/VarHandle" ∧ (parseMethodDescriptor yX6_gap.desc).map (fun d => d.parameters.length) = some 2 := by decide +kernel
abbrev wsX7_init : List Cond := .code yX7_init cX7_init 3 none :: wB
theorem yd_X7_init : yX7_init.cls = RX7 ∧ yX7_init.cls ≠ "java/lang/invoke/MethodHandle" ∧ yX7_init.cls ≠ "java/lang/invoke/VarHandle" ∧ (parseMethodDescriptor yX7_init.desc).map (fun d => d.parameters.length) = some 2 := by decide +kernel
abbrev wsX7_change : List Cond := .code yX7_change cX7_change 3 none :: wB
theorem yd_X7_change : yX7_change.cls = RX7 ∧ yX7_change.cls ≠ "java/lang/invoke/MethodHandle" ∧ yX7_change.cls ≠ "java/lang/invoke/VarHandle" ∧ (parseMethodDescriptor yX7_change.desc).map (fun d => d.parameters.length) = some 2 := by decide +kernel
abbrev wsX7_takeBack : List Cond := .code yX7_takeBack cX7_takeBack 1 (some .boolean) :: wB
theorem yd_X7_takeBack : yX7_takeBack.cls = RX7 ∧ yX7_takeBack.cls ≠ "java/lang/invoke/MethodHandle" ∧ yX7_takeBack.cls ≠ "java/lang/invoke/VarHandle" ∧ (parseMethodDescriptor yX7_takeBack.desc).map (fun d => d.parameters.length) = some 0 := by decide +kernel
abbrev wsX7_sideOf : List Cond := .code yX7_sideOf cX7_sideOf 4 (some .int) :: wB
theorem yd_X7_sideOf : yX7_sideOf.cls = RX7 ∧ yX7_sideOf.cls ≠ "java/lang/invoke/MethodHandle" ∧ yX7_sideOf.cls ≠ "java/lang/invoke/VarHandle" ∧ (parseMethodDescriptor yX7_sideOf.desc).map (fun d => d.parameters.length) = some 2 := by decide +kernel
abbrev wsX7_choose : List Cond := .code yX7_choose cX7_choose 5 none :: wB
theorem yd_X7_choose : yX7_choose.cls = RX7 ∧ yX7_choose.cls ≠ "java/lang/invoke/MethodHandle" ∧ yX7_choose.cls ≠ "java/lang/invoke/VarHandle" ∧ (parseMethodDescriptor yX7_choose.desc).map (fun d => d.parameters.length) = some 3 := by decide +kernel
abbrev wsX7_changed : List Cond := .code yX7_changed cX7_changed 2 (some .boolean) :: wB
theorem yd_X7_changed : yX7_changed.cls = RX7 ∧ yX7_changed.cls ≠ "java/lang/invoke/MethodHandle" ∧ yX7_changed.cls ≠ "java/lang/invoke/VarHandle" ∧ (parseMethodDescriptor yX7_changed.desc).map (fun d => d.parameters.length) = some 1 := by decide +kernel
abbrev wsX7_clashes : List Cond := .code yX7_clashes cX7_clashes 7 (some .boolean) :: wB
theorem yd_X7_clashes : yX7_clashes.cls = RX7 ∧ yX7_clashes.cls ≠ "java/lang/invoke/MethodHandle" ∧ yX7_clashes.cls ≠ "java/lang/invoke/VarHandle" ∧ (parseMethodDescriptor yX7_clashes.desc).map (fun d => d.parameters.length) = some 3 := by decide +kernel
abbrev wsX7_merged : List Cond := .code yX7_merged cX7_merged 8 (some (.object "ObjectMerge$Row")) :: wB
theorem yd_X7_merged : yX7_merged.cls = RX7 ∧ yX7_merged.cls ≠ "java/lang/invoke/MethodHandle" ∧ yX7_merged.cls ≠ "java/lang/invoke/VarHandle" ∧ (parseMethodDescriptor yX7_merged.desc).map (fun d => d.parameters.length) = some 2 := by decide +kernel
abbrev wsX7_takes : List Cond := .code yX7_takes cX7_takes 5 (some .boolean) :: wB
theorem yd_X7_takes : yX7_takes.cls = RX7 ∧ yX7_takes.cls ≠ "java/lang/invoke/MethodHandle" ∧ yX7_takes.cls ≠ "java/lang/invoke/VarHandle" ∧ (parseMethodDescriptor yX7_takes.desc).map (fun d => d.parameters.length) = some 3 := by decide +kernel
abbrev wsX8_init : List Cond := .code yX8_init cX8_init 1 none :: wB
theorem yd_X8_init : yX8_init.cls = RX8 ∧ yX8_init.cls ≠ "java/lang/invoke/MethodHandle" ∧ yX8_init.cls ≠ "java/lang/invoke/VarHandle" ∧ (parseMethodDescriptor yX8_init.desc).map (fun d => d.parameters.length) = some 0 := by decide +kernel
abbrev wsX8_row : List Cond := .code yX8_row cX8_row 2 (some (.object "ObjectMerge$Row")) :: wB
theorem yd_X8_row : yX8_row.cls = RX8 ∧ yX8_row.cls ≠ "java/lang/invoke/MethodHandle" ∧ yX8_row.cls ≠ "java/lang/invoke/VarHandle" ∧ (parseMethodDescriptor yX8_row.desc).map (fun d => d.parameters.length) = some 1 := by decide +kernel
abbrev wsX8_put : List Cond := .code yX8_put cX8_put 3 none :: wB
theorem yd_X8_put : yX8_put.cls = RX8 ∧ yX8_put.cls ≠ "java/lang/invoke/MethodHandle" ∧ yX8_put.cls ≠ "java/lang/invoke/VarHandle" ∧ (parseMethodDescriptor yX8_put.desc).map (fun d => d.parameters.length) = some 2 := by decide +kernel
abbrev wsX8_copy : List Cond := .code yX8_copy cX8_copy 3 (some (.object "ObjectMerge$State")) :: wB
theorem yd_X8_copy : yX8_copy.cls = RX8 ∧ yX8_copy.cls ≠ "java/lang/invoke/MethodHandle" ∧ yX8_copy.cls ≠ "java/lang/invoke/VarHandle" ∧ (parseMethodDescriptor yX8_copy.desc).map (fun d => d.parameters.length) = some 0 := by decide +kernel
abbrev wsX9_init : List Cond := .code yX9_init cX9_init 1 none :: wB
theorem yd_X9_init : yX9_init.cls = RX9 ∧ yX9_init.cls ≠ "java/lang/invoke/MethodHandle" ∧ yX9_init.cls ≠ "java/lang/invoke/VarHandle" ∧ (parseMethodDescriptor yX9_init.desc).map (fun d => d.parameters.length) = some 0 := by decide +kernel
abbrev wsX9_object : List Cond := .code yX9_object cX9_object 4 (some .int) :: wB
theorem yd_X9_object : yX9_object.cls = RX9 ∧ yX9_object.cls ≠ "java/lang/invoke/MethodHandle" ∧ yX9_object.cls ≠ "java/lang/invoke/VarHandle" ∧ (parseMethodDescriptor yX9_object.desc).map (fun d => d.parameters.length) = some 1 := by decide +kernel
abbrev wsX9_session : List Cond := .code yX9_session cX9_session 1 (some .int) :: wB
theorem yd_X9_session : yX9_session.cls = RX9 ∧ yX9_session.cls ≠ "java/lang/invoke/MethodHandle" ∧ yX9_session.cls ≠ "java/lang/invoke/VarHandle" ∧ (parseMethodDescriptor yX9_session.desc).map (fun d => d.parameters.length) = some 0 := by decide +kernel
abbrev wsX9_set : List Cond := .code yX9_set cX9_set 7 (some .boolean) :: wB
theorem yd_X9_set : yX9_set.cls = RX9 ∧ yX9_set.cls ≠ "java/lang/invoke/MethodHandle" ∧ yX9_set.cls ≠ "java/lang/invoke/VarHandle" ∧ (parseMethodDescriptor yX9_set.desc).map (fun d => d.parameters.length) = some 4 := by decide +kernel
abbrev wsX9_drop : List Cond := .code yX9_drop cX9_drop 4 (some .boolean) :: wB
theorem yd_X9_drop : yX9_drop.cls = RX9 ∧ yX9_drop.cls ≠ "java/lang/invoke/MethodHandle" ∧ yX9_drop.cls ≠ "java/lang/invoke/VarHandle" ∧ (parseMethodDescriptor yX9_drop.desc).map (fun d => d.parameters.length) = some 2 := by decide +kernel
abbrev wsX9_make : List Cond := .code yX9_make cX9_make 5 (some .int) :: wB
theorem yd_X9_make : yX9_make.cls = RX9 ∧ yX9_make.cls ≠ "java/lang/invoke/MethodHandle" ∧ yX9_make.cls ≠ "java/lang/invoke/VarHandle" ∧ (parseMethodDescriptor yX9_make.desc).map (fun d => d.parameters.length) = some 2 := by decide +kernel
abbrev wsX9_join : List Cond := .code yX9_join cX9_join 3 (some .int) :: wB
theorem yd_X9_join : yX9_join.cls = RX9 ∧ yX9_join.cls ≠ "java/lang/invoke/MethodHandle" ∧ yX9_join.cls ≠ "java/lang/invoke/VarHandle" ∧ (parseMethodDescriptor yX9_join.desc).map (fun d => d.parameters.length) = some 1 := by decide +kernel
abbrev wsX9_conflict : List Cond := .code yX9_conflict cX9_conflict 6 (some .int) :: wB
theorem yd_X9_conflict : yX9_conflict.cls = RX9 ∧ yX9_conflict.cls ≠ "java/lang/invoke/MethodHandle" ∧ yX9_conflict.cls ≠ "java/lang/invoke/VarHandle" ∧ (parseMethodDescriptor yX9_conflict.desc).map (fun d => d.parameters.length) = some 2 := by decide +kernel
abbrev wsX9_settle : List Cond := .code yX9_settle cX9_settle 7 (some .boolean) :: wB
theorem yd_X9_settle : yX9_settle.cls = RX9 ∧ yX9_settle.cls ≠ "java/lang/invoke/MethodHandle" ∧ yX9_settle.cls ≠ "java/lang/invoke/VarHandle" ∧ (parseMethodDescriptor yX9_settle.desc).map (fun d => d.parameters.length) = some 2 := by decide +kernel
abbrev wsX9_at : List Cond := .code yX9_at cX9_at 3 (some .long) :: wB
theorem yd_X9_at : yX9_at.cls = RX9 ∧ yX9_at.cls ≠ "java/lang/invoke/MethodHandle" ∧ yX9_at.cls ≠ "java/lang/invoke/VarHandle" ∧ (parseMethodDescriptor yX9_at.desc).map (fun d => d.parameters.length) = some 2 := by decide +kernel
abbrev wsX9_lock : List Cond := .code yX9_lock cX9_lock 11 (some .boolean) :: wB
theorem yd_X9_lock : yX9_lock.cls = RX9 ∧ yX9_lock.cls ≠ "java/lang/invoke/MethodHandle" ∧ yX9_lock.cls ≠ "java/lang/invoke/VarHandle" ∧ (parseMethodDescriptor yX9_lock.desc).map (fun d => d.parameters.length) = some 5 := by decide +kernel
abbrev wsX9_apart : List Cond := .code yX9_apart cX9_apart 5 (some .boolean) :: wB
theorem yd_X9_apart : yX9_apart.cls = RX9 ∧ yX9_apart.cls ≠ "java/lang/invoke/MethodHandle" ∧ yX9_apart.cls ≠ "java/lang/invoke/VarHandle" ∧ (parseMethodDescriptor yX9_apart.desc).map (fun d => d.parameters.length) = some 3 := by decide +kernel
abbrev wsX9_violation : List Cond := .code yX9_violation cX9_violation 6 (some .int) :: wB
theorem yd_X9_violation : yX9_violation.cls = RX9 ∧ yX9_violation.cls ≠ "java/lang/invoke/MethodHandle" ∧ yX9_violation.cls ≠ "java/lang/invoke/VarHandle" ∧ (parseMethodDescriptor yX9_violation.desc).map (fun d => d.parameters.length) = some 2 := by decide +kernel
abbrev wsX9_version : List Cond := .code yX9_version cX9_version 1 (some .int) :: wB
theorem yd_X9_version : yX9_version.cls = RX9 ∧ yX9_version.cls ≠ "java/lang/invoke/MethodHandle" ∧ yX9_version.cls ≠ "java/lang/invoke/VarHandle" ∧ (parseMethodDescriptor yX9_version.desc).map (fun d => d.parameters.length) = some 0 := by decide +kernel
abbrev wsX9_difference : List Cond := .code yX9_difference cX9_difference 9 (some .int) :: wB
theorem yd_X9_difference : yX9_difference.cls = RX9 ∧ yX9_difference.cls ≠ "java/lang/invoke/MethodHandle" ∧ yX9_difference.cls ≠ "java/lang/invoke/VarHandle" ∧ (parseMethodDescriptor yX9_difference.desc).map (fun d => d.parameters.length) = some 3 := by decide +kernel
abbrev wsX9_undo : List Cond := .code yX9_undo cX9_undo 3 (some .boolean) :: wB
theorem yd_X9_undo : yX9_undo.cls = RX9 ∧ yX9_undo.cls ≠ "java/lang/invoke/MethodHandle" ∧ yX9_undo.cls ≠ "java/lang/invoke/VarHandle" ∧ (parseMethodDescriptor yX9_undo.desc).map (fun d => d.parameters.length) = some 1 := by decide +kernel
abbrev wsX9_branch : List Cond := .code yX9_branch cX9_branch 3 (some .int) :: wB
theorem yd_X9_branch : yX9_branch.cls = RX9 ∧ yX9_branch.cls ≠ "java/lang/invoke/MethodHandle" ∧ yX9_branch.cls ≠ "java/lang/invoke/VarHandle" ∧ (parseMethodDescriptor yX9_branch.desc).map (fun d => d.parameters.length) = some 1 := by decide +kernel
abbrev wsX9_play : List Cond := .code yX9_play cX9_play 8 (some .int) :: wB
theorem yd_X9_play : yX9_play.cls = RX9 ∧ yX9_play.cls ≠ "java/lang/invoke/MethodHandle" ∧ yX9_play.cls ≠ "java/lang/invoke/VarHandle" ∧ (parseMethodDescriptor yX9_play.desc).map (fun d => d.parameters.length) = some 2 := by decide +kernel
abbrev wsX9_mark : List Cond := .code yX9_mark cX9_mark 3 (some .int) :: wB
theorem yd_X9_mark : yX9_mark.cls = RX9 ∧ yX9_mark.cls ≠ "java/lang/invoke/MethodHandle" ∧ yX9_mark.cls ≠ "java/lang/invoke/VarHandle" ∧ (parseMethodDescriptor yX9_mark.desc).map (fun d => d.parameters.length) = some 2 := by decide +kernel
abbrev wsX9_sessionOf : List Cond := .code yX9_sessionOf cX9_sessionOf 3 (some (.object "ObjectMerge$Session")) :: wB
theorem yd_X9_sessionOf : yX9_sessionOf.cls = RX9 ∧ yX9_sessionOf.cls ≠ "java/lang/invoke/MethodHandle" ∧ yX9_sessionOf.cls ≠ "java/lang/invoke/VarHandle" ∧ (parseMethodDescriptor yX9_sessionOf.desc).map (fun d => d.parameters.length) = some 1 := by decide +kernel
abbrev wsX9_versionOf : List Cond := .code yX9_versionOf cX9_versionOf 3 (some (.object "ObjectMerge$State")) :: wB
theorem yd_X9_versionOf : yX9_versionOf.cls = RX9 ∧ yX9_versionOf.cls ≠ "java/lang/invoke/MethodHandle" ∧ yX9_versionOf.cls ≠ "java/lang/invoke/VarHandle" ∧ (parseMethodDescriptor yX9_versionOf.desc).map (fun d => d.parameters.length) = some 1 := by decide +kernel
abbrev wsX9_sessionOfConflict : List Cond := .code yX9_sessionOfConflict cX9_sessionOfConflict 3 (some (.object "ObjectMerge$Session")) :: wB
theorem yd_X9_sessionOfConflict : yX9_sessionOfConflict.cls = RX9 ∧ yX9_sessionOfConflict.cls ≠ "java/lang/invoke/MethodHandle" ∧ yX9_sessionOfConflict.cls ≠ "java/lang/invoke/VarHandle" ∧ (parseMethodDescriptor yX9_sessionOfConflict.desc).map (fun d => d.parameters.length) = some 1 := by decide +kernel
abbrev wsX9_rowOf : List Cond := .code yX9_rowOf cX9_rowOf 3 (some (.object "ObjectMerge$Row")) :: wB
theorem yd_X9_rowOf : yX9_rowOf.cls = RX9 ∧ yX9_rowOf.cls ≠ "java/lang/invoke/MethodHandle" ∧ yX9_rowOf.cls ≠ "java/lang/invoke/VarHandle" ∧ (parseMethodDescriptor yX9_rowOf.desc).map (fun d => d.parameters.length) = some 2 := by decide +kernel
abbrev wsX9_checkObject : List Cond := .code yX9_checkObject cX9_checkObject 2 none :: wB
theorem yd_X9_checkObject : yX9_checkObject.cls = RX9 ∧ yX9_checkObject.cls ≠ "java/lang/invoke/MethodHandle" ∧ yX9_checkObject.cls ≠ "java/lang/invoke/VarHandle" ∧ (parseMethodDescriptor yX9_checkObject.desc).map (fun d => d.parameters.length) = some 1 := by decide +kernel
abbrev wsX9_checkField : List Cond := .code yX9_checkField cX9_checkField 1 none :: wB
theorem yd_X9_checkField : yX9_checkField.cls = RX9 ∧ yX9_checkField.cls ≠ "java/lang/invoke/MethodHandle" ∧ yX9_checkField.cls ≠ "java/lang/invoke/VarHandle" ∧ (parseMethodDescriptor yX9_checkField.desc).map (fun d => d.parameters.length) = some 1 := by decide +kernel
abbrev wsX9_checkOpen : List Cond := .code yX9_checkOpen cX9_checkOpen 1 none :: wB
theorem yd_X9_checkOpen : yX9_checkOpen.cls = RX9 ∧ yX9_checkOpen.cls ≠ "java/lang/invoke/MethodHandle" ∧ yX9_checkOpen.cls ≠ "java/lang/invoke/VarHandle" ∧ (parseMethodDescriptor yX9_checkOpen.desc).map (fun d => d.parameters.length) = some 1 := by decide +kernel
abbrev wsX9_checkKind : List Cond := .code yX9_checkKind cX9_checkKind 1 none :: wB
theorem yd_X9_checkKind : yX9_checkKind.cls = RX9 ∧ yX9_checkKind.cls ≠ "java/lang/invoke/MethodHandle" ∧ yX9_checkKind.cls ≠ "java/lang/invoke/VarHandle" ∧ (parseMethodDescriptor yX9_checkKind.desc).map (fun d => d.parameters.length) = some 1 := by decide +kernel
abbrev wsX9_newNumber : List Cond := .code yX9_newNumber cX9_newNumber 2 (some .int) :: wB
theorem yd_X9_newNumber : yX9_newNumber.cls = RX9 ∧ yX9_newNumber.cls ≠ "java/lang/invoke/MethodHandle" ∧ yX9_newNumber.cls ≠ "java/lang/invoke/VarHandle" ∧ (parseMethodDescriptor yX9_newNumber.desc).map (fun d => d.parameters.length) = some 0 := by decide +kernel
abbrev wsX9_begin : List Cond := .code yX9_begin cX9_begin 3 (some (.object "ObjectMerge$Session")) :: wB
theorem yd_X9_begin : yX9_begin.cls = RX9 ∧ yX9_begin.cls ≠ "java/lang/invoke/MethodHandle" ∧ yX9_begin.cls ≠ "java/lang/invoke/VarHandle" ∧ (parseMethodDescriptor yX9_begin.desc).map (fun d => d.parameters.length) = some 1 := by decide +kernel
abbrev wsX9_addVersion : List Cond := .code yX9_addVersion cX9_addVersion 2 none :: wB
theorem yd_X9_addVersion : yX9_addVersion.cls = RX9 ∧ yX9_addVersion.cls ≠ "java/lang/invoke/MethodHandle" ∧ yX9_addVersion.cls ≠ "java/lang/invoke/VarHandle" ∧ (parseMethodDescriptor yX9_addVersion.desc).map (fun d => d.parameters.length) = some 1 := by decide +kernel
abbrev wsX9_write : List Cond := .code yX9_write cX9_write 7 (some .boolean) :: wB
theorem yd_X9_write : yX9_write.cls = RX9 ∧ yX9_write.cls ≠ "java/lang/invoke/MethodHandle" ∧ yX9_write.cls ≠ "java/lang/invoke/VarHandle" ∧ (parseMethodDescriptor yX9_write.desc).map (fun d => d.parameters.length) = some 5 := by decide +kernel
abbrev wsX9_playTurn : List Cond := .code yX9_playTurn cX9_playTurn 8 (some .boolean) :: wB
theorem yd_X9_playTurn : yX9_playTurn.cls = RX9 ∧ yX9_playTurn.cls ≠ "java/lang/invoke/MethodHandle" ∧ yX9_playTurn.cls ≠ "java/lang/invoke/VarHandle" ∧ (parseMethodDescriptor yX9_playTurn.desc).map (fun d => d.parameters.length) = some 2 := by decide +kernel
abbrev wsX9_tryJoin : List Cond := .code yX9_tryJoin cX9_tryJoin 3 (some .int) :: wB
theorem yd_X9_tryJoin : yX9_tryJoin.cls = RX9 ∧ yX9_tryJoin.cls ≠ "java/lang/invoke/MethodHandle" ∧ yX9_tryJoin.cls ≠ "java/lang/invoke/VarHandle" ∧ (parseMethodDescriptor yX9_tryJoin.desc).map (fun d => d.parameters.length) = some 1 := by decide +kernel
abbrev wsX9_takeIn : List Cond := .code yX9_takeIn cX9_takeIn 5 none :: wB
theorem yd_X9_takeIn : yX9_takeIn.cls = RX9 ∧ yX9_takeIn.cls ≠ "java/lang/invoke/MethodHandle" ∧ yX9_takeIn.cls ≠ "java/lang/invoke/VarHandle" ∧ (parseMethodDescriptor yX9_takeIn.desc).map (fun d => d.parameters.length) = some 1 := by decide +kernel
abbrev wsX10_init : List Cond := .code yX10_init cX10_init 1 none :: wB
theorem yd_X10_init : yX10_init.cls = RX10 ∧ yX10_init.cls ≠ "java/lang/invoke/MethodHandle" ∧ yX10_init.cls ≠ "java/lang/invoke/VarHandle" ∧ (parseMethodDescriptor yX10_init.desc).map (fun d => d.parameters.length) = some 0 := by decide +kernel
abbrev wsX10_thrown : List Cond := .code yX10_thrown cX10_thrown 1 (some .int) :: wB
theorem yd_X10_thrown : yX10_thrown.cls = RX10 ∧ yX10_thrown.cls ≠ "java/lang/invoke/MethodHandle" ∧ yX10_thrown.cls ≠ "java/lang/invoke/VarHandle" ∧ (parseMethodDescriptor yX10_thrown.desc).map (fun d => d.parameters.length) = some 0 := by decide +kernel
abbrev wsX10_head : List Cond := .code yX10_head cX10_head 1 (some .int) :: wB
theorem yd_X10_head : yX10_head.cls = RX10 ∧ yX10_head.cls ≠ "java/lang/invoke/MethodHandle" ∧ yX10_head.cls ≠ "java/lang/invoke/VarHandle" ∧ (parseMethodDescriptor yX10_head.desc).map (fun d => d.parameters.length) = some 0 := by decide +kernel
abbrev wsX10_isKind : List Cond := .code yX10_isKind cX10_isKind 1 (some .boolean) :: wB
theorem yd_X10_isKind : yX10_isKind.cls = RX10 ∧ yX10_isKind.cls ≠ "java/lang/invoke/MethodHandle" ∧ yX10_isKind.cls ≠ "java/lang/invoke/VarHandle" ∧ (parseMethodDescriptor yX10_isKind.desc).map (fun d => d.parameters.length) = some 1 := by decide +kernel
abbrev wsX10_isObject : List Cond := .code yX10_isObject cX10_isObject 2 (some .boolean) :: wB
theorem yd_X10_isObject : yX10_isObject.cls = RX10 ∧ yX10_isObject.cls ≠ "java/lang/invoke/MethodHandle" ∧ yX10_isObject.cls ≠ "java/lang/invoke/VarHandle" ∧ (parseMethodDescriptor yX10_isObject.desc).map (fun d => d.parameters.length) = some 1 := by decide +kernel
abbrev wsX10_isSession : List Cond := .code yX10_isSession cX10_isSession 2 (some .boolean) :: wB
theorem yd_X10_isSession : yX10_isSession.cls = RX10 ∧ yX10_isSession.cls ≠ "java/lang/invoke/MethodHandle" ∧ yX10_isSession.cls ≠ "java/lang/invoke/VarHandle" ∧ (parseMethodDescriptor yX10_isSession.desc).map (fun d => d.parameters.length) = some 1 := by decide +kernel
abbrev wsX10_isField : List Cond := .code yX10_isField cX10_isField 1 (some .boolean) :: wB
theorem yd_X10_isField : yX10_isField.cls = RX10 ∧ yX10_isField.cls ≠ "java/lang/invoke/MethodHandle" ∧ yX10_isField.cls ≠ "java/lang/invoke/VarHandle" ∧ (parseMethodDescriptor yX10_isField.desc).map (fun d => d.parameters.length) = some 1 := by decide +kernel
abbrev wsX10_copyHead : List Cond := .code yX10_copyHead cX10_copyHead 4 none :: wB
theorem yd_X10_copyHead : yX10_copyHead.cls = RX10 ∧ yX10_copyHead.cls ≠ "java/lang/invoke/MethodHandle" ∧ yX10_copyHead.cls ≠ "java/lang/invoke/VarHandle" ∧ (parseMethodDescriptor yX10_copyHead.desc).map (fun d => d.parameters.length) = some 0 := by decide +kernel
abbrev wsX10_object : List Cond := .code yX10_object cX10_object 2 (some .int) :: wB
theorem yd_X10_object : yX10_object.cls = RX10 ∧ yX10_object.cls ≠ "java/lang/invoke/MethodHandle" ∧ yX10_object.cls ≠ "java/lang/invoke/VarHandle" ∧ (parseMethodDescriptor yX10_object.desc).map (fun d => d.parameters.length) = some 1 := by decide +kernel
abbrev wsX10_begin : List Cond := .code yX10_begin cX10_begin 3 (some .int) :: wB
theorem yd_X10_begin : yX10_begin.cls = RX10 ∧ yX10_begin.cls ≠ "java/lang/invoke/MethodHandle" ∧ yX10_begin.cls ≠ "java/lang/invoke/VarHandle" ∧ (parseMethodDescriptor yX10_begin.desc).map (fun d => d.parameters.length) = some 1 := by decide +kernel
abbrev wsX10_session : List Cond := .code yX10_session cX10_session 1 (some .int) :: wB
theorem yd_X10_session : yX10_session.cls = RX10 ∧ yX10_session.cls ≠ "java/lang/invoke/MethodHandle" ∧ yX10_session.cls ≠ "java/lang/invoke/VarHandle" ∧ (parseMethodDescriptor yX10_session.desc).map (fun d => d.parameters.length) = some 0 := by decide +kernel
abbrev wsX10_branch : List Cond := .code yX10_branch cX10_branch 2 (some .int) :: wB
theorem yd_X10_branch : yX10_branch.cls = RX10 ∧ yX10_branch.cls ≠ "java/lang/invoke/MethodHandle" ∧ yX10_branch.cls ≠ "java/lang/invoke/VarHandle" ∧ (parseMethodDescriptor yX10_branch.desc).map (fun d => d.parameters.length) = some 1 := by decide +kernel
abbrev wsX10_isBarred : List Cond := .code yX10_isBarred cX10_isBarred 9 (some .boolean) :: wB
theorem yd_X10_isBarred : yX10_isBarred.cls = RX10 ∧ yX10_isBarred.cls ≠ "java/lang/invoke/MethodHandle" ∧ yX10_isBarred.cls ≠ "java/lang/invoke/VarHandle" ∧ (parseMethodDescriptor yX10_isBarred.desc).map (fun d => d.parameters.length) = some 2 := by decide +kernel
abbrev wsX10_note : List Cond := .code yX10_note cX10_note 6 none :: wB
theorem yd_X10_note : yX10_note.cls = RX10 ∧ yX10_note.cls ≠ "java/lang/invoke/MethodHandle" ∧ yX10_note.cls ≠ "java/lang/invoke/VarHandle" ∧ (parseMethodDescriptor yX10_note.desc).map (fun d => d.parameters.length) = some 3 := by decide +kernel
abbrev wsX10_setsField : List Cond := .code yX10_setsField cX10_setsField 7 (some .boolean) :: wB
theorem yd_X10_setsField : yX10_setsField.cls = RX10 ∧ yX10_setsField.cls ≠ "java/lang/invoke/MethodHandle" ∧ yX10_setsField.cls ≠ "java/lang/invoke/VarHandle" ∧ (parseMethodDescriptor yX10_setsField.desc).map (fun d => d.parameters.length) = some 4 := by decide +kernel
abbrev wsX10_set : List Cond := .code yX10_set cX10_set 7 (some .boolean) :: wB
theorem yd_X10_set : yX10_set.cls = RX10 ∧ yX10_set.cls ≠ "java/lang/invoke/MethodHandle" ∧ yX10_set.cls ≠ "java/lang/invoke/VarHandle" ∧ (parseMethodDescriptor yX10_set.desc).map (fun d => d.parameters.length) = some 4 := by decide +kernel
abbrev wsX10_drop : List Cond := .code yX10_drop cX10_drop 4 (some .boolean) :: wB
theorem yd_X10_drop : yX10_drop.cls = RX10 ∧ yX10_drop.cls ≠ "java/lang/invoke/MethodHandle" ∧ yX10_drop.cls ≠ "java/lang/invoke/VarHandle" ∧ (parseMethodDescriptor yX10_drop.desc).map (fun d => d.parameters.length) = some 2 := by decide +kernel
abbrev wsX10_make : List Cond := .code yX10_make cX10_make 3 (some .int) :: wB
theorem yd_X10_make : yX10_make.cls = RX10 ∧ yX10_make.cls ≠ "java/lang/invoke/MethodHandle" ∧ yX10_make.cls ≠ "java/lang/invoke/VarHandle" ∧ (parseMethodDescriptor yX10_make.desc).map (fun d => d.parameters.length) = some 2 := by decide +kernel
abbrev wsX10_undo : List Cond := .code yX10_undo cX10_undo 4 (some .boolean) :: wB
theorem yd_X10_undo : yX10_undo.cls = RX10 ∧ yX10_undo.cls ≠ "java/lang/invoke/MethodHandle" ∧ yX10_undo.cls ≠ "java/lang/invoke/VarHandle" ∧ (parseMethodDescriptor yX10_undo.desc).map (fun d => d.parameters.length) = some 1 := by decide +kernel
abbrev wsX10_headHas : List Cond := .code yX10_headHas cX10_headHas 2 (some .boolean) :: wB
theorem yd_X10_headHas : yX10_headHas.cls = RX10 ∧ yX10_headHas.cls ≠ "java/lang/invoke/MethodHandle" ∧ yX10_headHas.cls ≠ "java/lang/invoke/VarHandle" ∧ (parseMethodDescriptor yX10_headHas.desc).map (fun d => d.parameters.length) = some 1 := by decide +kernel
abbrev wsX10_baseHas : List Cond := .code yX10_baseHas cX10_baseHas 3 (some .boolean) :: wB
theorem yd_X10_baseHas : yX10_baseHas.cls = RX10 ∧ yX10_baseHas.cls ≠ "java/lang/invoke/MethodHandle" ∧ yX10_baseHas.cls ≠ "java/lang/invoke/VarHandle" ∧ (parseMethodDescriptor yX10_baseHas.desc).map (fun d => d.parameters.length) = some 2 := by decide +kernel
abbrev wsX10_headValue : List Cond := .code yX10_headValue cX10_headValue 3 (some .long) :: wB
theorem yd_X10_headValue : yX10_headValue.cls = RX10 ∧ yX10_headValue.cls ≠ "java/lang/invoke/MethodHandle" ∧ yX10_headValue.cls ≠ "java/lang/invoke/VarHandle" ∧ (parseMethodDescriptor yX10_headValue.desc).map (fun d => d.parameters.length) = some 2 := by decide +kernel
abbrev wsX10_baseValue : List Cond := .code yX10_baseValue cX10_baseValue 4 (some .long) :: wB
theorem yd_X10_baseValue : yX10_baseValue.cls = RX10 ∧ yX10_baseValue.cls ≠ "java/lang/invoke/MethodHandle" ∧ yX10_baseValue.cls ≠ "java/lang/invoke/VarHandle" ∧ (parseMethodDescriptor yX10_baseValue.desc).map (fun d => d.parameters.length) = some 3 := by decide +kernel
abbrev wsX10_ownValue : List Cond := .code yX10_ownValue cX10_ownValue 4 (some .long) :: wB
theorem yd_X10_ownValue : yX10_ownValue.cls = RX10 ∧ yX10_ownValue.cls ≠ "java/lang/invoke/MethodHandle" ∧ yX10_ownValue.cls ≠ "java/lang/invoke/VarHandle" ∧ (parseMethodDescriptor yX10_ownValue.desc).map (fun d => d.parameters.length) = some 3 := by decide +kernel
abbrev wsX10_isHeadAsBase : List Cond := .code yX10_isHeadAsBase cX10_isHeadAsBase 5 (some .boolean) :: wB
theorem yd_X10_isHeadAsBase : yX10_isHeadAsBase.cls = RX10 ∧ yX10_isHeadAsBase.cls ≠ "java/lang/invoke/MethodHandle" ∧ yX10_isHeadAsBase.cls ≠ "java/lang/invoke/VarHandle" ∧ (parseMethodDescriptor yX10_isHeadAsBase.desc).map (fun d => d.parameters.length) = some 2 := by decide +kernel
abbrev wsX10_isOwnAsBase : List Cond := .code yX10_isOwnAsBase cX10_isOwnAsBase 5 (some .boolean) :: wB
theorem yd_X10_isOwnAsBase : yX10_isOwnAsBase.cls = RX10 ∧ yX10_isOwnAsBase.cls ≠ "java/lang/invoke/MethodHandle" ∧ yX10_isOwnAsBase.cls ≠ "java/lang/invoke/VarHandle" ∧ (parseMethodDescriptor yX10_isOwnAsBase.desc).map (fun d => d.parameters.length) = some 2 := by decide +kernel
abbrev wsX10_add : List Cond := .code yX10_add cX10_add 3 none :: wB
theorem yd_X10_add : yX10_add.cls = RX10 ∧ yX10_add.cls ≠ "java/lang/invoke/MethodHandle" ∧ yX10_add.cls ≠ "java/lang/invoke/VarHandle" ∧ (parseMethodDescriptor yX10_add.desc).map (fun d => d.parameters.length) = some 2 := by decide +kernel
abbrev wsX10_sideOf : List Cond := .code yX10_sideOf cX10_sideOf 4 (some .int) :: wB
theorem yd_X10_sideOf : yX10_sideOf.cls = RX10 ∧ yX10_sideOf.cls ≠ "java/lang/invoke/MethodHandle" ∧ yX10_sideOf.cls ≠ "java/lang/invoke/VarHandle" ∧ (parseMethodDescriptor yX10_sideOf.desc).map (fun d => d.parameters.length) = some 3 := by decide +kernel
abbrev wsX10_findConflicts : List Cond := .code yX10_findConflicts cX10_findConflicts 11 none :: wB
theorem yd_X10_findConflicts : yX10_findConflicts.cls = RX10 ∧ yX10_findConflicts.cls ≠ "java/lang/invoke/MethodHandle" ∧ yX10_findConflicts.cls ≠ "java/lang/invoke/VarHandle" ∧ (parseMethodDescriptor yX10_findConflicts.desc).map (fun d => d.parameters.length) = some 2 := by decide +kernel
abbrev wsX10_unsettled : List Cond := .code yX10_unsettled cX10_unsettled 4 (some .int) :: wB
theorem yd_X10_unsettled : yX10_unsettled.cls = RX10 ∧ yX10_unsettled.cls ≠ "java/lang/invoke/MethodHandle" ∧ yX10_unsettled.cls ≠ "java/lang/invoke/VarHandle" ∧ (parseMethodDescriptor yX10_unsettled.desc).map (fun d => d.parameters.length) = some 1 := by decide +kernel
abbrev wsX10_isConflict : List Cond := .code yX10_isConflict cX10_isConflict 5 (some .boolean) :: wB
theorem yd_X10_isConflict : yX10_isConflict.cls = RX10 ∧ yX10_isConflict.cls ≠ "java/lang/invoke/MethodHandle" ∧ yX10_isConflict.cls ≠ "java/lang/invoke/VarHandle" ∧ (parseMethodDescriptor yX10_isConflict.desc).map (fun d => d.parameters.length) = some 2 := by decide +kernel
abbrev wsX10_takeAll : List Cond := .code yX10_takeAll cX10_takeAll 4 none :: wB
theorem yd_X10_takeAll : yX10_takeAll.cls = RX10 ∧ yX10_takeAll.cls ≠ "java/lang/invoke/MethodHandle" ∧ yX10_takeAll.cls ≠ "java/lang/invoke/VarHandle" ∧ (parseMethodDescriptor yX10_takeAll.desc).map (fun d => d.parameters.length) = some 2 := by decide +kernel
abbrev wsX10_takeField : List Cond := .code yX10_takeField cX10_takeField 4 none :: wB
theorem yd_X10_takeField : yX10_takeField.cls = RX10 ∧ yX10_takeField.cls ≠ "java/lang/invoke/MethodHandle" ∧ yX10_takeField.cls ≠ "java/lang/invoke/VarHandle" ∧ (parseMethodDescriptor yX10_takeField.desc).map (fun d => d.parameters.length) = some 3 := by decide +kernel
abbrev wsX10_merge : List Cond := .code yX10_merge cX10_merge 6 none :: wB
theorem yd_X10_merge : yX10_merge.cls = RX10 ∧ yX10_merge.cls ≠ "java/lang/invoke/MethodHandle" ∧ yX10_merge.cls ≠ "java/lang/invoke/VarHandle" ∧ (parseMethodDescriptor yX10_merge.desc).map (fun d => d.parameters.length) = some 2 := by decide +kernel
abbrev wsX10_dropMarks : List Cond := .code yX10_dropMarks cX10_dropMarks 5 none :: wB
theorem yd_X10_dropMarks : yX10_dropMarks.cls = RX10 ∧ yX10_dropMarks.cls ≠ "java/lang/invoke/MethodHandle" ∧ yX10_dropMarks.cls ≠ "java/lang/invoke/VarHandle" ∧ (parseMethodDescriptor yX10_dropMarks.desc).map (fun d => d.parameters.length) = some 0 := by decide +kernel
abbrev wsX10_dropLocks : List Cond := .code yX10_dropLocks cX10_dropLocks 5 none :: wB
theorem yd_X10_dropLocks : yX10_dropLocks.cls = RX10 ∧ yX10_dropLocks.cls ≠ "java/lang/invoke/MethodHandle" ∧ yX10_dropLocks.cls ≠ "java/lang/invoke/VarHandle" ∧ (parseMethodDescriptor yX10_dropLocks.desc).map (fun d => d.parameters.length) = some 1 := by decide +kernel
abbrev wsX10_joins : List Cond := .code yX10_joins cX10_joins 4 (some .int) :: wB
theorem yd_X10_joins : yX10_joins.cls = RX10 ∧ yX10_joins.cls ≠ "java/lang/invoke/MethodHandle" ∧ yX10_joins.cls ≠ "java/lang/invoke/VarHandle" ∧ (parseMethodDescriptor yX10_joins.desc).map (fun d => d.parameters.length) = some 1 := by decide +kernel
abbrev wsX10_join : List Cond := .code yX10_join cX10_join 2 (some .int) :: wB
theorem yd_X10_join : yX10_join.cls = RX10 ∧ yX10_join.cls ≠ "java/lang/invoke/MethodHandle" ∧ yX10_join.cls ≠ "java/lang/invoke/VarHandle" ∧ (parseMethodDescriptor yX10_join.desc).map (fun d => d.parameters.length) = some 1 := by decide +kernel
abbrev wsX10_conflict : List Cond := .code yX10_conflict cX10_conflict 5 (some .int) :: wB
theorem yd_X10_conflict : yX10_conflict.cls = RX10 ∧ yX10_conflict.cls ≠ "java/lang/invoke/MethodHandle" ∧ yX10_conflict.cls ≠ "java/lang/invoke/VarHandle" ∧ (parseMethodDescriptor yX10_conflict.desc).map (fun d => d.parameters.length) = some 2 := by decide +kernel
abbrev wsX10_settle : List Cond := .code yX10_settle cX10_settle 5 (some .boolean) :: wB
theorem yd_X10_settle : yX10_settle.cls = RX10 ∧ yX10_settle.cls ≠ "java/lang/invoke/MethodHandle" ∧ yX10_settle.cls ≠ "java/lang/invoke/VarHandle" ∧ (parseMethodDescriptor yX10_settle.desc).map (fun d => d.parameters.length) = some 2 := by decide +kernel
abbrev wsX10_play : List Cond := .code yX10_play cX10_play 11 (some .int) :: wB
theorem yd_X10_play : yX10_play.cls = RX10 ∧ yX10_play.cls ≠ "java/lang/invoke/MethodHandle" ∧ yX10_play.cls ≠ "java/lang/invoke/VarHandle" ∧ (parseMethodDescriptor yX10_play.desc).map (fun d => d.parameters.length) = some 2 := by decide +kernel
abbrev wsX10_next : List Cond := .code yX10_next cX10_next 2 (some .long) :: wB
theorem yd_X10_next : yX10_next.cls = RX10 ∧ yX10_next.cls ≠ "java/lang/invoke/MethodHandle" ∧ yX10_next.cls ≠ "java/lang/invoke/VarHandle" ∧ (parseMethodDescriptor yX10_next.desc).map (fun d => d.parameters.length) = some 1 := by decide +kernel
abbrev wsX10_at : List Cond := .code yX10_at cX10_at 4 (some .long) :: wB
theorem yd_X10_at : yX10_at.cls = RX10 ∧ yX10_at.cls ≠ "java/lang/invoke/MethodHandle" ∧ yX10_at.cls ≠ "java/lang/invoke/VarHandle" ∧ (parseMethodDescriptor yX10_at.desc).map (fun d => d.parameters.length) = some 2 := by decide +kernel
abbrev wsX10_version : List Cond := .code yX10_version cX10_version 1 (some .int) :: wB
theorem yd_X10_version : yX10_version.cls = RX10 ∧ yX10_version.cls ≠ "java/lang/invoke/MethodHandle" ∧ yX10_version.cls ≠ "java/lang/invoke/VarHandle" ∧ (parseMethodDescriptor yX10_version.desc).map (fun d => d.parameters.length) = some 0 := by decide +kernel
abbrev wsX10_mark : List Cond := .code yX10_mark cX10_mark 5 (some .int) :: wB
theorem yd_X10_mark : yX10_mark.cls = RX10 ∧ yX10_mark.cls ≠ "java/lang/invoke/MethodHandle" ∧ yX10_mark.cls ≠ "java/lang/invoke/VarHandle" ∧ (parseMethodDescriptor yX10_mark.desc).map (fun d => d.parameters.length) = some 2 := by decide +kernel
abbrev wsX10_difference : List Cond := .code yX10_difference cX10_difference 11 (some .int) :: wB
theorem yd_X10_difference : yX10_difference.cls = RX10 ∧ yX10_difference.cls ≠ "java/lang/invoke/MethodHandle" ∧ yX10_difference.cls ≠ "java/lang/invoke/VarHandle" ∧ (parseMethodDescriptor yX10_difference.desc).map (fun d => d.parameters.length) = some 3 := by decide +kernel
abbrev wsX10_lock : List Cond := .code yX10_lock cX10_lock 12 (some .boolean) :: wB
theorem yd_X10_lock : yX10_lock.cls = RX10 ∧ yX10_lock.cls ≠ "java/lang/invoke/MethodHandle" ∧ yX10_lock.cls ≠ "java/lang/invoke/VarHandle" ∧ (parseMethodDescriptor yX10_lock.desc).map (fun d => d.parameters.length) = some 5 := by decide +kernel
abbrev wsX10_apart : List Cond := .code yX10_apart cX10_apart 5 (some .boolean) :: wB
theorem yd_X10_apart : yX10_apart.cls = RX10 ∧ yX10_apart.cls ≠ "java/lang/invoke/MethodHandle" ∧ yX10_apart.cls ≠ "java/lang/invoke/VarHandle" ∧ (parseMethodDescriptor yX10_apart.desc).map (fun d => d.parameters.length) = some 3 := by decide +kernel
abbrev wsX10_far : List Cond := .code yX10_far cX10_far 10 (some .long) :: wB
theorem yd_X10_far : yX10_far.cls = RX10 ∧ yX10_far.cls ≠ "java/lang/invoke/MethodHandle" ∧ yX10_far.cls ≠ "java/lang/invoke/VarHandle" ∧ (parseMethodDescriptor yX10_far.desc).map (fun d => d.parameters.length) = some 2 := by decide +kernel
abbrev wsX10_isBroken : List Cond := .code yX10_isBroken cX10_isBroken 4 (some .boolean) :: wB
theorem yd_X10_isBroken : yX10_isBroken.cls = RX10 ∧ yX10_isBroken.cls ≠ "java/lang/invoke/MethodHandle" ∧ yX10_isBroken.cls ≠ "java/lang/invoke/VarHandle" ∧ (parseMethodDescriptor yX10_isBroken.desc).map (fun d => d.parameters.length) = some 1 := by decide +kernel
abbrev wsX10_violation : List Cond := .code yX10_violation cX10_violation 5 (some .int) :: wB
theorem yd_X10_violation : yX10_violation.cls = RX10 ∧ yX10_violation.cls ≠ "java/lang/invoke/MethodHandle" ∧ yX10_violation.cls ≠ "java/lang/invoke/VarHandle" ∧ (parseMethodDescriptor yX10_violation.desc).map (fun d => d.parameters.length) = some 2 := by decide +kernel
abbrev wsL_object : List Cond := .codeWith yL_object cL_object 4 (some .int) [(0, 9, 12, 13)] :: wB
theorem yd_L_object : yL_object.cls = RL ∧ yL_object.cls ≠ "java/lang/invoke/MethodHandle" ∧ yL_object.cls ≠ "java/lang/invoke/VarHandle" ∧ (parseMethodDescriptor yL_object.desc).map (fun d => d.parameters.length) = some 3 := by decide +kernel
abbrev wsL_set : List Cond := .codeWith yL_set cL_set 8 (some .int) [(0, 21, 24, 19), (0, 21, 28, 21)] :: wB
theorem yd_L_set : yL_set.cls = RL ∧ yL_set.cls ≠ "java/lang/invoke/MethodHandle" ∧ yL_set.cls ≠ "java/lang/invoke/VarHandle" ∧ (parseMethodDescriptor yL_set.desc).map (fun d => d.parameters.length) = some 6 := by decide +kernel
abbrev wsL_drop : List Cond := .codeWith yL_drop cL_drop 5 (some .int) [(0, 17, 20, 19), (0, 17, 24, 21)] :: wB
theorem yd_L_drop : yL_drop.cls = RL ∧ yL_drop.cls ≠ "java/lang/invoke/MethodHandle" ∧ yL_drop.cls ≠ "java/lang/invoke/VarHandle" ∧ (parseMethodDescriptor yL_drop.desc).map (fun d => d.parameters.length) = some 4 := by decide +kernel
abbrev wsL_make : List Cond := .codeWith yL_make cL_make 5 (some .int) [(0, 10, 13, 19), (0, 10, 17, 21), (0, 10, 21, 13)] :: wB
theorem yd_L_make : yL_make.cls = RL ∧ yL_make.cls ≠ "java/lang/invoke/MethodHandle" ∧ yL_make.cls ≠ "java/lang/invoke/VarHandle" ∧ (parseMethodDescriptor yL_make.desc).map (fun d => d.parameters.length) = some 4 := by decide +kernel
abbrev wsL_join : List Cond := .codeWith yL_join cL_join 4 (some .int) [(0, 9, 12, 19), (0, 9, 15, 21)] :: wB
theorem yd_L_join : yL_join.cls = RL ∧ yL_join.cls ≠ "java/lang/invoke/MethodHandle" ∧ yL_join.cls ≠ "java/lang/invoke/VarHandle" ∧ (parseMethodDescriptor yL_join.desc).map (fun d => d.parameters.length) = some 3 := by decide +kernel
abbrev wsL_conflict : List Cond := .codeWith yL_conflict cL_conflict 5 (some .int) [(0, 10, 13, 19)] :: wB
theorem yd_L_conflict : yL_conflict.cls = RL ∧ yL_conflict.cls ≠ "java/lang/invoke/MethodHandle" ∧ yL_conflict.cls ≠ "java/lang/invoke/VarHandle" ∧ (parseMethodDescriptor yL_conflict.desc).map (fun d => d.parameters.length) = some 4 := by decide +kernel
abbrev wsL_settle : List Cond := .codeWith yL_settle cL_settle 5 (some .int) [(0, 17, 20, 19), (0, 17, 24, 21), (0, 17, 28, 13)] :: wB
theorem yd_L_settle : yL_settle.cls = RL ∧ yL_settle.cls ≠ "java/lang/invoke/MethodHandle" ∧ yL_settle.cls ≠ "java/lang/invoke/VarHandle" ∧ (parseMethodDescriptor yL_settle.desc).map (fun d => d.parameters.length) = some 4 := by decide +kernel
abbrev wsL_at : List Cond := .codeWith yL_at cL_at 5 (some .int) [(0, 9, 12, 19), (0, 9, 16, 21)] :: wB
theorem yd_L_at : yL_at.cls = RL ∧ yL_at.cls ≠ "java/lang/invoke/MethodHandle" ∧ yL_at.cls ≠ "java/lang/invoke/VarHandle" ∧ (parseMethodDescriptor yL_at.desc).map (fun d => d.parameters.length) = some 4 := by decide +kernel
abbrev wsL_lock : List Cond := .codeWith yL_lock cL_lock 12 (some .int) [(0, 24, 27, 19), (0, 24, 31, 21)] :: wB
theorem yd_L_lock : yL_lock.cls = RL ∧ yL_lock.cls ≠ "java/lang/invoke/MethodHandle" ∧ yL_lock.cls ≠ "java/lang/invoke/VarHandle" ∧ (parseMethodDescriptor yL_lock.desc).map (fun d => d.parameters.length) = some 7 := by decide +kernel
abbrev wsL_apart : List Cond := .codeWith yL_apart cL_apart 7 (some .int) [(0, 19, 22, 19), (0, 19, 26, 13)] :: wB
theorem yd_L_apart : yL_apart.cls = RL ∧ yL_apart.cls ≠ "java/lang/invoke/MethodHandle" ∧ yL_apart.cls ≠ "java/lang/invoke/VarHandle" ∧ (parseMethodDescriptor yL_apart.desc).map (fun d => d.parameters.length) = some 5 := by decide +kernel
abbrev wsL_violation : List Cond := .codeWith yL_violation cL_violation 5 (some .int) [(0, 10, 13, 19)] :: wB
theorem yd_L_violation : yL_violation.cls = RL ∧ yL_violation.cls ≠ "java/lang/invoke/MethodHandle" ∧ yL_violation.cls ≠ "java/lang/invoke/VarHandle" ∧ (parseMethodDescriptor yL_violation.desc).map (fun d => d.parameters.length) = some 4 := by decide +kernel
abbrev wsL_difference : List Cond := .codeWith yL_difference cL_difference 6 (some .int) [(0, 12, 15, 19)] :: wB
theorem yd_L_difference : yL_difference.cls = RL ∧ yL_difference.cls ≠ "java/lang/invoke/MethodHandle" ∧ yL_difference.cls ≠ "java/lang/invoke/VarHandle" ∧ (parseMethodDescriptor yL_difference.desc).map (fun d => d.parameters.length) = some 5 := by decide +kernel
abbrev wsL_undo : List Cond := .codeWith yL_undo cL_undo 4 (some .int) [(0, 16, 19, 19), (0, 16, 22, 21)] :: wB
theorem yd_L_undo : yL_undo.cls = RL ∧ yL_undo.cls ≠ "java/lang/invoke/MethodHandle" ∧ yL_undo.cls ≠ "java/lang/invoke/VarHandle" ∧ (parseMethodDescriptor yL_undo.desc).map (fun d => d.parameters.length) = some 3 := by decide +kernel
abbrev wsL_branch : List Cond := .codeWith yL_branch cL_branch 4 (some .int) [(0, 9, 12, 19)] :: wB
theorem yd_L_branch : yL_branch.cls = RL ∧ yL_branch.cls ≠ "java/lang/invoke/MethodHandle" ∧ yL_branch.cls ≠ "java/lang/invoke/VarHandle" ∧ (parseMethodDescriptor yL_branch.desc).map (fun d => d.parameters.length) = some 3 := by decide +kernel
abbrev wsL_play : List Cond := .codeWith yL_play cL_play 6 (some .int) [(0, 11, 14, 13)] :: wB
theorem yd_L_play : yL_play.cls = RL ∧ yL_play.cls ≠ "java/lang/invoke/MethodHandle" ∧ yL_play.cls ≠ "java/lang/invoke/VarHandle" ∧ (parseMethodDescriptor yL_play.desc).map (fun d => d.parameters.length) = some 4 := by decide +kernel
abbrev wsL_mark : List Cond := .codeWith yL_mark cL_mark 5 (some .int) [(0, 10, 13, 19), (0, 10, 17, 13)] :: wB
theorem yd_L_mark : yL_mark.cls = RL ∧ yL_mark.cls ≠ "java/lang/invoke/MethodHandle" ∧ yL_mark.cls ≠ "java/lang/invoke/VarHandle" ∧ (parseMethodDescriptor yL_mark.desc).map (fun d => d.parameters.length) = some 4 := by decide +kernel
