/-! the words of this claim are words of its tables -/
set_option maxRecDepth 20000 in
theorem wq_r1_0 : Cond.classLink RL 11 RX4 ∈ lw_tbl := by decide +kernel
set_option maxRecDepth 20000 in
theorem wq_r1_1 : Cond.instantiable RX4 4 ∈ lw_tbl := by decide +kernel
set_option maxRecDepth 20000 in
theorem wq_r1_2 : Cond.initialized RX4 ∈ lw_tbl := by decide +kernel
set_option maxRecDepth 20000 in
theorem wq_r1_3 : Cond.arrayClass .int ∈ lw_tbl := by decide +kernel
set_option maxRecDepth 20000 in
theorem wq_r1_4 : Cond.constant RL 18 (-1000001) ∈ lw_tbl := by decide +kernel
set_option maxRecDepth 20000 in
theorem wq_r1_5 : Cond.methodLink RL 163 yX4_init ∈ lw_tbl := by decide +kernel
set_option maxRecDepth 20000 in
theorem wq_r1_6 : Cond.instanceMethod yX4_init ∈ lw_tbl := by decide +kernel
set_option maxRecDepth 20000 in
theorem wq_r1_7 : Cond.code yX4_init cX4_init 2 none ∈ lw_tbl := List.mem_of_getElem? (i := 41) rfl
set_option maxRecDepth 20000 in
theorem wq_r1_8 : Cond.methodLink RX4 1 objectInit ∈ lw_tbl := by decide +kernel
set_option maxRecDepth 20000 in
theorem wq_r1_9 : Cond.instanceMethod objectInit ∈ lw_tbl := by decide +kernel
set_option maxRecDepth 20000 in
theorem wq_r1_10 : Cond.code objectInit ⟨#[0xb1]⟩ 1 none ∈ lw_tbl := List.mem_of_getElem? (i := 44) rfl
set_option maxRecDepth 20000 in
theorem wq_r1_11 : Cond.classLink RX4 9 RX3 ∈ lw_tbl := by decide +kernel
set_option maxRecDepth 20000 in
theorem wq_r1_12 : Cond.fieldLink RX4 11 "LogTurner" "rules" "[LLogTurner$Rule;" ∈ lw_tbl := by decide +kernel
set_option maxRecDepth 20000 in
theorem wq_r1_13 : Cond.classLink RX4 15 RX1 ∈ lw_tbl := by decide +kernel
set_option maxRecDepth 20000 in
theorem wq_r1_14 : Cond.fieldLink RX4 17 "LogTurner" "files" "[LLogTurner$LogFile;" ∈ lw_tbl := by decide +kernel
set_option maxRecDepth 20000 in
theorem wq_r1_15 : Cond.classLink RX4 21 RX0 ∈ lw_tbl := by decide +kernel
set_option maxRecDepth 20000 in
theorem wq_r1_16 : Cond.fieldLink RX4 23 "LogTurner" "holders" "[LLogTurner$Holder;" ∈ lw_tbl := by decide +kernel
set_option maxRecDepth 20000 in
theorem wq_r1_17 : Cond.instantiable RX3 10 ∈ lw_tbl := by decide +kernel
set_option maxRecDepth 20000 in
theorem wq_r1_18 : Cond.initialized RX3 ∈ lw_tbl := by decide +kernel
set_option maxRecDepth 20000 in
theorem wq_r1_19 : Cond.instantiable RX1 7 ∈ lw_tbl := by decide +kernel
set_option maxRecDepth 20000 in
theorem wq_r1_20 : Cond.initialized RX1 ∈ lw_tbl := by decide +kernel
set_option maxRecDepth 20000 in
theorem wq_r1_21 : Cond.instantiable RX0 2 ∈ lw_tbl := by decide +kernel
set_option maxRecDepth 20000 in
theorem wq_r1_22 : Cond.initialized RX0 ∈ lw_tbl := by decide +kernel
set_option maxRecDepth 20000 in
theorem wq_r1_23 : Cond.methodLink RX4 27 yX3_init ∈ lw_tbl := by decide +kernel
theorem wi_wsL_law0_r1 : ∀ w ∈ wsL_law0_r1, w ∈ lw_tbl := List.forall_mem_cons.mpr ⟨wq_r1_0, List.forall_mem_cons.mpr ⟨wq_r1_1, List.forall_mem_cons.mpr ⟨wq_r1_2, List.forall_mem_cons.mpr ⟨wq_r1_3, List.forall_mem_cons.mpr ⟨wq_r1_4, List.forall_mem_cons.mpr ⟨wq_r1_5, List.forall_mem_cons.mpr ⟨wq_r1_6, List.forall_mem_cons.mpr ⟨wq_r1_7, List.forall_mem_cons.mpr ⟨wq_r1_8, List.forall_mem_cons.mpr ⟨wq_r1_9, List.forall_mem_cons.mpr ⟨wq_r1_10, List.forall_mem_cons.mpr ⟨wq_r1_11, List.forall_mem_cons.mpr ⟨wq_r1_12, List.forall_mem_cons.mpr ⟨wq_r1_13, List.forall_mem_cons.mpr ⟨wq_r1_14, List.forall_mem_cons.mpr ⟨wq_r1_15, List.forall_mem_cons.mpr ⟨wq_r1_16, List.forall_mem_cons.mpr ⟨wq_r1_17, List.forall_mem_cons.mpr ⟨wq_r1_18, List.forall_mem_cons.mpr ⟨wq_r1_19, List.forall_mem_cons.mpr ⟨wq_r1_20, List.forall_mem_cons.mpr ⟨wq_r1_21, List.forall_mem_cons.mpr ⟨wq_r1_22, List.forall_mem_cons.mpr ⟨wq_r1_23, fun w h => absurd h List.not_mem_nil⟩⟩⟩⟩⟩⟩⟩⟩⟩⟩⟩⟩⟩⟩⟩⟩⟩⟩⟩⟩⟩⟩⟩⟩
set_option maxRecDepth 20000 in
theorem wq_r2_0 : Cond.instanceMethod yX3_init ∈ lw_tbl := by decide +kernel
set_option maxRecDepth 20000 in
theorem wq_r2_1 : Cond.code yX3_init cX3_init 2 none ∈ lw_tbl := List.mem_of_getElem? (i := 54) rfl
set_option maxRecDepth 20000 in
theorem wq_r2_2 : Cond.methodLink RX3 3 objectInit ∈ lw_tbl := by decide +kernel
set_option maxRecDepth 20000 in
theorem wq_r2_3 : Cond.fieldLink RX3 9 "LogTurner$Rule" "weekday" "I" ∈ lw_tbl := by decide +kernel
set_option maxRecDepth 20000 in
theorem wq_r2_4 : Cond.fieldLink RX3 15 "LogTurner$Rule" "monthly" "I" ∈ lw_tbl := by decide +kernel
set_option maxRecDepth 20000 in
theorem wq_r2_5 : Cond.fieldLink RX3 18 "LogTurner$Rule" "keep" "I" ∈ lw_tbl := by decide +kernel
set_option maxRecDepth 20000 in
theorem wq_r2_6 : Cond.fieldLink RX3 21 "LogTurner$Rule" "number" "I" ∈ lw_tbl := by decide +kernel
set_option maxRecDepth 20000 in
theorem wq_r2_7 : Cond.methodLink RX4 30 yX1_init ∈ lw_tbl := by decide +kernel
set_option maxRecDepth 20000 in
theorem wq_r2_8 : Cond.instanceMethod yX1_init ∈ lw_tbl := by decide +kernel
set_option maxRecDepth 20000 in
theorem wq_r2_9 : Cond.code yX1_init cX1_init 3 none ∈ lw_tbl := List.mem_of_getElem? (i := 94) rfl
set_option maxRecDepth 20000 in
theorem wq_r2_10 : Cond.methodLink RX1 1 objectInit ∈ lw_tbl := by decide +kernel
set_option maxRecDepth 20000 in
theorem wq_r2_11 : Cond.classLink RX1 7 RJx4a65c ∈ lw_tbl := by decide +kernel
set_option maxRecDepth 20000 in
theorem wq_r2_12 : Cond.instantiable RJx4a65c 3 ∈ lw_tbl := by decide +kernel
set_option maxRecDepth 20000 in
theorem wq_r2_13 : Cond.initialized RJx4a65c ∈ lw_tbl := by decide +kernel
set_option maxRecDepth 20000 in
theorem wq_r2_14 : Cond.fieldLink RX1 10 "LogTurner$LogFile" "oldParts" "Ljava/util/ArrayList;" ∈ lw_tbl := by decide +kernel
set_option maxRecDepth 20000 in
theorem wq_r2_15 : Cond.classLink RX1 16 RX2 ∈ lw_tbl := by decide +kernel
set_option maxRecDepth 20000 in
theorem wq_r2_16 : Cond.instantiable RX2 3 ∈ lw_tbl := by decide +kernel
set_option maxRecDepth 20000 in
theorem wq_r2_17 : Cond.initialized RX2 ∈ lw_tbl := by decide +kernel
set_option maxRecDepth 20000 in
theorem wq_r2_18 : Cond.fieldLink RX1 19 "LogTurner$LogFile" "livePart" "LLogTurner$Part;" ∈ lw_tbl := by decide +kernel
set_option maxRecDepth 20000 in
theorem wq_r2_19 : Cond.fieldLink RX1 23 "LogTurner$LogFile" "number" "I" ∈ lw_tbl := by decide +kernel
set_option maxRecDepth 20000 in
theorem wq_r2_20 : Cond.fieldLink RX1 27 "LogTurner$LogFile" "rule" "LLogTurner$Rule;" ∈ lw_tbl := by decide +kernel
set_option maxRecDepth 20000 in
theorem wq_r2_21 : Cond.methodLink RX1 9 yJx4a65c_init_da8c8 ∈ lw_tbl := by decide +kernel
set_option maxRecDepth 20000 in
theorem wq_r2_22 : Cond.instanceMethod yJx4a65c_init_da8c8 ∈ lw_tbl := by decide +kernel
set_option maxRecDepth 20000 in
theorem wq_r2_23 : Cond.code yJx4a65c_init_da8c8 cJx4a65c_init_da8c8 1 none ∈ lw_tbl := List.mem_of_getElem? (i := 100) rfl
theorem wi_wsL_law0_r2 : ∀ w ∈ wsL_law0_r2, w ∈ lw_tbl := List.forall_mem_cons.mpr ⟨wq_r2_0, List.forall_mem_cons.mpr ⟨wq_r2_1, List.forall_mem_cons.mpr ⟨wq_r2_2, List.forall_mem_cons.mpr ⟨wq_r2_3, List.forall_mem_cons.mpr ⟨wq_r2_4, List.forall_mem_cons.mpr ⟨wq_r2_5, List.forall_mem_cons.mpr ⟨wq_r2_6, List.forall_mem_cons.mpr ⟨wq_r2_7, List.forall_mem_cons.mpr ⟨wq_r2_8, List.forall_mem_cons.mpr ⟨wq_r2_9, List.forall_mem_cons.mpr ⟨wq_r2_10, List.forall_mem_cons.mpr ⟨wq_r2_11, List.forall_mem_cons.mpr ⟨wq_r2_12, List.forall_mem_cons.mpr ⟨wq_r2_13, List.forall_mem_cons.mpr ⟨wq_r2_14, List.forall_mem_cons.mpr ⟨wq_r2_15, List.forall_mem_cons.mpr ⟨wq_r2_16, List.forall_mem_cons.mpr ⟨wq_r2_17, List.forall_mem_cons.mpr ⟨wq_r2_18, List.forall_mem_cons.mpr ⟨wq_r2_19, List.forall_mem_cons.mpr ⟨wq_r2_20, List.forall_mem_cons.mpr ⟨wq_r2_21, List.forall_mem_cons.mpr ⟨wq_r2_22, List.forall_mem_cons.mpr ⟨wq_r2_23, fun w h => absurd h List.not_mem_nil⟩⟩⟩⟩⟩⟩⟩⟩⟩⟩⟩⟩⟩⟩⟩⟩⟩⟩⟩⟩⟩⟩⟩⟩
set_option maxRecDepth 20000 in
theorem wq_r3_0 : Cond.fieldLink RJx4a65c 39 "java/util/ArrayList" "DEFAULTCAPACITY_EMPTY_ELEMENTDATA" "[Ljava/lang/Object;" ∈ lw_tbl := by decide +kernel
set_option maxRecDepth 20000 in
theorem wq_r3_1 : Cond.fieldLink RJx4a65c 9 "java/util/ArrayList" "elementData" "[Ljava/lang/Object;" ∈ lw_tbl := by decide +kernel
set_option maxRecDepth 20000 in
theorem wq_r3_2 : Cond.methodLink RJx4a65c 1 yJxc12de_init_da8c8 ∈ lw_tbl := by decide +kernel
set_option maxRecDepth 20000 in
theorem wq_r3_3 : Cond.instanceMethod yJxc12de_init_da8c8 ∈ lw_tbl := by decide +kernel
set_option maxRecDepth 20000 in
theorem wq_r3_4 : Cond.initialized RJxc12de ∈ lw_tbl := by decide +kernel
set_option maxRecDepth 20000 in
theorem wq_r3_5 : Cond.code yJxc12de_init_da8c8 cJxc12de_init_da8c8 1 none ∈ lw_tbl := List.mem_of_getElem? (i := 103) rfl
set_option maxRecDepth 20000 in
theorem wq_r3_6 : Cond.fieldLink RJxc12de 7 "java/util/AbstractList" "modCount" "I" ∈ lw_tbl := by decide +kernel
set_option maxRecDepth 20000 in
theorem wq_r3_7 : Cond.methodLink RJxc12de 1 yJxa1e45_init_da8c8 ∈ lw_tbl := by decide +kernel
set_option maxRecDepth 20000 in
theorem wq_r3_8 : Cond.instanceMethod yJxa1e45_init_da8c8 ∈ lw_tbl := by decide +kernel
set_option maxRecDepth 20000 in
theorem wq_r3_9 : Cond.initialized RJxa1e45 ∈ lw_tbl := by decide +kernel
set_option maxRecDepth 20000 in
theorem wq_r3_10 : Cond.code yJxa1e45_init_da8c8 cJxa1e45_init_da8c8 1 none ∈ lw_tbl := List.mem_of_getElem? (i := 106) rfl
set_option maxRecDepth 20000 in
theorem wq_r3_11 : Cond.methodLink RJxa1e45 1 objectInit ∈ lw_tbl := by decide +kernel
set_option maxRecDepth 20000 in
theorem wq_r3_12 : Cond.instanceMethod yX2_init ∈ lw_tbl := by decide +kernel
set_option maxRecDepth 20000 in
theorem wq_r3_13 : Cond.code yX2_init cX2_init 1 none ∈ lw_tbl := List.mem_of_getElem? (i := 126) rfl
set_option maxRecDepth 20000 in
theorem wq_r3_14 : Cond.methodLink RX2 1 objectInit ∈ lw_tbl := by decide +kernel
set_option maxRecDepth 20000 in
theorem wq_r3_15 : Cond.instanceMethod yX0_init ∈ lw_tbl := by decide +kernel
set_option maxRecDepth 20000 in
theorem wq_r3_16 : Cond.code yX0_init cX0_init 1 none ∈ lw_tbl := List.mem_of_getElem? (i := 167) rfl
set_option maxRecDepth 20000 in
theorem wq_r3_17 : Cond.methodLink RX0 1 objectInit ∈ lw_tbl := by decide +kernel
set_option maxRecDepth 20000 in
theorem wq_r3_18 : Cond.methodLink RL 115 yX4_day ∈ lw_tbl := by decide +kernel
set_option maxRecDepth 20000 in
theorem wq_r3_19 : Cond.instanceMethod yX4_day ∈ lw_tbl := by decide +kernel
set_option maxRecDepth 20000 in
theorem wq_r3_20 : Cond.selects RX4 yX4_day yX4_day ∈ lw_tbl := by decide +kernel
set_option maxRecDepth 20000 in
theorem wq_r3_21 : Cond.code yX4_day cX4_day 1 (some .int) ∈ lw_tbl := List.mem_of_getElem? (i := 328) rfl
set_option maxRecDepth 20000 in
theorem wq_r3_22 : Cond.fieldLink RX4 109 "LogTurner" "today" "I" ∈ lw_tbl := by decide +kernel
set_option maxRecDepth 20000 in
theorem wq_r3_23 : Cond.methodLink RL 129 yX4_run ∈ lw_tbl := by decide +kernel
theorem wi_wsL_law0_r3 : ∀ w ∈ wsL_law0_r3, w ∈ lw_tbl := List.forall_mem_cons.mpr ⟨wq_r3_0, List.forall_mem_cons.mpr ⟨wq_r3_1, List.forall_mem_cons.mpr ⟨wq_r3_2, List.forall_mem_cons.mpr ⟨wq_r3_3, List.forall_mem_cons.mpr ⟨wq_r3_4, List.forall_mem_cons.mpr ⟨wq_r3_5, List.forall_mem_cons.mpr ⟨wq_r3_6, List.forall_mem_cons.mpr ⟨wq_r3_7, List.forall_mem_cons.mpr ⟨wq_r3_8, List.forall_mem_cons.mpr ⟨wq_r3_9, List.forall_mem_cons.mpr ⟨wq_r3_10, List.forall_mem_cons.mpr ⟨wq_r3_11, List.forall_mem_cons.mpr ⟨wq_r3_12, List.forall_mem_cons.mpr ⟨wq_r3_13, List.forall_mem_cons.mpr ⟨wq_r3_14, List.forall_mem_cons.mpr ⟨wq_r3_15, List.forall_mem_cons.mpr ⟨wq_r3_16, List.forall_mem_cons.mpr ⟨wq_r3_17, List.forall_mem_cons.mpr ⟨wq_r3_18, List.forall_mem_cons.mpr ⟨wq_r3_19, List.forall_mem_cons.mpr ⟨wq_r3_20, List.forall_mem_cons.mpr ⟨wq_r3_21, List.forall_mem_cons.mpr ⟨wq_r3_22, List.forall_mem_cons.mpr ⟨wq_r3_23, fun w h => absurd h List.not_mem_nil⟩⟩⟩⟩⟩⟩⟩⟩⟩⟩⟩⟩⟩⟩⟩⟩⟩⟩⟩⟩⟩⟩⟩⟩
set_option maxRecDepth 20000 in
theorem wq_r4_0 : Cond.instanceMethod yX4_run ∈ lw_tbl := by decide +kernel
set_option maxRecDepth 20000 in
theorem wq_r4_1 : Cond.selects RX4 yX4_run yX4_run ∈ lw_tbl := by decide +kernel
set_option maxRecDepth 20000 in
theorem wq_r4_2 : Cond.code yX4_run cX4_run 3 (some .int) ∈ lw_tbl := List.mem_of_getElem? (i := 192) rfl
set_option maxRecDepth 20000 in
theorem wq_r4_3 : Cond.fieldLink RX4 68 "LogTurner$Rule" "tells" "Z" ∈ lw_tbl := by decide +kernel
set_option maxRecDepth 20000 in
theorem wq_r4_4 : Cond.methodLink RX4 114 yX4_isDueOn ∈ lw_tbl := by decide +kernel
set_option maxRecDepth 20000 in
theorem wq_r4_5 : Cond.static yX4_isDueOn ∈ lw_tbl := by decide +kernel
set_option maxRecDepth 20000 in
theorem wq_r4_6 : Cond.code yX4_isDueOn cX4_isDueOn 5 (some .boolean) ∈ lw_tbl := List.mem_of_getElem? (i := 195) rfl
set_option maxRecDepth 20000 in
theorem wq_r4_7 : Cond.fieldLink RX4 75 "LogTurner$LogFile" "rule" "LLogTurner$Rule;" ∈ lw_tbl := by decide +kernel
set_option maxRecDepth 20000 in
theorem wq_r4_8 : Cond.fieldLink RX4 90 "LogTurner$LogFile" "livePart" "LLogTurner$Part;" ∈ lw_tbl := by decide +kernel
set_option maxRecDepth 20000 in
theorem wq_r4_9 : Cond.fieldLink RX4 104 "LogTurner$Part" "lineCount" "I" ∈ lw_tbl := by decide +kernel
set_option maxRecDepth 20000 in
theorem wq_r4_10 : Cond.fieldLink RX4 42 "LogTurner$Rule" "size" "I" ∈ lw_tbl := by decide +kernel
set_option maxRecDepth 20000 in
theorem wq_r4_11 : Cond.fieldLink RX4 46 "LogTurner$Rule" "weekday" "I" ∈ lw_tbl := by decide +kernel
set_option maxRecDepth 20000 in
theorem wq_r4_12 : Cond.fieldLink RX4 130 "LogTurner$LogFile" "lastTurn" "I" ∈ lw_tbl := by decide +kernel
set_option maxRecDepth 20000 in
theorem wq_r4_13 : Cond.fieldLink RX4 49 "LogTurner$Rule" "monthly" "I" ∈ lw_tbl := by decide +kernel
set_option maxRecDepth 20000 in
theorem wq_r4_14 : Cond.methodLink RX4 188 yX4_isTooSoon ∈ lw_tbl := by decide +kernel
set_option maxRecDepth 20000 in
theorem wq_r4_15 : Cond.static yX4_isTooSoon ∈ lw_tbl := by decide +kernel
set_option maxRecDepth 20000 in
theorem wq_r4_16 : Cond.code yX4_isTooSoon cX4_isTooSoon 2 (some .boolean) ∈ lw_tbl := List.mem_of_getElem? (i := 198) rfl
set_option maxRecDepth 20000 in
theorem wq_r4_17 : Cond.fieldLink RX4 198 "LogTurner$LogFile" "everTurned" "Z" ∈ lw_tbl := by decide +kernel
set_option maxRecDepth 20000 in
theorem wq_r4_18 : Cond.fieldLink RX4 52 "LogTurner$Rule" "least" "I" ∈ lw_tbl := by decide +kernel
set_option maxRecDepth 20000 in
theorem wq_r4_19 : Cond.methodLink RX4 191 yX4_hasWeekdayCome ∈ lw_tbl := by decide +kernel
set_option maxRecDepth 20000 in
theorem wq_r4_20 : Cond.static yX4_hasWeekdayCome ∈ lw_tbl := by decide +kernel
set_option maxRecDepth 20000 in
theorem wq_r4_21 : Cond.code yX4_hasWeekdayCome cX4_hasWeekdayCome 4 (some .boolean) ∈ lw_tbl := List.mem_of_getElem? (i := 201) rfl
set_option maxRecDepth 20000 in
theorem wq_r4_22 : Cond.methodLink RX4 201 yJ9_floorMod_7cf53 ∈ lw_tbl := by decide +kernel
set_option maxRecDepth 20000 in
theorem wq_r4_23 : Cond.static yJ9_floorMod_7cf53 ∈ lw_tbl := by decide +kernel
theorem wi_wsL_law0_r4 : ∀ w ∈ wsL_law0_r4, w ∈ lw_tbl := List.forall_mem_cons.mpr ⟨wq_r4_0, List.forall_mem_cons.mpr ⟨wq_r4_1, List.forall_mem_cons.mpr ⟨wq_r4_2, List.forall_mem_cons.mpr ⟨wq_r4_3, List.forall_mem_cons.mpr ⟨wq_r4_4, List.forall_mem_cons.mpr ⟨wq_r4_5, List.forall_mem_cons.mpr ⟨wq_r4_6, List.forall_mem_cons.mpr ⟨wq_r4_7, List.forall_mem_cons.mpr ⟨wq_r4_8, List.forall_mem_cons.mpr ⟨wq_r4_9, List.forall_mem_cons.mpr ⟨wq_r4_10, List.forall_mem_cons.mpr ⟨wq_r4_11, List.forall_mem_cons.mpr ⟨wq_r4_12, List.forall_mem_cons.mpr ⟨wq_r4_13, List.forall_mem_cons.mpr ⟨wq_r4_14, List.forall_mem_cons.mpr ⟨wq_r4_15, List.forall_mem_cons.mpr ⟨wq_r4_16, List.forall_mem_cons.mpr ⟨wq_r4_17, List.forall_mem_cons.mpr ⟨wq_r4_18, List.forall_mem_cons.mpr ⟨wq_r4_19, List.forall_mem_cons.mpr ⟨wq_r4_20, List.forall_mem_cons.mpr ⟨wq_r4_21, List.forall_mem_cons.mpr ⟨wq_r4_22, List.forall_mem_cons.mpr ⟨wq_r4_23, fun w h => absurd h List.not_mem_nil⟩⟩⟩⟩⟩⟩⟩⟩⟩⟩⟩⟩⟩⟩⟩⟩⟩⟩⟩⟩⟩⟩⟩⟩
set_option maxRecDepth 20000 in
theorem wq_r5_0 : Cond.initialized RJ9 ∈ lw_tbl := by decide +kernel
set_option maxRecDepth 20000 in
theorem wq_r5_1 : Cond.code yJ9_floorMod_7cf53 cJ9_floorMod_7cf53 3 (some .int) ∈ lw_tbl := List.mem_of_getElem? (i := 204) rfl
set_option maxRecDepth 20000 in
theorem wq_r5_2 : Cond.methodLink RX4 195 yX4_hasMonthlyCome ∈ lw_tbl := by decide +kernel
set_option maxRecDepth 20000 in
theorem wq_r5_3 : Cond.static yX4_hasMonthlyCome ∈ lw_tbl := by decide +kernel
set_option maxRecDepth 20000 in
theorem wq_r5_4 : Cond.code yX4_hasMonthlyCome cX4_hasMonthlyCome 4 (some .boolean) ∈ lw_tbl := List.mem_of_getElem? (i := 207) rfl
set_option maxRecDepth 20000 in
theorem wq_r5_5 : Cond.methodLink RX4 118 yX4_turnToday ∈ lw_tbl := by decide +kernel
set_option maxRecDepth 20000 in
theorem wq_r5_6 : Cond.instanceMethod yX4_turnToday ∈ lw_tbl := by decide +kernel
set_option maxRecDepth 20000 in
theorem wq_r5_7 : Cond.selects RX4 yX4_turnToday yX4_turnToday ∈ lw_tbl := by decide +kernel
set_option maxRecDepth 20000 in
theorem wq_r5_8 : Cond.code yX4_turnToday cX4_turnToday 3 (some .int) ∈ lw_tbl := List.mem_of_getElem? (i := 211) rfl
set_option maxRecDepth 20000 in
theorem wq_r5_9 : Cond.fieldLink RX4 137 "LogTurner$LogFile" "oldParts" "Ljava/util/ArrayList;" ∈ lw_tbl := by decide +kernel
set_option maxRecDepth 20000 in
theorem wq_r5_10 : Cond.fieldLink RX4 150 "LogTurner$Part" "turnDay" "I" ∈ lw_tbl := by decide +kernel
set_option maxRecDepth 20000 in
theorem wq_r5_11 : Cond.classLink RX4 105 RX2 ∈ lw_tbl := by decide +kernel
set_option maxRecDepth 20000 in
theorem wq_r5_12 : Cond.fieldLink RX4 61 "LogTurner$Rule" "squeezes" "Z" ∈ lw_tbl := by decide +kernel
set_option maxRecDepth 20000 in
theorem wq_r5_13 : Cond.methodLink RX4 141 yJx4a65c_size_8abf5 ∈ lw_tbl := by decide +kernel
set_option maxRecDepth 20000 in
theorem wq_r5_14 : Cond.instanceMethod yJx4a65c_size_8abf5 ∈ lw_tbl := by decide +kernel
set_option maxRecDepth 20000 in
theorem wq_r5_15 : Cond.selects RJx4a65c yJx4a65c_size_8abf5 yJx4a65c_size_8abf5 ∈ lw_tbl := by decide +kernel
set_option maxRecDepth 20000 in
theorem wq_r5_16 : Cond.code yJx4a65c_size_8abf5 cJx4a65c_size_8abf5 1 (some .int) ∈ lw_tbl := List.mem_of_getElem? (i := 215) rfl
set_option maxRecDepth 20000 in
theorem wq_r5_17 : Cond.fieldLink RJx4a65c 48 "java/util/ArrayList" "size" "I" ∈ lw_tbl := by decide +kernel
set_option maxRecDepth 20000 in
theorem wq_r5_18 : Cond.methodLink RX4 207 yJx4a65c_add_9ea2d ∈ lw_tbl := by decide +kernel
set_option maxRecDepth 20000 in
theorem wq_r5_19 : Cond.instanceMethod yJx4a65c_add_9ea2d ∈ lw_tbl := by decide +kernel
set_option maxRecDepth 20000 in
theorem wq_r5_20 : Cond.selects RJx4a65c yJx4a65c_add_9ea2d yJx4a65c_add_9ea2d ∈ lw_tbl := by decide +kernel
set_option maxRecDepth 20000 in
theorem wq_r5_21 : Cond.code yJx4a65c_add_9ea2d cJx4a65c_add_9ea2d 2 (some .boolean) ∈ lw_tbl := List.mem_of_getElem? (i := 219) rfl
set_option maxRecDepth 20000 in
theorem wq_r5_22 : Cond.fieldLink RJx4a65c 63 "java/util/ArrayList" "modCount" "I" ∈ lw_tbl := by decide +kernel
set_option maxRecDepth 20000 in
theorem wq_r5_23 : Cond.sameField "java/util/ArrayList" "java/util/AbstractList" "modCount" "I" ∈ lw_tbl := by decide +kernel
theorem wi_wsL_law0_r5 : ∀ w ∈ wsL_law0_r5, w ∈ lw_tbl := List.forall_mem_cons.mpr ⟨wq_r5_0, List.forall_mem_cons.mpr ⟨wq_r5_1, List.forall_mem_cons.mpr ⟨wq_r5_2, List.forall_mem_cons.mpr ⟨wq_r5_3, List.forall_mem_cons.mpr ⟨wq_r5_4, List.forall_mem_cons.mpr ⟨wq_r5_5, List.forall_mem_cons.mpr ⟨wq_r5_6, List.forall_mem_cons.mpr ⟨wq_r5_7, List.forall_mem_cons.mpr ⟨wq_r5_8, List.forall_mem_cons.mpr ⟨wq_r5_9, List.forall_mem_cons.mpr ⟨wq_r5_10, List.forall_mem_cons.mpr ⟨wq_r5_11, List.forall_mem_cons.mpr ⟨wq_r5_12, List.forall_mem_cons.mpr ⟨wq_r5_13, List.forall_mem_cons.mpr ⟨wq_r5_14, List.forall_mem_cons.mpr ⟨wq_r5_15, List.forall_mem_cons.mpr ⟨wq_r5_16, List.forall_mem_cons.mpr ⟨wq_r5_17, List.forall_mem_cons.mpr ⟨wq_r5_18, List.forall_mem_cons.mpr ⟨wq_r5_19, List.forall_mem_cons.mpr ⟨wq_r5_20, List.forall_mem_cons.mpr ⟨wq_r5_21, List.forall_mem_cons.mpr ⟨wq_r5_22, List.forall_mem_cons.mpr ⟨wq_r5_23, fun w h => absurd h List.not_mem_nil⟩⟩⟩⟩⟩⟩⟩⟩⟩⟩⟩⟩⟩⟩⟩⟩⟩⟩⟩⟩⟩⟩⟩⟩
set_option maxRecDepth 20000 in
theorem wq_r6_0 : Cond.methodLink RJx4a65c 131 yJx4a65c_add_72be8 ∈ lw_tbl := by decide +kernel
set_option maxRecDepth 20000 in
theorem wq_r6_1 : Cond.instanceMethod yJx4a65c_add_72be8 ∈ lw_tbl := by decide +kernel
set_option maxRecDepth 20000 in
theorem wq_r6_2 : Cond.selects RJx4a65c yJx4a65c_add_72be8 yJx4a65c_add_72be8 ∈ lw_tbl := by decide +kernel
set_option maxRecDepth 20000 in
theorem wq_r6_3 : Cond.code yJx4a65c_add_72be8 cJx4a65c_add_72be8 4 none ∈ lw_tbl := List.mem_of_getElem? (i := 223) rfl
set_option maxRecDepth 20000 in
theorem wq_r6_4 : Cond.methodLink RJx4a65c 129 yJx4a65c_grow_d5877 ∈ lw_tbl := by decide +kernel
set_option maxRecDepth 20000 in
theorem wq_r6_5 : Cond.instanceMethod yJx4a65c_grow_d5877 ∈ lw_tbl := by decide +kernel
set_option maxRecDepth 20000 in
theorem wq_r6_6 : Cond.selects RJx4a65c yJx4a65c_grow_d5877 yJx4a65c_grow_d5877 ∈ lw_tbl := by decide +kernel
set_option maxRecDepth 20000 in
theorem wq_r6_7 : Cond.code yJx4a65c_grow_d5877 cJx4a65c_grow_d5877 1 (some (.array (.object "java/lang/Object"))) ∈ lw_tbl := List.mem_of_getElem? (i := 227) rfl
set_option maxRecDepth 20000 in
theorem wq_r6_8 : Cond.methodLink RJx4a65c 69 yJx4a65c_grow_92f84 ∈ lw_tbl := by decide +kernel
set_option maxRecDepth 20000 in
theorem wq_r6_9 : Cond.instanceMethod yJx4a65c_grow_92f84 ∈ lw_tbl := by decide +kernel
set_option maxRecDepth 20000 in
theorem wq_r6_10 : Cond.selects RJx4a65c yJx4a65c_grow_92f84 yJx4a65c_grow_92f84 ∈ lw_tbl := by decide +kernel
set_option maxRecDepth 20000 in
theorem wq_r6_11 : Cond.code yJx4a65c_grow_92f84 cJx4a65c_grow_92f84 4 (some (.array (.object "java/lang/Object"))) ∈ lw_tbl := List.mem_of_getElem? (i := 231) rfl
set_option maxRecDepth 20000 in
theorem wq_r6_12 : Cond.methodLink RJx4a65c 79 Lib.Math.max.name ∈ lw_tbl := by decide +kernel
set_option maxRecDepth 20000 in
theorem wq_r6_13 : Cond.static Lib.Math.max.name ∈ lw_tbl := by decide +kernel
set_option maxRecDepth 20000 in
theorem wq_r6_14 : Cond.initialized "java/lang/Math" ∈ lw_tbl := by decide +kernel
set_option maxRecDepth 20000 in
theorem wq_r6_15 : Cond.code Lib.Math.max.name Lib.Math.max.code 2 (some .int) ∈ lw_tbl := List.mem_of_getElem? (i := 237) rfl
set_option maxRecDepth 20000 in
theorem wq_r6_16 : Cond.classLink RJx4a65c 7 "java/lang/Object" ∈ lw_tbl := by decide +kernel
set_option maxRecDepth 20000 in
theorem wq_r6_17 : Cond.methodLink RJx4a65c 73 yJ8_newLength_cabcc ∈ lw_tbl := by decide +kernel
set_option maxRecDepth 20000 in
theorem wq_r6_18 : Cond.static yJ8_newLength_cabcc ∈ lw_tbl := by decide +kernel
set_option maxRecDepth 20000 in
theorem wq_r6_19 : Cond.initialized RJ8 ∈ lw_tbl := by decide +kernel
set_option maxRecDepth 20000 in
theorem wq_r6_20 : Cond.code yJ8_newLength_cabcc cJ8_newLength_cabcc 4 (some .int) ∈ lw_tbl := List.mem_of_getElem? (i := 234) rfl
set_option maxRecDepth 20000 in
theorem wq_r6_21 : Cond.methodLink RJ8 194 Lib.Math.max.name ∈ lw_tbl := by decide +kernel
set_option maxRecDepth 20000 in
theorem wq_r6_22 : Cond.constant RJ8 200 (2147483639) ∈ lw_tbl := by decide +kernel
set_option maxRecDepth 20000 in
theorem wq_r6_23 : Cond.methodLink RJ8 201 yJ8_hugeLength_7cf53 ∈ lw_tbl := by decide +kernel
theorem wi_wsL_law0_r6 : ∀ w ∈ wsL_law0_r6, w ∈ lw_tbl := List.forall_mem_cons.mpr ⟨wq_r6_0, List.forall_mem_cons.mpr ⟨wq_r6_1, List.forall_mem_cons.mpr ⟨wq_r6_2, List.forall_mem_cons.mpr ⟨wq_r6_3, List.forall_mem_cons.mpr ⟨wq_r6_4, List.forall_mem_cons.mpr ⟨wq_r6_5, List.forall_mem_cons.mpr ⟨wq_r6_6, List.forall_mem_cons.mpr ⟨wq_r6_7, List.forall_mem_cons.mpr ⟨wq_r6_8, List.forall_mem_cons.mpr ⟨wq_r6_9, List.forall_mem_cons.mpr ⟨wq_r6_10, List.forall_mem_cons.mpr ⟨wq_r6_11, List.forall_mem_cons.mpr ⟨wq_r6_12, List.forall_mem_cons.mpr ⟨wq_r6_13, List.forall_mem_cons.mpr ⟨wq_r6_14, List.forall_mem_cons.mpr ⟨wq_r6_15, List.forall_mem_cons.mpr ⟨wq_r6_16, List.forall_mem_cons.mpr ⟨wq_r6_17, List.forall_mem_cons.mpr ⟨wq_r6_18, List.forall_mem_cons.mpr ⟨wq_r6_19, List.forall_mem_cons.mpr ⟨wq_r6_20, List.forall_mem_cons.mpr ⟨wq_r6_21, List.forall_mem_cons.mpr ⟨wq_r6_22, List.forall_mem_cons.mpr ⟨wq_r6_23, fun w h => absurd h List.not_mem_nil⟩⟩⟩⟩⟩⟩⟩⟩⟩⟩⟩⟩⟩⟩⟩⟩⟩⟩⟩⟩⟩⟩⟩⟩
set_option maxRecDepth 20000 in
theorem wq_r7_0 : Cond.static yJ8_hugeLength_7cf53 ∈ lw_tbl := by decide +kernel
set_option maxRecDepth 20000 in
theorem wq_r7_1 : Cond.code yJ8_hugeLength_7cf53 cJ8_hugeLength_7cf53 3 (some .int) ∈ lw_tbl := List.mem_of_getElem? (i := 241) rfl
set_option maxRecDepth 20000 in
theorem wq_r7_2 : Cond.methodLink RJx4a65c 66 yJ7_copyOf_1904c ∈ lw_tbl := by decide +kernel
set_option maxRecDepth 20000 in
theorem wq_r7_3 : Cond.static yJ7_copyOf_1904c ∈ lw_tbl := by decide +kernel
set_option maxRecDepth 20000 in
theorem wq_r7_4 : Cond.initialized RJ7 ∈ lw_tbl := by decide +kernel
set_option maxRecDepth 20000 in
theorem wq_r7_5 : Cond.code yJ7_copyOf_1904c cJ7_copyOf_1904c 2 (some (.array (.object "java/lang/Object"))) ∈ lw_tbl := List.mem_of_getElem? (i := 244) rfl
set_option maxRecDepth 20000 in
theorem wq_r7_6 : Cond.methodLink RJ7 86 ⟨"java/lang/Object", "getClass", "()Ljava/lang/Class;"⟩ ∈ lw_tbl := by decide +kernel
set_option maxRecDepth 20000 in
theorem wq_r7_7 : Cond.selects "[Ljava/lang/Object;" ⟨"java/lang/Object", "getClass", "()Ljava/lang/Class;"⟩ ⟨"java/lang/Object", "getClass", "()Ljava/lang/Class;"⟩ ∈ lw_tbl := by decide +kernel
set_option maxRecDepth 20000 in
theorem wq_r7_8 : Cond.instanceMethod ⟨"java/lang/Object", "getClass", "()Ljava/lang/Class;"⟩ ∈ lw_tbl := by decide +kernel
set_option maxRecDepth 20000 in
theorem wq_r7_9 : Cond.native ⟨"java/lang/Object", "getClass", "()Ljava/lang/Class;"⟩ ∈ lw_tbl := by decide +kernel
set_option maxRecDepth 20000 in
theorem wq_r7_10 : Cond.methodLink RJ7 300 yJ7_copyOf_6403c ∈ lw_tbl := by decide +kernel
set_option maxRecDepth 20000 in
theorem wq_r7_11 : Cond.static yJ7_copyOf_6403c ∈ lw_tbl := by decide +kernel
set_option maxRecDepth 20000 in
theorem wq_r7_12 : Cond.code yJ7_copyOf_6403c cJ7_copyOf_6403c 4 (some (.array (.object "java/lang/Object"))) ∈ lw_tbl := List.mem_of_getElem? (i := 260) rfl
set_option maxRecDepth 20000 in
theorem wq_r7_13 : Cond.classLink RJ7 110 "[Ljava/lang/Object;" ∈ lw_tbl := by decide +kernel
set_option maxRecDepth 20000 in
theorem wq_r7_14 : Cond.classLink RJ7 2 "java/lang/Object" ∈ lw_tbl := by decide +kernel
set_option maxRecDepth 20000 in
theorem wq_r7_15 : Cond.methodLink RJ7 304 Lib.Math.min.name ∈ lw_tbl := by decide +kernel
set_option maxRecDepth 20000 in
theorem wq_r7_16 : Cond.static Lib.Math.min.name ∈ lw_tbl := by decide +kernel
set_option maxRecDepth 20000 in
theorem wq_r7_17 : Cond.code Lib.Math.min.name Lib.Math.min.code 2 (some .int) ∈ lw_tbl := List.mem_of_getElem? (i := 266) rfl
set_option maxRecDepth 20000 in
theorem wq_r7_18 : Cond.methodLink RJ7 150 arraycopyName ∈ lw_tbl := by decide +kernel
set_option maxRecDepth 20000 in
theorem wq_r7_19 : Cond.native arraycopyName ∈ lw_tbl := by decide +kernel
set_option maxRecDepth 20000 in
theorem wq_r7_20 : Cond.static arraycopyName ∈ lw_tbl := by decide +kernel
set_option maxRecDepth 20000 in
theorem wq_r7_21 : Cond.initialized "java/lang/System" ∈ lw_tbl := by decide +kernel
set_option maxRecDepth 20000 in
theorem wq_r7_22 : Cond.methodLink RX4 133 yX4_markTurnedToday ∈ lw_tbl := by decide +kernel
set_option maxRecDepth 20000 in
theorem wq_r7_23 : Cond.instanceMethod yX4_markTurnedToday ∈ lw_tbl := by decide +kernel
theorem wi_wsL_law0_r7 : ∀ w ∈ wsL_law0_r7, w ∈ lw_tbl := List.forall_mem_cons.mpr ⟨wq_r7_0, List.forall_mem_cons.mpr ⟨wq_r7_1, List.forall_mem_cons.mpr ⟨wq_r7_2, List.forall_mem_cons.mpr ⟨wq_r7_3, List.forall_mem_cons.mpr ⟨wq_r7_4, List.forall_mem_cons.mpr ⟨wq_r7_5, List.forall_mem_cons.mpr ⟨wq_r7_6, List.forall_mem_cons.mpr ⟨wq_r7_7, List.forall_mem_cons.mpr ⟨wq_r7_8, List.forall_mem_cons.mpr ⟨wq_r7_9, List.forall_mem_cons.mpr ⟨wq_r7_10, List.forall_mem_cons.mpr ⟨wq_r7_11, List.forall_mem_cons.mpr ⟨wq_r7_12, List.forall_mem_cons.mpr ⟨wq_r7_13, List.forall_mem_cons.mpr ⟨wq_r7_14, List.forall_mem_cons.mpr ⟨wq_r7_15, List.forall_mem_cons.mpr ⟨wq_r7_16, List.forall_mem_cons.mpr ⟨wq_r7_17, List.forall_mem_cons.mpr ⟨wq_r7_18, List.forall_mem_cons.mpr ⟨wq_r7_19, List.forall_mem_cons.mpr ⟨wq_r7_20, List.forall_mem_cons.mpr ⟨wq_r7_21, List.forall_mem_cons.mpr ⟨wq_r7_22, List.forall_mem_cons.mpr ⟨wq_r7_23, fun w h => absurd h List.not_mem_nil⟩⟩⟩⟩⟩⟩⟩⟩⟩⟩⟩⟩⟩⟩⟩⟩⟩⟩⟩⟩⟩⟩⟩⟩
set_option maxRecDepth 20000 in
theorem wq_r8_0 : Cond.selects RX4 yX4_markTurnedToday yX4_markTurnedToday ∈ lw_tbl := by decide +kernel
set_option maxRecDepth 20000 in
theorem wq_r8_1 : Cond.code yX4_markTurnedToday cX4_markTurnedToday 2 none ∈ lw_tbl := List.mem_of_getElem? (i := 277) rfl
set_option maxRecDepth 20000 in
theorem wq_r8_2 : Cond.methodLink RX4 212 yX4_squeezeOldParts ∈ lw_tbl := by decide +kernel
set_option maxRecDepth 20000 in
theorem wq_r8_3 : Cond.instanceMethod yX4_squeezeOldParts ∈ lw_tbl := by decide +kernel
set_option maxRecDepth 20000 in
theorem wq_r8_4 : Cond.selects RX4 yX4_squeezeOldParts yX4_squeezeOldParts ∈ lw_tbl := by decide +kernel
set_option maxRecDepth 20000 in
theorem wq_r8_5 : Cond.code yX4_squeezeOldParts cX4_squeezeOldParts 4 none ∈ lw_tbl := List.mem_of_getElem? (i := 281) rfl
set_option maxRecDepth 20000 in
theorem wq_r8_6 : Cond.classLink RX4 105 "LogTurner$Part" ∈ lw_tbl := by decide +kernel
set_option maxRecDepth 20000 in
theorem wq_r8_7 : Cond.fieldLink RX4 157 "LogTurner$Part" "squeezed" "Z" ∈ lw_tbl := by decide +kernel
set_option maxRecDepth 20000 in
theorem wq_r8_8 : Cond.methodLink RX4 179 yJx4a65c_get_915e3 ∈ lw_tbl := by decide +kernel
set_option maxRecDepth 20000 in
theorem wq_r8_9 : Cond.instanceMethod yJx4a65c_get_915e3 ∈ lw_tbl := by decide +kernel
set_option maxRecDepth 20000 in
theorem wq_r8_10 : Cond.selects RJx4a65c yJx4a65c_get_915e3 yJx4a65c_get_915e3 ∈ lw_tbl := by decide +kernel
set_option maxRecDepth 20000 in
theorem wq_r8_11 : Cond.code yJx4a65c_get_915e3 cJx4a65c_get_915e3 2 (some (.object "java/lang/Object")) ∈ lw_tbl := List.mem_of_getElem? (i := 285) rfl
set_option maxRecDepth 20000 in
theorem wq_r8_12 : Cond.methodLink RJx4a65c 118 yJ15_checkIndex_7cf53 ∈ lw_tbl := by decide +kernel
set_option maxRecDepth 20000 in
theorem wq_r8_13 : Cond.static yJ15_checkIndex_7cf53 ∈ lw_tbl := by decide +kernel
set_option maxRecDepth 20000 in
theorem wq_r8_14 : Cond.initialized RJ15 ∈ lw_tbl := by decide +kernel
set_option maxRecDepth 20000 in
theorem wq_r8_15 : Cond.code yJ15_checkIndex_7cf53 cJ15_checkIndex_7cf53 2 (some .int) ∈ lw_tbl := List.mem_of_getElem? (i := 288) rfl
set_option maxRecDepth 20000 in
theorem wq_r8_16 : Cond.methodLink RJ15 105 yJ3_checkIndex_8e157 ∈ lw_tbl := by decide +kernel
set_option maxRecDepth 20000 in
theorem wq_r8_17 : Cond.static yJ3_checkIndex_8e157 ∈ lw_tbl := by decide +kernel
set_option maxRecDepth 20000 in
theorem wq_r8_18 : Cond.initialized RJ3 ∈ lw_tbl := by decide +kernel
set_option maxRecDepth 20000 in
theorem wq_r8_19 : Cond.code yJ3_checkIndex_8e157 cJ3_checkIndex_8e157 3 (some .int) ∈ lw_tbl := List.mem_of_getElem? (i := 291) rfl
set_option maxRecDepth 20000 in
theorem wq_r8_20 : Cond.methodLink RJx4a65c 123 yJx4a65c_elementData_915e3 ∈ lw_tbl := by decide +kernel
set_option maxRecDepth 20000 in
theorem wq_r8_21 : Cond.instanceMethod yJx4a65c_elementData_915e3 ∈ lw_tbl := by decide +kernel
set_option maxRecDepth 20000 in
theorem wq_r8_22 : Cond.selects RJx4a65c yJx4a65c_elementData_915e3 yJx4a65c_elementData_915e3 ∈ lw_tbl := by decide +kernel
set_option maxRecDepth 20000 in
theorem wq_r8_23 : Cond.code yJx4a65c_elementData_915e3 cJx4a65c_elementData_915e3 2 (some (.object "java/lang/Object")) ∈ lw_tbl := List.mem_of_getElem? (i := 295) rfl
theorem wi_wsL_law0_r8 : ∀ w ∈ wsL_law0_r8, w ∈ lw_tbl := List.forall_mem_cons.mpr ⟨wq_r8_0, List.forall_mem_cons.mpr ⟨wq_r8_1, List.forall_mem_cons.mpr ⟨wq_r8_2, List.forall_mem_cons.mpr ⟨wq_r8_3, List.forall_mem_cons.mpr ⟨wq_r8_4, List.forall_mem_cons.mpr ⟨wq_r8_5, List.forall_mem_cons.mpr ⟨wq_r8_6, List.forall_mem_cons.mpr ⟨wq_r8_7, List.forall_mem_cons.mpr ⟨wq_r8_8, List.forall_mem_cons.mpr ⟨wq_r8_9, List.forall_mem_cons.mpr ⟨wq_r8_10, List.forall_mem_cons.mpr ⟨wq_r8_11, List.forall_mem_cons.mpr ⟨wq_r8_12, List.forall_mem_cons.mpr ⟨wq_r8_13, List.forall_mem_cons.mpr ⟨wq_r8_14, List.forall_mem_cons.mpr ⟨wq_r8_15, List.forall_mem_cons.mpr ⟨wq_r8_16, List.forall_mem_cons.mpr ⟨wq_r8_17, List.forall_mem_cons.mpr ⟨wq_r8_18, List.forall_mem_cons.mpr ⟨wq_r8_19, List.forall_mem_cons.mpr ⟨wq_r8_20, List.forall_mem_cons.mpr ⟨wq_r8_21, List.forall_mem_cons.mpr ⟨wq_r8_22, List.forall_mem_cons.mpr ⟨wq_r8_23, fun w h => absurd h List.not_mem_nil⟩⟩⟩⟩⟩⟩⟩⟩⟩⟩⟩⟩⟩⟩⟩⟩⟩⟩⟩⟩⟩⟩⟩⟩
set_option maxRecDepth 20000 in
theorem wq_r9_0 : Cond.methodLink RX4 219 yX4_isHeld ∈ lw_tbl := by decide +kernel
set_option maxRecDepth 20000 in
theorem wq_r9_1 : Cond.instanceMethod yX4_isHeld ∈ lw_tbl := by decide +kernel
set_option maxRecDepth 20000 in
theorem wq_r9_2 : Cond.selects RX4 yX4_isHeld yX4_isHeld ∈ lw_tbl := by decide +kernel
set_option maxRecDepth 20000 in
theorem wq_r9_3 : Cond.code yX4_isHeld cX4_isHeld 3 (some .boolean) ∈ lw_tbl := List.mem_of_getElem? (i := 299) rfl
set_option maxRecDepth 20000 in
theorem wq_r9_4 : Cond.fieldLink RX4 94 "LogTurner$Holder" "part" "LLogTurner$Part;" ∈ lw_tbl := by decide +kernel
set_option maxRecDepth 20000 in
theorem wq_r9_5 : Cond.methodLink RX4 216 yX4_throwOldParts ∈ lw_tbl := by decide +kernel
set_option maxRecDepth 20000 in
theorem wq_r9_6 : Cond.instanceMethod yX4_throwOldParts ∈ lw_tbl := by decide +kernel
set_option maxRecDepth 20000 in
theorem wq_r9_7 : Cond.selects RX4 yX4_throwOldParts yX4_throwOldParts ∈ lw_tbl := by decide +kernel
set_option maxRecDepth 20000 in
theorem wq_r9_8 : Cond.code yX4_throwOldParts cX4_throwOldParts 7 (some .int) ∈ lw_tbl := List.mem_of_getElem? (i := 303) rfl
set_option maxRecDepth 20000 in
theorem wq_r9_9 : Cond.fieldLink RX4 160 "LogTurner$LogFile" "thrownLines" "I" ∈ lw_tbl := by decide +kernel
set_option maxRecDepth 20000 in
theorem wq_r9_10 : Cond.methodLink RX4 223 yX4_mustGo ∈ lw_tbl := by decide +kernel
set_option maxRecDepth 20000 in
theorem wq_r9_11 : Cond.instanceMethod yX4_mustGo ∈ lw_tbl := by decide +kernel
set_option maxRecDepth 20000 in
theorem wq_r9_12 : Cond.selects RX4 yX4_mustGo yX4_mustGo ∈ lw_tbl := by decide +kernel
set_option maxRecDepth 20000 in
theorem wq_r9_13 : Cond.code yX4_mustGo cX4_mustGo 6 (some .boolean) ∈ lw_tbl := List.mem_of_getElem? (i := 307) rfl
set_option maxRecDepth 20000 in
theorem wq_r9_14 : Cond.fieldLink RX4 58 "LogTurner$Rule" "greatest" "I" ∈ lw_tbl := by decide +kernel
set_option maxRecDepth 20000 in
theorem wq_r9_15 : Cond.fieldLink RX4 55 "LogTurner$Rule" "keep" "I" ∈ lw_tbl := by decide +kernel
set_option maxRecDepth 20000 in
theorem wq_r9_16 : Cond.methodLink RX4 227 yJx4a65c_remove_915e3 ∈ lw_tbl := by decide +kernel
set_option maxRecDepth 20000 in
theorem wq_r9_17 : Cond.instanceMethod yJx4a65c_remove_915e3 ∈ lw_tbl := by decide +kernel
set_option maxRecDepth 20000 in
theorem wq_r9_18 : Cond.selects RJx4a65c yJx4a65c_remove_915e3 yJx4a65c_remove_915e3 ∈ lw_tbl := by decide +kernel
set_option maxRecDepth 20000 in
theorem wq_r9_19 : Cond.code yJx4a65c_remove_915e3 cJx4a65c_remove_915e3 4 (some (.object "java/lang/Object")) ∈ lw_tbl := List.mem_of_getElem? (i := 311) rfl
set_option maxRecDepth 20000 in
theorem wq_r9_20 : Cond.methodLink RJx4a65c 144 yJx4a65c_fastRemove_b59b0 ∈ lw_tbl := by decide +kernel
set_option maxRecDepth 20000 in
theorem wq_r9_21 : Cond.instanceMethod yJx4a65c_fastRemove_b59b0 ∈ lw_tbl := by decide +kernel
set_option maxRecDepth 20000 in
theorem wq_r9_22 : Cond.selects RJx4a65c yJx4a65c_fastRemove_b59b0 yJx4a65c_fastRemove_b59b0 ∈ lw_tbl := by decide +kernel
set_option maxRecDepth 20000 in
theorem wq_r9_23 : Cond.code yJx4a65c_fastRemove_b59b0 cJx4a65c_fastRemove_b59b0 4 none ∈ lw_tbl := List.mem_of_getElem? (i := 315) rfl
theorem wi_wsL_law0_r9 : ∀ w ∈ wsL_law0_r9, w ∈ lw_tbl := List.forall_mem_cons.mpr ⟨wq_r9_0, List.forall_mem_cons.mpr ⟨wq_r9_1, List.forall_mem_cons.mpr ⟨wq_r9_2, List.forall_mem_cons.mpr ⟨wq_r9_3, List.forall_mem_cons.mpr ⟨wq_r9_4, List.forall_mem_cons.mpr ⟨wq_r9_5, List.forall_mem_cons.mpr ⟨wq_r9_6, List.forall_mem_cons.mpr ⟨wq_r9_7, List.forall_mem_cons.mpr ⟨wq_r9_8, List.forall_mem_cons.mpr ⟨wq_r9_9, List.forall_mem_cons.mpr ⟨wq_r9_10, List.forall_mem_cons.mpr ⟨wq_r9_11, List.forall_mem_cons.mpr ⟨wq_r9_12, List.forall_mem_cons.mpr ⟨wq_r9_13, List.forall_mem_cons.mpr ⟨wq_r9_14, List.forall_mem_cons.mpr ⟨wq_r9_15, List.forall_mem_cons.mpr ⟨wq_r9_16, List.forall_mem_cons.mpr ⟨wq_r9_17, List.forall_mem_cons.mpr ⟨wq_r9_18, List.forall_mem_cons.mpr ⟨wq_r9_19, List.forall_mem_cons.mpr ⟨wq_r9_20, List.forall_mem_cons.mpr ⟨wq_r9_21, List.forall_mem_cons.mpr ⟨wq_r9_22, List.forall_mem_cons.mpr ⟨wq_r9_23, fun w h => absurd h List.not_mem_nil⟩⟩⟩⟩⟩⟩⟩⟩⟩⟩⟩⟩⟩⟩⟩⟩⟩⟩⟩⟩⟩⟩⟩⟩
set_option maxRecDepth 20000 in
theorem wq_r10_0 : Cond.methodLink RJx4a65c 112 arraycopyName ∈ lw_tbl := by decide +kernel
set_option maxRecDepth 20000 in
theorem wq_r10_1 : Cond.methodLink RX4 122 yX4_hasFileAmong ∈ lw_tbl := by decide +kernel
set_option maxRecDepth 20000 in
theorem wq_r10_2 : Cond.instanceMethod yX4_hasFileAmong ∈ lw_tbl := by decide +kernel
set_option maxRecDepth 20000 in
theorem wq_r10_3 : Cond.selects RX4 yX4_hasFileAmong yX4_hasFileAmong ∈ lw_tbl := by decide +kernel
set_option maxRecDepth 20000 in
theorem wq_r10_4 : Cond.code yX4_hasFileAmong cX4_hasFileAmong 4 (some .boolean) ∈ lw_tbl := List.mem_of_getElem? (i := 320) rfl
set_option maxRecDepth 20000 in
theorem wq_r10_5 : Cond.methodLink RX4 126 yX4_tellHoldersOf ∈ lw_tbl := by decide +kernel
set_option maxRecDepth 20000 in
theorem wq_r10_6 : Cond.instanceMethod yX4_tellHoldersOf ∈ lw_tbl := by decide +kernel
set_option maxRecDepth 20000 in
theorem wq_r10_7 : Cond.selects RX4 yX4_tellHoldersOf yX4_tellHoldersOf ∈ lw_tbl := by decide +kernel
set_option maxRecDepth 20000 in
theorem wq_r10_8 : Cond.code yX4_tellHoldersOf cX4_tellHoldersOf 4 none ∈ lw_tbl := List.mem_of_getElem? (i := 324) rfl
set_option maxRecDepth 20000 in
theorem wq_r10_9 : Cond.fieldLink RX4 86 "LogTurner$Holder" "file" "LLogTurner$LogFile;" ∈ lw_tbl := by decide +kernel
set_option maxRecDepth 20000 in
theorem wq_r10_10 : Cond.methodLink RL 85 yL_holds ∈ lw_tbl := by decide +kernel
set_option maxRecDepth 20000 in
theorem wq_r10_11 : Cond.static yL_holds ∈ lw_tbl := by decide +kernel
set_option maxRecDepth 20000 in
theorem wq_r10_12 : Cond.initialized RL ∈ lw_tbl := by decide +kernel
set_option maxRecDepth 20000 in
theorem wq_r10_13 : Cond.codeWith yL_holds cL_holds 3 (some .int) [(0, 5, 6, 16)] ∈ lw_tbl := by decide +kernel
set_option maxRecDepth 20000 in
theorem wq_r10_14 : Cond.classLink RL 16 "java/lang/IndexOutOfBoundsException" ∈ lw_tbl := by decide +kernel
set_option maxRecDepth 20000 in
theorem wq_r10_15 : Cond.methodLink RL 82 yX4_holds ∈ lw_tbl := by decide +kernel
set_option maxRecDepth 20000 in
theorem wq_r10_16 : Cond.instanceMethod yX4_holds ∈ lw_tbl := by decide +kernel
set_option maxRecDepth 20000 in
theorem wq_r10_17 : Cond.selects RX4 yX4_holds yX4_holds ∈ lw_tbl := by decide +kernel
set_option maxRecDepth 20000 in
theorem wq_r10_18 : Cond.code yX4_holds cX4_holds 4 (some .int) ∈ lw_tbl := List.mem_of_getElem? (i := 428) rfl
set_option maxRecDepth 20000 in
theorem wq_r10_19 : Cond.fieldLink RX4 163 "LogTurner$LogFile" "number" "I" ∈ lw_tbl := by decide +kernel
set_option maxRecDepth 20000 in
theorem wq_r10_20 : Cond.methodLink RX4 82 yX4_holderOf ∈ lw_tbl := by decide +kernel
set_option maxRecDepth 20000 in
theorem wq_r10_21 : Cond.instanceMethod yX4_holderOf ∈ lw_tbl := by decide +kernel
set_option maxRecDepth 20000 in
theorem wq_r10_22 : Cond.selects RX4 yX4_holderOf yX4_holderOf ∈ lw_tbl := by decide +kernel
set_option maxRecDepth 20000 in
theorem wq_r10_23 : Cond.code yX4_holderOf cX4_holderOf 2 (some (.object "LogTurner$Holder")) ∈ lw_tbl := List.mem_of_getElem? (i := 432) rfl
theorem wi_wsL_law0_r10 : ∀ w ∈ wsL_law0_r10, w ∈ lw_tbl := List.forall_mem_cons.mpr ⟨wq_r10_0, List.forall_mem_cons.mpr ⟨wq_r10_1, List.forall_mem_cons.mpr ⟨wq_r10_2, List.forall_mem_cons.mpr ⟨wq_r10_3, List.forall_mem_cons.mpr ⟨wq_r10_4, List.forall_mem_cons.mpr ⟨wq_r10_5, List.forall_mem_cons.mpr ⟨wq_r10_6, List.forall_mem_cons.mpr ⟨wq_r10_7, List.forall_mem_cons.mpr ⟨wq_r10_8, List.forall_mem_cons.mpr ⟨wq_r10_9, List.forall_mem_cons.mpr ⟨wq_r10_10, List.forall_mem_cons.mpr ⟨wq_r10_11, List.forall_mem_cons.mpr ⟨wq_r10_12, List.forall_mem_cons.mpr ⟨wq_r10_13, List.forall_mem_cons.mpr ⟨wq_r10_14, List.forall_mem_cons.mpr ⟨wq_r10_15, List.forall_mem_cons.mpr ⟨wq_r10_16, List.forall_mem_cons.mpr ⟨wq_r10_17, List.forall_mem_cons.mpr ⟨wq_r10_18, List.forall_mem_cons.mpr ⟨wq_r10_19, List.forall_mem_cons.mpr ⟨wq_r10_20, List.forall_mem_cons.mpr ⟨wq_r10_21, List.forall_mem_cons.mpr ⟨wq_r10_22, List.forall_mem_cons.mpr ⟨wq_r10_23, fun w h => absurd h List.not_mem_nil⟩⟩⟩⟩⟩⟩⟩⟩⟩⟩⟩⟩⟩⟩⟩⟩⟩⟩⟩⟩⟩⟩⟩⟩
set_option maxRecDepth 20000 in
theorem wq_r11_0 : Cond.classLink RX4 168 "java/lang/IndexOutOfBoundsException" ∈ lw_tbl := by decide +kernel
set_option maxRecDepth 20000 in
theorem wq_r11_1 : Cond.initialized "java/lang/IndexOutOfBoundsException" ∈ lw_tbl := by decide +kernel
set_option maxRecDepth 20000 in
theorem wq_r11_2 : Cond.methodLink RX4 164 yX4_placeOf ∈ lw_tbl := by decide +kernel
set_option maxRecDepth 20000 in
theorem wq_r11_3 : Cond.static yX4_placeOf ∈ lw_tbl := by decide +kernel
set_option maxRecDepth 20000 in
theorem wq_r11_4 : Cond.code yX4_placeOf cX4_placeOf 3 (some .int) ∈ lw_tbl := List.mem_of_getElem? (i := 436) rfl
set_option maxRecDepth 20000 in
theorem wq_r11_5 : Cond.methodLink RL 96 yL_name ∈ lw_tbl := by decide +kernel
set_option maxRecDepth 20000 in
theorem wq_r11_6 : Cond.static yL_name ∈ lw_tbl := by decide +kernel
set_option maxRecDepth 20000 in
theorem wq_r11_7 : Cond.codeWith yL_name cL_name 4 (some .int) [(0, 6, 7, 16)] ∈ lw_tbl := by decide +kernel
set_option maxRecDepth 20000 in
theorem wq_r11_8 : Cond.methodLink RL 72 yX4_name ∈ lw_tbl := by decide +kernel
set_option maxRecDepth 20000 in
theorem wq_r11_9 : Cond.instanceMethod yX4_name ∈ lw_tbl := by decide +kernel
set_option maxRecDepth 20000 in
theorem wq_r11_10 : Cond.selects RX4 yX4_name yX4_name ∈ lw_tbl := by decide +kernel
set_option maxRecDepth 20000 in
theorem wq_r11_11 : Cond.code yX4_name cX4_name 5 (some .int) ∈ lw_tbl := List.mem_of_getElem? (i := 341) rfl
set_option maxRecDepth 20000 in
theorem wq_r11_12 : Cond.fieldLink RX4 65 "LogTurner$Rule" "dates" "Z" ∈ lw_tbl := by decide +kernel
set_option maxRecDepth 20000 in
theorem wq_r11_13 : Cond.methodLink RX4 71 yX4_fileOf ∈ lw_tbl := by decide +kernel
set_option maxRecDepth 20000 in
theorem wq_r11_14 : Cond.instanceMethod yX4_fileOf ∈ lw_tbl := by decide +kernel
set_option maxRecDepth 20000 in
theorem wq_r11_15 : Cond.selects RX4 yX4_fileOf yX4_fileOf ∈ lw_tbl := by decide +kernel
set_option maxRecDepth 20000 in
theorem wq_r11_16 : Cond.code yX4_fileOf cX4_fileOf 2 (some (.object "LogTurner$LogFile")) ∈ lw_tbl := List.mem_of_getElem? (i := 345) rfl
set_option maxRecDepth 20000 in
theorem wq_r11_17 : Cond.methodLink RX4 146 yX4_oldPartOf ∈ lw_tbl := by decide +kernel
set_option maxRecDepth 20000 in
theorem wq_r11_18 : Cond.static yX4_oldPartOf ∈ lw_tbl := by decide +kernel
set_option maxRecDepth 20000 in
theorem wq_r11_19 : Cond.code yX4_oldPartOf cX4_oldPartOf 2 (some (.object "LogTurner$Part")) ∈ lw_tbl := List.mem_of_getElem? (i := 416) rfl
set_option maxRecDepth 20000 in
theorem wq_r11_20 : Cond.methodLink RX4 153 yX4_countOlderOfDay ∈ lw_tbl := by decide +kernel
set_option maxRecDepth 20000 in
theorem wq_r11_21 : Cond.static yX4_countOlderOfDay ∈ lw_tbl := by decide +kernel
set_option maxRecDepth 20000 in
theorem wq_r11_22 : Cond.code yX4_countOlderOfDay cX4_countOlderOfDay 5 (some .int) ∈ lw_tbl := List.mem_of_getElem? (i := 420) rfl
set_option maxRecDepth 20000 in
theorem wq_r11_23 : Cond.methodLink RL 164 yL_at ∈ lw_tbl := by decide +kernel
theorem wi_wsL_law0_r11 : ∀ w ∈ wsL_law0_r11, w ∈ lw_tbl := List.forall_mem_cons.mpr ⟨wq_r11_0, List.forall_mem_cons.mpr ⟨wq_r11_1, List.forall_mem_cons.mpr ⟨wq_r11_2, List.forall_mem_cons.mpr ⟨wq_r11_3, List.forall_mem_cons.mpr ⟨wq_r11_4, List.forall_mem_cons.mpr ⟨wq_r11_5, List.forall_mem_cons.mpr ⟨wq_r11_6, List.forall_mem_cons.mpr ⟨wq_r11_7, List.forall_mem_cons.mpr ⟨wq_r11_8, List.forall_mem_cons.mpr ⟨wq_r11_9, List.forall_mem_cons.mpr ⟨wq_r11_10, List.forall_mem_cons.mpr ⟨wq_r11_11, List.forall_mem_cons.mpr ⟨wq_r11_12, List.forall_mem_cons.mpr ⟨wq_r11_13, List.forall_mem_cons.mpr ⟨wq_r11_14, List.forall_mem_cons.mpr ⟨wq_r11_15, List.forall_mem_cons.mpr ⟨wq_r11_16, List.forall_mem_cons.mpr ⟨wq_r11_17, List.forall_mem_cons.mpr ⟨wq_r11_18, List.forall_mem_cons.mpr ⟨wq_r11_19, List.forall_mem_cons.mpr ⟨wq_r11_20, List.forall_mem_cons.mpr ⟨wq_r11_21, List.forall_mem_cons.mpr ⟨wq_r11_22, List.forall_mem_cons.mpr ⟨wq_r11_23, fun w h => absurd h List.not_mem_nil⟩⟩⟩⟩⟩⟩⟩⟩⟩⟩⟩⟩⟩⟩⟩⟩⟩⟩⟩⟩⟩⟩⟩⟩
set_option maxRecDepth 20000 in
theorem wq_r12_0 : Cond.static yL_at ∈ lw_tbl := by decide +kernel
set_option maxRecDepth 20000 in
theorem wq_r12_1 : Cond.code yL_at cL_at 2 (some .int) ∈ lw_tbl := List.mem_of_getElem? (i := 331) rfl
set_option maxRecDepth 20000 in
theorem wq_r12_2 : Cond.constant RL 7 (1033630151) ∈ lw_tbl := by decide +kernel
set_option maxRecDepth 20000 in
theorem wq_r12_3 : Cond.constant RL 8 (1659393803) ∈ lw_tbl := by decide +kernel
set_option maxRecDepth 20000 in
theorem wq_r12_4 : Cond.methodLink RL 168 yL_acts ∈ lw_tbl := by decide +kernel
set_option maxRecDepth 20000 in
theorem wq_r12_5 : Cond.static yL_acts ∈ lw_tbl := by decide +kernel
set_option maxRecDepth 20000 in
theorem wq_r12_6 : Cond.code yL_acts cL_acts 14 (some .boolean) ∈ lw_tbl := List.mem_of_getElem? (i := 497) rfl
set_option maxRecDepth 20000 in
theorem wq_r12_7 : Cond.constant RL 21 (-1000002) ∈ lw_tbl := by decide +kernel
set_option maxRecDepth 20000 in
theorem wq_r12_8 : Cond.constant RL 43 (-1000003) ∈ lw_tbl := by decide +kernel
set_option maxRecDepth 20000 in
theorem wq_r12_9 : Cond.methodLink RL 132 yL_low ∈ lw_tbl := by decide +kernel
set_option maxRecDepth 20000 in
theorem wq_r12_10 : Cond.static yL_low ∈ lw_tbl := by decide +kernel
set_option maxRecDepth 20000 in
theorem wq_r12_11 : Cond.code yL_low cL_low 2 (some .int) ∈ lw_tbl := List.mem_of_getElem? (i := 500) rfl
set_option maxRecDepth 20000 in
theorem wq_r12_12 : Cond.constant RL 9 (2147483647) ∈ lw_tbl := by decide +kernel
set_option maxRecDepth 20000 in
theorem wq_r12_13 : Cond.methodLink RL 135 yL_setDue ∈ lw_tbl := by decide +kernel
set_option maxRecDepth 20000 in
theorem wq_r12_14 : Cond.static yL_setDue ∈ lw_tbl := by decide +kernel
set_option maxRecDepth 20000 in
theorem wq_r12_15 : Cond.codeWith yL_setDue cL_setDue 7 (some .int) [(0, 12, 13, 16), (0, 12, 18, 19)] ∈ lw_tbl := by decide +kernel
set_option maxRecDepth 20000 in
theorem wq_r12_16 : Cond.classLink RL 19 "java/lang/IllegalArgumentException" ∈ lw_tbl := by decide +kernel
set_option maxRecDepth 20000 in
theorem wq_r12_17 : Cond.methodLink RL 10 yX4_setDue ∈ lw_tbl := by decide +kernel
set_option maxRecDepth 20000 in
theorem wq_r12_18 : Cond.instanceMethod yX4_setDue ∈ lw_tbl := by decide +kernel
set_option maxRecDepth 20000 in
theorem wq_r12_19 : Cond.selects RX4 yX4_setDue yX4_setDue ∈ lw_tbl := by decide +kernel
set_option maxRecDepth 20000 in
theorem wq_r12_20 : Cond.code yX4_setDue cX4_setDue 7 none ∈ lw_tbl := List.mem_of_getElem? (i := 509) rfl
set_option maxRecDepth 20000 in
theorem wq_r12_21 : Cond.methodLink RX4 34 yX4_ruleOf ∈ lw_tbl := by decide +kernel
set_option maxRecDepth 20000 in
theorem wq_r12_22 : Cond.instanceMethod yX4_ruleOf ∈ lw_tbl := by decide +kernel
set_option maxRecDepth 20000 in
theorem wq_r12_23 : Cond.selects RX4 yX4_ruleOf yX4_ruleOf ∈ lw_tbl := by decide +kernel
theorem wi_wsL_law0_r12 : ∀ w ∈ wsL_law0_r12, w ∈ lw_tbl := List.forall_mem_cons.mpr ⟨wq_r12_0, List.forall_mem_cons.mpr ⟨wq_r12_1, List.forall_mem_cons.mpr ⟨wq_r12_2, List.forall_mem_cons.mpr ⟨wq_r12_3, List.forall_mem_cons.mpr ⟨wq_r12_4, List.forall_mem_cons.mpr ⟨wq_r12_5, List.forall_mem_cons.mpr ⟨wq_r12_6, List.forall_mem_cons.mpr ⟨wq_r12_7, List.forall_mem_cons.mpr ⟨wq_r12_8, List.forall_mem_cons.mpr ⟨wq_r12_9, List.forall_mem_cons.mpr ⟨wq_r12_10, List.forall_mem_cons.mpr ⟨wq_r12_11, List.forall_mem_cons.mpr ⟨wq_r12_12, List.forall_mem_cons.mpr ⟨wq_r12_13, List.forall_mem_cons.mpr ⟨wq_r12_14, List.forall_mem_cons.mpr ⟨wq_r12_15, List.forall_mem_cons.mpr ⟨wq_r12_16, List.forall_mem_cons.mpr ⟨wq_r12_17, List.forall_mem_cons.mpr ⟨wq_r12_18, List.forall_mem_cons.mpr ⟨wq_r12_19, List.forall_mem_cons.mpr ⟨wq_r12_20, List.forall_mem_cons.mpr ⟨wq_r12_21, List.forall_mem_cons.mpr ⟨wq_r12_22, List.forall_mem_cons.mpr ⟨wq_r12_23, fun w h => absurd h List.not_mem_nil⟩⟩⟩⟩⟩⟩⟩⟩⟩⟩⟩⟩⟩⟩⟩⟩⟩⟩⟩⟩⟩⟩⟩⟩
set_option maxRecDepth 20000 in
theorem wq_r13_0 : Cond.code yX4_ruleOf cX4_ruleOf 2 (some (.object "LogTurner$Rule")) ∈ lw_tbl := List.mem_of_getElem? (i := 513) rfl
set_option maxRecDepth 20000 in
theorem wq_r13_1 : Cond.methodLink RX4 38 yX4_requireRange ∈ lw_tbl := by decide +kernel
set_option maxRecDepth 20000 in
theorem wq_r13_2 : Cond.static yX4_requireRange ∈ lw_tbl := by decide +kernel
set_option maxRecDepth 20000 in
theorem wq_r13_3 : Cond.code yX4_requireRange cX4_requireRange 3 none ∈ lw_tbl := List.mem_of_getElem? (i := 517) rfl
set_option maxRecDepth 20000 in
theorem wq_r13_4 : Cond.classLink RX4 183 "java/lang/IllegalArgumentException" ∈ lw_tbl := by decide +kernel
set_option maxRecDepth 20000 in
theorem wq_r13_5 : Cond.initialized "java/lang/IllegalArgumentException" ∈ lw_tbl := by decide +kernel
set_option maxRecDepth 20000 in
theorem wq_r13_6 : Cond.methodLink RL 138 yL_setOld ∈ lw_tbl := by decide +kernel
set_option maxRecDepth 20000 in
theorem wq_r13_7 : Cond.static yL_setOld ∈ lw_tbl := by decide +kernel
set_option maxRecDepth 20000 in
theorem wq_r13_8 : Cond.codeWith yL_setOld cL_setOld 8 (some .int) [(0, 14, 15, 16), (0, 14, 20, 19)] ∈ lw_tbl := by decide +kernel
set_option maxRecDepth 20000 in
theorem wq_r13_9 : Cond.methodLink RL 22 yX4_setOld ∈ lw_tbl := by decide +kernel
set_option maxRecDepth 20000 in
theorem wq_r13_10 : Cond.instanceMethod yX4_setOld ∈ lw_tbl := by decide +kernel
set_option maxRecDepth 20000 in
theorem wq_r13_11 : Cond.selects RX4 yX4_setOld yX4_setOld ∈ lw_tbl := by decide +kernel
set_option maxRecDepth 20000 in
theorem wq_r13_12 : Cond.code yX4_setOld cX4_setOld 8 none ∈ lw_tbl := List.mem_of_getElem? (i := 541) rfl
set_option maxRecDepth 20000 in
theorem wq_r13_13 : Cond.methodLink RL 141 yL_give ∈ lw_tbl := by decide +kernel
set_option maxRecDepth 20000 in
theorem wq_r13_14 : Cond.static yL_give ∈ lw_tbl := by decide +kernel
set_option maxRecDepth 20000 in
theorem wq_r13_15 : Cond.codeWith yL_give cL_give 4 (some .int) [(0, 6, 7, 16)] ∈ lw_tbl := by decide +kernel
set_option maxRecDepth 20000 in
theorem wq_r13_16 : Cond.methodLink RL 26 yX4_give ∈ lw_tbl := by decide +kernel
set_option maxRecDepth 20000 in
theorem wq_r13_17 : Cond.instanceMethod yX4_give ∈ lw_tbl := by decide +kernel
set_option maxRecDepth 20000 in
theorem wq_r13_18 : Cond.selects RX4 yX4_give yX4_give ∈ lw_tbl := by decide +kernel
set_option maxRecDepth 20000 in
theorem wq_r13_19 : Cond.code yX4_give cX4_give 6 (some .int) ∈ lw_tbl := List.mem_of_getElem? (i := 548) rfl
set_option maxRecDepth 20000 in
theorem wq_r13_20 : Cond.fieldLink RX4 79 "LogTurner$Rule" "number" "I" ∈ lw_tbl := by decide +kernel
set_option maxRecDepth 20000 in
theorem wq_r13_21 : Cond.methodLink RL 143 yL_open ∈ lw_tbl := by decide +kernel
set_option maxRecDepth 20000 in
theorem wq_r13_22 : Cond.static yL_open ∈ lw_tbl := by decide +kernel
set_option maxRecDepth 20000 in
theorem wq_r13_23 : Cond.codeWith yL_open cL_open 4 (some .int) [(0, 7, 8, 16)] ∈ lw_tbl := by decide +kernel
theorem wi_wsL_law0_r13 : ∀ w ∈ wsL_law0_r13, w ∈ lw_tbl := List.forall_mem_cons.mpr ⟨wq_r13_0, List.forall_mem_cons.mpr ⟨wq_r13_1, List.forall_mem_cons.mpr ⟨wq_r13_2, List.forall_mem_cons.mpr ⟨wq_r13_3, List.forall_mem_cons.mpr ⟨wq_r13_4, List.forall_mem_cons.mpr ⟨wq_r13_5, List.forall_mem_cons.mpr ⟨wq_r13_6, List.forall_mem_cons.mpr ⟨wq_r13_7, List.forall_mem_cons.mpr ⟨wq_r13_8, List.forall_mem_cons.mpr ⟨wq_r13_9, List.forall_mem_cons.mpr ⟨wq_r13_10, List.forall_mem_cons.mpr ⟨wq_r13_11, List.forall_mem_cons.mpr ⟨wq_r13_12, List.forall_mem_cons.mpr ⟨wq_r13_13, List.forall_mem_cons.mpr ⟨wq_r13_14, List.forall_mem_cons.mpr ⟨wq_r13_15, List.forall_mem_cons.mpr ⟨wq_r13_16, List.forall_mem_cons.mpr ⟨wq_r13_17, List.forall_mem_cons.mpr ⟨wq_r13_18, List.forall_mem_cons.mpr ⟨wq_r13_19, List.forall_mem_cons.mpr ⟨wq_r13_20, List.forall_mem_cons.mpr ⟨wq_r13_21, List.forall_mem_cons.mpr ⟨wq_r13_22, List.forall_mem_cons.mpr ⟨wq_r13_23, fun w h => absurd h List.not_mem_nil⟩⟩⟩⟩⟩⟩⟩⟩⟩⟩⟩⟩⟩⟩⟩⟩⟩⟩⟩⟩⟩⟩⟩⟩
set_option maxRecDepth 20000 in
theorem wq_r14_0 : Cond.methodLink RL 30 yX4_open ∈ lw_tbl := by decide +kernel
set_option maxRecDepth 20000 in
theorem wq_r14_1 : Cond.instanceMethod yX4_open ∈ lw_tbl := by decide +kernel
set_option maxRecDepth 20000 in
theorem wq_r14_2 : Cond.selects RX4 yX4_open yX4_open ∈ lw_tbl := by decide +kernel
set_option maxRecDepth 20000 in
theorem wq_r14_3 : Cond.code yX4_open cX4_open 5 none ∈ lw_tbl := List.mem_of_getElem? (i := 555) rfl
set_option maxRecDepth 20000 in
theorem wq_r14_4 : Cond.methodLink RL 145 yL_shut ∈ lw_tbl := by decide +kernel
set_option maxRecDepth 20000 in
theorem wq_r14_5 : Cond.static yL_shut ∈ lw_tbl := by decide +kernel
set_option maxRecDepth 20000 in
theorem wq_r14_6 : Cond.codeWith yL_shut cL_shut 3 (some .int) [(0, 13, 14, 16)] ∈ lw_tbl := by decide +kernel
set_option maxRecDepth 20000 in
theorem wq_r14_7 : Cond.methodLink RL 34 yX4_shut ∈ lw_tbl := by decide +kernel
set_option maxRecDepth 20000 in
theorem wq_r14_8 : Cond.instanceMethod yX4_shut ∈ lw_tbl := by decide +kernel
set_option maxRecDepth 20000 in
theorem wq_r14_9 : Cond.selects RX4 yX4_shut yX4_shut ∈ lw_tbl := by decide +kernel
set_option maxRecDepth 20000 in
theorem wq_r14_10 : Cond.code yX4_shut cX4_shut 4 (some .boolean) ∈ lw_tbl := List.mem_of_getElem? (i := 562) rfl
set_option maxRecDepth 20000 in
theorem wq_r14_11 : Cond.methodLink RL 147 yL_write ∈ lw_tbl := by decide +kernel
set_option maxRecDepth 20000 in
theorem wq_r14_12 : Cond.static yL_write ∈ lw_tbl := by decide +kernel
set_option maxRecDepth 20000 in
theorem wq_r14_13 : Cond.codeWith yL_write cL_write 4 (some .int) [(0, 6, 7, 16), (0, 6, 11, 19), (0, 6, 15, 41)] ∈ lw_tbl := by decide +kernel
set_option maxRecDepth 20000 in
theorem wq_r14_14 : Cond.classLink RL 41 "java/lang/IllegalStateException" ∈ lw_tbl := by decide +kernel
set_option maxRecDepth 20000 in
theorem wq_r14_15 : Cond.methodLink RL 44 yX4_write ∈ lw_tbl := by decide +kernel
set_option maxRecDepth 20000 in
theorem wq_r14_16 : Cond.instanceMethod yX4_write ∈ lw_tbl := by decide +kernel
set_option maxRecDepth 20000 in
theorem wq_r14_17 : Cond.selects RX4 yX4_write yX4_write ∈ lw_tbl := by decide +kernel
set_option maxRecDepth 20000 in
theorem wq_r14_18 : Cond.code yX4_write cX4_write 4 (some .int) ∈ lw_tbl := List.mem_of_getElem? (i := 570) rfl
set_option maxRecDepth 20000 in
theorem wq_r14_19 : Cond.classLink RX4 97 "java/lang/IllegalStateException" ∈ lw_tbl := by decide +kernel
set_option maxRecDepth 20000 in
theorem wq_r14_20 : Cond.initialized "java/lang/IllegalStateException" ∈ lw_tbl := by decide +kernel
set_option maxRecDepth 20000 in
theorem wq_r14_21 : Cond.methodLink RL 149 yL_tell ∈ lw_tbl := by decide +kernel
set_option maxRecDepth 20000 in
theorem wq_r14_22 : Cond.static yL_tell ∈ lw_tbl := by decide +kernel
set_option maxRecDepth 20000 in
theorem wq_r14_23 : Cond.codeWith yL_tell cL_tell 3 (some .int) [(0, 13, 14, 16), (0, 13, 18, 41)] ∈ lw_tbl := by decide +kernel
theorem wi_wsL_law0_r14 : ∀ w ∈ wsL_law0_r14, w ∈ lw_tbl := List.forall_mem_cons.mpr ⟨wq_r14_0, List.forall_mem_cons.mpr ⟨wq_r14_1, List.forall_mem_cons.mpr ⟨wq_r14_2, List.forall_mem_cons.mpr ⟨wq_r14_3, List.forall_mem_cons.mpr ⟨wq_r14_4, List.forall_mem_cons.mpr ⟨wq_r14_5, List.forall_mem_cons.mpr ⟨wq_r14_6, List.forall_mem_cons.mpr ⟨wq_r14_7, List.forall_mem_cons.mpr ⟨wq_r14_8, List.forall_mem_cons.mpr ⟨wq_r14_9, List.forall_mem_cons.mpr ⟨wq_r14_10, List.forall_mem_cons.mpr ⟨wq_r14_11, List.forall_mem_cons.mpr ⟨wq_r14_12, List.forall_mem_cons.mpr ⟨wq_r14_13, List.forall_mem_cons.mpr ⟨wq_r14_14, List.forall_mem_cons.mpr ⟨wq_r14_15, List.forall_mem_cons.mpr ⟨wq_r14_16, List.forall_mem_cons.mpr ⟨wq_r14_17, List.forall_mem_cons.mpr ⟨wq_r14_18, List.forall_mem_cons.mpr ⟨wq_r14_19, List.forall_mem_cons.mpr ⟨wq_r14_20, List.forall_mem_cons.mpr ⟨wq_r14_21, List.forall_mem_cons.mpr ⟨wq_r14_22, List.forall_mem_cons.mpr ⟨wq_r14_23, fun w h => absurd h List.not_mem_nil⟩⟩⟩⟩⟩⟩⟩⟩⟩⟩⟩⟩⟩⟩⟩⟩⟩⟩⟩⟩⟩⟩⟩⟩
set_option maxRecDepth 20000 in
theorem wq_r15_0 : Cond.methodLink RL 38 yX4_tell ∈ lw_tbl := by decide +kernel
set_option maxRecDepth 20000 in
theorem wq_r15_1 : Cond.instanceMethod yX4_tell ∈ lw_tbl := by decide +kernel
set_option maxRecDepth 20000 in
theorem wq_r15_2 : Cond.selects RX4 yX4_tell yX4_tell ∈ lw_tbl := by decide +kernel
set_option maxRecDepth 20000 in
theorem wq_r15_3 : Cond.code yX4_tell cX4_tell 5 (some .boolean) ∈ lw_tbl := List.mem_of_getElem? (i := 594) rfl
set_option maxRecDepth 20000 in
theorem wq_r15_4 : Cond.methodLink RL 90 yL_live ∈ lw_tbl := by decide +kernel
set_option maxRecDepth 20000 in
theorem wq_r15_5 : Cond.static yL_live ∈ lw_tbl := by decide +kernel
set_option maxRecDepth 20000 in
theorem wq_r15_6 : Cond.codeWith yL_live cL_live 3 (some .int) [(0, 5, 6, 16)] ∈ lw_tbl := by decide +kernel
set_option maxRecDepth 20000 in
theorem wq_r15_7 : Cond.methodLink RL 63 yX4_live ∈ lw_tbl := by decide +kernel
set_option maxRecDepth 20000 in
theorem wq_r15_8 : Cond.instanceMethod yX4_live ∈ lw_tbl := by decide +kernel
set_option maxRecDepth 20000 in
theorem wq_r15_9 : Cond.selects RX4 yX4_live yX4_live ∈ lw_tbl := by decide +kernel
set_option maxRecDepth 20000 in
theorem wq_r15_10 : Cond.code yX4_live cX4_live 2 (some .int) ∈ lw_tbl := List.mem_of_getElem? (i := 456) rfl
set_option maxRecDepth 20000 in
theorem wq_r15_11 : Cond.methodLink RL 99 yL_lines ∈ lw_tbl := by decide +kernel
set_option maxRecDepth 20000 in
theorem wq_r15_12 : Cond.static yL_lines ∈ lw_tbl := by decide +kernel
set_option maxRecDepth 20000 in
theorem wq_r15_13 : Cond.codeWith yL_lines cL_lines 4 (some .int) [(0, 6, 7, 16)] ∈ lw_tbl := by decide +kernel
set_option maxRecDepth 20000 in
theorem wq_r15_14 : Cond.methodLink RL 69 yX4_lines ∈ lw_tbl := by decide +kernel
set_option maxRecDepth 20000 in
theorem wq_r15_15 : Cond.instanceMethod yX4_lines ∈ lw_tbl := by decide +kernel
set_option maxRecDepth 20000 in
theorem wq_r15_16 : Cond.selects RX4 yX4_lines yX4_lines ∈ lw_tbl := by decide +kernel
set_option maxRecDepth 20000 in
theorem wq_r15_17 : Cond.code yX4_lines cX4_lines 3 (some .int) ∈ lw_tbl := List.mem_of_getElem? (i := 470) rfl
set_option maxRecDepth 20000 in
theorem wq_r15_18 : Cond.methodLink RL 151 yL_advance ∈ lw_tbl := by decide +kernel
set_option maxRecDepth 20000 in
theorem wq_r15_19 : Cond.static yL_advance ∈ lw_tbl := by decide +kernel
set_option maxRecDepth 20000 in
theorem wq_r15_20 : Cond.codeWith yL_advance cL_advance 3 (some .int) [(0, 5, 6, 19), (0, 5, 10, 41)] ∈ lw_tbl := by decide +kernel
set_option maxRecDepth 20000 in
theorem wq_r15_21 : Cond.methodLink RL 47 yX4_advance ∈ lw_tbl := by decide +kernel
set_option maxRecDepth 20000 in
theorem wq_r15_22 : Cond.instanceMethod yX4_advance ∈ lw_tbl := by decide +kernel
set_option maxRecDepth 20000 in
theorem wq_r15_23 : Cond.selects RX4 yX4_advance yX4_advance ∈ lw_tbl := by decide +kernel
theorem wi_wsL_law0_r15 : ∀ w ∈ wsL_law0_r15, w ∈ lw_tbl := List.forall_mem_cons.mpr ⟨wq_r15_0, List.forall_mem_cons.mpr ⟨wq_r15_1, List.forall_mem_cons.mpr ⟨wq_r15_2, List.forall_mem_cons.mpr ⟨wq_r15_3, List.forall_mem_cons.mpr ⟨wq_r15_4, List.forall_mem_cons.mpr ⟨wq_r15_5, List.forall_mem_cons.mpr ⟨wq_r15_6, List.forall_mem_cons.mpr ⟨wq_r15_7, List.forall_mem_cons.mpr ⟨wq_r15_8, List.forall_mem_cons.mpr ⟨wq_r15_9, List.forall_mem_cons.mpr ⟨wq_r15_10, List.forall_mem_cons.mpr ⟨wq_r15_11, List.forall_mem_cons.mpr ⟨wq_r15_12, List.forall_mem_cons.mpr ⟨wq_r15_13, List.forall_mem_cons.mpr ⟨wq_r15_14, List.forall_mem_cons.mpr ⟨wq_r15_15, List.forall_mem_cons.mpr ⟨wq_r15_16, List.forall_mem_cons.mpr ⟨wq_r15_17, List.forall_mem_cons.mpr ⟨wq_r15_18, List.forall_mem_cons.mpr ⟨wq_r15_19, List.forall_mem_cons.mpr ⟨wq_r15_20, List.forall_mem_cons.mpr ⟨wq_r15_21, List.forall_mem_cons.mpr ⟨wq_r15_22, List.forall_mem_cons.mpr ⟨wq_r15_23, fun w h => absurd h List.not_mem_nil⟩⟩⟩⟩⟩⟩⟩⟩⟩⟩⟩⟩⟩⟩⟩⟩⟩⟩⟩⟩⟩⟩⟩⟩
set_option maxRecDepth 20000 in
theorem wq_r16_0 : Cond.code yX4_advance cX4_advance 2 (some .int) ∈ lw_tbl := List.mem_of_getElem? (i := 601) rfl
set_option maxRecDepth 20000 in
theorem wq_r16_1 : Cond.methodLink RL 153 yL_runs ∈ lw_tbl := by decide +kernel
set_option maxRecDepth 20000 in
theorem wq_r16_2 : Cond.static yL_runs ∈ lw_tbl := by decide +kernel
set_option maxRecDepth 20000 in
theorem wq_r16_3 : Cond.code yL_runs cL_runs 14 (some .boolean) ∈ lw_tbl := List.mem_of_getElem? (i := 605) rfl
set_option maxRecDepth 20000 in
theorem wq_r16_4 : Cond.methodLink RL 103 yL_due ∈ lw_tbl := by decide +kernel
set_option maxRecDepth 20000 in
theorem wq_r16_5 : Cond.static yL_due ∈ lw_tbl := by decide +kernel
set_option maxRecDepth 20000 in
theorem wq_r16_6 : Cond.code yL_due cL_due 8 (some .boolean) ∈ lw_tbl := List.mem_of_getElem? (i := 480) rfl
set_option maxRecDepth 20000 in
theorem wq_r16_7 : Cond.methodLink RL 125 yL_isTurned ∈ lw_tbl := by decide +kernel
set_option maxRecDepth 20000 in
theorem wq_r16_8 : Cond.static yL_isTurned ∈ lw_tbl := by decide +kernel
set_option maxRecDepth 20000 in
theorem wq_r16_9 : Cond.code yL_isTurned cL_isTurned 11 (some .boolean) ∈ lw_tbl := List.mem_of_getElem? (i := 608) rfl
set_option maxRecDepth 20000 in
theorem wq_r16_10 : Cond.methodLink RL 92 yL_olds ∈ lw_tbl := by decide +kernel
set_option maxRecDepth 20000 in
theorem wq_r16_11 : Cond.static yL_olds ∈ lw_tbl := by decide +kernel
set_option maxRecDepth 20000 in
theorem wq_r16_12 : Cond.codeWith yL_olds cL_olds 3 (some .int) [(0, 5, 6, 16)] ∈ lw_tbl := by decide +kernel
set_option maxRecDepth 20000 in
theorem wq_r16_13 : Cond.methodLink RL 66 yX4_olds ∈ lw_tbl := by decide +kernel
set_option maxRecDepth 20000 in
theorem wq_r16_14 : Cond.instanceMethod yX4_olds ∈ lw_tbl := by decide +kernel
set_option maxRecDepth 20000 in
theorem wq_r16_15 : Cond.selects RX4 yX4_olds yX4_olds ∈ lw_tbl := by decide +kernel
set_option maxRecDepth 20000 in
theorem wq_r16_16 : Cond.code yX4_olds cX4_olds 2 (some .int) ∈ lw_tbl := List.mem_of_getElem? (i := 449) rfl
set_option maxRecDepth 20000 in
theorem wq_r16_17 : Cond.methodLink RL 101 yL_isSqueezed ∈ lw_tbl := by decide +kernel
set_option maxRecDepth 20000 in
theorem wq_r16_18 : Cond.static yL_isSqueezed ∈ lw_tbl := by decide +kernel
set_option maxRecDepth 20000 in
theorem wq_r16_19 : Cond.codeWith yL_isSqueezed cL_isSqueezed 4 (some .int) [(0, 14, 15, 16)] ∈ lw_tbl := by decide +kernel
set_option maxRecDepth 20000 in
theorem wq_r16_20 : Cond.methodLink RL 75 yX4_isSqueezed ∈ lw_tbl := by decide +kernel
set_option maxRecDepth 20000 in
theorem wq_r16_21 : Cond.instanceMethod yX4_isSqueezed ∈ lw_tbl := by decide +kernel
set_option maxRecDepth 20000 in
theorem wq_r16_22 : Cond.selects RX4 yX4_isSqueezed yX4_isSqueezed ∈ lw_tbl := by decide +kernel
set_option maxRecDepth 20000 in
theorem wq_r16_23 : Cond.code yX4_isSqueezed cX4_isSqueezed 3 (some .boolean) ∈ lw_tbl := List.mem_of_getElem? (i := 477) rfl
theorem wi_wsL_law0_r16 : ∀ w ∈ wsL_law0_r16, w ∈ lw_tbl := List.forall_mem_cons.mpr ⟨wq_r16_0, List.forall_mem_cons.mpr ⟨wq_r16_1, List.forall_mem_cons.mpr ⟨wq_r16_2, List.forall_mem_cons.mpr ⟨wq_r16_3, List.forall_mem_cons.mpr ⟨wq_r16_4, List.forall_mem_cons.mpr ⟨wq_r16_5, List.forall_mem_cons.mpr ⟨wq_r16_6, List.forall_mem_cons.mpr ⟨wq_r16_7, List.forall_mem_cons.mpr ⟨wq_r16_8, List.forall_mem_cons.mpr ⟨wq_r16_9, List.forall_mem_cons.mpr ⟨wq_r16_10, List.forall_mem_cons.mpr ⟨wq_r16_11, List.forall_mem_cons.mpr ⟨wq_r16_12, List.forall_mem_cons.mpr ⟨wq_r16_13, List.forall_mem_cons.mpr ⟨wq_r16_14, List.forall_mem_cons.mpr ⟨wq_r16_15, List.forall_mem_cons.mpr ⟨wq_r16_16, List.forall_mem_cons.mpr ⟨wq_r16_17, List.forall_mem_cons.mpr ⟨wq_r16_18, List.forall_mem_cons.mpr ⟨wq_r16_19, List.forall_mem_cons.mpr ⟨wq_r16_20, List.forall_mem_cons.mpr ⟨wq_r16_21, List.forall_mem_cons.mpr ⟨wq_r16_22, List.forall_mem_cons.mpr ⟨wq_r16_23, fun w h => absurd h List.not_mem_nil⟩⟩⟩⟩⟩⟩⟩⟩⟩⟩⟩⟩⟩⟩⟩⟩⟩⟩⟩⟩⟩⟩⟩⟩
set_option maxRecDepth 20000 in
theorem wq_r17_0 : Cond.methodLink RL 119 yL_isHeld ∈ lw_tbl := by decide +kernel
set_option maxRecDepth 20000 in
theorem wq_r17_1 : Cond.static yL_isHeld ∈ lw_tbl := by decide +kernel
set_option maxRecDepth 20000 in
theorem wq_r17_2 : Cond.code yL_isHeld cL_isHeld 5 (some .boolean) ∈ lw_tbl := List.mem_of_getElem? (i := 611) rfl
set_option maxRecDepth 20000 in
theorem wq_r17_3 : Cond.methodLink RL 107 yL_isDue ∈ lw_tbl := by decide +kernel
set_option maxRecDepth 20000 in
theorem wq_r17_4 : Cond.static yL_isDue ∈ lw_tbl := by decide +kernel
set_option maxRecDepth 20000 in
theorem wq_r17_5 : Cond.codeWith yL_isDue cL_isDue 3 (some .int) [(0, 13, 14, 16)] ∈ lw_tbl := by decide +kernel
set_option maxRecDepth 20000 in
theorem wq_r17_6 : Cond.methodLink RL 57 yX4_isDue ∈ lw_tbl := by decide +kernel
set_option maxRecDepth 20000 in
theorem wq_r17_7 : Cond.instanceMethod yX4_isDue ∈ lw_tbl := by decide +kernel
set_option maxRecDepth 20000 in
theorem wq_r17_8 : Cond.selects RX4 yX4_isDue yX4_isDue ∈ lw_tbl := by decide +kernel
set_option maxRecDepth 20000 in
theorem wq_r17_9 : Cond.code yX4_isDue cX4_isDue 2 (some .boolean) ∈ lw_tbl := List.mem_of_getElem? (i := 487) rfl
set_option maxRecDepth 20000 in
theorem wq_r17_10 : Cond.methodLink RL 157 yL_lose ∈ lw_tbl := by decide +kernel
set_option maxRecDepth 20000 in
theorem wq_r17_11 : Cond.static yL_lose ∈ lw_tbl := by decide +kernel
set_option maxRecDepth 20000 in
theorem wq_r17_12 : Cond.codeWith yL_lose cL_lose 3 (some .int) [(0, 5, 6, 16)] ∈ lw_tbl := by decide +kernel
set_option maxRecDepth 20000 in
theorem wq_r17_13 : Cond.methodLink RL 54 yX4_lose ∈ lw_tbl := by decide +kernel
set_option maxRecDepth 20000 in
theorem wq_r17_14 : Cond.instanceMethod yX4_lose ∈ lw_tbl := by decide +kernel
set_option maxRecDepth 20000 in
theorem wq_r17_15 : Cond.selects RX4 yX4_lose yX4_lose ∈ lw_tbl := by decide +kernel
set_option maxRecDepth 20000 in
theorem wq_r17_16 : Cond.code yX4_lose cX4_lose 4 (some .int) ∈ lw_tbl := List.mem_of_getElem? (i := 618) rfl
set_option maxRecDepth 20000 in
theorem wq_r17_17 : Cond.methodLink RL 159 yL_turns ∈ lw_tbl := by decide +kernel
set_option maxRecDepth 20000 in
theorem wq_r17_18 : Cond.static yL_turns ∈ lw_tbl := by decide +kernel
set_option maxRecDepth 20000 in
theorem wq_r17_19 : Cond.code yL_turns cL_turns 16 (some .boolean) ∈ lw_tbl := List.mem_of_getElem? (i := 621) rfl
set_option maxRecDepth 20000 in
theorem wq_r17_20 : Cond.methodLink RL 94 yL_thrown ∈ lw_tbl := by decide +kernel
set_option maxRecDepth 20000 in
theorem wq_r17_21 : Cond.static yL_thrown ∈ lw_tbl := by decide +kernel
set_option maxRecDepth 20000 in
theorem wq_r17_22 : Cond.codeWith yL_thrown cL_thrown 3 (some .int) [(0, 5, 6, 16)] ∈ lw_tbl := by decide +kernel
set_option maxRecDepth 20000 in
theorem wq_r17_23 : Cond.methodLink RL 79 yX4_thrown ∈ lw_tbl := by decide +kernel
theorem wi_wsL_law0_r17 : ∀ w ∈ wsL_law0_r17, w ∈ lw_tbl := List.forall_mem_cons.mpr ⟨wq_r17_0, List.forall_mem_cons.mpr ⟨wq_r17_1, List.forall_mem_cons.mpr ⟨wq_r17_2, List.forall_mem_cons.mpr ⟨wq_r17_3, List.forall_mem_cons.mpr ⟨wq_r17_4, List.forall_mem_cons.mpr ⟨wq_r17_5, List.forall_mem_cons.mpr ⟨wq_r17_6, List.forall_mem_cons.mpr ⟨wq_r17_7, List.forall_mem_cons.mpr ⟨wq_r17_8, List.forall_mem_cons.mpr ⟨wq_r17_9, List.forall_mem_cons.mpr ⟨wq_r17_10, List.forall_mem_cons.mpr ⟨wq_r17_11, List.forall_mem_cons.mpr ⟨wq_r17_12, List.forall_mem_cons.mpr ⟨wq_r17_13, List.forall_mem_cons.mpr ⟨wq_r17_14, List.forall_mem_cons.mpr ⟨wq_r17_15, List.forall_mem_cons.mpr ⟨wq_r17_16, List.forall_mem_cons.mpr ⟨wq_r17_17, List.forall_mem_cons.mpr ⟨wq_r17_18, List.forall_mem_cons.mpr ⟨wq_r17_19, List.forall_mem_cons.mpr ⟨wq_r17_20, List.forall_mem_cons.mpr ⟨wq_r17_21, List.forall_mem_cons.mpr ⟨wq_r17_22, List.forall_mem_cons.mpr ⟨wq_r17_23, fun w h => absurd h List.not_mem_nil⟩⟩⟩⟩⟩⟩⟩⟩⟩⟩⟩⟩⟩⟩⟩⟩⟩⟩⟩⟩⟩⟩⟩⟩
set_option maxRecDepth 20000 in
theorem wq_r18_0 : Cond.instanceMethod yX4_thrown ∈ lw_tbl := by decide +kernel
set_option maxRecDepth 20000 in
theorem wq_r18_1 : Cond.selects RX4 yX4_thrown yX4_thrown ∈ lw_tbl := by decide +kernel
set_option maxRecDepth 20000 in
theorem wq_r18_2 : Cond.code yX4_thrown cX4_thrown 2 (some .int) ∈ lw_tbl := List.mem_of_getElem? (i := 463) rfl
set_option maxRecDepth 20000 in
theorem wq_r18_3 : Cond.methodLink RL 123 yL_turn ∈ lw_tbl := by decide +kernel
set_option maxRecDepth 20000 in
theorem wq_r18_4 : Cond.static yL_turn ∈ lw_tbl := by decide +kernel
set_option maxRecDepth 20000 in
theorem wq_r18_5 : Cond.codeWith yL_turn cL_turn 3 (some .int) [(0, 5, 6, 16)] ∈ lw_tbl := by decide +kernel
set_option maxRecDepth 20000 in
theorem wq_r18_6 : Cond.methodLink RL 51 yX4_turn ∈ lw_tbl := by decide +kernel
set_option maxRecDepth 20000 in
theorem wq_r18_7 : Cond.instanceMethod yX4_turn ∈ lw_tbl := by decide +kernel
set_option maxRecDepth 20000 in
theorem wq_r18_8 : Cond.selects RX4 yX4_turn yX4_turn ∈ lw_tbl := by decide +kernel
set_option maxRecDepth 20000 in
theorem wq_r18_9 : Cond.code yX4_turn cX4_turn 2 (some .int) ∈ lw_tbl := List.mem_of_getElem? (i := 628) rfl
set_option maxRecDepth 20000 in
theorem wq_r18_10 : Cond.methodLink RL 172 yL_isSo ∈ lw_tbl := by decide +kernel
set_option maxRecDepth 20000 in
theorem wq_r18_11 : Cond.static yL_isSo ∈ lw_tbl := by decide +kernel
set_option maxRecDepth 20000 in
theorem wq_r18_12 : Cond.code yL_isSo cL_isSo 6 (some .boolean) ∈ lw_tbl := List.mem_of_getElem? (i := 439) rfl
set_option maxRecDepth 20000 in
theorem wq_r18_13 : Cond.methodLink RL 111 yL_file ∈ lw_tbl := by decide +kernel
set_option maxRecDepth 20000 in
theorem wq_r18_14 : Cond.static yL_file ∈ lw_tbl := by decide +kernel
set_option maxRecDepth 20000 in
theorem wq_r18_15 : Cond.code yL_file cL_file 11 (some .boolean) ∈ lw_tbl := List.mem_of_getElem? (i := 442) rfl
set_option maxRecDepth 20000 in
theorem wq_r18_16 : Cond.methodLink RL 109 yL_nextDue ∈ lw_tbl := by decide +kernel
set_option maxRecDepth 20000 in
theorem wq_r18_17 : Cond.static yL_nextDue ∈ lw_tbl := by decide +kernel
set_option maxRecDepth 20000 in
theorem wq_r18_18 : Cond.codeWith yL_nextDue cL_nextDue 3 (some .int) [(0, 5, 6, 16)] ∈ lw_tbl := by decide +kernel
set_option maxRecDepth 20000 in
theorem wq_r18_19 : Cond.methodLink RL 60 yX4_nextDue ∈ lw_tbl := by decide +kernel
set_option maxRecDepth 20000 in
theorem wq_r18_20 : Cond.instanceMethod yX4_nextDue ∈ lw_tbl := by decide +kernel
set_option maxRecDepth 20000 in
theorem wq_r18_21 : Cond.selects RX4 yX4_nextDue yX4_nextDue ∈ lw_tbl := by decide +kernel
set_option maxRecDepth 20000 in
theorem wq_r18_22 : Cond.code yX4_nextDue cX4_nextDue 4 (some .int) ∈ lw_tbl := List.mem_of_getElem? (i := 494) rfl
theorem wi_wsL_law0_r18 : ∀ w ∈ wsL_law0_r18, w ∈ lw_tbl := List.forall_mem_cons.mpr ⟨wq_r18_0, List.forall_mem_cons.mpr ⟨wq_r18_1, List.forall_mem_cons.mpr ⟨wq_r18_2, List.forall_mem_cons.mpr ⟨wq_r18_3, List.forall_mem_cons.mpr ⟨wq_r18_4, List.forall_mem_cons.mpr ⟨wq_r18_5, List.forall_mem_cons.mpr ⟨wq_r18_6, List.forall_mem_cons.mpr ⟨wq_r18_7, List.forall_mem_cons.mpr ⟨wq_r18_8, List.forall_mem_cons.mpr ⟨wq_r18_9, List.forall_mem_cons.mpr ⟨wq_r18_10, List.forall_mem_cons.mpr ⟨wq_r18_11, List.forall_mem_cons.mpr ⟨wq_r18_12, List.forall_mem_cons.mpr ⟨wq_r18_13, List.forall_mem_cons.mpr ⟨wq_r18_14, List.forall_mem_cons.mpr ⟨wq_r18_15, List.forall_mem_cons.mpr ⟨wq_r18_16, List.forall_mem_cons.mpr ⟨wq_r18_17, List.forall_mem_cons.mpr ⟨wq_r18_18, List.forall_mem_cons.mpr ⟨wq_r18_19, List.forall_mem_cons.mpr ⟨wq_r18_20, List.forall_mem_cons.mpr ⟨wq_r18_21, List.forall_mem_cons.mpr ⟨wq_r18_22, fun w h => absurd h List.not_mem_nil⟩⟩⟩⟩⟩⟩⟩⟩⟩⟩⟩⟩⟩⟩⟩⟩⟩⟩⟩⟩⟩⟩⟩
theorem wi_wsX40 : ∀ w ∈ wsX40, w ∈ lw_tbl := by decide +kernel
theorem wi_wsX30 : ∀ w ∈ wsX30, w ∈ lw_tbl := by decide +kernel
theorem wi_wsX10 : ∀ w ∈ wsX10, w ∈ lw_tbl := by decide +kernel
theorem wi_wsX00 : ∀ w ∈ wsX00, w ∈ lw_tbl := by decide +kernel
theorem wi_wsJx4a65c0 : ∀ w ∈ wsJx4a65c0, w ∈ lw_tbl := by decide +kernel
theorem wi_wsX20 : ∀ w ∈ wsX20, w ∈ lw_tbl := by decide +kernel
theorem wi_a : ∀ w ∈ (wsL_law0_r1 ++ (wsL_law0_r2 ++ (wsL_law0_r3 ++ (wsL_law0_r4 ++ (wsL_law0_r5 ++ (wsL_law0_r6 ++ (wsL_law0_r7 ++ (wsL_law0_r8 ++ (wsL_law0_r9 ++ (wsL_law0_r10 ++ (wsL_law0_r11 ++ (wsL_law0_r12 ++ (wsL_law0_r13 ++ (wsL_law0_r14 ++ (wsL_law0_r15 ++ (wsL_law0_r16 ++ (wsL_law0_r17 ++ (wsL_law0_r18)))))))))))))))))), w ∈ lw_tbl := fun w h => (List.mem_append.mp h).elim (fun h => wi_wsL_law0_r1 w h) (fun h => (fun w h => (List.mem_append.mp h).elim (fun h => wi_wsL_law0_r2 w h) (fun h => (fun w h => (List.mem_append.mp h).elim (fun h => wi_wsL_law0_r3 w h) (fun h => (fun w h => (List.mem_append.mp h).elim (fun h => wi_wsL_law0_r4 w h) (fun h => (fun w h => (List.mem_append.mp h).elim (fun h => wi_wsL_law0_r5 w h) (fun h => (fun w h => (List.mem_append.mp h).elim (fun h => wi_wsL_law0_r6 w h) (fun h => (fun w h => (List.mem_append.mp h).elim (fun h => wi_wsL_law0_r7 w h) (fun h => (fun w h => (List.mem_append.mp h).elim (fun h => wi_wsL_law0_r8 w h) (fun h => (fun w h => (List.mem_append.mp h).elim (fun h => wi_wsL_law0_r9 w h) (fun h => (fun w h => (List.mem_append.mp h).elim (fun h => wi_wsL_law0_r10 w h) (fun h => (fun w h => (List.mem_append.mp h).elim (fun h => wi_wsL_law0_r11 w h) (fun h => (fun w h => (List.mem_append.mp h).elim (fun h => wi_wsL_law0_r12 w h) (fun h => (fun w h => (List.mem_append.mp h).elim (fun h => wi_wsL_law0_r13 w h) (fun h => (fun w h => (List.mem_append.mp h).elim (fun h => wi_wsL_law0_r14 w h) (fun h => (fun w h => (List.mem_append.mp h).elim (fun h => wi_wsL_law0_r15 w h) (fun h => (fun w h => (List.mem_append.mp h).elim (fun h => wi_wsL_law0_r16 w h) (fun h => (fun w h => (List.mem_append.mp h).elim (fun h => wi_wsL_law0_r17 w h) (fun h => (fun w h => wi_wsL_law0_r18 w h) w h)) w h)) w h)) w h)) w h)) w h)) w h)) w h)) w h)) w h)) w h)) w h)) w h)) w h)) w h)) w h)) w h)
theorem wsL_law_in0 : ∀ w ∈ wsL_law0, w ∈ lw_tbl := fun w h => (List.mem_append.mp h).elim (fun h => (fun w h => (List.mem_append.mp h).elim (fun h => (fun w h => (List.mem_append.mp h).elim (fun h => (fun w h => (List.mem_append.mp h).elim (fun h => (fun w h => (List.mem_append.mp h).elim (fun h => (fun w h => (List.mem_append.mp h).elim (fun h => (fun w h => (List.mem_append.mp h).elim (fun h => (fun w h => wi_a w h) w h) (fun h => wi_wsX40 w h)) w h) (fun h => wi_wsX30 w h)) w h) (fun h => wi_wsX10 w h)) w h) (fun h => wi_wsX00 w h)) w h) (fun h => wi_wsJx4a65c0 w h)) w h) (fun h => wi_wsX20 w h)) w h) (fun h => absurd h List.not_mem_nil)
theorem wsL_law_x0 : ∀ w ∈ (vx_atS RX4 172 "java/lang/IndexOutOfBoundsException" ["java/lang/RuntimeException", "java/lang/Exception"]).filter goodWord, w ∈ lw_tbl := by decide +kernel
theorem wsL_law_x1 : ∀ w ∈ (vx_atS RX4 187 "java/lang/IllegalArgumentException" ["java/lang/RuntimeException", "java/lang/Exception"]).filter goodWord, w ∈ lw_tbl := by decide +kernel
theorem wsL_law_x2 : ∀ w ∈ (vx_atS RX4 101 "java/lang/IllegalStateException" ["java/lang/RuntimeException", "java/lang/Exception"]).filter goodWord, w ∈ lw_tbl := by decide +kernel
theorem wsL_law_in : ∀ w ∈ wsL_law, w ∈ lw_tbl := fun w h => (List.mem_append.mp h).elim (fun h => (List.mem_append.mp h).elim (fun h => (List.mem_append.mp h).elim (fun h => wsL_law_in0 w h) (fun h => wsL_law_x0 w h)) (fun h => wsL_law_x1 w h)) (fun h => wsL_law_x2 w h)
