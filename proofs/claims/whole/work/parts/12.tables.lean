/-! Tables: methods, links of fields and of methods, as the machine's rules ask for them. -/
set_option maxRecDepth 100000
def M_C_init : oM := (yC_init, cC_init, 2, none, 2, 43)
def M_K_init : oM := (yK_init, cK_init, 2, none, 2, 43)
def M_K_isOpen : oM := (yK_isOpen, cK_isOpen, 1, (some .boolean), 0, 0)
def M_K_open : oM := (yK_open, cK_open, 2, none, 1, 23)
def M_R_init : oM := (yR_init, cR_init, 1, none, 1, 21)
def M_R_at : oM := (yR_at, cR_at, 2, (some .int), 0, 0)
def M_R_append : oM := (yR_append, cR_append, 2, none, 0, 0)
def M_R_removeAt : oM := (yR_removeAt, cR_removeAt, 2, none, 1, 26)
def M_W_init : oM := (yW_init, cW_init, 1, none, 2, 43)
def M_W_fill : oM := (yW_fill, cW_fill, 5, none, 0, 0)
def M_W_dependOn : oM := (yW_dependOn, cW_dependOn, 3, none, 1, 26)
def M_S_init : oM := (yS_init, cS_init, 2, none, 3, 64)
def M_S_put : oM := (yS_put, cS_put, 7, (some .int), 3, 68)
def M_S_get : oM := (yS_get, cS_get, 5, (some .int), 3, 67)
def M_S_begin : oM := (yS_begin, cS_begin, 3, (some .boolean), 2, 44)
def M_S_read : oM := (yS_read, cS_read, 3, (some .int), 4, 89)
def M_S_got : oM := (yS_got, cS_got, 3, (some .int), 1, 20)
def M_S_rounds : oM := (yS_rounds, cS_rounds, 2, (some .int), 1, 20)
def M_S_deliver : oM := (yS_deliver, cS_deliver, 7, (some .boolean), 2, 47)
def M_S_serve : oM := (yS_serve, cS_serve, 9, (some .int), 3, 67)
def M_S_flight : oM := (yS_flight, cS_flight, 3, (some .int), 1, 20)
def M_S_sent : oM := (yS_sent, cS_sent, 4, (some .int), 1, 21)
def M_S_pending : oM := (yS_pending, cS_pending, 3, (some .int), 1, 20)
def M_S_lacks : oM := (yS_lacks, cS_lacks, 5, (some .int), 3, 67)
def M_S_latest : oM := (yS_latest, cS_latest, 3, (some .int), 1, 20)
def M_S_visible : oM := (yS_visible, cS_visible, 3, (some .boolean), 1, 21)
def M_S_clock : oM := (yS_clock, cS_clock, 3, (some .int), 1, 20)
def M_S_context : oM := (yS_context, cS_context, 3, (some .int), 1, 20)
def M_S_nearest : oM := (yS_nearest, cS_nearest, 2, (some .int), 3, 68)
def M_S_about : oM := (yS_about, cS_about, 3, (some .int), 1, 21)
def M_S_dependency : oM := (yS_dependency, cS_dependency, 3, (some .int), 1, 21)
def M_S_isClient : oM := (yS_isClient, cS_isClient, 1, (some .boolean), 0, 0)
def M_S_isKey : oM := (yS_isKey, cS_isKey, 1, (some .boolean), 0, 0)
def M_S_isCenter : oM := (yS_isCenter, cS_isCenter, 1, (some .boolean), 0, 0)
def M_S_isPartition : oM := (yS_isPartition, cS_isPartition, 1, (some .boolean), 0, 0)
def M_S_isWrite : oM := (yS_isWrite, cS_isWrite, 2, (some .boolean), 0, 0)
def M_S_hasKey : oM := (yS_hasKey, cS_hasKey, 2, (some .boolean), 0, 0)
def M_S_tick : oM := (yS_tick, cS_tick, 7, (some .int), 1, 21)
def M_S_show : oM := (yS_show, cS_show, 5, none, 2, 43)
def M_S_send : oM := (yS_send, cS_send, 4, none, 1, 21)
def M_S_see : oM := (yS_see, cS_see, 5, none, 2, 43)
def M_S_greater : oM := (yS_greater, cS_greater, 3, (some .int), 1, 21)
def M_S_nearestKeys : oM := (yS_nearestKeys, cS_nearestKeys, 4, (some .int), 2, 45)
def M_S_isCovered : oM := (yS_isCovered, cS_isCovered, 5, (some .boolean), 1, 21)
def M_S_missingNeeds : oM := (yS_missingNeeds, cS_missingNeeds, 5, (some .int), 2, 43)
def M_S_readLowestKey : oM := (yS_readLowestKey, cS_readLowestKey, 4, none, 1, 21)
def M_S_prepareSecondRound : oM := (yS_prepareSecondRound, cS_prepareSecondRound, 3, none, 3, 67)
def M_S_dueWrite : oM := (yS_dueWrite, cS_dueWrite, 5, (some .int), 2, 43)
def M_S_seeFetched : oM := (yS_seeFetched, cS_seeFetched, 3, none, 3, 67)
def M_S_noWrites : oM := (yS_noWrites, cS_noWrites, 1, (some (.array .int)), 1, 23)
def M_L_law : oM := (yL_law, cL_law, 4, (some .boolean), 7, 226)
def M_N_init : oM := (yN_init, cN_init, 1, none, 1, 21)
def M_N_out : oM := (yN_out, cN_out, 2, (some .boolean), 0, 0)
def M_N_count : oM := (yN_count, cN_count, 3, (some .int), 0, 0)
def M_N_lowest : oM := (yN_lowest, cN_lowest, 3, (some .int), 0, 0)
def M_N_open : oM := (yN_open, cN_open, 2, (some .boolean), 0, 0)
def M_N_greater : oM := (yN_greater, cN_greater, 3, (some .int), 0, 0)
def M_N_latestOf : oM := (yN_latestOf, cN_latestOf, 5, (some .int), 1, 22)
def M_N_near : oM := (yN_near, cN_near, 8, (some .int), 0, 0)
def M_N_see : oM := (yN_see, cN_see, 4, none, 1, 22)
def M_N_send : oM := (yN_send, cN_send, 5, none, 0, 0)
def M_N_put : oM := (yN_put, cN_put, 9, (some .int), 2, 45)
def M_N_get : oM := (yN_get, cN_get, 4, (some .int), 2, 46)
def M_N_begin : oM := (yN_begin, cN_begin, 4, (some .boolean), 1, 21)
def M_N_due : oM := (yN_due, cN_due, 6, (some .int), 1, 22)
def M_N_finish : oM := (yN_finish, cN_finish, 3, none, 2, 45)
def M_N_second : oM := (yN_second, cN_second, 5, none, 3, 67)
def M_N_read : oM := (yN_read, cN_read, 3, (some .int), 4, 91)
def M_N_got : oM := (yN_got, cN_got, 3, (some .int), 1, 21)
def M_N_rounds : oM := (yN_rounds, cN_rounds, 2, (some .int), 1, 21)
def M_N_link : oM := (yN_link, cN_link, 3, (some .boolean), 1, 21)
def M_N_deliver : oM := (yN_deliver, cN_deliver, 7, (some .boolean), 2, 43)
def M_N_missing : oM := (yN_missing, cN_missing, 6, (some .int), 0, 0)
def M_N_serve : oM := (yN_serve, cN_serve, 8, (some .int), 1, 25)
def M_N_flight : oM := (yN_flight, cN_flight, 3, (some .int), 2, 43)
def M_N_sent : oM := (yN_sent, cN_sent, 4, (some .int), 2, 43)
def M_N_pending : oM := (yN_pending, cN_pending, 3, (some .int), 1, 21)
def M_N_lacks : oM := (yN_lacks, cN_lacks, 5, (some .int), 1, 25)
def M_N_latest : oM := (yN_latest, cN_latest, 4, (some .int), 2, 46)
def M_N_visible : oM := (yN_visible, cN_visible, 3, (some .boolean), 1, 21)
def M_N_clock : oM := (yN_clock, cN_clock, 3, (some .int), 1, 21)
def M_N_context : oM := (yN_context, cN_context, 3, (some .int), 1, 21)
def M_N_nearest : oM := (yN_nearest, cN_nearest, 2, (some .int), 1, 27)
def M_N_about : oM := (yN_about, cN_about, 3, (some .int), 1, 21)
def M_N_dependency : oM := (yN_dependency, cN_dependency, 3, (some .int), 1, 21)
def M_JA_fill : oM := (yJA_fill, cJA_fill, 4, none, 0, 0)
def M_JI_bitCount : oM := (yJI_bitCount, cJI_bitCount, 1, (some .int), 0, 0)
-- code, static, instance, selected
theorem mk_C_init : oMk M_C_init 0 := ⟨oMem1 (i := 67) rfl rfl, oMem1 (i := 4) rfl rfl, by decide +kernel, by decide +kernel, by decide +kernel, by decide +kernel⟩
theorem in_C_init : Cond.instanceMethod M_C_init.1 ∈ oAll := oMem1 (i := 66) rfl rfl
theorem mk_K_init : oMk M_K_init 1 := ⟨oMem1 (i := 105) rfl rfl, oMem1 (i := 6) rfl rfl, by decide +kernel, by decide +kernel, by decide +kernel, by decide +kernel⟩
theorem in_K_init : Cond.instanceMethod M_K_init.1 ∈ oAll := oMem1 (i := 104) rfl rfl
theorem mk_K_isOpen : oMk M_K_isOpen 0 := ⟨oMem1 (i := 167) rfl rfl, oMem1 (i := 6) rfl rfl, by decide +kernel, by decide +kernel, by decide +kernel, by decide +kernel⟩
theorem in_K_isOpen : Cond.instanceMethod M_K_isOpen.1 ∈ oAll := oMem1 (i := 166) rfl rfl
theorem se_K_isOpen : Cond.selects M_K_isOpen.1.cls M_K_isOpen.1 M_K_isOpen.1 ∈ oAll := oMemS (i := 0) rfl rfl
theorem mk_K_open : oMk M_K_open 1 := ⟨oMem1 (i := 229) rfl rfl, oMem1 (i := 6) rfl rfl, by decide +kernel, by decide +kernel, by decide +kernel, by decide +kernel⟩
theorem in_K_open : Cond.instanceMethod M_K_open.1 ∈ oAll := oMem1 (i := 228) rfl rfl
theorem se_K_open : Cond.selects M_K_open.1.cls M_K_open.1 M_K_open.1 ∈ oAll := oMemS (i := 12) rfl rfl
theorem mk_R_init : oMk M_R_init 0 := ⟨oMem1 (i := 74) rfl rfl, oMem1 (i := 5) rfl rfl, by decide +kernel, by decide +kernel, by decide +kernel, by decide +kernel⟩
theorem in_R_init : Cond.instanceMethod M_R_init.1 ∈ oAll := oMem1 (i := 73) rfl rfl
theorem mk_R_at : oMk M_R_at 1 := ⟨oMem2 (i := 42) rfl rfl, oMem1 (i := 5) rfl rfl, by decide +kernel, by decide +kernel, by decide +kernel, by decide +kernel⟩
theorem in_R_at : Cond.instanceMethod M_R_at.1 ∈ oAll := oMem2 (i := 41) rfl rfl
theorem se_R_at : Cond.selects M_R_at.1.cls M_R_at.1 M_R_at.1 ∈ oAll := oMemS (i := 17) rfl rfl
theorem mk_R_append : oMk M_R_append 1 := ⟨oMem1 (i := 213) rfl rfl, oMem1 (i := 5) rfl rfl, by decide +kernel, by decide +kernel, by decide +kernel, by decide +kernel⟩
theorem in_R_append : Cond.instanceMethod M_R_append.1 ∈ oAll := oMem1 (i := 212) rfl rfl
theorem se_R_append : Cond.selects M_R_append.1.cls M_R_append.1 M_R_append.1 ∈ oAll := oMemS (i := 10) rfl rfl
theorem mk_R_removeAt : oMk M_R_removeAt 1 := ⟨oMem2 (i := 46) rfl rfl, oMem1 (i := 5) rfl rfl, by decide +kernel, by decide +kernel, by decide +kernel, by decide +kernel⟩
theorem in_R_removeAt : Cond.instanceMethod M_R_removeAt.1 ∈ oAll := oMem2 (i := 45) rfl rfl
theorem se_R_removeAt : Cond.selects M_R_removeAt.1.cls M_R_removeAt.1 M_R_removeAt.1 ∈ oAll := oMemS (i := 18) rfl rfl
theorem mk_W_init : oMk M_W_init 0 := ⟨oMem1 (i := 30) rfl rfl, oMem1 (i := 2) rfl rfl, by decide +kernel, by decide +kernel, by decide +kernel, by decide +kernel⟩
theorem in_W_init : Cond.instanceMethod M_W_init.1 ∈ oAll := oMem1 (i := 29) rfl rfl
theorem mk_W_fill : oMk M_W_fill 4 := ⟨oMem1 (i := 182) rfl rfl, oMem1 (i := 2) rfl rfl, by decide +kernel, by decide +kernel, by decide +kernel, by decide +kernel⟩
theorem in_W_fill : Cond.instanceMethod M_W_fill.1 ∈ oAll := oMem1 (i := 181) rfl rfl
theorem se_W_fill : Cond.selects M_W_fill.1.cls M_W_fill.1 M_W_fill.1 ∈ oAll := oMemS (i := 3) rfl rfl
theorem mk_W_dependOn : oMk M_W_dependOn 2 := ⟨oMem1 (i := 194) rfl rfl, oMem1 (i := 2) rfl rfl, by decide +kernel, by decide +kernel, by decide +kernel, by decide +kernel⟩
theorem in_W_dependOn : Cond.instanceMethod M_W_dependOn.1 ∈ oAll := oMem1 (i := 193) rfl rfl
theorem se_W_dependOn : Cond.selects M_W_dependOn.1.cls M_W_dependOn.1 M_W_dependOn.1 ∈ oAll := oMemS (i := 6) rfl rfl
theorem mk_S_init : oMk M_S_init 0 := ⟨oMem1 (i := 15) rfl rfl, oMem1 (i := 1) rfl rfl, by decide +kernel, by decide +kernel, by decide +kernel, by decide +kernel⟩
theorem in_S_init : Cond.instanceMethod M_S_init.1 ∈ oAll := oMem1 (i := 14) rfl rfl
theorem mk_S_put : oMk M_S_put 3 := ⟨oMem1 (i := 157) rfl rfl, oMem1 (i := 1) rfl rfl, by decide +kernel, by decide +kernel, by decide +kernel, by decide +kernel⟩
theorem in_S_put : Cond.instanceMethod M_S_put.1 ∈ oAll := oMem1 (i := 155) rfl rfl
theorem se_S_put : Cond.selects M_S_put.1.cls M_S_put.1 M_S_put.1 ∈ oAll := oMem1 (i := 156) rfl rfl
theorem mk_S_get : oMk M_S_get 2 := ⟨oMem1 (i := 221) rfl rfl, oMem1 (i := 1) rfl rfl, by decide +kernel, by decide +kernel, by decide +kernel, by decide +kernel⟩
theorem in_S_get : Cond.instanceMethod M_S_get.1 ∈ oAll := oMem1 (i := 219) rfl rfl
theorem se_S_get : Cond.selects M_S_get.1.cls M_S_get.1 M_S_get.1 ∈ oAll := oMem1 (i := 220) rfl rfl
theorem mk_S_begin : oMk M_S_begin 2 := ⟨oMem1 (i := 225) rfl rfl, oMem1 (i := 1) rfl rfl, by decide +kernel, by decide +kernel, by decide +kernel, by decide +kernel⟩
theorem in_S_begin : Cond.instanceMethod M_S_begin.1 ∈ oAll := oMem1 (i := 223) rfl rfl
theorem se_S_begin : Cond.selects M_S_begin.1.cls M_S_begin.1 M_S_begin.1 ∈ oAll := oMem1 (i := 224) rfl rfl
theorem mk_S_read : oMk M_S_read 1 := ⟨oMem1 (i := 234) rfl rfl, oMem1 (i := 1) rfl rfl, by decide +kernel, by decide +kernel, by decide +kernel, by decide +kernel⟩
theorem in_S_read : Cond.instanceMethod M_S_read.1 ∈ oAll := oMem1 (i := 232) rfl rfl
theorem se_S_read : Cond.selects M_S_read.1.cls M_S_read.1 M_S_read.1 ∈ oAll := oMem1 (i := 233) rfl rfl
theorem mk_S_got : oMk M_S_got 2 := ⟨oMem2 (i := 23) rfl rfl, oMem1 (i := 1) rfl rfl, by decide +kernel, by decide +kernel, by decide +kernel, by decide +kernel⟩
theorem in_S_got : Cond.instanceMethod M_S_got.1 ∈ oAll := oMem2 (i := 21) rfl rfl
theorem se_S_got : Cond.selects M_S_got.1.cls M_S_got.1 M_S_got.1 ∈ oAll := oMem2 (i := 22) rfl rfl
theorem mk_S_rounds : oMk M_S_rounds 1 := ⟨oMem2 (i := 27) rfl rfl, oMem1 (i := 1) rfl rfl, by decide +kernel, by decide +kernel, by decide +kernel, by decide +kernel⟩
theorem in_S_rounds : Cond.instanceMethod M_S_rounds.1 ∈ oAll := oMem2 (i := 25) rfl rfl
theorem se_S_rounds : Cond.selects M_S_rounds.1.cls M_S_rounds.1 M_S_rounds.1 ∈ oAll := oMem2 (i := 26) rfl rfl
theorem mk_S_deliver : oMk M_S_deliver 3 := ⟨oMem2 (i := 31) rfl rfl, oMem1 (i := 1) rfl rfl, by decide +kernel, by decide +kernel, by decide +kernel, by decide +kernel⟩
theorem in_S_deliver : Cond.instanceMethod M_S_deliver.1 ∈ oAll := oMem2 (i := 29) rfl rfl
theorem se_S_deliver : Cond.selects M_S_deliver.1.cls M_S_deliver.1 M_S_deliver.1 ∈ oAll := oMem2 (i := 30) rfl rfl
theorem mk_S_serve : oMk M_S_serve 2 := ⟨oMem2 (i := 51) rfl rfl, oMem1 (i := 1) rfl rfl, by decide +kernel, by decide +kernel, by decide +kernel, by decide +kernel⟩
theorem in_S_serve : Cond.instanceMethod M_S_serve.1 ∈ oAll := oMem2 (i := 49) rfl rfl
theorem se_S_serve : Cond.selects M_S_serve.1.cls M_S_serve.1 M_S_serve.1 ∈ oAll := oMem2 (i := 50) rfl rfl
theorem mk_S_flight : oMk M_S_flight 2 := ⟨oMem2 (i := 66) rfl rfl, oMem1 (i := 1) rfl rfl, by decide +kernel, by decide +kernel, by decide +kernel, by decide +kernel⟩
theorem in_S_flight : Cond.instanceMethod M_S_flight.1 ∈ oAll := oMem2 (i := 64) rfl rfl
theorem se_S_flight : Cond.selects M_S_flight.1.cls M_S_flight.1 M_S_flight.1 ∈ oAll := oMem2 (i := 65) rfl rfl
theorem mk_S_sent : oMk M_S_sent 3 := ⟨oMem2 (i := 35) rfl rfl, oMem1 (i := 1) rfl rfl, by decide +kernel, by decide +kernel, by decide +kernel, by decide +kernel⟩
theorem in_S_sent : Cond.instanceMethod M_S_sent.1 ∈ oAll := oMem2 (i := 33) rfl rfl
theorem se_S_sent : Cond.selects M_S_sent.1.cls M_S_sent.1 M_S_sent.1 ∈ oAll := oMem2 (i := 34) rfl rfl
theorem mk_S_pending : oMk M_S_pending 2 := ⟨oMem2 (i := 71) rfl rfl, oMem1 (i := 1) rfl rfl, by decide +kernel, by decide +kernel, by decide +kernel, by decide +kernel⟩
theorem in_S_pending : Cond.instanceMethod M_S_pending.1 ∈ oAll := oMem2 (i := 69) rfl rfl
theorem se_S_pending : Cond.selects M_S_pending.1.cls M_S_pending.1 M_S_pending.1 ∈ oAll := oMem2 (i := 70) rfl rfl
theorem mk_S_lacks : oMk M_S_lacks 3 := ⟨oMem2 (i := 75) rfl rfl, oMem1 (i := 1) rfl rfl, by decide +kernel, by decide +kernel, by decide +kernel, by decide +kernel⟩
theorem in_S_lacks : Cond.instanceMethod M_S_lacks.1 ∈ oAll := oMem2 (i := 73) rfl rfl
theorem se_S_lacks : Cond.selects M_S_lacks.1.cls M_S_lacks.1 M_S_lacks.1 ∈ oAll := oMem2 (i := 74) rfl rfl
theorem mk_S_latest : oMk M_S_latest 2 := ⟨oMem2 (i := 79) rfl rfl, oMem1 (i := 1) rfl rfl, by decide +kernel, by decide +kernel, by decide +kernel, by decide +kernel⟩
theorem in_S_latest : Cond.instanceMethod M_S_latest.1 ∈ oAll := oMem2 (i := 77) rfl rfl
theorem se_S_latest : Cond.selects M_S_latest.1.cls M_S_latest.1 M_S_latest.1 ∈ oAll := oMem2 (i := 78) rfl rfl
theorem mk_S_visible : oMk M_S_visible 2 := ⟨oMem2 (i := 62) rfl rfl, oMem1 (i := 1) rfl rfl, by decide +kernel, by decide +kernel, by decide +kernel, by decide +kernel⟩
theorem in_S_visible : Cond.instanceMethod M_S_visible.1 ∈ oAll := oMem2 (i := 60) rfl rfl
theorem se_S_visible : Cond.selects M_S_visible.1.cls M_S_visible.1 M_S_visible.1 ∈ oAll := oMem2 (i := 61) rfl rfl
theorem mk_S_clock : oMk M_S_clock 2 := ⟨oMem2 (i := 84) rfl rfl, oMem1 (i := 1) rfl rfl, by decide +kernel, by decide +kernel, by decide +kernel, by decide +kernel⟩
theorem in_S_clock : Cond.instanceMethod M_S_clock.1 ∈ oAll := oMem2 (i := 82) rfl rfl
theorem se_S_clock : Cond.selects M_S_clock.1.cls M_S_clock.1 M_S_clock.1 ∈ oAll := oMem2 (i := 83) rfl rfl
theorem mk_S_context : oMk M_S_context 2 := ⟨oMem2 (i := 88) rfl rfl, oMem1 (i := 1) rfl rfl, by decide +kernel, by decide +kernel, by decide +kernel, by decide +kernel⟩
theorem in_S_context : Cond.instanceMethod M_S_context.1 ∈ oAll := oMem2 (i := 86) rfl rfl
theorem se_S_context : Cond.selects M_S_context.1.cls M_S_context.1 M_S_context.1 ∈ oAll := oMem2 (i := 87) rfl rfl
theorem mk_S_nearest : oMk M_S_nearest 1 := ⟨oMem2 (i := 92) rfl rfl, oMem1 (i := 1) rfl rfl, by decide +kernel, by decide +kernel, by decide +kernel, by decide +kernel⟩
theorem in_S_nearest : Cond.instanceMethod M_S_nearest.1 ∈ oAll := oMem2 (i := 90) rfl rfl
theorem se_S_nearest : Cond.selects M_S_nearest.1.cls M_S_nearest.1 M_S_nearest.1 ∈ oAll := oMem2 (i := 91) rfl rfl
theorem mk_S_about : oMk M_S_about 2 := ⟨oMem2 (i := 96) rfl rfl, oMem1 (i := 1) rfl rfl, by decide +kernel, by decide +kernel, by decide +kernel, by decide +kernel⟩
theorem in_S_about : Cond.instanceMethod M_S_about.1 ∈ oAll := oMem2 (i := 94) rfl rfl
theorem se_S_about : Cond.selects M_S_about.1.cls M_S_about.1 M_S_about.1 ∈ oAll := oMem2 (i := 95) rfl rfl
theorem mk_S_dependency : oMk M_S_dependency 2 := ⟨oMem2 (i := 100) rfl rfl, oMem1 (i := 1) rfl rfl, by decide +kernel, by decide +kernel, by decide +kernel, by decide +kernel⟩
theorem in_S_dependency : Cond.instanceMethod M_S_dependency.1 ∈ oAll := oMem2 (i := 98) rfl rfl
theorem se_S_dependency : Cond.selects M_S_dependency.1.cls M_S_dependency.1 M_S_dependency.1 ∈ oAll := oMem2 (i := 99) rfl rfl
theorem mk_S_isClient : oMk M_S_isClient 1 := ⟨oMem1 (i := 160) rfl rfl, oMem1 (i := 1) rfl rfl, by decide +kernel, by decide +kernel, by decide +kernel, by decide +kernel⟩
theorem st_S_isClient : Cond.static M_S_isClient.1 ∈ oAll := oMem1 (i := 159) rfl rfl
theorem mk_S_isKey : oMk M_S_isKey 1 := ⟨oMem1 (i := 163) rfl rfl, oMem1 (i := 1) rfl rfl, by decide +kernel, by decide +kernel, by decide +kernel, by decide +kernel⟩
theorem st_S_isKey : Cond.static M_S_isKey.1 ∈ oAll := oMem1 (i := 162) rfl rfl
theorem mk_S_isCenter : oMk M_S_isCenter 1 := ⟨oMem2 (i := 38) rfl rfl, oMem1 (i := 1) rfl rfl, by decide +kernel, by decide +kernel, by decide +kernel, by decide +kernel⟩
theorem st_S_isCenter : Cond.static M_S_isCenter.1 ∈ oAll := oMem2 (i := 37) rfl rfl
theorem mk_S_isPartition : oMk M_S_isPartition 1 := ⟨oMem2 (i := 54) rfl rfl, oMem1 (i := 1) rfl rfl, by decide +kernel, by decide +kernel, by decide +kernel, by decide +kernel⟩
theorem st_S_isPartition : Cond.static M_S_isPartition.1 ∈ oAll := oMem2 (i := 53) rfl rfl
theorem mk_S_isWrite : oMk M_S_isWrite 1 := ⟨oMem1 (i := 175) rfl rfl, oMem1 (i := 1) rfl rfl, by decide +kernel, by decide +kernel, by decide +kernel, by decide +kernel⟩
theorem in_S_isWrite : Cond.instanceMethod M_S_isWrite.1 ∈ oAll := oMem1 (i := 174) rfl rfl
theorem se_S_isWrite : Cond.selects M_S_isWrite.1.cls M_S_isWrite.1 M_S_isWrite.1 ∈ oAll := oMemS (i := 2) rfl rfl
theorem mk_S_hasKey : oMk M_S_hasKey 2 := ⟨oMem2 (i := 1) rfl rfl, oMem1 (i := 1) rfl rfl, by decide +kernel, by decide +kernel, by decide +kernel, by decide +kernel⟩
theorem st_S_hasKey : Cond.static M_S_hasKey.1 ∈ oAll := oMem2 (i := 0) rfl rfl
theorem mk_S_tick : oMk M_S_tick 2 := ⟨oMem1 (i := 171) rfl rfl, oMem1 (i := 1) rfl rfl, by decide +kernel, by decide +kernel, by decide +kernel, by decide +kernel⟩
theorem in_S_tick : Cond.instanceMethod M_S_tick.1 ∈ oAll := oMem1 (i := 170) rfl rfl
theorem se_S_tick : Cond.selects M_S_tick.1.cls M_S_tick.1 M_S_tick.1 ∈ oAll := oMemS (i := 1) rfl rfl
theorem mk_S_show : oMk M_S_show 2 := ⟨oMem1 (i := 201) rfl rfl, oMem1 (i := 1) rfl rfl, by decide +kernel, by decide +kernel, by decide +kernel, by decide +kernel⟩
theorem in_S_show : Cond.instanceMethod M_S_show.1 ∈ oAll := oMem1 (i := 200) rfl rfl
theorem se_S_show : Cond.selects M_S_show.1.cls M_S_show.1 M_S_show.1 ∈ oAll := oMemS (i := 7) rfl rfl
theorem mk_S_send : oMk M_S_send 2 := ⟨oMem1 (i := 209) rfl rfl, oMem1 (i := 1) rfl rfl, by decide +kernel, by decide +kernel, by decide +kernel, by decide +kernel⟩
theorem in_S_send : Cond.instanceMethod M_S_send.1 ∈ oAll := oMem1 (i := 208) rfl rfl
theorem se_S_send : Cond.selects M_S_send.1.cls M_S_send.1 M_S_send.1 ∈ oAll := oMemS (i := 9) rfl rfl
theorem mk_S_see : oMk M_S_see 2 := ⟨oMem1 (i := 217) rfl rfl, oMem1 (i := 1) rfl rfl, by decide +kernel, by decide +kernel, by decide +kernel, by decide +kernel⟩
theorem in_S_see : Cond.instanceMethod M_S_see.1 ∈ oAll := oMem1 (i := 216) rfl rfl
theorem se_S_see : Cond.selects M_S_see.1.cls M_S_see.1 M_S_see.1 ∈ oAll := oMemS (i := 11) rfl rfl
theorem mk_S_greater : oMk M_S_greater 2 := ⟨oMem1 (i := 205) rfl rfl, oMem1 (i := 1) rfl rfl, by decide +kernel, by decide +kernel, by decide +kernel, by decide +kernel⟩
theorem in_S_greater : Cond.instanceMethod M_S_greater.1 ∈ oAll := oMem1 (i := 204) rfl rfl
theorem se_S_greater : Cond.selects M_S_greater.1.cls M_S_greater.1 M_S_greater.1 ∈ oAll := oMemS (i := 8) rfl rfl
theorem mk_S_nearestKeys : oMk M_S_nearestKeys 1 := ⟨oMem1 (i := 186) rfl rfl, oMem1 (i := 1) rfl rfl, by decide +kernel, by decide +kernel, by decide +kernel, by decide +kernel⟩
theorem in_S_nearestKeys : Cond.instanceMethod M_S_nearestKeys.1 ∈ oAll := oMem1 (i := 185) rfl rfl
theorem se_S_nearestKeys : Cond.selects M_S_nearestKeys.1.cls M_S_nearestKeys.1 M_S_nearestKeys.1 ∈ oAll := oMemS (i := 4) rfl rfl
theorem mk_S_isCovered : oMk M_S_isCovered 2 := ⟨oMem1 (i := 190) rfl rfl, oMem1 (i := 1) rfl rfl, by decide +kernel, by decide +kernel, by decide +kernel, by decide +kernel⟩
theorem in_S_isCovered : Cond.instanceMethod M_S_isCovered.1 ∈ oAll := oMem1 (i := 189) rfl rfl
theorem se_S_isCovered : Cond.selects M_S_isCovered.1.cls M_S_isCovered.1 M_S_isCovered.1 ∈ oAll := oMemS (i := 5) rfl rfl
theorem mk_S_missingNeeds : oMk M_S_missingNeeds 2 := ⟨oMem2 (i := 58) rfl rfl, oMem1 (i := 1) rfl rfl, by decide +kernel, by decide +kernel, by decide +kernel, by decide +kernel⟩
theorem in_S_missingNeeds : Cond.instanceMethod M_S_missingNeeds.1 ∈ oAll := oMem2 (i := 57) rfl rfl
theorem se_S_missingNeeds : Cond.selects M_S_missingNeeds.1.cls M_S_missingNeeds.1 M_S_missingNeeds.1 ∈ oAll := oMemS (i := 19) rfl rfl
theorem mk_S_readLowestKey : oMk M_S_readLowestKey 1 := ⟨oMem1 (i := 238) rfl rfl, oMem1 (i := 1) rfl rfl, by decide +kernel, by decide +kernel, by decide +kernel, by decide +kernel⟩
theorem in_S_readLowestKey : Cond.instanceMethod M_S_readLowestKey.1 ∈ oAll := oMem1 (i := 237) rfl rfl
theorem se_S_readLowestKey : Cond.selects M_S_readLowestKey.1.cls M_S_readLowestKey.1 M_S_readLowestKey.1 ∈ oAll := oMemS (i := 13) rfl rfl
theorem mk_S_prepareSecondRound : oMk M_S_prepareSecondRound 1 := ⟨oMem2 (i := 5) rfl rfl, oMem1 (i := 1) rfl rfl, by decide +kernel, by decide +kernel, by decide +kernel, by decide +kernel⟩
theorem in_S_prepareSecondRound : Cond.instanceMethod M_S_prepareSecondRound.1 ∈ oAll := oMem2 (i := 4) rfl rfl
theorem se_S_prepareSecondRound : Cond.selects M_S_prepareSecondRound.1.cls M_S_prepareSecondRound.1 M_S_prepareSecondRound.1 ∈ oAll := oMemS (i := 14) rfl rfl
theorem mk_S_dueWrite : oMk M_S_dueWrite 2 := ⟨oMem2 (i := 9) rfl rfl, oMem1 (i := 1) rfl rfl, by decide +kernel, by decide +kernel, by decide +kernel, by decide +kernel⟩
theorem in_S_dueWrite : Cond.instanceMethod M_S_dueWrite.1 ∈ oAll := oMem2 (i := 8) rfl rfl
theorem se_S_dueWrite : Cond.selects M_S_dueWrite.1.cls M_S_dueWrite.1 M_S_dueWrite.1 ∈ oAll := oMemS (i := 15) rfl rfl
theorem mk_S_seeFetched : oMk M_S_seeFetched 1 := ⟨oMem2 (i := 13) rfl rfl, oMem1 (i := 1) rfl rfl, by decide +kernel, by decide +kernel, by decide +kernel, by decide +kernel⟩
theorem in_S_seeFetched : Cond.instanceMethod M_S_seeFetched.1 ∈ oAll := oMem2 (i := 12) rfl rfl
theorem se_S_seeFetched : Cond.selects M_S_seeFetched.1.cls M_S_seeFetched.1 M_S_seeFetched.1 ∈ oAll := oMemS (i := 16) rfl rfl
theorem mk_S_noWrites : oMk M_S_noWrites 0 := ⟨oMem1 (i := 34) rfl rfl, oMem1 (i := 1) rfl rfl, by decide +kernel, by decide +kernel, by decide +kernel, by decide +kernel⟩
theorem st_S_noWrites : Cond.static M_S_noWrites.1 ∈ oAll := oMem1 (i := 33) rfl rfl
theorem mk_N_init : oMk M_N_init 0 := ⟨oMem2 (i := 105) rfl rfl, oMem1 (i := 7) rfl rfl, by decide +kernel, by decide +kernel, by decide +kernel, by decide +kernel⟩
theorem in_N_init : Cond.instanceMethod M_N_init.1 ∈ oAll := oMem2 (i := 104) rfl rfl
theorem mk_N_out : oMk M_N_out 2 := ⟨oMem2 (i := 171) rfl rfl, oMem1 (i := 7) rfl rfl, by decide +kernel, by decide +kernel, by decide +kernel, by decide +kernel⟩
theorem st_N_out : Cond.static M_N_out.1 ∈ oAll := oMem2 (i := 170) rfl rfl
theorem mk_N_count : oMk M_N_count 1 := ⟨oMem2 (i := 225) rfl rfl, oMem1 (i := 7) rfl rfl, by decide +kernel, by decide +kernel, by decide +kernel, by decide +kernel⟩
theorem st_N_count : Cond.static M_N_count.1 ∈ oAll := oMem2 (i := 224) rfl rfl
theorem mk_N_lowest : oMk M_N_lowest 1 := ⟨oMem2 (i := 210) rfl rfl, oMem1 (i := 7) rfl rfl, by decide +kernel, by decide +kernel, by decide +kernel, by decide +kernel⟩
theorem st_N_lowest : Cond.static M_N_lowest.1 ∈ oAll := oMem2 (i := 209) rfl rfl
theorem mk_N_open : oMk M_N_open 1 := ⟨oMem2 (i := 175) rfl rfl, oMem1 (i := 7) rfl rfl, by decide +kernel, by decide +kernel, by decide +kernel, by decide +kernel⟩
theorem in_N_open : Cond.instanceMethod M_N_open.1 ∈ oAll := oMem2 (i := 174) rfl rfl
theorem se_N_open : Cond.selects M_N_open.1.cls M_N_open.1 M_N_open.1 ∈ oAll := oMemS (i := 20) rfl rfl
theorem mk_N_greater : oMk M_N_greater 2 := ⟨oMem2 (i := 191) rfl rfl, oMem1 (i := 7) rfl rfl, by decide +kernel, by decide +kernel, by decide +kernel, by decide +kernel⟩
theorem in_N_greater : Cond.instanceMethod M_N_greater.1 ∈ oAll := oMem2 (i := 190) rfl rfl
theorem se_N_greater : Cond.selects M_N_greater.1.cls M_N_greater.1 M_N_greater.1 ∈ oAll := oMemS (i := 24) rfl rfl
theorem mk_N_latestOf : oMk M_N_latestOf 2 := ⟨oMem2 (i := 199) rfl rfl, oMem1 (i := 7) rfl rfl, by decide +kernel, by decide +kernel, by decide +kernel, by decide +kernel⟩
theorem in_N_latestOf : Cond.instanceMethod M_N_latestOf.1 ∈ oAll := oMem2 (i := 198) rfl rfl
theorem se_N_latestOf : Cond.selects M_N_latestOf.1.cls M_N_latestOf.1 M_N_latestOf.1 ∈ oAll := oMemS (i := 25) rfl rfl
theorem mk_N_near : oMk M_N_near 1 := ⟨oMem2 (i := 179) rfl rfl, oMem1 (i := 7) rfl rfl, by decide +kernel, by decide +kernel, by decide +kernel, by decide +kernel⟩
theorem in_N_near : Cond.instanceMethod M_N_near.1 ∈ oAll := oMem2 (i := 178) rfl rfl
theorem se_N_near : Cond.selects M_N_near.1.cls M_N_near.1 M_N_near.1 ∈ oAll := oMemS (i := 21) rfl rfl
theorem mk_N_see : oMk M_N_see 2 := ⟨oMem2 (i := 187) rfl rfl, oMem1 (i := 7) rfl rfl, by decide +kernel, by decide +kernel, by decide +kernel, by decide +kernel⟩
theorem in_N_see : Cond.instanceMethod M_N_see.1 ∈ oAll := oMem2 (i := 186) rfl rfl
theorem se_N_see : Cond.selects M_N_see.1.cls M_N_see.1 M_N_see.1 ∈ oAll := oMemS (i := 23) rfl rfl
theorem mk_N_send : oMk M_N_send 3 := ⟨oMem2 (i := 183) rfl rfl, oMem1 (i := 7) rfl rfl, by decide +kernel, by decide +kernel, by decide +kernel, by decide +kernel⟩
theorem in_N_send : Cond.instanceMethod M_N_send.1 ∈ oAll := oMem2 (i := 182) rfl rfl
theorem se_N_send : Cond.selects M_N_send.1.cls M_N_send.1 M_N_send.1 ∈ oAll := oMemS (i := 22) rfl rfl
theorem mk_N_put : oMk M_N_put 3 := ⟨oMem2 (i := 168) rfl rfl, oMem1 (i := 7) rfl rfl, by decide +kernel, by decide +kernel, by decide +kernel, by decide +kernel⟩
theorem in_N_put : Cond.instanceMethod M_N_put.1 ∈ oAll := oMem2 (i := 166) rfl rfl
theorem se_N_put : Cond.selects M_N_put.1.cls M_N_put.1 M_N_put.1 ∈ oAll := oMem2 (i := 167) rfl rfl
theorem mk_N_get : oMk M_N_get 2 := ⟨oMem2 (i := 195) rfl rfl, oMem1 (i := 7) rfl rfl, by decide +kernel, by decide +kernel, by decide +kernel, by decide +kernel⟩
theorem in_N_get : Cond.instanceMethod M_N_get.1 ∈ oAll := oMem2 (i := 193) rfl rfl
theorem se_N_get : Cond.selects M_N_get.1.cls M_N_get.1 M_N_get.1 ∈ oAll := oMem2 (i := 194) rfl rfl
theorem mk_N_begin : oMk M_N_begin 2 := ⟨oMem2 (i := 203) rfl rfl, oMem1 (i := 7) rfl rfl, by decide +kernel, by decide +kernel, by decide +kernel, by decide +kernel⟩
theorem in_N_begin : Cond.instanceMethod M_N_begin.1 ∈ oAll := oMem2 (i := 201) rfl rfl
theorem se_N_begin : Cond.selects M_N_begin.1.cls M_N_begin.1 M_N_begin.1 ∈ oAll := oMem2 (i := 202) rfl rfl
theorem mk_N_due : oMk M_N_due 2 := ⟨oMem2 (i := 218) rfl rfl, oMem1 (i := 7) rfl rfl, by decide +kernel, by decide +kernel, by decide +kernel, by decide +kernel⟩
theorem in_N_due : Cond.instanceMethod M_N_due.1 ∈ oAll := oMem2 (i := 217) rfl rfl
theorem se_N_due : Cond.selects M_N_due.1.cls M_N_due.1 M_N_due.1 ∈ oAll := oMemS (i := 27) rfl rfl
theorem mk_N_finish : oMk M_N_finish 1 := ⟨oMem2 (i := 222) rfl rfl, oMem1 (i := 7) rfl rfl, by decide +kernel, by decide +kernel, by decide +kernel, by decide +kernel⟩
theorem in_N_finish : Cond.instanceMethod M_N_finish.1 ∈ oAll := oMem2 (i := 221) rfl rfl
theorem se_N_finish : Cond.selects M_N_finish.1.cls M_N_finish.1 M_N_finish.1 ∈ oAll := oMemS (i := 28) rfl rfl
theorem mk_N_second : oMk M_N_second 1 := ⟨oMem2 (i := 214) rfl rfl, oMem1 (i := 7) rfl rfl, by decide +kernel, by decide +kernel, by decide +kernel, by decide +kernel⟩
theorem in_N_second : Cond.instanceMethod M_N_second.1 ∈ oAll := oMem2 (i := 213) rfl rfl
theorem se_N_second : Cond.selects M_N_second.1.cls M_N_second.1 M_N_second.1 ∈ oAll := oMemS (i := 26) rfl rfl
theorem mk_N_read : oMk M_N_read 1 := ⟨oMem2 (i := 207) rfl rfl, oMem1 (i := 7) rfl rfl, by decide +kernel, by decide +kernel, by decide +kernel, by decide +kernel⟩
theorem in_N_read : Cond.instanceMethod M_N_read.1 ∈ oAll := oMem2 (i := 205) rfl rfl
theorem se_N_read : Cond.selects M_N_read.1.cls M_N_read.1 M_N_read.1 ∈ oAll := oMem2 (i := 206) rfl rfl
theorem mk_N_got : oMk M_N_got 2 := ⟨oMem2 (i := 229) rfl rfl, oMem1 (i := 7) rfl rfl, by decide +kernel, by decide +kernel, by decide +kernel, by decide +kernel⟩
theorem in_N_got : Cond.instanceMethod M_N_got.1 ∈ oAll := oMem2 (i := 227) rfl rfl
theorem se_N_got : Cond.selects M_N_got.1.cls M_N_got.1 M_N_got.1 ∈ oAll := oMem2 (i := 228) rfl rfl
theorem mk_N_rounds : oMk M_N_rounds 1 := ⟨oMem2 (i := 233) rfl rfl, oMem1 (i := 7) rfl rfl, by decide +kernel, by decide +kernel, by decide +kernel, by decide +kernel⟩
theorem in_N_rounds : Cond.instanceMethod M_N_rounds.1 ∈ oAll := oMem2 (i := 231) rfl rfl
theorem se_N_rounds : Cond.selects M_N_rounds.1.cls M_N_rounds.1 M_N_rounds.1 ∈ oAll := oMem2 (i := 232) rfl rfl
theorem mk_N_link : oMk M_N_link 2 := ⟨oMem3 (i := 1) rfl rfl, oMem1 (i := 7) rfl rfl, by decide +kernel, by decide +kernel, by decide +kernel, by decide +kernel⟩
theorem in_N_link : Cond.instanceMethod M_N_link.1 ∈ oAll := oMem3 (i := 0) rfl rfl
theorem se_N_link : Cond.selects M_N_link.1.cls M_N_link.1 M_N_link.1 ∈ oAll := oMemS (i := 29) rfl rfl
theorem mk_N_deliver : oMk M_N_deliver 3 := ⟨oMem2 (i := 237) rfl rfl, oMem1 (i := 7) rfl rfl, by decide +kernel, by decide +kernel, by decide +kernel, by decide +kernel⟩
theorem in_N_deliver : Cond.instanceMethod M_N_deliver.1 ∈ oAll := oMem2 (i := 235) rfl rfl
theorem se_N_deliver : Cond.selects M_N_deliver.1.cls M_N_deliver.1 M_N_deliver.1 ∈ oAll := oMem2 (i := 236) rfl rfl
theorem mk_N_missing : oMk M_N_missing 2 := ⟨oMem3 (i := 9) rfl rfl, oMem1 (i := 7) rfl rfl, by decide +kernel, by decide +kernel, by decide +kernel, by decide +kernel⟩
theorem in_N_missing : Cond.instanceMethod M_N_missing.1 ∈ oAll := oMem3 (i := 8) rfl rfl
theorem se_N_missing : Cond.selects M_N_missing.1.cls M_N_missing.1 M_N_missing.1 ∈ oAll := oMemS (i := 30) rfl rfl
theorem mk_N_serve : oMk M_N_serve 2 := ⟨oMem3 (i := 5) rfl rfl, oMem1 (i := 7) rfl rfl, by decide +kernel, by decide +kernel, by decide +kernel, by decide +kernel⟩
theorem in_N_serve : Cond.instanceMethod M_N_serve.1 ∈ oAll := oMem3 (i := 3) rfl rfl
theorem se_N_serve : Cond.selects M_N_serve.1.cls M_N_serve.1 M_N_serve.1 ∈ oAll := oMem3 (i := 4) rfl rfl
theorem mk_N_flight : oMk M_N_flight 2 := ⟨oMem3 (i := 13) rfl rfl, oMem1 (i := 7) rfl rfl, by decide +kernel, by decide +kernel, by decide +kernel, by decide +kernel⟩
theorem in_N_flight : Cond.instanceMethod M_N_flight.1 ∈ oAll := oMem3 (i := 11) rfl rfl
theorem se_N_flight : Cond.selects M_N_flight.1.cls M_N_flight.1 M_N_flight.1 ∈ oAll := oMem3 (i := 12) rfl rfl
theorem mk_N_sent : oMk M_N_sent 3 := ⟨oMem3 (i := 17) rfl rfl, oMem1 (i := 7) rfl rfl, by decide +kernel, by decide +kernel, by decide +kernel, by decide +kernel⟩
theorem in_N_sent : Cond.instanceMethod M_N_sent.1 ∈ oAll := oMem3 (i := 15) rfl rfl
theorem se_N_sent : Cond.selects M_N_sent.1.cls M_N_sent.1 M_N_sent.1 ∈ oAll := oMem3 (i := 16) rfl rfl
theorem mk_N_pending : oMk M_N_pending 2 := ⟨oMem3 (i := 21) rfl rfl, oMem1 (i := 7) rfl rfl, by decide +kernel, by decide +kernel, by decide +kernel, by decide +kernel⟩
theorem in_N_pending : Cond.instanceMethod M_N_pending.1 ∈ oAll := oMem3 (i := 19) rfl rfl
theorem se_N_pending : Cond.selects M_N_pending.1.cls M_N_pending.1 M_N_pending.1 ∈ oAll := oMem3 (i := 20) rfl rfl
theorem mk_N_lacks : oMk M_N_lacks 3 := ⟨oMem3 (i := 25) rfl rfl, oMem1 (i := 7) rfl rfl, by decide +kernel, by decide +kernel, by decide +kernel, by decide +kernel⟩
theorem in_N_lacks : Cond.instanceMethod M_N_lacks.1 ∈ oAll := oMem3 (i := 23) rfl rfl
theorem se_N_lacks : Cond.selects M_N_lacks.1.cls M_N_lacks.1 M_N_lacks.1 ∈ oAll := oMem3 (i := 24) rfl rfl
theorem mk_N_latest : oMk M_N_latest 2 := ⟨oMem3 (i := 29) rfl rfl, oMem1 (i := 7) rfl rfl, by decide +kernel, by decide +kernel, by decide +kernel, by decide +kernel⟩
theorem in_N_latest : Cond.instanceMethod M_N_latest.1 ∈ oAll := oMem3 (i := 27) rfl rfl
theorem se_N_latest : Cond.selects M_N_latest.1.cls M_N_latest.1 M_N_latest.1 ∈ oAll := oMem3 (i := 28) rfl rfl
theorem mk_N_visible : oMk M_N_visible 2 := ⟨oMem3 (i := 33) rfl rfl, oMem1 (i := 7) rfl rfl, by decide +kernel, by decide +kernel, by decide +kernel, by decide +kernel⟩
theorem in_N_visible : Cond.instanceMethod M_N_visible.1 ∈ oAll := oMem3 (i := 31) rfl rfl
theorem se_N_visible : Cond.selects M_N_visible.1.cls M_N_visible.1 M_N_visible.1 ∈ oAll := oMem3 (i := 32) rfl rfl
theorem mk_N_clock : oMk M_N_clock 2 := ⟨oMem3 (i := 37) rfl rfl, oMem1 (i := 7) rfl rfl, by decide +kernel, by decide +kernel, by decide +kernel, by decide +kernel⟩
theorem in_N_clock : Cond.instanceMethod M_N_clock.1 ∈ oAll := oMem3 (i := 35) rfl rfl
theorem se_N_clock : Cond.selects M_N_clock.1.cls M_N_clock.1 M_N_clock.1 ∈ oAll := oMem3 (i := 36) rfl rfl
theorem mk_N_context : oMk M_N_context 2 := ⟨oMem3 (i := 41) rfl rfl, oMem1 (i := 7) rfl rfl, by decide +kernel, by decide +kernel, by decide +kernel, by decide +kernel⟩
theorem in_N_context : Cond.instanceMethod M_N_context.1 ∈ oAll := oMem3 (i := 39) rfl rfl
theorem se_N_context : Cond.selects M_N_context.1.cls M_N_context.1 M_N_context.1 ∈ oAll := oMem3 (i := 40) rfl rfl
theorem mk_N_nearest : oMk M_N_nearest 1 := ⟨oMem3 (i := 45) rfl rfl, oMem1 (i := 7) rfl rfl, by decide +kernel, by decide +kernel, by decide +kernel, by decide +kernel⟩
theorem in_N_nearest : Cond.instanceMethod M_N_nearest.1 ∈ oAll := oMem3 (i := 43) rfl rfl
theorem se_N_nearest : Cond.selects M_N_nearest.1.cls M_N_nearest.1 M_N_nearest.1 ∈ oAll := oMem3 (i := 44) rfl rfl
theorem mk_N_about : oMk M_N_about 2 := ⟨oMem3 (i := 49) rfl rfl, oMem1 (i := 7) rfl rfl, by decide +kernel, by decide +kernel, by decide +kernel, by decide +kernel⟩
theorem in_N_about : Cond.instanceMethod M_N_about.1 ∈ oAll := oMem3 (i := 47) rfl rfl
theorem se_N_about : Cond.selects M_N_about.1.cls M_N_about.1 M_N_about.1 ∈ oAll := oMem3 (i := 48) rfl rfl
theorem mk_N_dependency : oMk M_N_dependency 2 := ⟨oMem3 (i := 53) rfl rfl, oMem1 (i := 7) rfl rfl, by decide +kernel, by decide +kernel, by decide +kernel, by decide +kernel⟩
theorem in_N_dependency : Cond.instanceMethod M_N_dependency.1 ∈ oAll := oMem3 (i := 51) rfl rfl
theorem se_N_dependency : Cond.selects M_N_dependency.1.cls M_N_dependency.1 M_N_dependency.1 ∈ oAll := oMem3 (i := 52) rfl rfl
theorem mk_JA_fill : oMk M_JA_fill 2 := ⟨oMem1 (i := 37) rfl rfl, oMem1 (i := 3) rfl rfl, by decide +kernel, by decide +kernel, by decide +kernel, by decide +kernel⟩
theorem st_JA_fill : Cond.static M_JA_fill.1 ∈ oAll := oMem1 (i := 36) rfl rfl
theorem mk_JI_bitCount : oMk M_JI_bitCount 1 := ⟨oMem2 (i := 16) rfl rfl, oMem1 (i := 10) rfl rfl, by decide +kernel, by decide +kernel, by decide +kernel, by decide +kernel⟩
theorem st_JI_bitCount : Cond.static M_JI_bitCount.1 ∈ oAll := oMem2 (i := 15) rfl rfl
-- links
theorem oi_C_3 : Cond.methodLink RC 3 Lib.objectInit ∈ oAll := oMem1 (i := 68) rfl rfl
theorem fl_C_9 : oF RC 9 2 0 := ⟨_, rfl, by decide, Or.inl (oMem1 (i := 85) rfl rfl)⟩
theorem ff_C_9 : oFf RC 9 2 0 (.array .boolean) := ⟨_, rfl, by decide, oMem1 (i := 85) rfl rfl, rfl, rfl, by decide +kernel⟩
theorem ml_C_15 : oMl RC 15 M_S_noWrites := Or.inr ⟨"CausalStore", List.mem_of_getElem? (i := 3) rfl⟩
theorem fl_C_19 : oF RC 19 2 1 := ⟨_, rfl, by decide, Or.inl (oMem1 (i := 87) rfl rfl)⟩
theorem ff_C_19 : oFf RC 19 2 1 (.array .int) := ⟨_, rfl, by decide, oMem1 (i := 87) rfl rfl, rfl, rfl, by decide +kernel⟩
theorem fl_C_23 : oF RC 23 2 2 := ⟨_, rfl, by decide, Or.inl (oMem1 (i := 89) rfl rfl)⟩
theorem ff_C_23 : oFf RC 23 2 2 (.array .int) := ⟨_, rfl, by decide, oMem1 (i := 89) rfl rfl, rfl, rfl, by decide +kernel⟩
theorem cl_C_26 : Cond.classLink RC 26 RR ∈ oAll := oMem1 (i := 70) rfl rfl
theorem fl_C_28 : oF RC 28 2 3 := ⟨_, rfl, by decide, Or.inl (oMem1 (i := 91) rfl rfl)⟩
theorem ff_C_28 : oFf RC 28 2 3 (.array (.object "CausalStore$Row")) := ⟨_, rfl, by decide, oMem1 (i := 91) rfl rfl, rfl, rfl, by decide +kernel⟩
theorem ml_C_32 : oMl RC 32 M_R_init := Or.inr ⟨"CausalStore", List.mem_of_getElem? (i := 4) rfl⟩
theorem oi_K_3 : Cond.methodLink RK 3 Lib.objectInit ∈ oAll := oMem1 (i := 106) rfl rfl
theorem ml_K_9 : oMl RK 9 M_S_noWrites := Or.inr ⟨"CausalStore", List.mem_of_getElem? (i := 6) rfl⟩
theorem fl_K_13 : oF RK 13 3 1 := ⟨_, rfl, by decide, Or.inl (oMem1 (i := 110) rfl rfl)⟩
theorem ff_K_13 : oFf RK 13 3 1 (.array .int) := ⟨_, rfl, by decide, oMem1 (i := 110) rfl rfl, rfl, rfl, by decide +kernel⟩
theorem fl_K_19 : oF RK 19 3 2 := ⟨_, rfl, by decide, Or.inl (oMem1 (i := 112) rfl rfl)⟩
theorem ff_K_19 : oFf RK 19 3 2 (.array .int) := ⟨_, rfl, by decide, oMem1 (i := 112) rfl rfl, rfl, rfl, by decide +kernel⟩
theorem fl_K_22 : oF RK 22 3 3 := ⟨_, rfl, by decide, Or.inl (oMem1 (i := 114) rfl rfl)⟩
theorem ff_K_22 : oFf RK 22 3 3 (.array .int) := ⟨_, rfl, by decide, oMem1 (i := 114) rfl rfl, rfl, rfl, by decide +kernel⟩
theorem fl_K_25 : oF RK 25 3 0 := ⟨_, rfl, by decide, Or.inl (oMem1 (i := 108) rfl rfl)⟩
theorem ff_K_25 : oFf RK 25 3 0 (.int) := ⟨_, rfl, by decide, oMem1 (i := 108) rfl rfl, rfl, rfl, by decide +kernel⟩
theorem fl_K_29 : oF RK 29 3 5 := ⟨_, rfl, by decide, Or.inl (oMem1 (i := 118) rfl rfl)⟩
theorem fl_K_32 : oF RK 32 3 4 := ⟨_, rfl, by decide, Or.inl (oMem1 (i := 116) rfl rfl)⟩
theorem fs_K_32 : oFs RK 32 3 4 (.int) := ⟨fl_K_32, fun q h => by
  cases h
  exact ⟨rfl, by decide +kernel⟩⟩
theorem fs_K_29 : oFs RK 29 3 5 (.int) := ⟨fl_K_29, fun q h => by
  cases h
  exact ⟨rfl, by decide +kernel⟩⟩
theorem fl_K_35 : oF RK 35 3 6 := ⟨_, rfl, by decide, Or.inl (oMem1 (i := 120) rfl rfl)⟩
theorem fs_K_35 : oFs RK 35 3 6 (.int) := ⟨fl_K_35, fun q h => by
  cases h
  exact ⟨rfl, by decide +kernel⟩⟩
theorem ml_K_38 : oMl RK 38 M_JA_fill := Or.inl (oMem1 (i := 230) rfl rfl)
theorem oi_R_3 : Cond.methodLink RR 3 Lib.objectInit ∈ oAll := oMem1 (i := 75) rfl rfl
theorem fl_R_9 : oF RR 9 4 0 := ⟨_, rfl, by decide, Or.inl (oMem1 (i := 76) rfl rfl)⟩
theorem ff_R_9 : oFf RR 9 4 0 (.array .int) := ⟨_, rfl, by decide, oMem1 (i := 76) rfl rfl, rfl, rfl, by decide +kernel⟩
theorem fl_R_15 : oF RR 15 4 1 := ⟨_, rfl, by decide, Or.inl (oMem1 (i := 77) rfl rfl)⟩
theorem fs_R_15 : oFs RR 15 4 1 (.int) := ⟨fl_R_15, fun q h => by
  cases h
  exact ⟨rfl, by decide +kernel⟩⟩
theorem cp_R_19 : Cond.methodLink RR 19 arraycopyName ∈ oAll := oMem2 (i := 47) rfl rfl
theorem oi_W_3 : Cond.methodLink RW 3 Lib.objectInit ∈ oAll := oMem1 (i := 31) rfl rfl
theorem ml_W_9 : oMl RW 9 M_S_noWrites := Or.inr ⟨"CausalStore", List.mem_of_getElem? (i := 1) rfl⟩
theorem fl_W_13 : oF RW 13 1 0 := ⟨_, rfl, by decide, Or.inl (oMem1 (i := 38) rfl rfl)⟩
theorem ff_W_13 : oFf RW 13 1 0 (.array .int) := ⟨_, rfl, by decide, oMem1 (i := 38) rfl rfl, rfl, rfl, by decide +kernel⟩
theorem fl_W_19 : oF RW 19 1 1 := ⟨_, rfl, by decide, Or.inl (oMem1 (i := 40) rfl rfl)⟩
theorem fs_W_19 : oFs RW 19 1 1 (.int) := ⟨fl_W_19, fun q h => by
  cases h
  exact ⟨rfl, by decide +kernel⟩⟩
theorem fl_W_23 : oF RW 23 1 2 := ⟨_, rfl, by decide, Or.inl (oMem1 (i := 42) rfl rfl)⟩
theorem fs_W_23 : oFs RW 23 1 2 (.int) := ⟨fl_W_23, fun q h => by
  cases h
  exact ⟨rfl, by decide +kernel⟩⟩
theorem fl_W_26 : oF RW 26 1 3 := ⟨_, rfl, by decide, Or.inl (oMem1 (i := 44) rfl rfl)⟩
theorem fs_W_26 : oFs RW 26 1 3 (.int) := ⟨fl_W_26, fun q h => by
  cases h
  exact ⟨rfl, by decide +kernel⟩⟩
theorem fl_W_29 : oF RW 29 1 4 := ⟨_, rfl, by decide, Or.inl (oMem1 (i := 46) rfl rfl)⟩
theorem fs_W_29 : oFs RW 29 1 4 (.int) := ⟨fl_W_29, fun q h => by
  cases h
  exact ⟨rfl, by decide +kernel⟩⟩
theorem cp_W_32 : Cond.methodLink RW 32 arraycopyName ∈ oAll := oMem1 (i := 195) rfl rfl
theorem fl_W_38 : oF RW 38 1 5 := ⟨_, rfl, by decide, Or.inl (oMem1 (i := 48) rfl rfl)⟩
theorem fs_W_38 : oFs RW 38 1 5 (.int) := ⟨fl_W_38, fun q h => by
  cases h
  exact ⟨rfl, by decide +kernel⟩⟩
theorem oi_S_1 : Cond.methodLink RS 1 Lib.objectInit ∈ oAll := oMem1 (i := 16) rfl rfl
theorem cl_S_9 : Cond.classLink RS 9 RW ∈ oAll := oMem1 (i := 19) rfl rfl
theorem fl_S_11 : oF RS 11 0 0 := ⟨_, rfl, by decide, Or.inl (oMem1 (i := 138) rfl rfl)⟩
theorem ff_S_11 : oFf RS 11 0 0 (.array (.object "CausalStore$Write")) := ⟨_, rfl, by decide, oMem1 (i := 138) rfl rfl, rfl, rfl, by decide +kernel⟩
theorem cl_S_15 : Cond.classLink RS 15 RC ∈ oAll := oMem1 (i := 21) rfl rfl
theorem fl_S_17 : oF RS 17 0 1 := ⟨_, rfl, by decide, Or.inl (oMem1 (i := 139) rfl rfl)⟩
theorem ff_S_17 : oFf RS 17 0 1 (.array (.object "CausalStore$Center")) := ⟨_, rfl, by decide, oMem1 (i := 139) rfl rfl, rfl, rfl, by decide +kernel⟩
theorem cl_S_21 : Cond.classLink RS 21 RK ∈ oAll := oMem1 (i := 23) rfl rfl
theorem fl_S_23 : oF RS 23 0 2 := ⟨_, rfl, by decide, Or.inl (oMem1 (i := 140) rfl rfl)⟩
theorem ff_S_23 : oFf RS 23 0 2 (.array (.object "CausalStore$Client")) := ⟨_, rfl, by decide, oMem1 (i := 140) rfl rfl, rfl, rfl, by decide +kernel⟩
theorem cl_S_27 : Cond.classLink RS 27 RR ∈ oAll := oMem1 (i := 25) rfl rfl
theorem fl_S_29 : oF RS 29 0 3 := ⟨_, rfl, by decide, Or.inl (oMem1 (i := 141) rfl rfl)⟩
theorem ff_S_29 : oFf RS 29 0 3 (.array (.object "CausalStore$Row")) := ⟨_, rfl, by decide, oMem1 (i := 141) rfl rfl, rfl, rfl, by decide +kernel⟩
theorem ml_S_33 : oMl RS 33 M_W_init := Or.inr ⟨"CausalStore", List.mem_of_getElem? (i := 0) rfl⟩
theorem ml_S_34 : oMl RS 34 M_C_init := Or.inr ⟨"CausalStore", List.mem_of_getElem? (i := 2) rfl⟩
theorem ml_S_35 : oMl RS 35 M_K_init := Or.inr ⟨"CausalStore", List.mem_of_getElem? (i := 5) rfl⟩
theorem ml_S_38 : oMl RS 38 M_R_init := Or.inr ⟨"CausalStore", List.mem_of_getElem? (i := 7) rfl⟩
theorem ml_S_39 : oMl RS 39 M_S_isClient := Or.inl (oMem1 (i := 158) rfl rfl)
theorem ml_S_43 : oMl RS 43 M_S_isKey := Or.inl (oMem1 (i := 161) rfl rfl)
theorem ml_S_46 : oMl RS 46 M_K_isOpen := Or.inr ⟨"CausalStore", List.mem_of_getElem? (i := 8) rfl⟩
theorem fl_S_50 : oF RS 50 0 4 := ⟨_, rfl, by decide, Or.inl (oMem1 (i := 142) rfl rfl)⟩
theorem ml_S_54 : oMl RS 54 M_S_tick := Or.inl (oMem1 (i := 168) rfl rfl)
theorem fl_S_58 : oF RS 58 3 0 := ⟨_, rfl, by decide, Or.inr ⟨"CausalStore", List.mem_of_getElem? (i := 11) rfl⟩⟩
theorem ml_S_61 : oMl RS 61 M_W_fill := Or.inr ⟨"CausalStore", List.mem_of_getElem? (i := 9) rfl⟩
theorem fl_S_65 : oF RS 65 3 1 := ⟨_, rfl, by decide, Or.inr ⟨"CausalStore", List.mem_of_getElem? (i := 12) rfl⟩⟩
theorem ml_S_69 : oMl RS 69 M_S_nearestKeys := Or.inl (oMem1 (i := 183) rfl rfl)
theorem ml_S_73 : oMl RS 73 M_W_dependOn := Or.inr ⟨"CausalStore", List.mem_of_getElem? (i := 10) rfl⟩
theorem fs_S_50 : oFs RS 50 0 4 (.int) := ⟨fl_S_50, fun q h => by
  cases h
  exact ⟨rfl, by decide +kernel⟩⟩
theorem ml_S_77 : oMl RS 77 M_S_show := Or.inl (oMem1 (i := 198) rfl rfl)
theorem ml_S_81 : oMl RS 81 M_S_send := Or.inl (oMem1 (i := 206) rfl rfl)
theorem ml_S_84 : oMl RS 84 M_S_see := Or.inl (oMem1 (i := 214) rfl rfl)
theorem fl_S_88 : oF RS 88 2 1 := ⟨_, rfl, by decide, Or.inr ⟨"CausalStore", List.mem_of_getElem? (i := 8) rfl⟩⟩
theorem ml_S_91 : oMl RS 91 M_K_open := Or.inr ⟨"CausalStore", List.mem_of_getElem? (i := 12) rfl⟩
theorem ml_S_94 : oMl RS 94 M_S_readLowestKey := Or.inl (oMem1 (i := 235) rfl rfl)
theorem fl_S_98 : oF RS 98 3 5 := ⟨_, rfl, by decide, Or.inr ⟨"CausalStore", List.mem_of_getElem? (i := 16) rfl⟩⟩
theorem fl_S_101 : oF RS 101 3 6 := ⟨_, rfl, by decide, Or.inr ⟨"CausalStore", List.mem_of_getElem? (i := 17) rfl⟩⟩
theorem ml_S_104 : oMl RS 104 M_S_prepareSecondRound := Or.inl (oMem2 (i := 2) rfl rfl)
theorem ml_S_107 : oMl RS 107 M_S_seeFetched := Or.inl (oMem2 (i := 10) rfl rfl)
theorem ml_S_110 : oMl RS 110 M_JI_bitCount := Or.inl (oMem2 (i := 14) rfl rfl)
theorem fl_S_116 : oF RS 116 3 2 := ⟨_, rfl, by decide, Or.inr ⟨"CausalStore", List.mem_of_getElem? (i := 13) rfl⟩⟩
theorem ml_S_119 : oMl RS 119 M_S_sent := Or.inl (oMem2 (i := 32) rfl rfl)
theorem ml_S_123 : oMl RS 123 M_S_isWrite := Or.inl (oMem1 (i := 172) rfl rfl)
theorem ml_S_126 : oMl RS 126 M_R_removeAt := Or.inr ⟨"CausalStore", List.mem_of_getElem? (i := 14) rfl⟩
theorem fl_S_129 : oF RS 129 1 1 := ⟨_, rfl, by decide, Or.inr ⟨"CausalStore", List.mem_of_getElem? (i := 1) rfl⟩⟩
theorem fl_S_132 : oF RS 132 2 2 := ⟨_, rfl, by decide, Or.inr ⟨"CausalStore", List.mem_of_getElem? (i := 9) rfl⟩⟩
theorem fl_S_135 : oF RS 135 1 3 := ⟨_, rfl, by decide, Or.inr ⟨"CausalStore", List.mem_of_getElem? (i := 3) rfl⟩⟩
theorem mx_S_138 : Cond.methodLink RS 138 Lib.Math.max.name ∈ oAll := oMem1 (i := 176) rfl rfl
theorem fl_S_144 : oF RS 144 2 3 := ⟨_, rfl, by decide, Or.inr ⟨"CausalStore", List.mem_of_getElem? (i := 10) rfl⟩⟩
theorem ml_S_147 : oMl RS 147 M_R_append := Or.inr ⟨"CausalStore", List.mem_of_getElem? (i := 11) rfl⟩
theorem ml_S_150 : oMl RS 150 M_S_isCenter := Or.inl (oMem2 (i := 36) rfl rfl)
theorem ml_S_153 : oMl RS 153 M_S_isPartition := Or.inl (oMem2 (i := 52) rfl rfl)
theorem fl_S_156 : oF RS 156 4 1 := ⟨_, rfl, by decide, Or.inr ⟨"CausalStore", List.mem_of_getElem? (i := 6) rfl⟩⟩
theorem ml_S_159 : oMl RS 159 M_R_at := Or.inr ⟨"CausalStore", List.mem_of_getElem? (i := 13) rfl⟩
theorem ml_S_162 : oMl RS 162 M_S_missingNeeds := Or.inl (oMem2 (i := 55) rfl rfl)
theorem fl_S_165 : oF RS 165 2 0 := ⟨_, rfl, by decide, Or.inr ⟨"CausalStore", List.mem_of_getElem? (i := 7) rfl⟩⟩
theorem fl_S_169 : oF RS 169 1 4 := ⟨_, rfl, by decide, Or.inr ⟨"CausalStore", List.mem_of_getElem? (i := 4) rfl⟩⟩
theorem fl_S_172 : oF RS 172 1 2 := ⟨_, rfl, by decide, Or.inr ⟨"CausalStore", List.mem_of_getElem? (i := 2) rfl⟩⟩
theorem fl_S_175 : oF RS 175 1 5 := ⟨_, rfl, by decide, Or.inr ⟨"CausalStore", List.mem_of_getElem? (i := 5) rfl⟩⟩
theorem fl_S_178 : oF RS 178 1 0 := ⟨_, rfl, by decide, Or.inr ⟨"CausalStore", List.mem_of_getElem? (i := 0) rfl⟩⟩
theorem ml_S_179 : oMl RS 179 M_S_greater := Or.inl (oMem1 (i := 202) rfl rfl)
theorem ml_S_182 : oMl RS 182 M_S_isCovered := Or.inl (oMem1 (i := 187) rfl rfl)
theorem ml_S_186 : oMl RS 186 M_S_hasKey := Or.inl (oMem1 (i := 239) rfl rfl)
theorem ml_S_190 : oMl RS 190 M_S_visible := Or.inl (oMem2 (i := 59) rfl rfl)
theorem fl_S_193 : oF RS 193 3 3 := ⟨_, rfl, by decide, Or.inr ⟨"CausalStore", List.mem_of_getElem? (i := 14) rfl⟩⟩
theorem fs_S_98 : oFs RS 98 3 5 (.int) := ⟨fl_S_98, fun q h => by
  cases h
  exact ⟨rfl, by decide +kernel⟩⟩
theorem ml_S_196 : oMl RS 196 M_S_dueWrite := Or.inl (oMem2 (i := 6) rfl rfl)
theorem fl_S_200 : oF RS 200 3 4 := ⟨_, rfl, by decide, Or.inr ⟨"CausalStore", List.mem_of_getElem? (i := 15) rfl⟩⟩
theorem fs_S_101 : oFs RS 101 3 6 (.int) := ⟨fl_S_101, fun q h => by
  cases h
  exact ⟨rfl, by decide +kernel⟩⟩
theorem ml_S_203 : oMl RS 203 M_JA_fill := Or.inl (oMem1 (i := 35) rfl rfl)
theorem cl_L_7 : Cond.classLink RL 7 RS ∈ oAll := oMem1 (i := 11) rfl rfl
theorem ml_L_9 : oMl RL 9 M_S_init := Or.inl (oMem1 (i := 13) rfl rfl)
theorem cl_L_10 : Cond.classLink RL 10 RN ∈ oAll := oMem2 (i := 101) rfl rfl
theorem ml_L_12 : oMl RL 12 M_N_init := Or.inl (oMem2 (i := 103) rfl rfl)
theorem ml_L_13 : oMl RL 13 M_S_put := Or.inl (oMem1 (i := 154) rfl rfl)
theorem ml_L_17 : oMl RL 17 M_N_put := Or.inl (oMem2 (i := 165) rfl rfl)
theorem ml_L_18 : oMl RL 18 M_S_get := Or.inl (oMem1 (i := 218) rfl rfl)
theorem ml_L_22 : oMl RL 22 M_N_get := Or.inl (oMem2 (i := 192) rfl rfl)
theorem ml_L_23 : oMl RL 23 M_S_begin := Or.inl (oMem1 (i := 222) rfl rfl)
theorem ml_L_27 : oMl RL 27 M_N_begin := Or.inl (oMem2 (i := 200) rfl rfl)
theorem ml_L_28 : oMl RL 28 M_S_read := Or.inl (oMem1 (i := 231) rfl rfl)
theorem ml_L_32 : oMl RL 32 M_N_read := Or.inl (oMem2 (i := 204) rfl rfl)
theorem ml_L_33 : oMl RL 33 M_S_got := Or.inl (oMem2 (i := 20) rfl rfl)
theorem ml_L_36 : oMl RL 36 M_N_got := Or.inl (oMem2 (i := 226) rfl rfl)
theorem ml_L_37 : oMl RL 37 M_S_rounds := Or.inl (oMem2 (i := 24) rfl rfl)
theorem ml_L_40 : oMl RL 40 M_N_rounds := Or.inl (oMem2 (i := 230) rfl rfl)
theorem ml_L_41 : oMl RL 41 M_S_deliver := Or.inl (oMem2 (i := 28) rfl rfl)
theorem ml_L_45 : oMl RL 45 M_N_deliver := Or.inl (oMem2 (i := 234) rfl rfl)
theorem ml_L_46 : oMl RL 46 M_S_serve := Or.inl (oMem2 (i := 48) rfl rfl)
theorem ml_L_49 : oMl RL 49 M_N_serve := Or.inl (oMem3 (i := 2) rfl rfl)
theorem ml_L_50 : oMl RL 50 M_S_flight := Or.inl (oMem2 (i := 63) rfl rfl)
theorem ml_L_53 : oMl RL 53 M_N_flight := Or.inl (oMem3 (i := 10) rfl rfl)
theorem ml_L_54 : oMl RL 54 M_S_sent := Or.inl (oMem2 (i := 67) rfl rfl)
theorem ml_L_57 : oMl RL 57 M_N_sent := Or.inl (oMem3 (i := 14) rfl rfl)
theorem ml_L_58 : oMl RL 58 M_S_pending := Or.inl (oMem2 (i := 68) rfl rfl)
theorem ml_L_61 : oMl RL 61 M_N_pending := Or.inl (oMem3 (i := 18) rfl rfl)
theorem ml_L_62 : oMl RL 62 M_S_lacks := Or.inl (oMem2 (i := 72) rfl rfl)
theorem ml_L_65 : oMl RL 65 M_N_lacks := Or.inl (oMem3 (i := 22) rfl rfl)
theorem ml_L_66 : oMl RL 66 M_S_latest := Or.inl (oMem2 (i := 76) rfl rfl)
theorem ml_L_69 : oMl RL 69 M_N_latest := Or.inl (oMem3 (i := 26) rfl rfl)
theorem ml_L_70 : oMl RL 70 M_S_visible := Or.inl (oMem2 (i := 80) rfl rfl)
theorem ml_L_73 : oMl RL 73 M_N_visible := Or.inl (oMem3 (i := 30) rfl rfl)
theorem ml_L_74 : oMl RL 74 M_S_clock := Or.inl (oMem2 (i := 81) rfl rfl)
theorem ml_L_77 : oMl RL 77 M_N_clock := Or.inl (oMem3 (i := 34) rfl rfl)
theorem ml_L_78 : oMl RL 78 M_S_context := Or.inl (oMem2 (i := 85) rfl rfl)
theorem ml_L_81 : oMl RL 81 M_N_context := Or.inl (oMem3 (i := 38) rfl rfl)
theorem ml_L_82 : oMl RL 82 M_S_nearest := Or.inl (oMem2 (i := 89) rfl rfl)
theorem ml_L_85 : oMl RL 85 M_N_nearest := Or.inl (oMem3 (i := 42) rfl rfl)
theorem ml_L_86 : oMl RL 86 M_S_about := Or.inl (oMem2 (i := 93) rfl rfl)
theorem ml_L_89 : oMl RL 89 M_N_about := Or.inl (oMem3 (i := 46) rfl rfl)
theorem ml_L_90 : oMl RL 90 M_S_dependency := Or.inl (oMem2 (i := 97) rfl rfl)
theorem ml_L_93 : oMl RL 93 M_N_dependency := Or.inl (oMem3 (i := 50) rfl rfl)
theorem oi_N_1 : Cond.methodLink RN 1 Lib.objectInit ∈ oAll := oMem2 (i := 106) rfl rfl
theorem fl_N_7 : oF RN 7 5 1 := ⟨_, rfl, by decide, Or.inl (oMem2 (i := 108) rfl rfl)⟩
theorem ff_N_7 : oFf RN 7 5 1 (.array .int) := ⟨_, rfl, by decide, oMem2 (i := 108) rfl rfl, rfl, rfl, by decide +kernel⟩
theorem fl_N_13 : oF RN 13 5 2 := ⟨_, rfl, by decide, Or.inl (oMem2 (i := 109) rfl rfl)⟩
theorem ff_N_13 : oFf RN 13 5 2 (.array .int) := ⟨_, rfl, by decide, oMem2 (i := 109) rfl rfl, rfl, rfl, by decide +kernel⟩
theorem fl_N_16 : oF RN 16 5 3 := ⟨_, rfl, by decide, Or.inl (oMem2 (i := 110) rfl rfl)⟩
theorem ff_N_16 : oFf RN 16 5 3 (.array .int) := ⟨_, rfl, by decide, oMem2 (i := 110) rfl rfl, rfl, rfl, by decide +kernel⟩
theorem fl_N_19 : oF RN 19 5 4 := ⟨_, rfl, by decide, Or.inl (oMem2 (i := 111) rfl rfl)⟩
theorem ff_N_19 : oFf RN 19 5 4 (.array .int) := ⟨_, rfl, by decide, oMem2 (i := 111) rfl rfl, rfl, rfl, by decide +kernel⟩
theorem fl_N_22 : oF RN 22 5 5 := ⟨_, rfl, by decide, Or.inl (oMem2 (i := 112) rfl rfl)⟩
theorem ff_N_22 : oFf RN 22 5 5 (.array .int) := ⟨_, rfl, by decide, oMem2 (i := 112) rfl rfl, rfl, rfl, by decide +kernel⟩
theorem fl_N_25 : oF RN 25 5 6 := ⟨_, rfl, by decide, Or.inl (oMem2 (i := 113) rfl rfl)⟩
theorem ff_N_25 : oFf RN 25 5 6 (.array .boolean) := ⟨_, rfl, by decide, oMem2 (i := 113) rfl rfl, rfl, rfl, by decide +kernel⟩
theorem fl_N_29 : oF RN 29 5 7 := ⟨_, rfl, by decide, Or.inl (oMem2 (i := 114) rfl rfl)⟩
theorem ff_N_29 : oFf RN 29 5 7 (.array .int) := ⟨_, rfl, by decide, oMem2 (i := 114) rfl rfl, rfl, rfl, by decide +kernel⟩
theorem fl_N_32 : oF RN 32 5 8 := ⟨_, rfl, by decide, Or.inl (oMem2 (i := 115) rfl rfl)⟩
theorem ff_N_32 : oFf RN 32 5 8 (.array .int) := ⟨_, rfl, by decide, oMem2 (i := 115) rfl rfl, rfl, rfl, by decide +kernel⟩
theorem fl_N_35 : oF RN 35 5 9 := ⟨_, rfl, by decide, Or.inl (oMem2 (i := 116) rfl rfl)⟩
theorem ff_N_35 : oFf RN 35 5 9 (.array .int) := ⟨_, rfl, by decide, oMem2 (i := 116) rfl rfl, rfl, rfl, by decide +kernel⟩
theorem fl_N_38 : oF RN 38 5 10 := ⟨_, rfl, by decide, Or.inl (oMem2 (i := 117) rfl rfl)⟩
theorem ff_N_38 : oFf RN 38 5 10 (.array .int) := ⟨_, rfl, by decide, oMem2 (i := 117) rfl rfl, rfl, rfl, by decide +kernel⟩
theorem fl_N_41 : oF RN 41 5 11 := ⟨_, rfl, by decide, Or.inl (oMem2 (i := 118) rfl rfl)⟩
theorem ff_N_41 : oFf RN 41 5 11 (.array .int) := ⟨_, rfl, by decide, oMem2 (i := 118) rfl rfl, rfl, rfl, by decide +kernel⟩
theorem fl_N_44 : oF RN 44 5 12 := ⟨_, rfl, by decide, Or.inl (oMem2 (i := 119) rfl rfl)⟩
theorem ff_N_44 : oFf RN 44 5 12 (.array .int) := ⟨_, rfl, by decide, oMem2 (i := 119) rfl rfl, rfl, rfl, by decide +kernel⟩
theorem fl_N_47 : oF RN 47 5 13 := ⟨_, rfl, by decide, Or.inl (oMem2 (i := 120) rfl rfl)⟩
theorem ff_N_47 : oFf RN 47 5 13 (.array .int) := ⟨_, rfl, by decide, oMem2 (i := 120) rfl rfl, rfl, rfl, by decide +kernel⟩
theorem fl_N_50 : oF RN 50 5 14 := ⟨_, rfl, by decide, Or.inl (oMem2 (i := 121) rfl rfl)⟩
theorem ff_N_50 : oFf RN 50 5 14 (.array .int) := ⟨_, rfl, by decide, oMem2 (i := 121) rfl rfl, rfl, rfl, by decide +kernel⟩
theorem fl_N_53 : oF RN 53 5 15 := ⟨_, rfl, by decide, Or.inl (oMem2 (i := 122) rfl rfl)⟩
theorem ff_N_53 : oFf RN 53 5 15 (.array .int) := ⟨_, rfl, by decide, oMem2 (i := 122) rfl rfl, rfl, rfl, by decide +kernel⟩
theorem fl_N_56 : oF RN 56 5 16 := ⟨_, rfl, by decide, Or.inl (oMem2 (i := 123) rfl rfl)⟩
theorem ff_N_56 : oFf RN 56 5 16 (.array .int) := ⟨_, rfl, by decide, oMem2 (i := 123) rfl rfl, rfl, rfl, by decide +kernel⟩
theorem fl_N_59 : oF RN 59 5 17 := ⟨_, rfl, by decide, Or.inl (oMem2 (i := 124) rfl rfl)⟩
theorem ff_N_59 : oFf RN 59 5 17 (.array .int) := ⟨_, rfl, by decide, oMem2 (i := 124) rfl rfl, rfl, rfl, by decide +kernel⟩
theorem fl_N_62 : oF RN 62 5 18 := ⟨_, rfl, by decide, Or.inl (oMem2 (i := 125) rfl rfl)⟩
theorem ff_N_62 : oFf RN 62 5 18 (.array .int) := ⟨_, rfl, by decide, oMem2 (i := 125) rfl rfl, rfl, rfl, by decide +kernel⟩
theorem fl_N_65 : oF RN 65 5 0 := ⟨_, rfl, by decide, Or.inl (oMem2 (i := 107) rfl rfl)⟩
theorem ml_N_69 : oMl RN 69 M_N_greater := Or.inl (oMem2 (i := 188) rfl rfl)
theorem ml_N_73 : oMl RN 73 M_N_out := Or.inl (oMem2 (i := 169) rfl rfl)
theorem ml_N_77 : oMl RN 77 M_N_open := Or.inl (oMem2 (i := 172) rfl rfl)
theorem ml_N_81 : oMl RN 81 M_N_near := Or.inl (oMem2 (i := 176) rfl rfl)
theorem fs_N_65 : oFs RN 65 5 0 (.int) := ⟨fl_N_65, fun q h => by
  cases h
  exact ⟨rfl, by decide +kernel⟩⟩
theorem ml_N_85 : oMl RN 85 M_N_send := Or.inl (oMem2 (i := 180) rfl rfl)
theorem ml_N_89 : oMl RN 89 M_N_see := Or.inl (oMem2 (i := 184) rfl rfl)
theorem ml_N_93 : oMl RN 93 M_N_latestOf := Or.inl (oMem2 (i := 196) rfl rfl)
theorem ml_N_96 : oMl RN 96 M_N_due := Or.inl (oMem2 (i := 215) rfl rfl)
theorem ml_N_99 : oMl RN 99 M_N_finish := Or.inl (oMem2 (i := 219) rfl rfl)
theorem ml_N_103 : oMl RN 103 M_N_lowest := Or.inl (oMem2 (i := 208) rfl rfl)
theorem ml_N_106 : oMl RN 106 M_N_second := Or.inl (oMem2 (i := 211) rfl rfl)
theorem ml_N_109 : oMl RN 109 M_N_count := Or.inl (oMem2 (i := 223) rfl rfl)
theorem ml_N_112 : oMl RN 112 M_N_link := Or.inl (oMem2 (i := 238) rfl rfl)
theorem ml_N_115 : oMl RN 115 M_N_missing := Or.inl (oMem3 (i := 6) rfl rfl)
-- single words
theorem it_S : Cond.instantiable RS 5 ∈ oAll := oMem1 (i := 12) rfl rfl
theorem nt_S : Cond.initialized RS ∈ oAll := oMem1 (i := 1) rfl rfl
theorem it_W : Cond.instantiable RW 6 ∈ oAll := oMem1 (i := 27) rfl rfl
theorem nt_W : Cond.initialized RW ∈ oAll := oMem1 (i := 2) rfl rfl
theorem it_C : Cond.instantiable RC 4 ∈ oAll := oMem1 (i := 64) rfl rfl
theorem nt_C : Cond.initialized RC ∈ oAll := oMem1 (i := 4) rfl rfl
theorem it_K : Cond.instantiable RK 7 ∈ oAll := oMem1 (i := 102) rfl rfl
theorem nt_K : Cond.initialized RK ∈ oAll := oMem1 (i := 6) rfl rfl
theorem it_R : Cond.instantiable RR 2 ∈ oAll := oMem1 (i := 71) rfl rfl
theorem nt_R : Cond.initialized RR ∈ oAll := oMem1 (i := 5) rfl rfl
theorem it_N : Cond.instantiable RN 19 ∈ oAll := oMem2 (i := 102) rfl rfl
theorem nt_N : Cond.initialized RN ∈ oAll := oMem1 (i := 7) rfl rfl
theorem wm_s : Cond.static Lib.Math.max.name ∈ oAll := oMem1 (i := 177) rfl rfl
theorem wm_i : Cond.initialized "java/lang/Math" ∈ oAll := oMem1 (i := 8) rfl rfl
theorem wm_c : Cond.code Lib.Math.max.name Lib.Math.max.code 2 (some .int) ∈ oAll := oMem1 (i := 178) rfl rfl
theorem wc_n : Cond.native arraycopyName ∈ oAll := oMem1 (i := 197) rfl rfl
theorem wc_s : Cond.static arraycopyName ∈ oAll := oMem1 (i := 196) rfl rfl
theorem wc_i : Cond.initialized "java/lang/System" ∈ oAll := oMem1 (i := 9) rfl rfl
theorem wo_i : Cond.instanceMethod Lib.objectInit ∈ oAll := oMem1 (i := 17) rfl rfl
theorem wo_c : Cond.code Lib.objectInit ⟨#[0xb1]⟩ 1 none ∈ oAll := oMem1 (i := 18) rfl rfl
theorem wa_i : Cond.arrayClass .int ∈ oAll := oMem1 (i := 63) rfl rfl
theorem wa_z : Cond.arrayClass .boolean ∈ oAll := oMem1 (i := 84) rfl rfl
