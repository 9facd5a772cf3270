/-! the methods: name, bytes, locals, answer, room, table; their code by rows -/
def M_Dv_init : mm_M := (yX0_init, cX0_init, 5, none, 1, 20, [])
def M_Dv_drives : mm_M := (yX0_drives, cX0_drives, 2, (some .boolean), 0, 0, [])
def M_Dv_isWired : mm_M := (yX0_isWired, cX0_isWired, 2, (some .boolean), 0, 0, [])
def M_Dv_wire : mm_M := (yX0_wire, cX0_wire, 2, none, 0, 0, [])
def M_Dv_setCore : mm_M := (yX0_setCore, cX0_setCore, 3, none, 0, 0, [])
def M_Dv_clearOutputs : mm_M := (yX0_clearOutputs, cX0_clearOutputs, 1, none, 0, 0, [])
def M_Dv_outputs : mm_M := (yX0_outputs, cX0_outputs, 1, (some .int), 0, 0, [])
def M_Dv_hasBoundary : mm_M := (yX0_hasBoundary, cX0_hasBoundary, 1, (some .boolean), 0, 0, [])
def M_Dv_dataLength : mm_M := (yX0_dataLength, cX0_dataLength, 1, (some .int), 1, 20, [])
def M_Dv_captureData : mm_M := (yX0_captureData, cX0_captureData, 2, none, 1, 20, [])
def M_Dv_shiftData : mm_M := (yX0_shiftData, cX0_shiftData, 3, (some .boolean), 2, 40, [])
def M_Dv_shiftInstruction : mm_M := (yX0_shiftInstruction, cX0_shiftInstruction, 3, (some .boolean), 1, 23, [])
def M_Dv_updateData : mm_M := (yX0_updateData, cX0_updateData, 1, none, 1, 20, [])
def M_Dv_shiftedDown : mm_M := (yX0_shiftedDown, cX0_shiftedDown, 4, (some .int), 0, 0, [])
def M_Nt_init : mm_M := (yX1_init, cX1_init, 5, none, 1, 20, [])
def M_Nt_carries : mm_M := (yX1_carries, cX1_carries, 3, (some .boolean), 1, 20, [])
def M_Nt_breakAlone : mm_M := (yX1_breakAlone, cX1_breakAlone, 2, none, 1, 20, [])
def M_Nt_breakWith : mm_M := (yX1_breakWith, cX1_breakWith, 3, none, 1, 20, [])
def M_Nt_mend : mm_M := (yX1_mend, cX1_mend, 1, none, 0, 0, [])
def M_Cb_init : mm_M := (yX2_init, cX2_init, 1, none, 4, 80, [])
def M_Cb_device : mm_M := (yX2_device, cX2_device, 5, (some .int), 6, 108, [])
def M_Cb_net : mm_M := (yX2_net, cX2_net, 7, (some .int), 6, 108, [])
def M_Cb_fault : mm_M := (yX2_fault, cX2_fault, 4, none, 6, 89, [])
def M_Cb_core : mm_M := (yX2_core, cX2_core, 4, none, 6, 89, [])
def M_Cb_clock : mm_M := (yX2_clock, cX2_clock, 3, (some .boolean), 6, 135, [])
def M_Cb_state : mm_M := (yX2_state, cX2_state, 1, (some .int), 0, 0, [])
def M_Cb_look : mm_M := (yX2_look, cX2_look, 4, (some .int), 6, 89, [])
def M_Cb_value : mm_M := (yX2_value, cX2_value, 2, (some .boolean), 6, 89, [])
def M_Cb_find : mm_M := (yX2_find, cX2_find, 2, (some .int), 7, 161, [])
def M_Cb_found : mm_M := (yX2_found, cX2_found, 2, (some .int), 6, 89, [])
def M_Cb_test : mm_M := (yX2_test, cX2_test, 3, (some .int), 8, 183, [])
def M_Cb_saw : mm_M := (yX2_saw, cX2_saw, 2, (some .int), 6, 89, [])
def M_Cb_clocks : mm_M := (yX2_clocks, cX2_clocks, 1, (some .int), 0, 0, [])
def M_Cb_isDevice : mm_M := (yX2_isDevice, cX2_isDevice, 2, (some .boolean), 1, 20, [])
def M_Cb_isCell : mm_M := (yX2_isCell, cX2_isCell, 3, (some .boolean), 3, 64, [])
def M_Cb_isNet : mm_M := (yX2_isNet, cX2_isNet, 2, (some .boolean), 1, 20, [])
def M_Cb_restartDevices : mm_M := (yX2_restartDevices, cX2_restartDevices, 2, none, 4, 86, [])
def M_Cb_step : mm_M := (yX2_step, cX2_step, 4, (some .boolean), 5, 112, [])
def M_Cb_enterState : mm_M := (yX2_enterState, cX2_enterState, 3, none, 3, 64, [])
def M_Cb_doState : mm_M := (yX2_doState, cX2_doState, 5, (some .boolean), 4, 88, [])
def M_Cb_signalsOf : mm_M := (yX2_signalsOf, cX2_signalsOf, 5, (some .int), 3, 64, [])
def M_Cb_goToIdle : mm_M := (yX2_goToIdle, cX2_goToIdle, 2, none, 6, 135, [])
def M_Cb_scan : mm_M := (yX2_scan, cX2_scan, 7, none, 6, 135, [])
def M_Cb_wordsBeforeAllOnes : mm_M := (yX2_wordsBeforeAllOnes, cX2_wordsBeforeAllOnes, 2, (some .int), 0, 0, [])
def M_Cb_giveAllExtest : mm_M := (yX2_giveAllExtest, cX2_giveAllExtest, 3, none, 7, 161, [])
def M_Cb_allCells : mm_M := (yX2_allCells, cX2_allCells, 3, (some .int), 3, 64, [])
def M_Cb_forgetSeen : mm_M := (yX2_forgetSeen, cX2_forgetSeen, 2, none, 3, 64, [])
def M_Cb_patternOfRound : mm_M := (yX2_patternOfRound, cX2_patternOfRound, 5, (some .int), 4, 88, [])
def M_Cb_noteSeen : mm_M := (yX2_noteSeen, cX2_noteSeen, 5, none, 4, 88, [])
def M_Cb_placeInScan : mm_M := (yX2_placeInScan, cX2_placeInScan, 5, (some .int), 3, 64, [])
def M_Cb_countFaulty : mm_M := (yX2_countFaulty, cX2_countFaulty, 3, (some .int), 3, 64, [])
def M_Md_init : mm_M := (yX3_init, cX3_init, 1, none, 1, 20, [])
def M_Md_thrown : mm_M := (yX3_thrown, cX3_thrown, 1, (some .int), 0, 0, [])
def M_Md_out : mm_M := (yX3_out, cX3_out, 2, (some .boolean), 0, 0, [])
def M_Md_fail : mm_M := (yX3_fail, cX3_fail, 2, (some .int), 0, 0, [])
def M_Md_after : mm_M := (yX3_after, cX3_after, 2, (some .int), 0, 0, [])
def M_Md_device : mm_M := (yX3_device, cX3_device, 8, (some .int), 0, 0, [])
def M_Md_isCell : mm_M := (yX3_isCell, cX3_isCell, 3, (some .boolean), 1, 21, [])
def M_Md_net : mm_M := (yX3_net, cX3_net, 8, (some .int), 2, 43, [])
def M_Md_heal : mm_M := (yX3_heal, cX3_heal, 3, none, 0, 0, [])
def M_Md_fault : mm_M := (yX3_fault, cX3_fault, 5, none, 1, 22, [])
def M_Md_core : mm_M := (yX3_core, cX3_core, 4, none, 2, 43, [])
def M_Md_output : mm_M := (yX3_output, cX3_output, 2, (some .int), 0, 0, [])
def M_Md_valueOf : mm_M := (yX3_valueOf, cX3_valueOf, 4, (some .int), 1, 21, [])
def M_Md_signal : mm_M := (yX3_signal, cX3_signal, 2, (some .int), 2, 44, [])
def M_Md_down : mm_M := (yX3_down, cX3_down, 6, (some .int), 0, 0, [])
def M_Md_shiftAll : mm_M := (yX3_shiftAll, cX3_shiftAll, 6, (some .int), 1, 25, [])
def M_Md_capture : mm_M := (yX3_capture, cX3_capture, 4, none, 3, 65, [])
def M_Md_update : mm_M := (yX3_update, cX3_update, 3, none, 0, 0, [])
def M_Md_numberIn : mm_M := (yX3_numberIn, cX3_numberIn, 4, (some .int), 0, 0, [])
def M_Md_tick : mm_M := (yX3_tick, cX3_tick, 6, (some .int), 4, 88, [])
def M_Md_clock : mm_M := (yX3_clock, cX3_clock, 3, (some .boolean), 5, 113, [])
def M_Md_goIdle : mm_M := (yX3_goIdle, cX3_goIdle, 3, none, 5, 113, [])
def M_Md_comeTo : mm_M := (yX3_comeTo, cX3_comeTo, 4, none, 5, 113, [])
def M_Md_leave : mm_M := (yX3_leave, cX3_leave, 3, none, 5, 113, [])
def M_Md_find : mm_M := (yX3_find, cX3_find, 5, (some .int), 6, 136, [])
def M_Md_found : mm_M := (yX3_found, cX3_found, 2, (some .int), 1, 21, [])
def M_Md_round : mm_M := (yX3_round, cX3_round, 9, none, 6, 136, [])
def M_Md_test : mm_M := (yX3_test, cX3_test, 5, (some .int), 7, 164, [])
def M_Md_saw : mm_M := (yX3_saw, cX3_saw, 2, (some .int), 1, 21, [])
def M_Md_state : mm_M := (yX3_state, cX3_state, 1, (some .int), 0, 0, [])
def M_Md_look : mm_M := (yX3_look, cX3_look, 5, (some .int), 3, 65, [])
def M_Md_value : mm_M := (yX3_value, cX3_value, 2, (some .boolean), 2, 44, [])
def M_Md_clocks : mm_M := (yX3_clocks, cX3_clocks, 1, (some .int), 0, 0, [])
def M_Mh_max : mm_M := (yJ9_max_7cf53, cJ9_max_7cf53, 2, (some .int), 0, 0, [])
def M_Ac_init : mm_M := (yJxa1e45_init_da8c8, cJxa1e45_init_da8c8, 1, none, 1, 20, [])
def M_As_init : mm_M := (yJxc12de_init_da8c8, cJxc12de_init_da8c8, 1, none, 2, 40, [])
def M_Al_init : mm_M := (yJx4a65c_init_da8c8, cJx4a65c_init_da8c8, 1, none, 3, 60, [])
def M_Al_grow1 : mm_M := (yJx4a65c_grow_92f84, cJx4a65c_grow_92f84, 4, (some (.array (.object "java/lang/Object"))), 1, 21, [])
def M_Al_grow0 : mm_M := (yJx4a65c_grow_d5877, cJx4a65c_grow_d5877, 1, (some (.array (.object "java/lang/Object"))), 2, 44, [])
def M_Al_size : mm_M := (yJx4a65c_size_8abf5, cJx4a65c_size_8abf5, 1, (some .int), 0, 0, [])
def M_Al_isEmpty : mm_M := (yJx4a65c_isEmpty_aae02, cJx4a65c_isEmpty_aae02, 1, (some .boolean), 0, 0, [])
def M_Al_elementData : mm_M := (yJx4a65c_elementData_915e3, cJx4a65c_elementData_915e3, 2, (some (.object "java/lang/Object")), 0, 0, [])
def M_Al_get : mm_M := (yJx4a65c_get_915e3, cJx4a65c_get_915e3, 2, (some (.object "java/lang/Object")), 2, 43, [])
def M_Al_add3 : mm_M := (yJx4a65c_add_72be8, cJx4a65c_add_72be8, 4, none, 3, 64, [])
def M_Al_add : mm_M := (yJx4a65c_add_9ea2d, cJx4a65c_add_9ea2d, 2, (some .boolean), 4, 87, [])
def M_Ob_checkIndex : mm_M := (yJ15_checkIndex_7cf53, cJ15_checkIndex_7cf53, 2, (some .int), 1, 22, [])
def M_Pc_checkIndex : mm_M := (yJ3_checkIndex_8e157, cJ3_checkIndex_8e157, 3, (some .int), 0, 0, [])
def M_Lw_device : mm_M := (yL_device, cL_device, 7, (some .int), 7, 132, [(0, 14, 17, 13), (0, 14, 21, 15)])
def M_Lw_net : mm_M := (yL_net, cL_net, 7, (some .int), 7, 134, [(0, 14, 17, 13), (0, 14, 21, 15)])
def M_Lw_fault : mm_M := (yL_fault, cL_fault, 5, (some .int), 7, 112, [(0, 7, 10, 13)])
def M_Lw_core : mm_M := (yL_core, cL_core, 5, (some .int), 7, 112, [(0, 7, 10, 13)])
def M_Lw_clock : mm_M := (yL_clock, cL_clock, 5, (some .int), 7, 157, [(0, 17, 20, 15)])
def M_Lw_look : mm_M := (yL_look, cL_look, 5, (some .int), 7, 112, [(0, 10, 13, 13)])
def M_Lw_value : mm_M := (yL_value, cL_value, 4, (some .int), 7, 110, [(0, 16, 19, 13)])
def M_Lw_find : mm_M := (yL_find, cL_find, 3, (some .int), 8, 182, [(0, 8, 11, 15)])
def M_Lw_found : mm_M := (yL_found, cL_found, 4, (some .int), 7, 110, [(0, 9, 12, 48)])
def M_Lw_test : mm_M := (yL_test, cL_test, 3, (some .int), 9, 205, [(0, 8, 11, 15)])
def M_Lw_saw : mm_M := (yL_saw, cL_saw, 4, (some .int), 7, 110, [(0, 9, 12, 48)])
def M_Lw_law : mm_M := (yL_law, cL_law, 7, ret, 10, 227, [])
def T_Dv_init : mm_T := [(0, .aload_n 0, 1, 0), (1, .invokespecial 3, 3, 0), (4, .aload_n 0, 1, 0), (5, .iload_n 1, 1, 0), (6, .putfield 9, 3, 0), (9, .aload_n 0, 1, 0), (10, .iload_n 2, 1, 0), (11, .putfield 15, 3, 0), (14, .aload_n 0, 1, 0), (15, .iload_n 3, 1, 0), (16, .putfield 18, 3, 0), (19, .aload_n 0, 1, 0), (20, .iload 4, 2, 0), (22, .iconst 1, 1, 1), (23, .iload_n 3, 1, 0), (24, .ishl, 1, 0), (25, .iconst 1, 1, 1), (26, .isub, 1, 0), (27, .iand, 1, 0), (28, .putfield 21, 3, 0), (31, .aload_n 0, 1, 0), (32, .iconst 1, 1, 1), (33, .putfield 24, 3, 0), (36, .return_, 1, 0)]
set_option maxRecDepth 20000 in
theorem ok_Dv_init : mm_ok M_Dv_init T_Dv_init := by unfold mm_ok; decide +kernel
def T_Dv_drives : mm_T := [(0, .aload_n 0, 1, 0), (1, .getfield 21, 3, 0), (4, .iload_n 1, 1, 0), (5, .iushr, 1, 0), (6, .iconst 1, 1, 1), (7, .iand, 1, 0), (8, .iconst 1, 1, 1), (9, .if_icmp .ne 7, 3, 0), (12, .iconst 1, 1, 1), (13, .goto 4, 3, 0), (16, .iconst 0, 1, 0), (17, .ireturn, 1, 0)]
set_option maxRecDepth 20000 in
theorem ok_Dv_drives : mm_ok M_Dv_drives T_Dv_drives := by unfold mm_ok; decide +kernel
def T_Dv_isWired : mm_T := [(0, .aload_n 0, 1, 0), (1, .getfield 27, 3, 0), (4, .iload_n 1, 1, 0), (5, .iushr, 1, 0), (6, .iconst 1, 1, 1), (7, .iand, 1, 0), (8, .iconst 1, 1, 1), (9, .if_icmp .ne 7, 3, 0), (12, .iconst 1, 1, 1), (13, .goto 4, 3, 0), (16, .iconst 0, 1, 0), (17, .ireturn, 1, 0)]
set_option maxRecDepth 20000 in
theorem ok_Dv_isWired : mm_ok M_Dv_isWired T_Dv_isWired := by unfold mm_ok; decide +kernel
def T_Dv_wire : mm_T := [(0, .aload_n 0, 1, 0), (1, .dup, 1, 0), (2, .getfield 27, 3, 0), (5, .iconst 1, 1, 1), (6, .iload_n 1, 1, 0), (7, .ishl, 1, 0), (8, .ior, 1, 0), (9, .putfield 27, 3, 0), (12, .return_, 1, 0)]
set_option maxRecDepth 20000 in
theorem ok_Dv_wire : mm_ok M_Dv_wire T_Dv_wire := by unfold mm_ok; decide +kernel
def T_Dv_setCore : mm_T := [(0, .iload_n 2, 1, 0), (1, .ifCond .eq 18, 3, 0), (4, .aload_n 0, 1, 0), (5, .dup, 1, 0), (6, .getfield 30, 3, 0), (9, .iconst 1, 1, 1), (10, .iload_n 1, 1, 0), (11, .ishl, 1, 0), (12, .ior, 1, 0), (13, .putfield 30, 3, 0), (16, .goto 17, 3, 0), (19, .aload_n 0, 1, 0), (20, .dup, 1, 0), (21, .getfield 30, 3, 0), (24, .iconst 1, 1, 1), (25, .iload_n 1, 1, 0), (26, .ishl, 1, 0), (27, .iconst (-1), 1, (-1)), (28, .ixor, 1, 0), (29, .iand, 1, 0), (30, .putfield 30, 3, 0), (33, .return_, 1, 0)]
set_option maxRecDepth 20000 in
theorem ok_Dv_setCore : mm_ok M_Dv_setCore T_Dv_setCore := by unfold mm_ok; decide +kernel
def T_Dv_clearOutputs : mm_T := [(0, .aload_n 0, 1, 0), (1, .iconst 0, 1, 0), (2, .putfield 33, 3, 0), (5, .aload_n 0, 1, 0), (6, .iconst 0, 1, 0), (7, .putfield 30, 3, 0), (10, .return_, 1, 0)]
set_option maxRecDepth 20000 in
theorem ok_Dv_clearOutputs : mm_ok M_Dv_clearOutputs T_Dv_clearOutputs := by unfold mm_ok; decide +kernel
def T_Dv_outputs : mm_T := [(0, .aload_n 0, 1, 0), (1, .getfield 24, 3, 0), (4, .ifCond .ne 10, 3, 0), (7, .aload_n 0, 1, 0), (8, .getfield 33, 3, 0), (11, .goto 7, 3, 0), (14, .aload_n 0, 1, 0), (15, .getfield 30, 3, 0), (18, .ireturn, 1, 0)]
set_option maxRecDepth 20000 in
theorem ok_Dv_outputs : mm_ok M_Dv_outputs T_Dv_outputs := by unfold mm_ok; decide +kernel
def T_Dv_hasBoundary : mm_T := [(0, .aload_n 0, 1, 0), (1, .getfield 24, 3, 0), (4, .ifCond .eq 11, 3, 0), (7, .aload_n 0, 1, 0), (8, .getfield 24, 3, 0), (11, .iconst 2, 1, 2), (12, .if_icmp .ne 7, 3, 0), (15, .iconst 1, 1, 1), (16, .goto 4, 3, 0), (19, .iconst 0, 1, 0), (20, .ireturn, 1, 0)]
set_option maxRecDepth 20000 in
theorem ok_Dv_hasBoundary : mm_ok M_Dv_hasBoundary T_Dv_hasBoundary := by unfold mm_ok; decide +kernel
def T_Dv_dataLength : mm_T := [(0, .aload_n 0, 1, 0), (1, .invokevirtual 36, 3, 0), (4, .ifCond .eq 8, 3, 0), (7, .aload_n 0, 1, 0), (8, .getfield 18, 3, 0), (11, .ireturn, 1, 0), (12, .aload_n 0, 1, 0), (13, .getfield 24, 3, 0), (16, .iconst 1, 1, 1), (17, .if_icmp .ne 8, 3, 0), (20, .bipush 32, 2, 32), (22, .goto 4, 3, 0), (25, .iconst 1, 1, 1), (26, .ireturn, 1, 0)]
set_option maxRecDepth 20000 in
theorem ok_Dv_dataLength : mm_ok M_Dv_dataLength T_Dv_dataLength := by unfold mm_ok; decide +kernel
def T_Dv_captureData : mm_T := [(0, .aload_n 0, 1, 0), (1, .invokevirtual 36, 3, 0), (4, .ifCond .eq 11, 3, 0), (7, .aload_n 0, 1, 0), (8, .iload_n 1, 1, 0), (9, .putfield 40, 3, 0), (12, .goto 23, 3, 0), (15, .aload_n 0, 1, 0), (16, .aload_n 0, 1, 0), (17, .getfield 24, 3, 0), (20, .iconst 1, 1, 1), (21, .if_icmp .ne 10, 3, 0), (24, .aload_n 0, 1, 0), (25, .getfield 15, 3, 0), (28, .goto 4, 3, 0), (31, .iconst 0, 1, 0), (32, .putfield 40, 3, 0), (35, .return_, 1, 0)]
set_option maxRecDepth 20000 in
theorem ok_Dv_captureData : mm_ok M_Dv_captureData T_Dv_captureData := by unfold mm_ok; decide +kernel
def T_Dv_shiftData : mm_T := [(0, .aload_n 0, 1, 0), (1, .getfield 40, 3, 0), (4, .iconst 1, 1, 1), (5, .iand, 1, 0), (6, .iconst 1, 1, 1), (7, .if_icmp .ne 7, 3, 0), (10, .iconst 1, 1, 1), (11, .goto 4, 3, 0), (14, .iconst 0, 1, 0), (15, .istore_n 2, 1, 0), (16, .aload_n 0, 1, 0), (17, .aload_n 0, 1, 0), (18, .getfield 40, 3, 0), (21, .aload_n 0, 1, 0), (22, .invokevirtual 43, 3, 0), (25, .iload_n 1, 1, 0), (26, .invokestatic 47, 3, 0), (29, .putfield 40, 3, 0), (32, .iload_n 2, 1, 0), (33, .ireturn, 1, 0)]
set_option maxRecDepth 20000 in
theorem ok_Dv_shiftData : mm_ok M_Dv_shiftData T_Dv_shiftData := by unfold mm_ok; decide +kernel
def T_Dv_shiftInstruction : mm_T := [(0, .aload_n 0, 1, 0), (1, .getfield 51, 3, 0), (4, .iconst 1, 1, 1), (5, .iand, 1, 0), (6, .iconst 1, 1, 1), (7, .if_icmp .ne 7, 3, 0), (10, .iconst 1, 1, 1), (11, .goto 4, 3, 0), (14, .iconst 0, 1, 0), (15, .istore_n 2, 1, 0), (16, .aload_n 0, 1, 0), (17, .aload_n 0, 1, 0), (18, .getfield 51, 3, 0), (21, .aload_n 0, 1, 0), (22, .getfield 9, 3, 0), (25, .iload_n 1, 1, 0), (26, .invokestatic 47, 3, 0), (29, .putfield 51, 3, 0), (32, .iload_n 2, 1, 0), (33, .ireturn, 1, 0)]
set_option maxRecDepth 20000 in
theorem ok_Dv_shiftInstruction : mm_ok M_Dv_shiftInstruction T_Dv_shiftInstruction := by unfold mm_ok; decide +kernel
def T_Dv_updateData : mm_T := [(0, .aload_n 0, 1, 0), (1, .invokevirtual 36, 3, 0), (4, .ifCond .eq 16, 3, 0), (7, .aload_n 0, 1, 0), (8, .aload_n 0, 1, 0), (9, .getfield 40, 3, 0), (12, .aload_n 0, 1, 0), (13, .getfield 21, 3, 0), (16, .iand, 1, 0), (17, .putfield 33, 3, 0), (20, .return_, 1, 0)]
set_option maxRecDepth 20000 in
theorem ok_Dv_updateData : mm_ok M_Dv_updateData T_Dv_updateData := by unfold mm_ok; decide +kernel
def T_Dv_shiftedDown : mm_T := [(0, .iload_n 0, 1, 0), (1, .iconst 1, 1, 1), (2, .iushr, 1, 0), (3, .istore_n 3, 1, 0), (4, .iload_n 2, 1, 0), (5, .ifCond .eq 13, 3, 0), (8, .iload_n 3, 1, 0), (9, .iconst 1, 1, 1), (10, .iload_n 1, 1, 0), (11, .iconst 1, 1, 1), (12, .isub, 1, 0), (13, .ishl, 1, 0), (14, .ior, 1, 0), (15, .goto 4, 3, 0), (18, .iload_n 3, 1, 0), (19, .ireturn, 1, 0)]
set_option maxRecDepth 20000 in
theorem ok_Dv_shiftedDown : mm_ok M_Dv_shiftedDown T_Dv_shiftedDown := by unfold mm_ok; decide +kernel
def T_Nt_init : mm_T := [(0, .aload_n 0, 1, 0), (1, .invokespecial 3, 3, 0), (4, .aload_n 0, 1, 0), (5, .aload_n 1, 1, 0), (6, .putfield 9, 3, 0), (9, .aload_n 0, 1, 0), (10, .iload_n 2, 1, 0), (11, .putfield 15, 3, 0), (14, .aload_n 0, 1, 0), (15, .aload_n 3, 1, 0), (16, .putfield 19, 3, 0), (19, .aload_n 0, 1, 0), (20, .iload 4, 2, 0), (22, .putfield 22, 3, 0), (25, .aload_n 0, 1, 0), (26, .iconst (-1), 1, (-1)), (27, .putfield 25, 3, 0), (30, .return_, 1, 0)]
set_option maxRecDepth 20000 in
theorem ok_Nt_init : mm_ok M_Nt_init T_Nt_init := by unfold mm_ok; decide +kernel
def T_Nt_carries : mm_T := [(0, .aload_n 0, 1, 0), (1, .getfield 25, 3, 0), (4, .ifCond .ne 5, 3, 0), (7, .iconst 0, 1, 0), (8, .ireturn, 1, 0), (9, .aload_n 0, 1, 0), (10, .getfield 25, 3, 0), (13, .iconst 1, 1, 1), (14, .if_icmp .ne 5, 3, 0), (17, .iconst 1, 1, 1), (18, .ireturn, 1, 0), (19, .aload_n 0, 1, 0), (20, .getfield 9, 3, 0), (23, .invokevirtual 28, 3, 0), (26, .aload_n 0, 1, 0), (27, .getfield 15, 3, 0), (30, .iushr, 1, 0), (31, .iconst 1, 1, 1), (32, .iand, 1, 0), (33, .istore_n 1, 1, 0), (34, .aload_n 0, 1, 0), (35, .getfield 34, 3, 0), (38, .ifnonnull 14, 3, 0), (41, .iload_n 1, 1, 0), (42, .iconst 1, 1, 1), (43, .if_icmp .ne 7, 3, 0), (46, .iconst 1, 1, 1), (47, .goto 4, 3, 0), (50, .iconst 0, 1, 0), (51, .ireturn, 1, 0), (52, .aload_n 0, 1, 0), (53, .getfield 34, 3, 0), (56, .getfield 9, 3, 0), (59, .invokevirtual 28, 3, 0), (62, .aload_n 0, 1, 0), (63, .getfield 34, 3, 0), (66, .getfield 15, 3, 0), (69, .iushr, 1, 0), (70, .iconst 1, 1, 1), (71, .iand, 1, 0), (72, .istore_n 2, 1, 0), (73, .aload_n 0, 1, 0), (74, .getfield 25, 3, 0), (77, .iconst 2, 1, 2), (78, .if_icmp .ne 9, 3, 0), (81, .iload_n 1, 1, 0), (82, .iload_n 2, 1, 0), (83, .iand, 1, 0), (84, .goto 6, 3, 0), (87, .iload_n 1, 1, 0), (88, .iload_n 2, 1, 0), (89, .ior, 1, 0), (90, .iconst 1, 1, 1), (91, .if_icmp .ne 7, 3, 0), (94, .iconst 1, 1, 1), (95, .goto 4, 3, 0), (98, .iconst 0, 1, 0), (99, .ireturn, 1, 0)]
set_option maxRecDepth 20000 in
theorem ok_Nt_carries : mm_ok M_Nt_carries T_Nt_carries := by unfold mm_ok; decide +kernel
def T_Nt_breakAlone : mm_T := [(0, .aload_n 0, 1, 0), (1, .invokevirtual 38, 3, 0), (4, .aload_n 0, 1, 0), (5, .iload_n 1, 1, 0), (6, .putfield 25, 3, 0), (9, .return_, 1, 0)]
set_option maxRecDepth 20000 in
theorem ok_Nt_breakAlone : mm_ok M_Nt_breakAlone T_Nt_breakAlone := by unfold mm_ok; decide +kernel
def T_Nt_breakWith : mm_T := [(0, .aload_n 0, 1, 0), (1, .invokevirtual 38, 3, 0), (4, .aload_n 1, 1, 0), (5, .invokevirtual 38, 3, 0), (8, .aload_n 0, 1, 0), (9, .iload_n 2, 1, 0), (10, .putfield 25, 3, 0), (13, .aload_n 0, 1, 0), (14, .aload_n 1, 1, 0), (15, .putfield 34, 3, 0), (18, .aload_n 1, 1, 0), (19, .iload_n 2, 1, 0), (20, .putfield 25, 3, 0), (23, .aload_n 1, 1, 0), (24, .aload_n 0, 1, 0), (25, .putfield 34, 3, 0), (28, .return_, 1, 0)]
set_option maxRecDepth 20000 in
theorem ok_Nt_breakWith : mm_ok M_Nt_breakWith T_Nt_breakWith := by unfold mm_ok; decide +kernel
def T_Nt_mend : mm_T := [(0, .aload_n 0, 1, 0), (1, .getfield 34, 3, 0), (4, .ifnull 19, 3, 0), (7, .aload_n 0, 1, 0), (8, .getfield 34, 3, 0), (11, .iconst (-1), 1, (-1)), (12, .putfield 25, 3, 0), (15, .aload_n 0, 1, 0), (16, .getfield 34, 3, 0), (19, .aconst_null, 1, 0), (20, .putfield 34, 3, 0), (23, .aload_n 0, 1, 0), (24, .iconst (-1), 1, (-1)), (25, .putfield 25, 3, 0), (28, .aload_n 0, 1, 0), (29, .aconst_null, 1, 0), (30, .putfield 34, 3, 0), (33, .return_, 1, 0)]
set_option maxRecDepth 20000 in
theorem ok_Nt_mend : mm_ok M_Nt_mend T_Nt_mend := by unfold mm_ok; decide +kernel
def T_Mh_max : mm_T := [(0, .iload_n 0, 1, 0), (1, .iload_n 1, 1, 0), (2, .if_icmp .lt 7, 3, 0), (5, .iload_n 0, 1, 0), (6, .goto 4, 3, 0), (9, .iload_n 1, 1, 0), (10, .ireturn, 1, 0)]
set_option maxRecDepth 20000 in
theorem ok_Mh_max : mm_ok M_Mh_max T_Mh_max := by unfold mm_ok; decide +kernel
def T_Ac_init : mm_T := [(0, .aload_n 0, 1, 0), (1, .invokespecial 1, 3, 0), (4, .return_, 1, 0)]
set_option maxRecDepth 20000 in
theorem ok_Ac_init : mm_ok M_Ac_init T_Ac_init := by unfold mm_ok; decide +kernel
def T_As_init : mm_T := [(0, .aload_n 0, 1, 0), (1, .invokespecial 1, 3, 0), (4, .aload_n 0, 1, 0), (5, .iconst 0, 1, 0), (6, .putfield 7, 3, 0), (9, .return_, 1, 0)]
set_option maxRecDepth 20000 in
theorem ok_As_init : mm_ok M_As_init T_As_init := by unfold mm_ok; decide +kernel
def T_Al_init : mm_T := [(0, .aload_n 0, 1, 0), (1, .invokespecial 1, 3, 0), (4, .aload_n 0, 1, 0), (5, .getstatic 39, 3, 0), (8, .putfield 9, 3, 0), (11, .return_, 1, 0)]
set_option maxRecDepth 20000 in
theorem ok_Al_init : mm_ok M_Al_init T_Al_init := by unfold mm_ok; decide +kernel
def T_Al_grow1 : mm_T := [(0, .aload_n 0, 1, 0), (1, .getfield 9, 3, 0), (4, .arraylength, 1, 0), (5, .istore_n 2, 1, 0), (6, .iload_n 2, 1, 0), (7, .ifCond .gt 13, 3, 0), (10, .aload_n 0, 1, 0), (11, .getfield 9, 3, 0), (14, .getstatic 39, 3, 0), (17, .if_acmp .eq 28, 3, 0), (20, .iload_n 2, 1, 0), (21, .iload_n 1, 1, 0), (22, .iload_n 2, 1, 0), (23, .isub, 1, 0), (24, .iload_n 2, 1, 0), (25, .iconst 1, 1, 1), (26, .ishr, 1, 0), (27, .invokestatic 73, 3, 0), (30, .istore_n 3, 1, 0), (31, .aload_n 0, 1, 0), (32, .aload_n 0, 1, 0), (33, .getfield 9, 3, 0), (36, .iload_n 3, 1, 0), (37, .invokestatic 66, 3, 0), (40, .dup_x1, 1, 0), (41, .putfield 9, 3, 0), (44, .areturn, 1, 0), (45, .aload_n 0, 1, 0), (46, .bipush 10, 2, 10), (48, .iload_n 1, 1, 0), (49, .invokestatic 79, 3, 0), (52, .anewarray 7, 3, 0), (55, .dup_x1, 1, 0), (56, .putfield 9, 3, 0), (59, .areturn, 1, 0)]
set_option maxRecDepth 20000 in
theorem ok_Al_grow1 : mm_ok M_Al_grow1 T_Al_grow1 := by unfold mm_ok; decide +kernel
def T_Al_grow0 : mm_T := [(0, .aload_n 0, 1, 0), (1, .aload_n 0, 1, 0), (2, .getfield 48, 3, 0), (5, .iconst 1, 1, 1), (6, .iadd, 1, 0), (7, .invokevirtual 69, 3, 0), (10, .areturn, 1, 0)]
set_option maxRecDepth 20000 in
theorem ok_Al_grow0 : mm_ok M_Al_grow0 T_Al_grow0 := by unfold mm_ok; decide +kernel
def T_Al_size : mm_T := [(0, .aload_n 0, 1, 0), (1, .getfield 48, 3, 0), (4, .ireturn, 1, 0)]
set_option maxRecDepth 20000 in
theorem ok_Al_size : mm_ok M_Al_size T_Al_size := by unfold mm_ok; decide +kernel
def T_Al_isEmpty : mm_T := [(0, .aload_n 0, 1, 0), (1, .getfield 48, 3, 0), (4, .ifCond .ne 7, 3, 0), (7, .iconst 1, 1, 1), (8, .goto 4, 3, 0), (11, .iconst 0, 1, 0), (12, .ireturn, 1, 0)]
set_option maxRecDepth 20000 in
theorem ok_Al_isEmpty : mm_ok M_Al_isEmpty T_Al_isEmpty := by unfold mm_ok; decide +kernel
def T_Al_elementData : mm_T := [(0, .aload_n 0, 1, 0), (1, .getfield 9, 3, 0), (4, .iload_n 1, 1, 0), (5, .aaload, 1, 0), (6, .areturn, 1, 0)]
set_option maxRecDepth 20000 in
theorem ok_Al_elementData : mm_ok M_Al_elementData T_Al_elementData := by unfold mm_ok; decide +kernel
def T_Al_get : mm_T := [(0, .iload_n 1, 1, 0), (1, .aload_n 0, 1, 0), (2, .getfield 48, 3, 0), (5, .invokestatic 118, 3, 0), (8, .pop, 1, 0), (9, .aload_n 0, 1, 0), (10, .iload_n 1, 1, 0), (11, .invokevirtual 123, 3, 0), (14, .areturn, 1, 0)]
set_option maxRecDepth 20000 in
theorem ok_Al_get : mm_ok M_Al_get T_Al_get := by unfold mm_ok; decide +kernel
def T_Al_add3 : mm_T := [(0, .iload_n 3, 1, 0), (1, .aload_n 2, 1, 0), (2, .arraylength, 1, 0), (3, .if_icmp .ne 8, 3, 0), (6, .aload_n 0, 1, 0), (7, .invokevirtual 129, 3, 0), (10, .astore_n 2, 1, 0), (11, .aload_n 2, 1, 0), (12, .iload_n 3, 1, 0), (13, .aload_n 1, 1, 0), (14, .aastore, 1, 0), (15, .aload_n 0, 1, 0), (16, .iload_n 3, 1, 0), (17, .iconst 1, 1, 1), (18, .iadd, 1, 0), (19, .putfield 48, 3, 0), (22, .return_, 1, 0)]
set_option maxRecDepth 20000 in
theorem ok_Al_add3 : mm_ok M_Al_add3 T_Al_add3 := by unfold mm_ok; decide +kernel
def T_Al_add : mm_T := [(0, .aload_n 0, 1, 0), (1, .dup, 1, 0), (2, .getfield 63, 3, 0), (5, .iconst 1, 1, 1), (6, .iadd, 1, 0), (7, .putfield 63, 3, 0), (10, .aload_n 0, 1, 0), (11, .aload_n 1, 1, 0), (12, .aload_n 0, 1, 0), (13, .getfield 9, 3, 0), (16, .aload_n 0, 1, 0), (17, .getfield 48, 3, 0), (20, .invokevirtual 131, 3, 0), (23, .iconst 1, 1, 1), (24, .ireturn, 1, 0)]
set_option maxRecDepth 20000 in
theorem ok_Al_add : mm_ok M_Al_add T_Al_add := by unfold mm_ok; decide +kernel
def T_Ob_checkIndex : mm_T := [(0, .iload_n 0, 1, 0), (1, .iload_n 1, 1, 0), (2, .aconst_null, 1, 0), (3, .invokestatic 105, 3, 0), (6, .ireturn, 1, 0)]
set_option maxRecDepth 20000 in
theorem ok_Ob_checkIndex : mm_ok M_Ob_checkIndex T_Ob_checkIndex := by unfold mm_ok; decide +kernel
def T_Pc_checkIndex : mm_T := [(0, .iload_n 0, 1, 0), (1, .ifCond .lt 8, 3, 0), (4, .iload_n 0, 1, 0), (5, .iload_n 1, 1, 0), (6, .if_icmp .lt 10, 3, 0), (9, .aload_n 2, 1, 0), (10, .iload_n 0, 1, 0), (11, .iload_n 1, 1, 0), (12, .invokestatic 95, 3, 0), (15, .athrow, 1, 0), (16, .iload_n 0, 1, 0), (17, .ireturn, 1, 0)]
set_option maxRecDepth 20000 in
theorem ok_Pc_checkIndex : mm_ok M_Pc_checkIndex T_Pc_checkIndex := by unfold mm_ok; decide +kernel
