/-! links, by a look at the words -/
theorem f_Dv_9 : mm_fok RX0 9 "ChainBench$Device" 1 0 = true := by decide +kernel
theorem f_Dv_15 : mm_fok RX0 15 "ChainBench$Device" 1 1 = true := by decide +kernel
theorem f_Dv_18 : mm_fok RX0 18 "ChainBench$Device" 1 2 = true := by decide +kernel
theorem f_Dv_21 : mm_fok RX0 21 "ChainBench$Device" 1 3 = true := by decide +kernel
theorem f_Dv_24 : mm_fok RX0 24 "ChainBench$Device" 1 7 = true := by decide +kernel
theorem f_Dv_27 : mm_fok RX0 27 "ChainBench$Device" 1 4 = true := by decide +kernel
theorem f_Dv_30 : mm_fok RX0 30 "ChainBench$Device" 1 6 = true := by decide +kernel
theorem f_Dv_33 : mm_fok RX0 33 "ChainBench$Device" 1 5 = true := by decide +kernel
theorem f_Dv_40 : mm_fok RX0 40 "ChainBench$Device" 1 9 = true := by decide +kernel
theorem f_Dv_51 : mm_fok RX0 51 "ChainBench$Device" 1 8 = true := by decide +kernel
theorem f_Nt_9 : mm_fok RX1 9 "ChainBench$Net" 2 0 = true := by decide +kernel
theorem f_Nt_15 : mm_fok RX1 15 "ChainBench$Net" 2 1 = true := by decide +kernel
theorem f_Nt_19 : mm_fok RX1 19 "ChainBench$Net" 2 2 = true := by decide +kernel
theorem f_Nt_22 : mm_fok RX1 22 "ChainBench$Net" 2 3 = true := by decide +kernel
theorem f_Nt_25 : mm_fok RX1 25 "ChainBench$Net" 2 4 = true := by decide +kernel
theorem f_Nt_34 : mm_fok RX1 34 "ChainBench$Net" 2 5 = true := by decide +kernel
theorem f_Cb_12 : mm_fok RX2 12 "ChainBench" 3 0 = true := by decide +kernel
theorem f_Cb_16 : mm_fok RX2 16 "ChainBench" 3 1 = true := by decide +kernel
theorem f_Cb_19 : mm_fok RX2 19 "ChainBench" 3 2 = true := by decide +kernel
theorem f_Cb_23 : mm_fok RX2 23 "ChainBench" 3 4 = true := by decide +kernel
theorem f_Cb_27 : mm_fok RX2 27 "ChainBench" 3 5 = true := by decide +kernel
theorem f_Cb_76 : mm_fok RX2 76 "ChainBench" 3 7 = true := by decide +kernel
theorem f_Cb_105 : mm_fok RX2 105 "ChainBench$Device" 1 7 = true := by decide +kernel
theorem f_Cb_108 : mm_fok RX2 108 "ChainBench$Device" 1 8 = true := by decide +kernel
theorem f_Cb_111 : mm_fok RX2 111 "ChainBench$Device" 1 5 = true := by decide +kernel
theorem f_Cb_131 : mm_fok RX2 131 "ChainBench" 3 6 = true := by decide +kernel
theorem f_Cb_157 : mm_fok RX2 157 "ChainBench$Net" 2 6 = true := by decide +kernel
theorem f_Cb_160 : mm_fok RX2 160 "ChainBench" 3 3 = true := by decide +kernel
theorem f_Cb_163 : mm_fok RX2 163 "ChainBench$Device" 1 2 = true := by decide +kernel
theorem f_Cb_197 : mm_fok RX2 197 "ChainBench$Net" 2 2 = true := by decide +kernel
theorem f_Cb_201 : mm_fok RX2 201 "ChainBench$Net" 2 3 = true := by decide +kernel
theorem f_Cb_204 : mm_fok RX2 204 "ChainBench$Device" 1 0 = true := by decide +kernel
theorem f_Cb_207 : mm_fok RX2 207 "ChainBench$Net" 2 0 = true := by decide +kernel
theorem f_Cb_210 : mm_fok RX2 210 "ChainBench$Net" 2 1 = true := by decide +kernel
theorem f_Md_7 : mm_fok RX3 7 "ChainBenchModel" 4 2 = true := by decide +kernel
theorem f_Md_13 : mm_fok RX3 13 "ChainBenchModel" 4 3 = true := by decide +kernel
theorem f_Md_16 : mm_fok RX3 16 "ChainBenchModel" 4 4 = true := by decide +kernel
theorem f_Md_19 : mm_fok RX3 19 "ChainBenchModel" 4 5 = true := by decide +kernel
theorem f_Md_22 : mm_fok RX3 22 "ChainBenchModel" 4 6 = true := by decide +kernel
theorem f_Md_25 : mm_fok RX3 25 "ChainBenchModel" 4 7 = true := by decide +kernel
theorem f_Md_28 : mm_fok RX3 28 "ChainBenchModel" 4 8 = true := by decide +kernel
theorem f_Md_31 : mm_fok RX3 31 "ChainBenchModel" 4 9 = true := by decide +kernel
theorem f_Md_34 : mm_fok RX3 34 "ChainBenchModel" 4 10 = true := by decide +kernel
theorem f_Md_38 : mm_fok RX3 38 "ChainBenchModel" 4 11 = true := by decide +kernel
theorem f_Md_41 : mm_fok RX3 41 "ChainBenchModel" 4 12 = true := by decide +kernel
theorem f_Md_44 : mm_fok RX3 44 "ChainBenchModel" 4 13 = true := by decide +kernel
theorem f_Md_47 : mm_fok RX3 47 "ChainBenchModel" 4 15 = true := by decide +kernel
theorem f_Md_50 : mm_fok RX3 50 "ChainBenchModel" 4 16 = true := by decide +kernel
theorem f_Md_53 : mm_fok RX3 53 "ChainBenchModel" 4 17 = true := by decide +kernel
theorem f_Md_56 : mm_fok RX3 56 "ChainBenchModel" 4 18 = true := by decide +kernel
theorem f_Md_59 : mm_fok RX3 59 "ChainBenchModel" 4 22 = true := by decide +kernel
theorem f_Md_62 : mm_fok RX3 62 "ChainBenchModel" 4 0 = true := by decide +kernel
theorem f_Md_66 : mm_fok RX3 66 "ChainBenchModel" 4 1 = true := by decide +kernel
theorem f_Md_69 : mm_fok RX3 69 "ChainBenchModel" 4 19 = true := by decide +kernel
theorem f_Md_72 : mm_fok RX3 72 "ChainBenchModel" 4 20 = true := by decide +kernel
theorem f_Md_75 : mm_fok RX3 75 "ChainBenchModel" 4 21 = true := by decide +kernel
theorem f_Md_78 : mm_fok RX3 78 "ChainBenchModel" 4 23 = true := by decide +kernel
theorem f_Md_89 : mm_fok RX3 89 "ChainBenchModel" 4 14 = true := by decide +kernel
theorem f_As_7 : mm_fok RJxc12de 7 "java/util/AbstractList" 0 0 = true := by decide +kernel
theorem f_Al_9 : mm_fok RJx4a65c 9 "java/util/ArrayList" 0 1 = true := by decide +kernel
theorem f_Al_48 : mm_fok RJx4a65c 48 "java/util/ArrayList" 0 2 = true := by decide +kernel
theorem f_Al_63 : mm_fok RJx4a65c 63 "java/util/ArrayList" 0 0 = true := by decide +kernel
theorem oi_Dv_3 : (mm_in (.methodLink RX0 3 objectInit) && mm_in (.instanceMethod objectInit) && mm_in (.code objectInit ⟨#[0xb1]⟩ 1 none)) = true := by decide +kernel
theorem k_Dv_dataLength_36 : mm_vok M_Dv_dataLength M_Dv_hasBoundary 36 0 = true := by decide +kernel
theorem k_Dv_captureData_36 : mm_vok M_Dv_captureData M_Dv_hasBoundary 36 0 = true := by decide +kernel
theorem k_Dv_shiftData_43 : mm_vok M_Dv_shiftData M_Dv_dataLength 43 0 = true := by decide +kernel
theorem k_Dv_shiftData_47 : mm_sok M_Dv_shiftData M_Dv_shiftedDown 47 3 = true := by decide +kernel
theorem k_Dv_shiftInstruction_47 : mm_sok M_Dv_shiftInstruction M_Dv_shiftedDown 47 3 = true := by decide +kernel
theorem k_Dv_updateData_36 : mm_vok M_Dv_updateData M_Dv_hasBoundary 36 0 = true := by decide +kernel
theorem oi_Nt_3 : (mm_in (.methodLink RX1 3 objectInit) && mm_in (.instanceMethod objectInit) && mm_in (.code objectInit ⟨#[0xb1]⟩ 1 none)) = true := by decide +kernel
theorem k_Nt_carries_28 : mm_vok M_Nt_carries M_Dv_outputs 28 0 = true := by decide +kernel
theorem k_Nt_breakAlone_38 : mm_vok M_Nt_breakAlone M_Nt_mend 38 0 = true := by decide +kernel
theorem k_Nt_breakWith_38 : mm_vok M_Nt_breakWith M_Nt_mend 38 0 = true := by decide +kernel
theorem oi_Cb_3 : (mm_in (.methodLink RX2 3 objectInit) && mm_in (.instanceMethod objectInit) && mm_in (.code objectInit ⟨#[0xb1]⟩ 1 none)) = true := by decide +kernel
theorem k_Cb_init_11 : mm_iok M_Cb_init M_Al_init 11 0 = true := by decide +kernel
theorem n_Cb_9 : mm_nok RX2 9 0 3 = true := by decide +kernel
theorem k_Cb_device_33 : mm_vok M_Cb_device M_Al_size 33 0 = true := by decide +kernel
theorem k_Cb_device_42 : mm_iok M_Cb_device M_Dv_init 42 4 = true := by decide +kernel
theorem k_Cb_device_45 : mm_vok M_Cb_device M_Al_add 45 1 = true := by decide +kernel
theorem k_Cb_device_49 : mm_vok M_Cb_device M_Cb_restartDevices 49 0 = true := by decide +kernel
theorem x_Cb_30_32 : mm_tok RX2 30 32 "java/lang/IllegalArgumentException" ["java/lang/RuntimeException", "java/lang/Exception"] = true := by decide +kernel
theorem x_Cb_37_39 : mm_tok RX2 37 39 "java/lang/IllegalStateException" ["java/lang/RuntimeException", "java/lang/Exception"] = true := by decide +kernel
theorem n_Cb_40 : mm_nok RX2 40 1 10 = true := by decide +kernel
theorem k_Cb_net_52 : mm_vok M_Cb_net M_Cb_isCell 52 2 = true := by decide +kernel
theorem k_Cb_net_56 : mm_vok M_Cb_net M_Al_get 56 1 = true := by decide +kernel
theorem k_Cb_net_60 : mm_vok M_Cb_net M_Dv_drives 60 1 = true := by decide +kernel
theorem k_Cb_net_64 : mm_vok M_Cb_net M_Dv_isWired 64 1 = true := by decide +kernel
theorem k_Cb_net_33 : mm_vok M_Cb_net M_Al_size 33 0 = true := by decide +kernel
theorem k_Cb_net_67 : mm_vok M_Cb_net M_Dv_wire 67 1 = true := by decide +kernel
theorem k_Cb_net_73 : mm_iok M_Cb_net M_Nt_init 73 4 = true := by decide +kernel
theorem k_Cb_net_45 : mm_vok M_Cb_net M_Al_add 45 1 = true := by decide +kernel
theorem cc_Cb_40 : mm_cok RX2 40 1 = true := by decide +kernel
theorem n_Cb_71 : mm_nok RX2 71 2 7 = true := by decide +kernel
theorem k_Cb_fault_80 : mm_vok M_Cb_fault M_Cb_isNet 80 1 = true := by decide +kernel
theorem k_Cb_fault_56 : mm_vok M_Cb_fault M_Al_get 56 1 = true := by decide +kernel
theorem k_Cb_fault_83 : mm_vok M_Cb_fault M_Nt_breakAlone 83 1 = true := by decide +kernel
theorem k_Cb_fault_86 : mm_vok M_Cb_fault M_Nt_breakWith 86 2 = true := by decide +kernel
theorem cc_Cb_71 : mm_cok RX2 71 2 = true := by decide +kernel
theorem k_Cb_core_52 : mm_vok M_Cb_core M_Cb_isCell 52 2 = true := by decide +kernel
theorem k_Cb_core_56 : mm_vok M_Cb_core M_Al_get 56 1 = true := by decide +kernel
theorem k_Cb_core_60 : mm_vok M_Cb_core M_Dv_drives 60 1 = true := by decide +kernel
theorem k_Cb_core_90 : mm_vok M_Cb_core M_Dv_setCore 90 2 = true := by decide +kernel
theorem k_Cb_clock_94 : mm_vok M_Cb_clock M_Al_isEmpty 94 0 = true := by decide +kernel
theorem k_Cb_clock_98 : mm_vok M_Cb_clock M_Cb_step 98 2 = true := by decide +kernel
theorem k_Cb_look_102 : mm_vok M_Cb_look M_Cb_isDevice 102 1 = true := by decide +kernel
theorem k_Cb_look_56 : mm_vok M_Cb_look M_Al_get 56 1 = true := by decide +kernel
theorem k_Cb_look_114 : mm_vok M_Cb_look M_Cb_signalsOf 114 1 = true := by decide +kernel
theorem k_Cb_value_80 : mm_vok M_Cb_value M_Cb_isNet 80 1 = true := by decide +kernel
theorem k_Cb_value_56 : mm_vok M_Cb_value M_Al_get 56 1 = true := by decide +kernel
theorem k_Cb_value_118 : mm_vok M_Cb_value M_Nt_carries 118 0 = true := by decide +kernel
theorem k_Cb_find_94 : mm_vok M_Cb_find M_Al_isEmpty 94 0 = true := by decide +kernel
theorem k_Cb_find_121 : mm_vok M_Cb_find M_Cb_goToIdle 121 0 = true := by decide +kernel
theorem k_Cb_find_124 : mm_vok M_Cb_find M_Cb_scan 124 2 = true := by decide +kernel
theorem k_Cb_find_128 : mm_vok M_Cb_find M_Cb_wordsBeforeAllOnes 128 0 = true := by decide +kernel
theorem x_Cb_134_136 : mm_tok RX2 134 136 "java/lang/IndexOutOfBoundsException" ["java/lang/RuntimeException", "java/lang/Exception"] = true := by decide +kernel
theorem k_Cb_test_94 : mm_vok M_Cb_test M_Al_isEmpty 94 0 = true := by decide +kernel
theorem k_Cb_test_121 : mm_vok M_Cb_test M_Cb_goToIdle 121 0 = true := by decide +kernel
theorem k_Cb_test_137 : mm_vok M_Cb_test M_Cb_giveAllExtest 137 0 = true := by decide +kernel
theorem k_Cb_test_140 : mm_vok M_Cb_test M_Cb_forgetSeen 140 0 = true := by decide +kernel
theorem k_Cb_test_33 : mm_vok M_Cb_test M_Al_size 33 0 = true := by decide +kernel
theorem k_Cb_test_143 : mm_vok M_Cb_test M_Cb_patternOfRound 143 1 = true := by decide +kernel
theorem k_Cb_test_147 : mm_vok M_Cb_test M_Cb_allCells 147 0 = true := by decide +kernel
theorem k_Cb_test_124 : mm_vok M_Cb_test M_Cb_scan 124 2 = true := by decide +kernel
theorem k_Cb_test_150 : mm_vok M_Cb_test M_Cb_noteSeen 150 2 = true := by decide +kernel
theorem k_Cb_test_154 : mm_vok M_Cb_test M_Cb_countFaulty 154 0 = true := by decide +kernel
theorem k_Cb_saw_80 : mm_vok M_Cb_saw M_Cb_isNet 80 1 = true := by decide +kernel
theorem k_Cb_saw_56 : mm_vok M_Cb_saw M_Al_get 56 1 = true := by decide +kernel
theorem k_Cb_isDevice_33 : mm_vok M_Cb_isDevice M_Al_size 33 0 = true := by decide +kernel
theorem k_Cb_isCell_102 : mm_vok M_Cb_isCell M_Cb_isDevice 102 1 = true := by decide +kernel
theorem k_Cb_isCell_56 : mm_vok M_Cb_isCell M_Al_get 56 1 = true := by decide +kernel
theorem k_Cb_isNet_33 : mm_vok M_Cb_isNet M_Al_size 33 0 = true := by decide +kernel
theorem k_Cb_restartDevices_166 : mm_vok M_Cb_restartDevices M_Cb_enterState 166 1 = true := by decide +kernel
theorem k_Cb_restartDevices_33 : mm_vok M_Cb_restartDevices M_Al_size 33 0 = true := by decide +kernel
theorem k_Cb_restartDevices_56 : mm_vok M_Cb_restartDevices M_Al_get 56 1 = true := by decide +kernel
theorem k_Cb_restartDevices_169 : mm_vok M_Cb_restartDevices M_Dv_clearOutputs 169 0 = true := by decide +kernel
theorem k_Cb_step_172 : mm_vok M_Cb_step M_Cb_doState 172 1 = true := by decide +kernel
theorem k_Cb_step_166 : mm_vok M_Cb_step M_Cb_enterState 166 1 = true := by decide +kernel
theorem gs_Cb_176 : mm_in (.fieldLink RX2 176 "ChainBench" "AFTER_TMS_1" "[I") = true := by decide +kernel
theorem gs_Cb_179 : mm_in (.fieldLink RX2 179 "ChainBench" "AFTER_TMS_0" "[I") = true := by decide +kernel
theorem k_Cb_enterState_33 : mm_vok M_Cb_enterState M_Al_size 33 0 = true := by decide +kernel
theorem k_Cb_enterState_56 : mm_vok M_Cb_enterState M_Al_get 56 1 = true := by decide +kernel
theorem k_Cb_doState_33 : mm_vok M_Cb_doState M_Al_size 33 0 = true := by decide +kernel
theorem k_Cb_doState_56 : mm_vok M_Cb_doState M_Al_get 56 1 = true := by decide +kernel
theorem k_Cb_doState_114 : mm_vok M_Cb_doState M_Cb_signalsOf 114 1 = true := by decide +kernel
theorem k_Cb_doState_182 : mm_vok M_Cb_doState M_Dv_captureData 182 1 = true := by decide +kernel
theorem k_Cb_doState_185 : mm_vok M_Cb_doState M_Dv_shiftData 185 1 = true := by decide +kernel
theorem k_Cb_doState_188 : mm_vok M_Cb_doState M_Dv_updateData 188 0 = true := by decide +kernel
theorem k_Cb_doState_191 : mm_vok M_Cb_doState M_Dv_shiftInstruction 191 1 = true := by decide +kernel
theorem k_Cb_signalsOf_194 : mm_vok M_Cb_signalsOf M_Dv_outputs 194 0 = true := by decide +kernel
theorem k_Cb_signalsOf_33 : mm_vok M_Cb_signalsOf M_Al_size 33 0 = true := by decide +kernel
theorem k_Cb_signalsOf_56 : mm_vok M_Cb_signalsOf M_Al_get 56 1 = true := by decide +kernel
theorem k_Cb_signalsOf_118 : mm_vok M_Cb_signalsOf M_Nt_carries 118 0 = true := by decide +kernel
theorem k_Cb_goToIdle_98 : mm_vok M_Cb_goToIdle M_Cb_step 98 2 = true := by decide +kernel
theorem k_Cb_scan_98 : mm_vok M_Cb_scan M_Cb_step 98 2 = true := by decide +kernel
theorem k_Cb_giveAllExtest_33 : mm_vok M_Cb_giveAllExtest M_Al_size 33 0 = true := by decide +kernel
theorem k_Cb_giveAllExtest_56 : mm_vok M_Cb_giveAllExtest M_Al_get 56 1 = true := by decide +kernel
theorem k_Cb_giveAllExtest_124 : mm_vok M_Cb_giveAllExtest M_Cb_scan 124 2 = true := by decide +kernel
theorem k_Cb_allCells_33 : mm_vok M_Cb_allCells M_Al_size 33 0 = true := by decide +kernel
theorem k_Cb_allCells_56 : mm_vok M_Cb_allCells M_Al_get 56 1 = true := by decide +kernel
theorem k_Cb_forgetSeen_33 : mm_vok M_Cb_forgetSeen M_Al_size 33 0 = true := by decide +kernel
theorem k_Cb_forgetSeen_56 : mm_vok M_Cb_forgetSeen M_Al_get 56 1 = true := by decide +kernel
theorem k_Cb_patternOfRound_33 : mm_vok M_Cb_patternOfRound M_Al_size 33 0 = true := by decide +kernel
theorem k_Cb_patternOfRound_56 : mm_vok M_Cb_patternOfRound M_Al_get 56 1 = true := by decide +kernel
theorem k_Cb_patternOfRound_213 : mm_vok M_Cb_patternOfRound M_Cb_placeInScan 213 2 = true := by decide +kernel
theorem k_Cb_noteSeen_33 : mm_vok M_Cb_noteSeen M_Al_size 33 0 = true := by decide +kernel
theorem k_Cb_noteSeen_56 : mm_vok M_Cb_noteSeen M_Al_get 56 1 = true := by decide +kernel
theorem k_Cb_noteSeen_213 : mm_vok M_Cb_noteSeen M_Cb_placeInScan 213 2 = true := by decide +kernel
theorem k_Cb_placeInScan_33 : mm_vok M_Cb_placeInScan M_Al_size 33 0 = true := by decide +kernel
theorem k_Cb_placeInScan_56 : mm_vok M_Cb_placeInScan M_Al_get 56 1 = true := by decide +kernel
theorem k_Cb_countFaulty_33 : mm_vok M_Cb_countFaulty M_Al_size 33 0 = true := by decide +kernel
theorem k_Cb_countFaulty_56 : mm_vok M_Cb_countFaulty M_Al_get 56 1 = true := by decide +kernel
theorem oi_Md_1 : (mm_in (.methodLink RX3 1 objectInit) && mm_in (.instanceMethod objectInit) && mm_in (.code objectInit ⟨#[0xb1]⟩ 1 none)) = true := by decide +kernel
theorem k_Md_isCell_82 : mm_sok M_Md_isCell M_Md_out 82 2 = true := by decide +kernel
theorem k_Md_net_86 : mm_vok M_Md_net M_Md_isCell 86 2 = true := by decide +kernel
theorem k_Md_fault_82 : mm_sok M_Md_fault M_Md_out 82 2 = true := by decide +kernel
theorem k_Md_fault_92 : mm_vok M_Md_fault M_Md_heal 92 1 = true := by decide +kernel
theorem k_Md_core_86 : mm_vok M_Md_core M_Md_isCell 86 2 = true := by decide +kernel
theorem k_Md_valueOf_96 : mm_vok M_Md_valueOf M_Md_output 96 1 = true := by decide +kernel
theorem k_Md_signal_96 : mm_vok M_Md_signal M_Md_output 96 1 = true := by decide +kernel
theorem k_Md_signal_100 : mm_vok M_Md_signal M_Md_valueOf 100 1 = true := by decide +kernel
theorem k_Md_shiftAll_103 : mm_sok M_Md_shiftAll M_Md_down 103 4 = true := by decide +kernel
theorem k_Md_capture_107 : mm_vok M_Md_capture M_Md_signal 107 1 = true := by decide +kernel
theorem k_Md_tick_110 : mm_vok M_Md_tick M_Md_shiftAll 110 2 = true := by decide +kernel
theorem k_Md_tick_114 : mm_vok M_Md_tick M_Md_capture 114 1 = true := by decide +kernel
theorem k_Md_tick_117 : mm_vok M_Md_tick M_Md_update 117 1 = true := by decide +kernel
theorem k_Md_tick_120 : mm_vok M_Md_tick M_Md_numberIn 120 1 = true := by decide +kernel
theorem k_Md_tick_123 : mm_sok M_Md_tick M_Md_after 123 2 = true := by decide +kernel
theorem k_Md_clock_127 : mm_vok M_Md_clock M_Md_tick 127 2 = true := by decide +kernel
theorem k_Md_goIdle_127 : mm_vok M_Md_goIdle M_Md_tick 127 2 = true := by decide +kernel
theorem k_Md_comeTo_127 : mm_vok M_Md_comeTo M_Md_tick 127 2 = true := by decide +kernel
theorem k_Md_leave_127 : mm_vok M_Md_leave M_Md_tick 127 2 = true := by decide +kernel
theorem k_Md_find_130 : mm_vok M_Md_find M_Md_goIdle 130 0 = true := by decide +kernel
theorem k_Md_find_133 : mm_vok M_Md_find M_Md_comeTo 133 1 = true := by decide +kernel
theorem k_Md_find_127 : mm_vok M_Md_find M_Md_tick 127 2 = true := by decide +kernel
theorem k_Md_find_137 : mm_vok M_Md_find M_Md_leave 137 0 = true := by decide +kernel
theorem k_Md_found_82 : mm_sok M_Md_found M_Md_out 82 2 = true := by decide +kernel
theorem k_Md_found_140 : mm_vok M_Md_found M_Md_fail 140 1 = true := by decide +kernel
theorem k_Md_round_133 : mm_vok M_Md_round M_Md_comeTo 133 1 = true := by decide +kernel
theorem k_Md_round_127 : mm_vok M_Md_round M_Md_tick 127 2 = true := by decide +kernel
theorem k_Md_round_137 : mm_vok M_Md_round M_Md_leave 137 0 = true := by decide +kernel
theorem k_Md_test_130 : mm_vok M_Md_test M_Md_goIdle 130 0 = true := by decide +kernel
theorem k_Md_test_133 : mm_vok M_Md_test M_Md_comeTo 133 1 = true := by decide +kernel
theorem k_Md_test_127 : mm_vok M_Md_test M_Md_tick 127 2 = true := by decide +kernel
theorem k_Md_test_137 : mm_vok M_Md_test M_Md_leave 137 0 = true := by decide +kernel
theorem k_Md_test_143 : mm_vok M_Md_test M_Md_round 143 2 = true := by decide +kernel
theorem k_Md_saw_82 : mm_sok M_Md_saw M_Md_out 82 2 = true := by decide +kernel
theorem k_Md_saw_140 : mm_vok M_Md_saw M_Md_fail 140 1 = true := by decide +kernel
theorem k_Md_look_82 : mm_sok M_Md_look M_Md_out 82 2 = true := by decide +kernel
theorem k_Md_look_140 : mm_vok M_Md_look M_Md_fail 140 1 = true := by decide +kernel
theorem k_Md_look_120 : mm_vok M_Md_look M_Md_numberIn 120 1 = true := by decide +kernel
theorem k_Md_look_107 : mm_vok M_Md_look M_Md_signal 107 1 = true := by decide +kernel
theorem k_Md_value_82 : mm_sok M_Md_value M_Md_out 82 2 = true := by decide +kernel
theorem k_Md_value_100 : mm_vok M_Md_value M_Md_valueOf 100 1 = true := by decide +kernel
theorem oi_Ac_1 : (mm_in (.methodLink RJxa1e45 1 objectInit) && mm_in (.instanceMethod objectInit) && mm_in (.code objectInit ⟨#[0xb1]⟩ 1 none)) = true := by decide +kernel
theorem k_As_init_1 : mm_iok M_As_init M_Ac_init 1 0 = true := by decide +kernel
theorem k_Al_init_1 : mm_iok M_Al_init M_As_init 1 0 = true := by decide +kernel
theorem gs_Al_39 : mm_in (.fieldLink RJx4a65c 39 "java/util/ArrayList" "DEFAULTCAPACITY_EMPTY_ELEMENTDATA" "[Ljava/lang/Object;") = true := by decide +kernel
theorem k_Al_grow1_79 : mm_sok M_Al_grow1 M_Mh_max 79 2 = true := by decide +kernel
theorem an_Al_7 : mm_in (.classLink RJx4a65c 7 "java/lang/Object") = true := by decide +kernel
theorem k_Al_grow0_69 : mm_vok M_Al_grow0 M_Al_grow1 69 1 = true := by decide +kernel
theorem k_Al_get_118 : mm_sok M_Al_get M_Ob_checkIndex 118 2 = true := by decide +kernel
theorem k_Al_get_123 : mm_vok M_Al_get M_Al_elementData 123 1 = true := by decide +kernel
theorem k_Al_add3_129 : mm_vok M_Al_add3 M_Al_grow0 129 0 = true := by decide +kernel
theorem k_Al_add_131 : mm_vok M_Al_add M_Al_add3 131 3 = true := by decide +kernel
theorem k_Ob_checkIndex_105 : mm_sok M_Ob_checkIndex M_Pc_checkIndex 105 3 = true := by decide +kernel
theorem k_Lw_device_7 : mm_vok M_Lw_device M_Cb_device 7 4 = true := by decide +kernel
theorem k_Lw_net_17 : mm_vok M_Lw_net M_Cb_net 17 4 = true := by decide +kernel
theorem k_Lw_fault_20 : mm_vok M_Lw_fault M_Cb_fault 20 3 = true := by decide +kernel
theorem k_Lw_core_24 : mm_vok M_Lw_core M_Cb_core 24 3 = true := by decide +kernel
theorem k_Lw_clock_28 : mm_vok M_Lw_clock M_Cb_clock 28 2 = true := by decide +kernel
theorem k_Lw_look_32 : mm_vok M_Lw_look M_Cb_look 32 2 = true := by decide +kernel
theorem k_Lw_value_36 : mm_vok M_Lw_value M_Cb_value 36 1 = true := by decide +kernel
theorem k_Lw_find_40 : mm_vok M_Lw_find M_Cb_find 40 0 = true := by decide +kernel
theorem k_Lw_found_44 : mm_vok M_Lw_found M_Cb_found 44 1 = true := by decide +kernel
theorem k_Lw_test_50 : mm_vok M_Lw_test M_Cb_test 50 0 = true := by decide +kernel
theorem k_Lw_saw_53 : mm_vok M_Lw_saw M_Cb_saw 53 1 = true := by decide +kernel
theorem k_Lw_law_56 : mm_iok M_Lw_law M_Cb_init 56 0 = true := by decide +kernel
theorem k_Lw_law_59 : mm_iok M_Lw_law M_Md_init 59 0 = true := by decide +kernel
theorem k_Lw_law_60 : mm_hok M_Lw_law M_Lw_device 60 6 = true := by decide +kernel
theorem k_Lw_law_65 : mm_vok M_Lw_law M_Md_device 65 4 = true := by decide +kernel
theorem k_Lw_law_66 : mm_vok M_Lw_law M_Md_thrown 66 0 = true := by decide +kernel
theorem k_Lw_law_69 : mm_hok M_Lw_law M_Lw_net 69 6 = true := by decide +kernel
theorem k_Lw_law_71 : mm_vok M_Lw_law M_Md_net 71 4 = true := by decide +kernel
theorem k_Lw_law_72 : mm_hok M_Lw_law M_Lw_fault 72 4 = true := by decide +kernel
theorem k_Lw_law_75 : mm_vok M_Lw_law M_Md_fault 75 3 = true := by decide +kernel
theorem k_Lw_law_76 : mm_hok M_Lw_law M_Lw_core 76 4 = true := by decide +kernel
theorem k_Lw_law_79 : mm_vok M_Lw_law M_Md_core 79 3 = true := by decide +kernel
theorem k_Lw_law_80 : mm_hok M_Lw_law M_Lw_clock 80 4 = true := by decide +kernel
theorem k_Lw_law_83 : mm_vok M_Lw_law M_Md_clock 83 2 = true := by decide +kernel
theorem k_Lw_law_84 : mm_vok M_Lw_law M_Cb_state 84 0 = true := by decide +kernel
theorem k_Lw_law_87 : mm_vok M_Lw_law M_Md_state 87 0 = true := by decide +kernel
theorem k_Lw_law_88 : mm_hok M_Lw_law M_Lw_look 88 4 = true := by decide +kernel
theorem k_Lw_law_91 : mm_vok M_Lw_law M_Md_look 91 2 = true := by decide +kernel
theorem k_Lw_law_92 : mm_hok M_Lw_law M_Lw_value 92 3 = true := by decide +kernel
theorem k_Lw_law_95 : mm_vok M_Lw_law M_Md_value 95 1 = true := by decide +kernel
theorem k_Lw_law_96 : mm_hok M_Lw_law M_Lw_find 96 2 = true := by decide +kernel
theorem k_Lw_law_99 : mm_vok M_Lw_law M_Md_find 99 0 = true := by decide +kernel
theorem k_Lw_law_100 : mm_hok M_Lw_law M_Lw_found 100 3 = true := by decide +kernel
theorem k_Lw_law_102 : mm_vok M_Lw_law M_Md_found 102 1 = true := by decide +kernel
theorem k_Lw_law_103 : mm_hok M_Lw_law M_Lw_test 103 2 = true := by decide +kernel
theorem k_Lw_law_105 : mm_vok M_Lw_law M_Md_test 105 0 = true := by decide +kernel
theorem k_Lw_law_106 : mm_hok M_Lw_law M_Lw_saw 106 3 = true := by decide +kernel
theorem k_Lw_law_108 : mm_vok M_Lw_law M_Md_saw 108 1 = true := by decide +kernel
theorem k_Lw_law_109 : mm_vok M_Lw_law M_Cb_clocks 109 0 = true := by decide +kernel
theorem k_Lw_law_112 : mm_vok M_Lw_law M_Md_clocks 112 0 = true := by decide +kernel
theorem n_Lw_8 : mm_nok RL 8 3 8 = true := by decide +kernel
theorem n_Lw_57 : mm_nok RL 57 4 24 = true := by decide +kernel
theorem ac_I : mm_in (.arrayClass .int) = true := by decide +kernel
theorem ac_Z : mm_in (.arrayClass .boolean) = true := by decide +kernel
theorem ac_J : mm_in (.arrayClass .long) = true := by decide +kernel
theorem co_Dv : mm_in (.castable "ChainBench$Device" "java/lang/Object") = true := by decide +kernel
theorem co_Nt : mm_in (.castable "ChainBench$Net" "java/lang/Object") = true := by decide +kernel
