/-! code of the law by rows -/
def T_Lw_law_819 : mm_T := [(819, .aload_n 1, 1, 0), (820, .aload_n 0, 1, 0), (821, .iload 4, 2, 0), (823, .iconst 1, 1, 1), (824, .iadd, 1, 0), (825, .iaload, 1, 0), (826, .aload_n 3, 1, 0), (827, .invokestatic 106, 3, 0), (830, .istore 5, 2, 0), (832, .aload_n 2, 1, 0), (833, .aload_n 0, 1, 0), (834, .iload 4, 2, 0), (836, .iconst 1, 1, 1), (837, .iadd, 1, 0), (838, .iaload, 1, 0), (839, .invokevirtual 108, 3, 0), (842, .istore 6, 2, 0), (844, .aload_n 2, 1, 0), (845, .invokevirtual 66, 3, 0), (848, .iload 5, 2, 0), (850, .if_icmp .eq 5, 3, 0), (853, .iconst 0, 1, 0), (854, .ireturn, 1, 0), (855, .iload 5, 2, 0), (857, .ifCond .ne 15, 3, 0), (860, .aload_n 3, 1, 0), (861, .iconst 0, 1, 0), (862, .laload, 1, 0), (863, .iload 6, 2, 0), (865, .i2l, 1, 0), (866, .lcmp, 1, 0), (867, .ifCond .eq 5, 3, 0), (870, .iconst 0, 1, 0), (871, .ireturn, 1, 0), (872, .goto 16, 3, 0)]
set_option maxRecDepth 20000 in
theorem ok_Lw_law_819 : mm_ok M_Lw_law T_Lw_law_819 := by unfold mm_ok; decide +kernel
def T_Lw_law_875 : mm_T := [(875, .aload_n 1, 1, 0), (876, .invokevirtual 109, 3, 0), (879, .aload_n 2, 1, 0), (880, .invokevirtual 112, 3, 0), (883, .if_icmp .eq 5, 3, 0), (886, .iconst 0, 1, 0), (887, .ireturn, 1, 0)]
set_option maxRecDepth 20000 in
theorem ok_Lw_law_875 : mm_ok M_Lw_law T_Lw_law_875 := by unfold mm_ok; decide +kernel
def T_Lw_law_888 : mm_T := [(888, .iinc 4 5, 3, 5), (891, .goto (-868), 3, 0), (894, .iconst 1, 1, 1), (895, .ireturn, 1, 0)]
set_option maxRecDepth 20000 in
theorem ok_Lw_law_888 : mm_ok M_Lw_law T_Lw_law_888 := by unfold mm_ok; decide +kernel
