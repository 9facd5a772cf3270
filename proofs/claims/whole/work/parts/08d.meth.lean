/-! code by rows -/
def T_Lw_device : mm_T := [(0, .aload 5, 2, 0), (2, .iconst 0, 1, 0), (3, .aload_n 0, 1, 0), (4, .iload_n 1, 1, 0), (5, .iload_n 2, 1, 0), (6, .iload_n 3, 1, 0), (7, .iload 4, 2, 0), (9, .invokevirtual 7, 3, 0), (12, .i2l, 1, 0), (13, .lastore, 1, 0), (14, .goto 11, 3, 0), (17, .astore 6, 2, 0), (19, .iconst 1, 1, 1), (20, .ireturn, 1, 0), (21, .astore 6, 2, 0), (23, .iconst 2, 1, 2), (24, .ireturn, 1, 0), (25, .iconst 0, 1, 0), (26, .ireturn, 1, 0)]
set_option maxRecDepth 20000 in
theorem ok_Lw_device : mm_ok M_Lw_device T_Lw_device := by unfold mm_ok; decide +kernel
def T_Lw_net : mm_T := [(0, .aload 5, 2, 0), (2, .iconst 0, 1, 0), (3, .aload_n 0, 1, 0), (4, .iload_n 1, 1, 0), (5, .iload_n 2, 1, 0), (6, .iload_n 3, 1, 0), (7, .iload 4, 2, 0), (9, .invokevirtual 17, 3, 0), (12, .i2l, 1, 0), (13, .lastore, 1, 0), (14, .goto 11, 3, 0), (17, .astore 6, 2, 0), (19, .iconst 1, 1, 1), (20, .ireturn, 1, 0), (21, .astore 6, 2, 0), (23, .iconst 2, 1, 2), (24, .ireturn, 1, 0), (25, .iconst 0, 1, 0), (26, .ireturn, 1, 0)]
set_option maxRecDepth 20000 in
theorem ok_Lw_net : mm_ok M_Lw_net T_Lw_net := by unfold mm_ok; decide +kernel
def T_Lw_fault : mm_T := [(0, .aload_n 0, 1, 0), (1, .iload_n 1, 1, 0), (2, .iload_n 2, 1, 0), (3, .iload_n 3, 1, 0), (4, .invokevirtual 20, 3, 0), (7, .goto 7, 3, 0), (10, .astore 4, 2, 0), (12, .iconst 1, 1, 1), (13, .ireturn, 1, 0), (14, .iconst 0, 1, 0), (15, .ireturn, 1, 0)]
set_option maxRecDepth 20000 in
theorem ok_Lw_fault : mm_ok M_Lw_fault T_Lw_fault := by unfold mm_ok; decide +kernel
def T_Lw_core : mm_T := [(0, .aload_n 0, 1, 0), (1, .iload_n 1, 1, 0), (2, .iload_n 2, 1, 0), (3, .iload_n 3, 1, 0), (4, .invokevirtual 24, 3, 0), (7, .goto 7, 3, 0), (10, .astore 4, 2, 0), (12, .iconst 1, 1, 1), (13, .ireturn, 1, 0), (14, .iconst 0, 1, 0), (15, .ireturn, 1, 0)]
set_option maxRecDepth 20000 in
theorem ok_Lw_core : mm_ok M_Lw_core T_Lw_core := by unfold mm_ok; decide +kernel
def T_Lw_clock : mm_T := [(0, .aload_n 3, 1, 0), (1, .iconst 0, 1, 0), (2, .aload_n 0, 1, 0), (3, .iload_n 1, 1, 0), (4, .iload_n 2, 1, 0), (5, .invokevirtual 28, 3, 0), (8, .ifCond .eq 7, 3, 0), (11, .lconst 1, 1, 0), (12, .goto 4, 3, 0), (15, .lconst 0, 1, 0), (16, .lastore, 1, 0), (17, .goto 7, 3, 0), (20, .astore 4, 2, 0), (22, .iconst 1, 1, 1), (23, .ireturn, 1, 0), (24, .iconst 0, 1, 0), (25, .ireturn, 1, 0)]
set_option maxRecDepth 20000 in
theorem ok_Lw_clock : mm_ok M_Lw_clock T_Lw_clock := by unfold mm_ok; decide +kernel
def T_Lw_look : mm_T := [(0, .aload_n 3, 1, 0), (1, .iconst 0, 1, 0), (2, .aload_n 0, 1, 0), (3, .iload_n 1, 1, 0), (4, .iload_n 2, 1, 0), (5, .invokevirtual 32, 3, 0), (8, .i2l, 1, 0), (9, .lastore, 1, 0), (10, .goto 7, 3, 0), (13, .astore 4, 2, 0), (15, .iconst 1, 1, 1), (16, .ireturn, 1, 0), (17, .iconst 0, 1, 0), (18, .ireturn, 1, 0)]
set_option maxRecDepth 20000 in
theorem ok_Lw_look : mm_ok M_Lw_look T_Lw_look := by unfold mm_ok; decide +kernel
def T_Lw_value : mm_T := [(0, .aload_n 2, 1, 0), (1, .iconst 0, 1, 0), (2, .aload_n 0, 1, 0), (3, .iload_n 1, 1, 0), (4, .invokevirtual 36, 3, 0), (7, .ifCond .eq 7, 3, 0), (10, .lconst 1, 1, 0), (11, .goto 4, 3, 0), (14, .lconst 0, 1, 0), (15, .lastore, 1, 0), (16, .goto 6, 3, 0), (19, .astore_n 3, 1, 0), (20, .iconst 1, 1, 1), (21, .ireturn, 1, 0), (22, .iconst 0, 1, 0), (23, .ireturn, 1, 0)]
set_option maxRecDepth 20000 in
theorem ok_Lw_value : mm_ok M_Lw_value T_Lw_value := by unfold mm_ok; decide +kernel
def T_Lw_find : mm_T := [(0, .aload_n 1, 1, 0), (1, .iconst 0, 1, 0), (2, .aload_n 0, 1, 0), (3, .invokevirtual 40, 3, 0), (6, .i2l, 1, 0), (7, .lastore, 1, 0), (8, .goto 6, 3, 0), (11, .astore_n 2, 1, 0), (12, .iconst 1, 1, 1), (13, .ireturn, 1, 0), (14, .iconst 0, 1, 0), (15, .ireturn, 1, 0)]
set_option maxRecDepth 20000 in
theorem ok_Lw_find : mm_ok M_Lw_find T_Lw_find := by unfold mm_ok; decide +kernel
def T_Lw_found : mm_T := [(0, .aload_n 2, 1, 0), (1, .iconst 0, 1, 0), (2, .aload_n 0, 1, 0), (3, .iload_n 1, 1, 0), (4, .invokevirtual 44, 3, 0), (7, .i2l, 1, 0), (8, .lastore, 1, 0), (9, .goto 6, 3, 0), (12, .astore_n 3, 1, 0), (13, .iconst 1, 1, 1), (14, .ireturn, 1, 0), (15, .iconst 0, 1, 0), (16, .ireturn, 1, 0)]
set_option maxRecDepth 20000 in
theorem ok_Lw_found : mm_ok M_Lw_found T_Lw_found := by unfold mm_ok; decide +kernel
def T_Lw_test : mm_T := [(0, .aload_n 1, 1, 0), (1, .iconst 0, 1, 0), (2, .aload_n 0, 1, 0), (3, .invokevirtual 50, 3, 0), (6, .i2l, 1, 0), (7, .lastore, 1, 0), (8, .goto 6, 3, 0), (11, .astore_n 2, 1, 0), (12, .iconst 1, 1, 1), (13, .ireturn, 1, 0), (14, .iconst 0, 1, 0), (15, .ireturn, 1, 0)]
set_option maxRecDepth 20000 in
theorem ok_Lw_test : mm_ok M_Lw_test T_Lw_test := by unfold mm_ok; decide +kernel
def T_Lw_saw : mm_T := [(0, .aload_n 2, 1, 0), (1, .iconst 0, 1, 0), (2, .aload_n 0, 1, 0), (3, .iload_n 1, 1, 0), (4, .invokevirtual 53, 3, 0), (7, .i2l, 1, 0), (8, .lastore, 1, 0), (9, .goto 6, 3, 0), (12, .astore_n 3, 1, 0), (13, .iconst 1, 1, 1), (14, .ireturn, 1, 0), (15, .iconst 0, 1, 0), (16, .ireturn, 1, 0)]
set_option maxRecDepth 20000 in
theorem ok_Lw_saw : mm_ok M_Lw_saw T_Lw_saw := by unfold mm_ok; decide +kernel
