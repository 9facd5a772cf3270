section
/-- a private method of a class that the tables say can be made, by its rows of tables_1 -/
def lw_okq (q : MethodName × Nat) : Prop := (q.1.cls ≠ "java/lang/invoke/MethodHandle" ∧ q.1.cls ≠ "java/lang/invoke/VarHandle") ∧ Cond.instantiable q.1.cls q.2 ∈ tables_1 ∧ Cond.privateMethod q.1 ∈ tables_1 ∧ Cond.instanceMethod q.1 ∈ tables_1
theorem lw_p0 : lw_okq (⟨"java/lang/Throwable", "fillInStackTrace", "(I)Ljava/lang/Throwable;"⟩, 6) := ⟨⟨by decide +kernel, by decide +kernel⟩, List.mem_of_getElem? (i := 136) (by decide +kernel), List.mem_of_getElem? (i := 134) (by decide +kernel), List.mem_of_getElem? (i := 135) (by decide +kernel)⟩
theorem lw_p1 : lw_okq (⟨"java/util/ArrayList", "add", "(Ljava/lang/Object;[Ljava/lang/Object;I)V"⟩, 3) := ⟨⟨by decide +kernel, by decide +kernel⟩, List.mem_of_getElem? (i := 29) (by decide +kernel), List.mem_of_getElem? (i := 226) (by decide +kernel), List.mem_of_getElem? (i := 227) (by decide +kernel)⟩
theorem lw_p2 : lw_okq (⟨"java/util/ArrayList", "grow", "()[Ljava/lang/Object;"⟩, 3) := ⟨⟨by decide +kernel, by decide +kernel⟩, List.mem_of_getElem? (i := 29) (by decide +kernel), List.mem_of_getElem? (i := 230) (by decide +kernel), List.mem_of_getElem? (i := 231) (by decide +kernel)⟩
theorem lw_p3 : lw_okq (⟨"java/util/ArrayList", "grow", "(I)[Ljava/lang/Object;"⟩, 3) := ⟨⟨by decide +kernel, by decide +kernel⟩, List.mem_of_getElem? (i := 29) (by decide +kernel), List.mem_of_getElem? (i := 234) (by decide +kernel), List.mem_of_getElem? (i := 235) (by decide +kernel)⟩
theorem lw_p4 : lw_okq (⟨"ChainBench", "restartDevices", "()V"⟩, 8) := ⟨⟨by decide +kernel, by decide +kernel⟩, List.mem_of_getElem? (i := 21) (by decide +kernel), List.mem_of_getElem? (i := 277) (by decide +kernel), List.mem_of_getElem? (i := 278) (by decide +kernel)⟩
theorem lw_p5 : lw_okq (⟨"ChainBench", "enterState", "(I)V"⟩, 8) := ⟨⟨by decide +kernel, by decide +kernel⟩, List.mem_of_getElem? (i := 21) (by decide +kernel), List.mem_of_getElem? (i := 281) (by decide +kernel), List.mem_of_getElem? (i := 282) (by decide +kernel)⟩
theorem lw_p6 : lw_okq (⟨"ChainBench", "isCell", "(II)Z"⟩, 8) := ⟨⟨by decide +kernel, by decide +kernel⟩, List.mem_of_getElem? (i := 21) (by decide +kernel), List.mem_of_getElem? (i := 310) (by decide +kernel), List.mem_of_getElem? (i := 311) (by decide +kernel)⟩
theorem lw_p7 : lw_okq (⟨"ChainBench", "isDevice", "(I)Z"⟩, 8) := ⟨⟨by decide +kernel, by decide +kernel⟩, List.mem_of_getElem? (i := 21) (by decide +kernel), List.mem_of_getElem? (i := 314) (by decide +kernel), List.mem_of_getElem? (i := 315) (by decide +kernel)⟩
theorem lw_p8 : lw_okq (⟨"ChainBench", "isNet", "(I)Z"⟩, 8) := ⟨⟨by decide +kernel, by decide +kernel⟩, List.mem_of_getElem? (i := 21) (by decide +kernel), List.mem_of_getElem? (i := 369) (by decide +kernel), List.mem_of_getElem? (i := 370) (by decide +kernel)⟩
theorem lw_p9 : lw_okq (⟨"ChainBench$Net", "mend", "()V"⟩, 7) := ⟨⟨by decide +kernel, by decide +kernel⟩, List.mem_of_getElem? (i := 330) (by decide +kernel), List.mem_of_getElem? (i := 377) (by decide +kernel), List.mem_of_getElem? (i := 378) (by decide +kernel)⟩
theorem lw_p10 : lw_okq (⟨"ChainBench", "step", "(ZZ)Z"⟩, 8) := ⟨⟨by decide +kernel, by decide +kernel⟩, List.mem_of_getElem? (i := 21) (by decide +kernel), List.mem_of_getElem? (i := 407) (by decide +kernel), List.mem_of_getElem? (i := 408) (by decide +kernel)⟩
theorem lw_p11 : lw_okq (⟨"ChainBench", "doState", "(Z)Z"⟩, 8) := ⟨⟨by decide +kernel, by decide +kernel⟩, List.mem_of_getElem? (i := 21) (by decide +kernel), List.mem_of_getElem? (i := 411) (by decide +kernel), List.mem_of_getElem? (i := 412) (by decide +kernel)⟩
theorem lw_p12 : lw_okq (⟨"ChainBench", "signalsOf", "(LChainBench$Device;)I"⟩, 8) := ⟨⟨by decide +kernel, by decide +kernel⟩, List.mem_of_getElem? (i := 21) (by decide +kernel), List.mem_of_getElem? (i := 415) (by decide +kernel), List.mem_of_getElem? (i := 416) (by decide +kernel)⟩
theorem lw_p13 : lw_okq (⟨"ChainBench", "goToIdle", "()V"⟩, 8) := ⟨⟨by decide +kernel, by decide +kernel⟩, List.mem_of_getElem? (i := 21) (by decide +kernel), List.mem_of_getElem? (i := 480) (by decide +kernel), List.mem_of_getElem? (i := 481) (by decide +kernel)⟩
theorem lw_p14 : lw_okq (⟨"ChainBench", "scan", "(ZI)V"⟩, 8) := ⟨⟨by decide +kernel, by decide +kernel⟩, List.mem_of_getElem? (i := 21) (by decide +kernel), List.mem_of_getElem? (i := 484) (by decide +kernel), List.mem_of_getElem? (i := 485) (by decide +kernel)⟩
theorem lw_p15 : lw_okq (⟨"ChainBench", "wordsBeforeAllOnes", "()I"⟩, 8) := ⟨⟨by decide +kernel, by decide +kernel⟩, List.mem_of_getElem? (i := 21) (by decide +kernel), List.mem_of_getElem? (i := 488) (by decide +kernel), List.mem_of_getElem? (i := 489) (by decide +kernel)⟩
def lw_privs_1 : List (MethodName × Nat) := [(⟨"java/lang/Throwable", "fillInStackTrace", "(I)Ljava/lang/Throwable;"⟩, 6), (⟨"java/util/ArrayList", "add", "(Ljava/lang/Object;[Ljava/lang/Object;I)V"⟩, 3), (⟨"java/util/ArrayList", "grow", "()[Ljava/lang/Object;"⟩, 3), (⟨"java/util/ArrayList", "grow", "(I)[Ljava/lang/Object;"⟩, 3), (⟨"ChainBench", "restartDevices", "()V"⟩, 8), (⟨"ChainBench", "enterState", "(I)V"⟩, 8), (⟨"ChainBench", "isCell", "(II)Z"⟩, 8), (⟨"ChainBench", "isDevice", "(I)Z"⟩, 8), (⟨"ChainBench", "isNet", "(I)Z"⟩, 8), (⟨"ChainBench$Net", "mend", "()V"⟩, 7), (⟨"ChainBench", "step", "(ZZ)Z"⟩, 8), (⟨"ChainBench", "doState", "(Z)Z"⟩, 8), (⟨"ChainBench", "signalsOf", "(LChainBench$Device;)I"⟩, 8), (⟨"ChainBench", "goToIdle", "()V"⟩, 8), (⟨"ChainBench", "scan", "(ZI)V"⟩, 8), (⟨"ChainBench", "wordsBeforeAllOnes", "()I"⟩, 8)]
theorem lw_r1 : ∀ q ∈ lw_privs_1, lw_okq q := List.forall_mem_cons.mpr ⟨lw_p0, List.forall_mem_cons.mpr ⟨lw_p1, List.forall_mem_cons.mpr ⟨lw_p2, List.forall_mem_cons.mpr ⟨lw_p3, List.forall_mem_cons.mpr ⟨lw_p4, List.forall_mem_cons.mpr ⟨lw_p5, List.forall_mem_cons.mpr ⟨lw_p6, List.forall_mem_cons.mpr ⟨lw_p7, List.forall_mem_cons.mpr ⟨lw_p8, List.forall_mem_cons.mpr ⟨lw_p9, List.forall_mem_cons.mpr ⟨lw_p10, List.forall_mem_cons.mpr ⟨lw_p11, List.forall_mem_cons.mpr ⟨lw_p12, List.forall_mem_cons.mpr ⟨lw_p13, List.forall_mem_cons.mpr ⟨lw_p14, List.forall_mem_cons.mpr ⟨lw_p15, fun _ h => absurd h List.not_mem_nil⟩⟩⟩⟩⟩⟩⟩⟩⟩⟩⟩⟩⟩⟩⟩⟩
theorem lw_p16 : lw_okq (⟨"ChainBench", "giveAllExtest", "()V"⟩, 8) := ⟨⟨by decide +kernel, by decide +kernel⟩, List.mem_of_getElem? (i := 21) (by decide +kernel), List.mem_of_getElem? (i := 522) (by decide +kernel), List.mem_of_getElem? (i := 523) (by decide +kernel)⟩
theorem lw_p17 : lw_okq (⟨"ChainBench", "forgetSeen", "()V"⟩, 8) := ⟨⟨by decide +kernel, by decide +kernel⟩, List.mem_of_getElem? (i := 21) (by decide +kernel), List.mem_of_getElem? (i := 526) (by decide +kernel), List.mem_of_getElem? (i := 527) (by decide +kernel)⟩
theorem lw_p18 : lw_okq (⟨"ChainBench", "patternOfRound", "(I)I"⟩, 8) := ⟨⟨by decide +kernel, by decide +kernel⟩, List.mem_of_getElem? (i := 21) (by decide +kernel), List.mem_of_getElem? (i := 530) (by decide +kernel), List.mem_of_getElem? (i := 531) (by decide +kernel)⟩
theorem lw_p19 : lw_okq (⟨"ChainBench", "placeInScan", "(LChainBench$Device;I)I"⟩, 8) := ⟨⟨by decide +kernel, by decide +kernel⟩, List.mem_of_getElem? (i := 21) (by decide +kernel), List.mem_of_getElem? (i := 534) (by decide +kernel), List.mem_of_getElem? (i := 535) (by decide +kernel)⟩
theorem lw_p20 : lw_okq (⟨"ChainBench", "allCells", "()I"⟩, 8) := ⟨⟨by decide +kernel, by decide +kernel⟩, List.mem_of_getElem? (i := 21) (by decide +kernel), List.mem_of_getElem? (i := 538) (by decide +kernel), List.mem_of_getElem? (i := 539) (by decide +kernel)⟩
theorem lw_p21 : lw_okq (⟨"ChainBench", "noteSeen", "(II)V"⟩, 8) := ⟨⟨by decide +kernel, by decide +kernel⟩, List.mem_of_getElem? (i := 21) (by decide +kernel), List.mem_of_getElem? (i := 542) (by decide +kernel), List.mem_of_getElem? (i := 543) (by decide +kernel)⟩
theorem lw_p22 : lw_okq (⟨"ChainBench", "countFaulty", "()I"⟩, 8) := ⟨⟨by decide +kernel, by decide +kernel⟩, List.mem_of_getElem? (i := 21) (by decide +kernel), List.mem_of_getElem? (i := 546) (by decide +kernel), List.mem_of_getElem? (i := 547) (by decide +kernel)⟩
theorem lw_p23 : lw_okq (⟨"ChainBenchModel", "isCell", "(II)Z"⟩, 24) := ⟨⟨by decide +kernel, by decide +kernel⟩, List.mem_of_getElem? (i := 557) (by decide +kernel), List.mem_of_getElem? (i := 649) (by decide +kernel), List.mem_of_getElem? (i := 650) (by decide +kernel)⟩
theorem lw_p24 : lw_okq (⟨"ChainBenchModel", "heal", "(I)V"⟩, 24) := ⟨⟨by decide +kernel, by decide +kernel⟩, List.mem_of_getElem? (i := 557) (by decide +kernel), List.mem_of_getElem? (i := 660) (by decide +kernel), List.mem_of_getElem? (i := 661) (by decide +kernel)⟩
theorem lw_p25 : lw_okq (⟨"ChainBenchModel", "tick", "(ZI)I"⟩, 24) := ⟨⟨by decide +kernel, by decide +kernel⟩, List.mem_of_getElem? (i := 557) (by decide +kernel), List.mem_of_getElem? (i := 672) (by decide +kernel), List.mem_of_getElem? (i := 673) (by decide +kernel)⟩
theorem lw_p26 : lw_okq (⟨"ChainBenchModel", "shiftAll", "(ZI)I"⟩, 24) := ⟨⟨by decide +kernel, by decide +kernel⟩, List.mem_of_getElem? (i := 557) (by decide +kernel), List.mem_of_getElem? (i := 676) (by decide +kernel), List.mem_of_getElem? (i := 677) (by decide +kernel)⟩
theorem lw_p27 : lw_okq (⟨"ChainBenchModel", "capture", "(I)V"⟩, 24) := ⟨⟨by decide +kernel, by decide +kernel⟩, List.mem_of_getElem? (i := 557) (by decide +kernel), List.mem_of_getElem? (i := 683) (by decide +kernel), List.mem_of_getElem? (i := 684) (by decide +kernel)⟩
theorem lw_p28 : lw_okq (⟨"ChainBenchModel", "signal", "(I)I"⟩, 24) := ⟨⟨by decide +kernel, by decide +kernel⟩, List.mem_of_getElem? (i := 557) (by decide +kernel), List.mem_of_getElem? (i := 687) (by decide +kernel), List.mem_of_getElem? (i := 688) (by decide +kernel)⟩
theorem lw_p29 : lw_okq (⟨"ChainBenchModel", "output", "(I)I"⟩, 24) := ⟨⟨by decide +kernel, by decide +kernel⟩, List.mem_of_getElem? (i := 557) (by decide +kernel), List.mem_of_getElem? (i := 691) (by decide +kernel), List.mem_of_getElem? (i := 692) (by decide +kernel)⟩
theorem lw_p30 : lw_okq (⟨"ChainBenchModel", "valueOf", "(I)I"⟩, 24) := ⟨⟨by decide +kernel, by decide +kernel⟩, List.mem_of_getElem? (i := 557) (by decide +kernel), List.mem_of_getElem? (i := 695) (by decide +kernel), List.mem_of_getElem? (i := 696) (by decide +kernel)⟩
theorem lw_p31 : lw_okq (⟨"ChainBenchModel", "update", "(I)V"⟩, 24) := ⟨⟨by decide +kernel, by decide +kernel⟩, List.mem_of_getElem? (i := 557) (by decide +kernel), List.mem_of_getElem? (i := 699) (by decide +kernel), List.mem_of_getElem? (i := 700) (by decide +kernel)⟩
def lw_privs_2 : List (MethodName × Nat) := [(⟨"ChainBench", "giveAllExtest", "()V"⟩, 8), (⟨"ChainBench", "forgetSeen", "()V"⟩, 8), (⟨"ChainBench", "patternOfRound", "(I)I"⟩, 8), (⟨"ChainBench", "placeInScan", "(LChainBench$Device;I)I"⟩, 8), (⟨"ChainBench", "allCells", "()I"⟩, 8), (⟨"ChainBench", "noteSeen", "(II)V"⟩, 8), (⟨"ChainBench", "countFaulty", "()I"⟩, 8), (⟨"ChainBenchModel", "isCell", "(II)Z"⟩, 24), (⟨"ChainBenchModel", "heal", "(I)V"⟩, 24), (⟨"ChainBenchModel", "tick", "(ZI)I"⟩, 24), (⟨"ChainBenchModel", "shiftAll", "(ZI)I"⟩, 24), (⟨"ChainBenchModel", "capture", "(I)V"⟩, 24), (⟨"ChainBenchModel", "signal", "(I)I"⟩, 24), (⟨"ChainBenchModel", "output", "(I)I"⟩, 24), (⟨"ChainBenchModel", "valueOf", "(I)I"⟩, 24), (⟨"ChainBenchModel", "update", "(I)V"⟩, 24)]
theorem lw_r2 : ∀ q ∈ lw_privs_2, lw_okq q := List.forall_mem_cons.mpr ⟨lw_p16, List.forall_mem_cons.mpr ⟨lw_p17, List.forall_mem_cons.mpr ⟨lw_p18, List.forall_mem_cons.mpr ⟨lw_p19, List.forall_mem_cons.mpr ⟨lw_p20, List.forall_mem_cons.mpr ⟨lw_p21, List.forall_mem_cons.mpr ⟨lw_p22, List.forall_mem_cons.mpr ⟨lw_p23, List.forall_mem_cons.mpr ⟨lw_p24, List.forall_mem_cons.mpr ⟨lw_p25, List.forall_mem_cons.mpr ⟨lw_p26, List.forall_mem_cons.mpr ⟨lw_p27, List.forall_mem_cons.mpr ⟨lw_p28, List.forall_mem_cons.mpr ⟨lw_p29, List.forall_mem_cons.mpr ⟨lw_p30, List.forall_mem_cons.mpr ⟨lw_p31, fun _ h => absurd h List.not_mem_nil⟩⟩⟩⟩⟩⟩⟩⟩⟩⟩⟩⟩⟩⟩⟩⟩
theorem lw_p32 : lw_okq (⟨"ChainBenchModel", "numberIn", "(I)I"⟩, 24) := ⟨⟨by decide +kernel, by decide +kernel⟩, List.mem_of_getElem? (i := 557) (by decide +kernel), List.mem_of_getElem? (i := 703) (by decide +kernel), List.mem_of_getElem? (i := 704) (by decide +kernel)⟩
theorem lw_p33 : lw_okq (⟨"ChainBenchModel", "goIdle", "()V"⟩, 24) := ⟨⟨by decide +kernel, by decide +kernel⟩, List.mem_of_getElem? (i := 557) (by decide +kernel), List.mem_of_getElem? (i := 714) (by decide +kernel), List.mem_of_getElem? (i := 715) (by decide +kernel)⟩
theorem lw_p34 : lw_okq (⟨"ChainBenchModel", "comeTo", "(Z)V"⟩, 24) := ⟨⟨by decide +kernel, by decide +kernel⟩, List.mem_of_getElem? (i := 557) (by decide +kernel), List.mem_of_getElem? (i := 718) (by decide +kernel), List.mem_of_getElem? (i := 719) (by decide +kernel)⟩
theorem lw_p35 : lw_okq (⟨"ChainBenchModel", "leave", "()V"⟩, 24) := ⟨⟨by decide +kernel, by decide +kernel⟩, List.mem_of_getElem? (i := 557) (by decide +kernel), List.mem_of_getElem? (i := 722) (by decide +kernel), List.mem_of_getElem? (i := 723) (by decide +kernel)⟩
theorem lw_p36 : lw_okq (⟨"ChainBenchModel", "fail", "(I)I"⟩, 24) := ⟨⟨by decide +kernel, by decide +kernel⟩, List.mem_of_getElem? (i := 557) (by decide +kernel), List.mem_of_getElem? (i := 730) (by decide +kernel), List.mem_of_getElem? (i := 731) (by decide +kernel)⟩
theorem lw_p37 : lw_okq (⟨"ChainBenchModel", "round", "(IZ)V"⟩, 24) := ⟨⟨by decide +kernel, by decide +kernel⟩, List.mem_of_getElem? (i := 557) (by decide +kernel), List.mem_of_getElem? (i := 738) (by decide +kernel), List.mem_of_getElem? (i := 739) (by decide +kernel)⟩
def lw_privs_3 : List (MethodName × Nat) := [(⟨"ChainBenchModel", "numberIn", "(I)I"⟩, 24), (⟨"ChainBenchModel", "goIdle", "()V"⟩, 24), (⟨"ChainBenchModel", "comeTo", "(Z)V"⟩, 24), (⟨"ChainBenchModel", "leave", "()V"⟩, 24), (⟨"ChainBenchModel", "fail", "(I)I"⟩, 24), (⟨"ChainBenchModel", "round", "(IZ)V"⟩, 24)]
theorem lw_r3 : ∀ q ∈ lw_privs_3, lw_okq q := List.forall_mem_cons.mpr ⟨lw_p32, List.forall_mem_cons.mpr ⟨lw_p33, List.forall_mem_cons.mpr ⟨lw_p34, List.forall_mem_cons.mpr ⟨lw_p35, List.forall_mem_cons.mpr ⟨lw_p36, List.forall_mem_cons.mpr ⟨lw_p37, fun _ h => absurd h List.not_mem_nil⟩⟩⟩⟩⟩⟩
def lw_privs : List (MethodName × Nat) := lw_privs_1 ++ (lw_privs_2 ++ (lw_privs_3))
def lw_tbl : List Cond := k2_sels lw_privs ++ tables_1
theorem lw_privs_ok : ∀ q ∈ lw_privs, lw_okq q := by
  show ∀ q ∈ lw_privs_1 ++ (lw_privs_2 ++ (lw_privs_3)), lw_okq q
  exact List.forall_mem_append.mpr ⟨lw_r1, List.forall_mem_append.mpr ⟨lw_r2, lw_r3⟩⟩
end
section
theorem goodIn_r {big : List Cond} (ws : List Cond) (ps : List Nat) (hp : ws = ps.filterMap (fun i => big[i]?)) (h : ws.all goodWord = true) : GoodIn big ws := by
  intro w hw
  have h1 := List.all_eq_true.mp h w hw
  rw [hp] at hw
  obtain ⟨i, -, hi⟩ := List.mem_filterMap.mp hw
  have hm : w ∈ big := by first | exact List.mem_of_getElem? hi | exact List.getElem?_mem hi
  exact ⟨hm, good_of_word h1⟩
theorem goodIn_app {big a b : List Cond} (ha : GoodIn big a) (hb : GoodIn big b) : GoodIn big (a ++ b) := fun w h => (List.mem_append.mp h).elim (ha w) (hb w)
theorem goodIn_ca {big a b : List Cond} {c : Cond} (ha : GoodIn big (c :: a)) (hb : GoodIn big b) : GoodIn big (c :: (a ++ b)) := fun w h => (List.mem_cons.mp h).elim (fun e => ha w (List.mem_cons.mpr (Or.inl e))) (fun h => (List.mem_append.mp h).elim (fun h => ha w (List.mem_cons.mpr (Or.inr h))) (hb w))
theorem goodIn_sub {big ws : List Cond} (hm : ∀ w ∈ ws, w ∈ big) (h : ws.all goodWord = true) : GoodIn big ws := fun w hw => ⟨hm w hw, good_of_word (List.all_eq_true.mp h w hw)⟩
section VXA
/-- where a method has thrown q: the class by its name, the cell, what was written, the world -/
def vx_T (XC : String → State → State → Prop) (st : State) (q : Addr) (t : State) (mc ms : Nat) (free : Addr → Prop) : Prop :=
  ∃ (E : String) (ce : Cell) (L : List Loc), XC E st t ∧ t.heap[q]? = some ce ∧ ce.vm = .none ∧ st.vm.findClass E = some ce.cls ∧ st.WarmedH t.vm ∧ st.sameButNew ({ t with vm := st.vm } : State) L mc ms ∧ ∀ z ∈ L, free z.base
def vx_Q (Qc : Array Value → State → Outcome → State → Prop) (XC : String → State → State → Prop) (mc ms : Nat) (free : Addr → Prop) : Array Value → State → Outcome → State → Prop := fun a st o t =>
  (Qc a st o t ∧ ∃ L, FrameEnd st o t L mc ms ∧ ∀ q ∈ L, free q.base) ∨ ∃ q, o = .threw q ∧ vx_T XC st q t mc ms free
/-- a callee that returns or throws -/
def vx_Met (l : Launch) (y : MethodName) (ws : List Cond) (rm : Room) (Pc : Array Value → State → Prop) (Qc : Array Value → State → Outcome → State → Prop) (XC : String → State → State → Prop) (mc ms : Nat) (free : Addr → Prop) : Prop :=
  MetFree l y (headSpec ws rm) Pc (fun _ _ _ _ _ => True) (vx_Q Qc XC mc ms free)
def vx_Post (XC : String → State → State → Prop) (mc ms : Nat) (free : Addr → Prop) : Pt → Array Value → Addr → Pt → Prop := fun A a q B =>
  ∃ (g : JFrame) (mk : MethodId) (t : State) (L : List Loc) (E : String) (ce : Cell), B.U.heap = t.heap ∧ B.U.vm = t.vm ∧ XC E (A.U.calling g mk a) t ∧ t.heap[q]? = some ce ∧ ce.vm = .none ∧ A.U.vm.findClass E = some ce.cls ∧ B.locs = A.locs ++ L ∧ (∀ z ∈ L, free z.base) ∧ B.cells = A.cells + mc ∧ B.slots = A.slots + ms
def vx_Back (l : Launch) (R : Room) (p : Program) (e : Env) (below : List Frame) (s : State) (sargs : Array Value) (y : MethodName) (len W9 : Nat)
    (Pre : Pt → Array Value → Prop) (Post : Pt → Array Value → Option Value → Pt → Prop) (PostX : Pt → Array Value → Addr → Pt → Prop) : Prop :=
  ∀ (m : MethodId) (meth : Method) (c : Code) (A : Pt) (g : JFrame) (ig : Instr) (mk : MethodId) (a : Array Value),
    Stand p l e R s m sargs below meth c A.U A.locs A.cells A.slots → g.method = m → g.locals.size = c.maxLocals → decode c.code g.pc = .ok (ig, len) →
    2 * g.monitorRoom + (g.stack.map fun v => v.category).sum ≤ W9 → A.U.methodNamed? y = some mk → Pre A a →
    (∃ (v : Option Value) (B : Pt), Stand p l e R s m sargs below meth c B.U B.locs B.cells B.slots ∧ Post A a v B ∧
      Steps p.tables e below (doInvoke e (A.U.setTop g) [] mk a).1 (B.U.setTop { g with pc := g.pc + len, stack := v.toList ++ g.stack })) ∨
    (∃ (q : Addr) (B : Pt), Stand p l e R s m sargs below meth c B.U B.locs B.cells B.slots ∧ PostX A a q B ∧
      Steps p.tables e below (doInvoke e (A.U.setTop g) [] mk a).1 ((B.U.setTop g).pushFrame (.throwing q)))
section Payer
variable {l : Launch} {R : Room} {p : Program} {e : Env} {below : List Frame} {s : State} {sargs : Array Value} {y : MethodName} {len W9 : Nat}
theorem vx_back {ws : List Cond} {rm : Room} {Pc : Array Value → State → Prop} {Qc : Array Value → State → Outcome → State → Prop} {XC : String → State → State → Prop} {mc ms : Nat} {free : Addr → Prop} {bytes : ByteArray} {maxL : Nat} {ret : Option FieldType}
    (hM : vx_Met l y ws rm Pc Qc XC mc ms free) (hblind : FrameBlind Pc) (hrc : rm.cells = mc) (hrs : rm.slots = ms)
    (hframes : rm.frames + 1 ≤ R.frames) (hlocals : W9 + (maxL + 11) + rm.locals ≤ R.locals)
    (hws : ∀ w ∈ ws, ∀ a' U, s.WarmedH U.vm → w.before a' U = true) (hcode : Cond.code y bytes maxL ret ∈ ws) (hinit : ∀ a' U, s.WarmedH U.vm → (Cond.initialized y.cls).before a' U = true) :
    vx_Back l R p e below s sargs y len W9 (PreOf R mc ms Pc) (PostOf Qc mc ms free) (vx_Post XC mc ms free) := by
  intro m meth c A g ig mk a X hg hsize hdg hW hn hp
  have h1 : (headSpec ws rm).pre.before a A.U = true := atoms_intro fun w hw => hws w hw _ _ X.warmed
  have h2 : (Cond.code y bytes maxL ret).before a A.U = true := hws _ hcode _ _ X.warmed
  have h3 : (Cond.initialized y.cls).before a A.U = true := hinit _ _ X.warmed
  have h4 : A.cells + (headSpec ws rm).room.cells ≤ R.cells := by rw [show (headSpec ws rm).room.cells = mc from hrc]; exact hp.1
  have h5 : A.slots + (headSpec ws rm).room.slots ≤ R.slots := by rw [show (headSpec ws rm).room.slots = ms from hrs]; exact hp.2.1
  have hPc : Pc a (A.U.calling g mk a) := hblind _ _ _ _ hp.2.2
  obtain ⟨U, Ls, c0, s0⟩ := A
  dsimp only [Pt.U, Pt.locs, Pt.cells, Pt.slots] at h1 h2 h3 h4 h5 X hn hPc ⊢
  obtain ⟨methY, cY, hmY, hcY, -, hlY, -, -, -, -⟩ := Cond.code_spec hn h2
  obtain ⟨kY, hkY, -⟩ := className_of_methodNamed hn
  have hinitY : kY.init = .initialized := Cond.initialized_spec (findClass_of_methodNamed hn) hkY h3
  have h : At U g.method c below := by rw [hg]; exact X.here
  have hlocals9 : W9 + (maxL + 11) + (headSpec ws rm).room.locals ≤ R.locals := hlocals
  have happ : (headSpec ws rm).appliesLoose y e.platform (U.calling g mk a) = true :=
    Spec.appliesLoose_calling (g := g) h hdg hn hkY hinitY
      (X.room_calling (g := g) (R' := (headSpec ws rm).room) hsize hmY hcY hframes (by rw [hlY]; omega) h4 h5) h1
  obtain ⟨mid, hmid⟩ := h.above
  have hfr : (U.setTop g).frames = (.java g :: mid) ++ below := by rw [State.frames_setTop' g h.top, hmid]; rfl
  obtain ⟨o, s₂, hsteps, -, hend, hq⟩ := Steps.callFree hM p X.admits X.cas X.clock (acts := []) hfr happ hPc trivial
  have hq' : vx_Q Qc XC mc ms free a (U.calling g mk a) o s₂ := hq
  rw [State.frames_setTop' g h.top] at hend
  obtain ⟨g₀, hg0⟩ := Option.isSome_iff_exists.mp h.top
  obtain ⟨r, hr⟩ := State.topJava?_eq_some.mp hg0
  have hr' : (({ U with heap := s₂.heap, slotsUsed := s₂.slotsUsed } : State).setVm s₂.vm).frames = .java g₀ :: r := hr
  rcases hq' with ⟨hqc, L, hfe, hL⟩ | ⟨q, rfl, E, ce, L, hx, hce, hcv, hcl, hW₂, hsm, hL⟩
  · obtain ⟨⟨v, rfl⟩, hW₂, e2, q2, q3, q4, q5, q6⟩ := id hfe
    have e3 : s₂ = ({ (U.calling g mk a).setFrames s₂.frames with heap := s₂.heap, slotsUsed := s₂.slotsUsed } : State).setVm s₂.vm := by
      have : s₂ = ({ s₂ with vm := (U.calling g mk a).vm } : State).setVm s₂.vm := rfl
      rw [e2] at this
      exact this
    obtain ⟨c₂, i₂, len₂, hc₂, hd₂, hf₂⟩ := hend
    have hW' : U.WarmedH s₂.vm := hW₂
    have hcc : c₂ = c := by
      have h1 : s₂.code? g.method = U.code? g.method := by
        rw [State.code?_eq, State.code?_eq, hW'.alike.method?]
      exact Option.some.inj (hc₂.symm.trans (h1.trans h.code))
    subst hcc
    have hlen : len₂ = len := by rw [hdg] at hd₂; cases hd₂; rfl
    subst hlen
    have hs₂ : s₂ = (({ U with heap := s₂.heap, slotsUsed := s₂.slotsUsed } : State).setVm s₂.vm).setTop { g with pc := g.pc + len₂, stack := v.toList ++ g.stack } := by
      refine e3.trans ?_
      rw [hf₂, State.calling_eq h.top, State.setFrames_setFrames, State.setTop_of_frames _ hr', hr]
      rfl
    have hsame : U.sameButNew ({ U with heap := s₂.heap, slotsUsed := s₂.slotsUsed } : State) L mc ms := by
      refine ⟨?_, q2, q3, q4, q5, q6⟩
      obtain ⟨t, ht, -⟩ := State.frames_cons hr
      show ({ U with heap := s₂.heap, slotsUsed := s₂.slotsUsed } : State) = { U.setFrames U.frames with heap := s₂.heap, slotsUsed := s₂.slotsUsed }
      rw [State.setFrames_self ht]
    subst hg
    refine Or.inl ⟨v, ⟨(({ U with heap := s₂.heap, slotsUsed := s₂.slotsUsed } : State).setVm s₂.vm), Ls ++ L, c0 + mc, s0 + ms⟩,
      ⟨X.admits, X.cas, X.clock, X.frames, X.room, X.hears, X.method, X.code, (X.here.setHeapUsed s₂.heap s₂.slotsUsed).setVm hW'.alike, X.tail, State.WarmedH.trans X.warmed hW', X.limits, X.bytes, X.same.trans (hsame.setVm s.vm)⟩,
      ⟨g, mk, s₂, L, rfl, rfl, hqc, rfl, hL, rfl, rfl⟩, ?_⟩
    show Steps p.tables e below _ ((({ U with heap := s₂.heap, slotsUsed := s₂.slotsUsed } : State).setVm s₂.vm).setTop { g with pc := g.pc + len₂, stack := v.toList ++ g.stack })
    rw [← hs₂]
    exact hsteps
  · obtain ⟨e2, q2, q3, q4, q5, q6⟩ := id hsm
    have e3 : s₂ = ({ (U.calling g mk a).setFrames s₂.frames with heap := s₂.heap, slotsUsed := s₂.slotsUsed } : State).setVm s₂.vm := by
      have : s₂ = ({ s₂ with vm := (U.calling g mk a).vm } : State).setVm s₂.vm := rfl
      rw [e2] at this
      exact this
    have hf₂ : s₂.frames = .throwing q :: .java g :: U.frames.tail := hend
    have hW' : U.WarmedH s₂.vm := hW₂
    have hs₂ : s₂ = ((({ U with heap := s₂.heap, slotsUsed := s₂.slotsUsed } : State).setVm s₂.vm).setTop g).pushFrame (.throwing q) := by
      refine e3.trans ?_
      rw [hf₂, State.calling_eq h.top, State.setFrames_setFrames, State.pushFrame, State.frames_setTop _ hr', State.setTop_of_frames _ hr', State.setFrames_setFrames, hr]
      rfl
    have hsame : U.sameButNew ({ U with heap := s₂.heap, slotsUsed := s₂.slotsUsed } : State) L mc ms := by
      refine ⟨?_, q2, q3, q4, q5, q6⟩
      obtain ⟨t, ht, -⟩ := State.frames_cons hr
      show ({ U with heap := s₂.heap, slotsUsed := s₂.slotsUsed } : State) = { U.setFrames U.frames with heap := s₂.heap, slotsUsed := s₂.slotsUsed }
      rw [State.setFrames_self ht]
    subst hg
    refine Or.inr ⟨q, ⟨(({ U with heap := s₂.heap, slotsUsed := s₂.slotsUsed } : State).setVm s₂.vm), Ls ++ L, c0 + mc, s0 + ms⟩,
      ⟨X.admits, X.cas, X.clock, X.frames, X.room, X.hears, X.method, X.code, (X.here.setHeapUsed s₂.heap s₂.slotsUsed).setVm hW'.alike, X.tail, State.WarmedH.trans X.warmed hW', X.limits, X.bytes, X.same.trans (hsame.setVm s.vm)⟩,
      ⟨g, mk, s₂, L, E, ce, rfl, rfl, hx, hce, hcv, hcl, rfl, hL, rfl, rfl⟩, ?_⟩
    show Steps p.tables e below _ (((({ U with heap := s₂.heap, slotsUsed := s₂.slotsUsed } : State).setVm s₂.vm).setTop g).pushFrame (.throwing q))
    rw [← hs₂]
    exact hsteps
end Payer
section Calls
variable {p : Program} {l : Launch} {e : Env} {R : Room} {s : State} {m : MethodId} {args : Array Value} {below : List Frame} {meth : Method} {c : Code} {T : State} {locs : List Loc} {cells slots : Nat}
theorem vx_callV (X : Stand p l e R s m args below meth c T locs cells slots) (hexec : p.tables.exec = Jvm.exec) {own C : String} {index : Nat} {y : MethodName} {bytes : ByteArray} {maxL : Nat} {ret : Option FieldType}
    (hown : s.vm.findClass own = some m.cls) (hlink : (Cond.methodLink own index y).before args s = true) (hinst : (Cond.instanceMethod y).before args s = true) (hsel : (Cond.selects C y y).before args s = true)
    (hcode : (Cond.code y bytes maxL ret).before args s = true) (hy : y.cls ≠ "java/lang/invoke/MethodHandle" ∧ y.cls ≠ "java/lang/invoke/VarHandle")
    {W9 : Nat} {Pre : Pt → Array Value → Prop} {Post : Pt → Array Value → Option Value → Pt → Prop} {PostX : Pt → Array Value → Addr → Pt → Prop} (hK : vx_Back l R p e below s args y 3 W9 Pre Post PostX)
    {b : Addr} {cellB : Cell} (hcell : T.heap[b]? = some cellB) (hobj : cellB.vm.isStatics = false) (hcls : s.vm.findClass C = some cellB.cls)
    {g : JFrame} (hg : g.method = m) (hsize : g.locals.size = c.maxLocals) {argsL rest : List Value} (hlen : ∀ sig, parseMethodDescriptor y.desc = some sig → argsL.length = sig.parameters.length)
    (hstack : g.stack = argsL.reverse ++ .ref b :: rest) (hW : 2 * g.monitorRoom + (rest.map fun v => v.category).sum ≤ W9) (hdg : decode c.code g.pc = .ok (.invokevirtual index, 3))
    (hpre : ∀ vm₁, s.WarmedH vm₁ → Pre ⟨T.setVm vm₁, locs, cells, slots⟩ (Value.ref b :: argsL).toArray) :
    (∃ (v : Option Value) (vm₁ : Vm) (B : Pt), s.WarmedH vm₁ ∧ Stand p l e R s m args below meth c B.U B.locs B.cells B.slots ∧ Post ⟨T.setVm vm₁, locs, cells, slots⟩ (Value.ref b :: argsL).toArray v B ∧
      ∀ target, Steps p.tables e below (B.U.setTop { g with pc := g.pc + 3, stack := v.toList ++ rest }) target → Steps p.tables e below (T.setTop g) target) ∨
    (∃ (q : Addr) (vm₁ : Vm) (B : Pt), s.WarmedH vm₁ ∧ Stand p l e R s m args below meth c B.U B.locs B.cells B.slots ∧ PostX ⟨T.setVm vm₁, locs, cells, slots⟩ (Value.ref b :: argsL).toArray q B ∧
      Steps p.tables e below (T.setTop g) ((B.U.setTop { g with stack := rest }).pushFrame (.throwing q))) := by
  obtain ⟨mk, methM, hnamed, hmethM, hstM, habM⟩ := Cond.instanceMethod_spec hinst
  obtain ⟨methM', cM, hmethM', -, -, -, -, -, -, hsigM⟩ := Cond.code_spec hnamed hcode
  cases hmethM.symm.trans hmethM'
  obtain ⟨c2, r2, m2, q1, q2, q3, q4, kP, hkP, hkPi⟩ := Cond.selects_spec hsel
  cases hcls.symm.trans q1
  cases (State.methodFound?_of_named hnamed hy).symm.trans q2
  cases hnamed.symm.trans q3
  have hselP : selectMethod e.platform s.vm cellB.cls mk = .method mk := by rw [Launch.admits_selectMethod X.admits]; exact q4
  obtain ⟨vm₁, X₁, hstep₁⟩ := X.invokevirtual hexec hown hlink hnamed hmethM hstM hkP hkPi hy (a := b) (cell := cellB) hcell
    (fun z h => by rw [h] at hobj; cases hobj) hselP hmethM habM hkP hkPi (g := g) hg (argsL := argsL) (rest := rest) (hlen _ hsigM) hstack hdg
  rcases hK m meth c ⟨T.setVm vm₁, locs, cells, slots⟩ { g with stack := rest } (.invokevirtual index) mk (Value.ref b :: argsL).toArray X₁ hg hsize hdg hW (X₁.named hnamed) (hpre vm₁ X₁.warmed) with ⟨v, B, X', hpost, hsteps⟩ | ⟨q, B, X', hpost, hsteps⟩
  · exact Or.inl ⟨v, vm₁, B, X₁.warmed, X', hpost, fun target h => hstep₁ _ fun acts => by rw [doInvoke_state]; exact hsteps.trans h⟩
  · exact Or.inr ⟨q, vm₁, B, X₁.warmed, X', hpost, hstep₁ _ fun acts => by rw [doInvoke_state]; exact hsteps⟩
theorem vx_callS (X : Stand p l e R s m args below meth c T locs cells slots) (hexec : p.tables.exec = Jvm.exec) {own : String} {index : Nat} {y : MethodName} {bytes : ByteArray} {maxL : Nat} {ret : Option FieldType}
    (hown : s.vm.findClass own = some m.cls) (hlink : (Cond.methodLink own index y).before args s = true) (hstat : (Cond.static y).before args s = true) (hinit : (Cond.initialized y.cls).before args s = true)
    (hcode : (Cond.code y bytes maxL ret).before args s = true) (hy : y.cls ≠ "java/lang/invoke/MethodHandle" ∧ y.cls ≠ "java/lang/invoke/VarHandle")
    {W9 : Nat} {Pre : Pt → Array Value → Prop} {Post : Pt → Array Value → Option Value → Pt → Prop} {PostX : Pt → Array Value → Addr → Pt → Prop} (hK : vx_Back l R p e below s args y 3 W9 Pre Post PostX)
    {g : JFrame} (hg : g.method = m) (hsize : g.locals.size = c.maxLocals) {argsL rest : List Value} (hlen : ∀ sig, parseMethodDescriptor y.desc = some sig → argsL.length = sig.parameters.length)
    (hstack : g.stack = argsL.reverse ++ rest) (hW : 2 * g.monitorRoom + (rest.map fun v => v.category).sum ≤ W9) (hdg : decode c.code g.pc = .ok (.invokestatic index, 3))
    (hpre : ∀ vm₁, s.WarmedH vm₁ → Pre ⟨T.setVm vm₁, locs, cells, slots⟩ argsL.toArray) :
    (∃ (v : Option Value) (vm₁ : Vm) (B : Pt), s.WarmedH vm₁ ∧ Stand p l e R s m args below meth c B.U B.locs B.cells B.slots ∧ Post ⟨T.setVm vm₁, locs, cells, slots⟩ argsL.toArray v B ∧
      ∀ target, Steps p.tables e below (B.U.setTop { g with pc := g.pc + 3, stack := v.toList ++ rest }) target → Steps p.tables e below (T.setTop g) target) ∨
    (∃ (q : Addr) (vm₁ : Vm) (B : Pt), s.WarmedH vm₁ ∧ Stand p l e R s m args below meth c B.U B.locs B.cells B.slots ∧ PostX ⟨T.setVm vm₁, locs, cells, slots⟩ argsL.toArray q B ∧
      Steps p.tables e below (T.setTop g) ((B.U.setTop { g with stack := rest }).pushFrame (.throwing q))) := by
  obtain ⟨mk, hnamed⟩ := Cond.code_named hcode
  obtain ⟨methM, cM, hmethM, -, -, -, -, -, -, hsigM⟩ := Cond.code_spec hnamed hcode
  have hstatic : methM.isStatic = true := Cond.static_spec hnamed hmethM hstat
  obtain ⟨kP, hkP, -⟩ := className_of_methodNamed hnamed
  have hinitP : kP.init = .initialized := Cond.initialized_spec (findClass_of_methodNamed hnamed) hkP hinit
  obtain ⟨vm₁, X₁, hstep₁⟩ := X.invokestatic hexec hown hlink hnamed hmethM hstatic hkP hinitP hy (g := g) hg (argsL := argsL) (rest := rest) (hlen _ hsigM) hstack hdg
  rcases hK m meth c ⟨T.setVm vm₁, locs, cells, slots⟩ { g with stack := rest } (.invokestatic index) mk argsL.toArray X₁ hg hsize hdg hW (X₁.named hnamed) (hpre vm₁ X₁.warmed) with ⟨v, B, X', hpost, hsteps⟩ | ⟨q, B, X', hpost, hsteps⟩
  · exact Or.inl ⟨v, vm₁, B, X₁.warmed, X', hpost, fun target h => hstep₁ _ fun acts => by rw [doInvoke_state]; exact hsteps.trans h⟩
  · exact Or.inr ⟨q, vm₁, B, X₁.warmed, X', hpost, hstep₁ _ fun acts => by rw [doInvoke_state]; exact hsteps⟩
end Calls
theorem vx_cls {s : State} {T : State} {vm₁ : Vm} {E : String} {k : ClassId} (hW : s.WarmedH vm₁) (h : (T.setVm vm₁).vm.findClass E = some k) : s.vm.findClass E = some k := by
  have h1 : vm₁.findClass E = some k := h
  rw [hW.alike.findClass] at h1
  exact h1
/-- the method's frame g, with q thrown over it -/
def vx_W (p : Program) (l : Launch) (e : Env) (R : Room) (s : State) (m : MethodId) (args : Array Value) (below : List Frame) (meth : Method) (c : Code) (H : Heap) (locs : List Loc) (cells slots : Nat) (Q : State → Prop) (g : JFrame) (q : Addr) : Prop :=
  ∀ T : State, T.heap = H → Stand p l e R s m args below meth c T locs cells slots → ∃ t, Steps p.tables e below ((T.setTop g).pushFrame (.throwing q)) t ∧ Q t
def vx_Run (p : Program) (l : Launch) (e : Env) (R : Room) (s : State) (m : MethodId) (args : Array Value) (below : List Frame) (meth : Method) (c : Code) (H : Heap) (locs : List Loc) (cells slots mc ms : Nat) (g : JFrame) (rest : List Value) (Qa : State → Outcome → State → Prop) (XC : String → State → State → Prop) (free : Addr → Prop) : Prop :=
  ∀ T : State, T.heap = H → Stand p l e R s m args below meth c T locs cells slots →
    (∃ (v : Option Value) (st₀ t T' : State) (L : List Loc), st₀.heap = H ∧ Stand p l e R s m args below meth c T' (locs ++ L) (cells + mc) (slots + ms) ∧ (∀ q ∈ L, free q.base) ∧ T'.heap = t.heap ∧ T'.vm = t.vm ∧ Qa st₀ (.returned v) t ∧
      Goes p e below T g T' { g with pc := g.pc + 3, stack := v.toList ++ rest }) ∨
    (∃ (q : Addr) (st₀ t T' : State) (L : List Loc) (E : String) (ce : Cell), st₀.heap = H ∧ Stand p l e R s m args below meth c T' (locs ++ L) (cells + mc) (slots + ms) ∧ (∀ z ∈ L, free z.base) ∧ T'.heap = t.heap ∧ T'.vm = t.vm ∧ XC E st₀ t ∧ t.heap[q]? = some ce ∧ ce.vm = .none ∧ s.vm.findClass E = some ce.cls ∧
      Steps p.tables e below (T.setTop g) ((T'.setTop { g with stack := rest }).pushFrame (.throwing q)))
def vx_X {S : Type} (px : S → Prop) (B : String → S → State → Prop) (A : Nat → Prop) : String → State → State → Prop := fun E st t => ∃ u : S, px u ∧ B E u t ∧ va_F A st t
section Runs
variable {p : Program} {l : Launch} {e : Env} {R : Room} {s : State} {m : MethodId} {args : Array Value} {below : List Frame} {meth : Method} {c : Code} {H : Heap} {locs : List Loc} {cells slots : Nat}
variable {y : MethodName} {bytes cc : ByteArray} {maxL nL mc ms n index : Nat} {ret : Option FieldType} {ws : List Cond} {rm : Room} {Pc : Array Value → State → Prop} {Qc : Array Value → State → Outcome → State → Prop} {XC : String → State → State → Prop} {free : Addr → Prop} {Ts : List Cond} {own C : String} {b : Addr} {As rest : List Value} {g : JFrame}
theorem vx_callBack (cb : CallB R s args own index y bytes maxL ret ws rm mc ms n) (hM : vx_Met l y ws rm Pc Qc XC mc ms free) (hbl : FrameBlind Pc) : vx_Back l R p e below s args y 3 8 (PreOf R mc ms Pc) (PostOf Qc mc ms free) (vx_Post XC mc ms free) := by
  obtain ⟨hrc, hrs, hfr, hlo, hws, hcw, -, hini, -⟩ := cb
  exact vx_back (bytes := bytes) (maxL := maxL) (ret := ret) hM hbl hrc hrs hfr hlo hws hcw (fun a' U hW => word_at hW (Or.inl (by first | rfl | simp [Cond.onTables, Cond.keeps, Cond.steady])) hini)
theorem vx_runV (S : CallFix p m c cc nL s args Ts own) (hM : vx_Met l y ws rm Pc Qc XC mc ms free) (cw : CallW R s args own C index y bytes maxL ret ws rm mc ms n) (hp : PreV s H C b Pc As)
    (hg : g.method = m) (hn : As.length = n) (hsize : g.locals.size = nL) (hstack : g.stack = As.reverse ++ .ref b :: rest) (hW : 2 * g.monitorRoom + (rest.map fun v => v.category).sum ≤ 8) (hdg : decode cc g.pc = .ok (.invokevirtual index, 3)) (hf : cells + mc ≤ R.cells ∧ slots + ms ≤ R.slots) :
    vx_Run p l e R s m args below meth c H locs cells slots mc ms g rest (Qc (Value.ref b :: As).toArray) XC free := by
  have hK : vx_Back l R p e below s args y 3 8 (PreOf R mc ms Pc) (PostOf Qc mc ms free) (vx_Post XC mc ms free) := vx_callBack cw.1 hM hp.1
  obtain ⟨⟨-, -, -, -, -, -, hcode, -, hy, hlen, hl⟩, hin, hse⟩ := cw
  obtain ⟨hx, hb, hml, ho, -⟩ := S
  obtain ⟨-, ⟨cellB, hcB, hoB, hclB⟩, hPc⟩ := hp
  intro T hT X
  rcases vx_callV X hx (C := C) (bytes := bytes) (maxL := maxL) (ret := ret) ho hl hin hse hcode hy hK (by rw [hT]; exact hcB) hoB hclB hg (hsize.trans hml.symm) (argsL := As) (rest := rest) (fun sig h => hn.trans (hlen sig h)) hstack hW (by rw [hb]; exact hdg)
    (fun vm₁ hW₁ => ⟨hf.1, hf.2, hPc (T.setVm vm₁) hT hW₁⟩) with ⟨v, vm₁, ⟨U', l2, c2, s2⟩, hW₁, X', ⟨g', mk, t, L, e1, e2, hq, h1, hL, h2, h3⟩, st⟩ | ⟨q, vm₁, ⟨U', l2, c2, s2⟩, hW₁, X', ⟨g', mk, t, L, E, ce, e1, e2, hq, hce, hcv, hcl, h1, hL, h2, h3⟩, st⟩
  · dsimp only [Pt.U, Pt.locs, Pt.cells, Pt.slots] at X' e1 e2 h1 h2 h3 st
    subst h1; subst h2; subst h3
    exact Or.inl ⟨v, (T.setVm vm₁).calling g' mk (Value.ref b :: As).toArray, t, U', L, hT, X', hL, e1, e2, hq, st⟩
  · dsimp only [Pt.U, Pt.locs, Pt.cells, Pt.slots] at X' e1 e2 h1 h2 h3 st hcl
    subst h1; subst h2; subst h3
    exact Or.inr ⟨q, (T.setVm vm₁).calling g' mk (Value.ref b :: As).toArray, t, U', L, E, ce, hT, X', hL, e1, e2, hq, hce, hcv, vx_cls hW₁ hcl, st⟩
theorem vx_runS (S : CallFix p m c cc nL s args Ts own) (hM : vx_Met l y ws rm Pc Qc XC mc ms free) (cw : CallB R s args own index y bytes maxL ret ws rm mc ms n ∧ (Cond.static y).before args s = true) (hp : PreS s H Pc As)
    (hg : g.method = m) (hn : As.length = n) (hsize : g.locals.size = nL) (hstack : g.stack = As.reverse ++ rest) (hW : 2 * g.monitorRoom + (rest.map fun v => v.category).sum ≤ 8) (hdg : decode cc g.pc = .ok (.invokestatic index, 3)) (hf : cells + mc ≤ R.cells ∧ slots + ms ≤ R.slots) :
    vx_Run p l e R s m args below meth c H locs cells slots mc ms g rest (Qc As.toArray) XC free := by
  have hK : vx_Back l R p e below s args y 3 8 (PreOf R mc ms Pc) (PostOf Qc mc ms free) (vx_Post XC mc ms free) := vx_callBack cw.1 hM hp.1
  obtain ⟨⟨-, -, -, -, -, -, hcode, hini, hy, hlen, hl⟩, hstt⟩ := cw
  obtain ⟨hx, hb, hml, ho, -⟩ := S
  intro T hT X
  rcases vx_callS X hx (bytes := bytes) (maxL := maxL) (ret := ret) ho hl hstt hini hcode hy hK hg (hsize.trans hml.symm) (argsL := As) (rest := rest) (fun sig h => hn.trans (hlen sig h)) hstack hW (by rw [hb]; exact hdg)
    (fun vm₁ hW₁ => ⟨hf.1, hf.2, hp.2 (T.setVm vm₁) hT hW₁⟩) with ⟨v, vm₁, ⟨U', l2, c2, s2⟩, hW₁, X', ⟨g', mk, t, L, e1, e2, hq, h1, hL, h2, h3⟩, st⟩ | ⟨q, vm₁, ⟨U', l2, c2, s2⟩, hW₁, X', ⟨g', mk, t, L, E, ce, e1, e2, hq, hce, hcv, hcl, h1, hL, h2, h3⟩, st⟩
  · dsimp only [Pt.U, Pt.locs, Pt.cells, Pt.slots] at X' e1 e2 h1 h2 h3 st
    subst h1; subst h2; subst h3
    exact Or.inl ⟨v, (T.setVm vm₁).calling g' mk As.toArray, t, U', L, hT, X', hL, e1, e2, hq, st⟩
  · dsimp only [Pt.U, Pt.locs, Pt.cells, Pt.slots] at X' e1 e2 h1 h2 h3 st hcl
    subst h1; subst h2; subst h3
    exact Or.inr ⟨q, (T.setVm vm₁).calling g' mk As.toArray, t, U', L, E, ce, hT, X', hL, e1, e2, hq, hce, hcv, vx_cls hW₁ hcl, st⟩
end Runs
section Rows
variable {p : Program} {l : Launch} {e : Env} {R : Room} {s : State} {m : MethodId} {args : Array Value} {below : List Frame} {meth : Method} {c : Code} {H : Heap} {locs : List Loc} {cells slots : Nat} {Q : State → Prop}
variable {mc ms : Nat} {free : Addr → Prop} {A0 A1 : Nat → Prop} {H0 : Heap} {a : Array Value} {pc : Nat} {ls : Array Slot} {st0 rest : List Value}
theorem vx_keep {st₀ t T' : State} {L : List Loc} (h0 : st₀.heap = H) (e1 : T'.heap = t.heap) (hS : va_S A0 H0 H locs) (hA : ∀ q, q < H.size → A1 q → A0 q) (hf : ∀ q, free q → A0 q) (hL : ∀ q ∈ L, free q.base) (hF : va_F A1 st₀ t) :
    H.size ≤ T'.heap.size ∧ (∀ q : Nat, q < H.size → ¬ A1 q → T'.heap[q]? = H[q]?) ∧ va_S A0 H0 T'.heap (locs ++ L) := by
  obtain ⟨hz, hk⟩ := hF
  rw [h0] at hz hk
  exact ⟨by rw [e1]; exact hz, fun q h1 h2 => by rw [e1]; exact hk q h1 h2,
    ⟨Nat.le_trans hS.1 (by rw [e1]; exact hz), fun q h1 h2 => by rw [e1, hk q (Nat.lt_of_lt_of_le h1 hS.1) (fun z => h2 (hA q (Nat.lt_of_lt_of_le h1 hS.1) z))]; exact hS.2.1 q h1 h2, fun q hq => by
      rcases List.mem_append.mp hq with h | h
      · exact hS.2.2 q h
      · exact hf _ (hL q h)⟩⟩
theorem vx_calli {S SX : Type} {post : Int32 → S → Prop} {px : SX → Prop} {B : S → State → Prop} {BX : String → SX → State → Prop} {AX : Nat → Prop} (hr : vx_Run p l e R s m args below meth c H locs cells slots mc ms (F0 m pc ls st0) rest (va_Qi post B A1 a) (vx_X px BX AX) free) (hS : va_S A0 H0 H locs) (hA : ∀ q, q < H.size → A1 q → A0 q) (hf : ∀ q, free q → A0 q) (hAX : ∀ q, q < H.size → AX q → A0 q)
    (kx : ∀ (E : String) (ce : Cell) (q9 : Addr) (u : SX) (t : State) (H1 : Heap) (locs1 : List Loc), t.heap = H1 → s.vm.Alike t.vm → px u → BX E u t → H.size ≤ H1.size → (∀ q : Nat, q < H.size → ¬ AX q → H1[q]? = H[q]?) → va_S A0 H0 H1 locs1 → H1[q9]? = some ce → ce.vm = .none → s.vm.findClass E = some ce.cls → vx_W p l e R s m args below meth c H1 locs1 (cells + mc) (slots + ms) Q (F0 m pc ls rest) q9)
    (kk : ∀ (r : Int32) (u : S) (t : State) (H1 : Heap) (locs1 : List Loc), t.heap = H1 → s.vm.Alike t.vm → post r u → B u t → H.size ≤ H1.size → (∀ q : Nat, q < H.size → ¬ A1 q → H1[q]? = H[q]?) → va_S A0 H0 H1 locs1 → W p l e R s m args below meth c H1 locs1 (cells + mc) (slots + ms) Q (F0 m (pc + 3) ls (.int r :: rest))) : W p l e R s m args below meth c H locs cells slots Q (F0 m pc ls st0) := by
  intro T hT X
  rcases hr T hT X with ⟨v, st₀, t, T', L, h0, X', hL, e1, e2, ⟨⟨r, u, hv, hp, hb⟩, hF⟩, st⟩ | ⟨q, st₀, t, T', L, E, ce, h0, X', hL, e1, e2, ⟨u, hp, hb, hF⟩, hce, hcv, hcl, st⟩
  · cases hv
    obtain ⟨k1, k2, k3⟩ := vx_keep h0 e1 hS hA hf hL hF
    obtain ⟨t2, a1, b1⟩ := kk r u t T'.heap (locs ++ L) e1.symm (by rw [← e2]; exact X'.warmed.alike) hp hb k1 k2 k3 T' rfl X'
    exact ⟨t2, st t2 a1, b1⟩
  · obtain ⟨k1, k2, k3⟩ := vx_keep h0 e1 hS hAX hf hL hF
    obtain ⟨t2, a1, b1⟩ := kx E ce q u t T'.heap (locs ++ L) e1.symm (by rw [← e2]; exact X'.warmed.alike) hp hb k1 k2 k3 (by rw [e1]; exact hce) hcv hcl T' rfl X'
    exact ⟨t2, st.trans a1, b1⟩
theorem vx_calll {S SX : Type} {post : Int64 → S → Prop} {px : SX → Prop} {B : S → State → Prop} {BX : String → SX → State → Prop} {AX : Nat → Prop} (hr : vx_Run p l e R s m args below meth c H locs cells slots mc ms (F0 m pc ls st0) rest (va_Ql post B A1 a) (vx_X px BX AX) free) (hS : va_S A0 H0 H locs) (hA : ∀ q, q < H.size → A1 q → A0 q) (hf : ∀ q, free q → A0 q) (hAX : ∀ q, q < H.size → AX q → A0 q)
    (kx : ∀ (E : String) (ce : Cell) (q9 : Addr) (u : SX) (t : State) (H1 : Heap) (locs1 : List Loc), t.heap = H1 → s.vm.Alike t.vm → px u → BX E u t → H.size ≤ H1.size → (∀ q : Nat, q < H.size → ¬ AX q → H1[q]? = H[q]?) → va_S A0 H0 H1 locs1 → H1[q9]? = some ce → ce.vm = .none → s.vm.findClass E = some ce.cls → vx_W p l e R s m args below meth c H1 locs1 (cells + mc) (slots + ms) Q (F0 m pc ls rest) q9)
    (kk : ∀ (r : Int64) (u : S) (t : State) (H1 : Heap) (locs1 : List Loc), t.heap = H1 → s.vm.Alike t.vm → post r u → B u t → H.size ≤ H1.size → (∀ q : Nat, q < H.size → ¬ A1 q → H1[q]? = H[q]?) → va_S A0 H0 H1 locs1 → W p l e R s m args below meth c H1 locs1 (cells + mc) (slots + ms) Q (F0 m (pc + 3) ls (.long r :: rest))) : W p l e R s m args below meth c H locs cells slots Q (F0 m pc ls st0) := by
  intro T hT X
  rcases hr T hT X with ⟨v, st₀, t, T', L, h0, X', hL, e1, e2, ⟨⟨r, u, hv, hp, hb⟩, hF⟩, st⟩ | ⟨q, st₀, t, T', L, E, ce, h0, X', hL, e1, e2, ⟨u, hp, hb, hF⟩, hce, hcv, hcl, st⟩
  · cases hv
    obtain ⟨k1, k2, k3⟩ := vx_keep h0 e1 hS hA hf hL hF
    obtain ⟨t2, a1, b1⟩ := kk r u t T'.heap (locs ++ L) e1.symm (by rw [← e2]; exact X'.warmed.alike) hp hb k1 k2 k3 T' rfl X'
    exact ⟨t2, st t2 a1, b1⟩
  · obtain ⟨k1, k2, k3⟩ := vx_keep h0 e1 hS hAX hf hL hF
    obtain ⟨t2, a1, b1⟩ := kx E ce q u t T'.heap (locs ++ L) e1.symm (by rw [← e2]; exact X'.warmed.alike) hp hb k1 k2 k3 (by rw [e1]; exact hce) hcv hcl T' rfl X'
    exact ⟨t2, st.trans a1, b1⟩
theorem vx_callf {S SX : Type} {post : UInt32 → S → Prop} {px : SX → Prop} {B : S → State → Prop} {BX : String → SX → State → Prop} {AX : Nat → Prop} (hr : vx_Run p l e R s m args below meth c H locs cells slots mc ms (F0 m pc ls st0) rest (va_Qf post B A1 a) (vx_X px BX AX) free) (hS : va_S A0 H0 H locs) (hA : ∀ q, q < H.size → A1 q → A0 q) (hf : ∀ q, free q → A0 q) (hAX : ∀ q, q < H.size → AX q → A0 q)
    (kx : ∀ (E : String) (ce : Cell) (q9 : Addr) (u : SX) (t : State) (H1 : Heap) (locs1 : List Loc), t.heap = H1 → s.vm.Alike t.vm → px u → BX E u t → H.size ≤ H1.size → (∀ q : Nat, q < H.size → ¬ AX q → H1[q]? = H[q]?) → va_S A0 H0 H1 locs1 → H1[q9]? = some ce → ce.vm = .none → s.vm.findClass E = some ce.cls → vx_W p l e R s m args below meth c H1 locs1 (cells + mc) (slots + ms) Q (F0 m pc ls rest) q9)
    (kk : ∀ (r : UInt32) (u : S) (t : State) (H1 : Heap) (locs1 : List Loc), t.heap = H1 → s.vm.Alike t.vm → post r u → B u t → H.size ≤ H1.size → (∀ q : Nat, q < H.size → ¬ A1 q → H1[q]? = H[q]?) → va_S A0 H0 H1 locs1 → W p l e R s m args below meth c H1 locs1 (cells + mc) (slots + ms) Q (F0 m (pc + 3) ls (.float r :: rest))) : W p l e R s m args below meth c H locs cells slots Q (F0 m pc ls st0) := by
  intro T hT X
  rcases hr T hT X with ⟨v, st₀, t, T', L, h0, X', hL, e1, e2, ⟨⟨r, u, hv, hp, hb⟩, hF⟩, st⟩ | ⟨q, st₀, t, T', L, E, ce, h0, X', hL, e1, e2, ⟨u, hp, hb, hF⟩, hce, hcv, hcl, st⟩
  · cases hv
    obtain ⟨k1, k2, k3⟩ := vx_keep h0 e1 hS hA hf hL hF
    obtain ⟨t2, a1, b1⟩ := kk r u t T'.heap (locs ++ L) e1.symm (by rw [← e2]; exact X'.warmed.alike) hp hb k1 k2 k3 T' rfl X'
    exact ⟨t2, st t2 a1, b1⟩
  · obtain ⟨k1, k2, k3⟩ := vx_keep h0 e1 hS hAX hf hL hF
    obtain ⟨t2, a1, b1⟩ := kx E ce q u t T'.heap (locs ++ L) e1.symm (by rw [← e2]; exact X'.warmed.alike) hp hb k1 k2 k3 (by rw [e1]; exact hce) hcv hcl T' rfl X'
    exact ⟨t2, st.trans a1, b1⟩
theorem vx_calld {S SX : Type} {post : UInt64 → S → Prop} {px : SX → Prop} {B : S → State → Prop} {BX : String → SX → State → Prop} {AX : Nat → Prop} (hr : vx_Run p l e R s m args below meth c H locs cells slots mc ms (F0 m pc ls st0) rest (va_Qd post B A1 a) (vx_X px BX AX) free) (hS : va_S A0 H0 H locs) (hA : ∀ q, q < H.size → A1 q → A0 q) (hf : ∀ q, free q → A0 q) (hAX : ∀ q, q < H.size → AX q → A0 q)
    (kx : ∀ (E : String) (ce : Cell) (q9 : Addr) (u : SX) (t : State) (H1 : Heap) (locs1 : List Loc), t.heap = H1 → s.vm.Alike t.vm → px u → BX E u t → H.size ≤ H1.size → (∀ q : Nat, q < H.size → ¬ AX q → H1[q]? = H[q]?) → va_S A0 H0 H1 locs1 → H1[q9]? = some ce → ce.vm = .none → s.vm.findClass E = some ce.cls → vx_W p l e R s m args below meth c H1 locs1 (cells + mc) (slots + ms) Q (F0 m pc ls rest) q9)
    (kk : ∀ (r : UInt64) (u : S) (t : State) (H1 : Heap) (locs1 : List Loc), t.heap = H1 → s.vm.Alike t.vm → post r u → B u t → H.size ≤ H1.size → (∀ q : Nat, q < H.size → ¬ A1 q → H1[q]? = H[q]?) → va_S A0 H0 H1 locs1 → W p l e R s m args below meth c H1 locs1 (cells + mc) (slots + ms) Q (F0 m (pc + 3) ls (.double r :: rest))) : W p l e R s m args below meth c H locs cells slots Q (F0 m pc ls st0) := by
  intro T hT X
  rcases hr T hT X with ⟨v, st₀, t, T', L, h0, X', hL, e1, e2, ⟨⟨r, u, hv, hp, hb⟩, hF⟩, st⟩ | ⟨q, st₀, t, T', L, E, ce, h0, X', hL, e1, e2, ⟨u, hp, hb, hF⟩, hce, hcv, hcl, st⟩
  · cases hv
    obtain ⟨k1, k2, k3⟩ := vx_keep h0 e1 hS hA hf hL hF
    obtain ⟨t2, a1, b1⟩ := kk r u t T'.heap (locs ++ L) e1.symm (by rw [← e2]; exact X'.warmed.alike) hp hb k1 k2 k3 T' rfl X'
    exact ⟨t2, st t2 a1, b1⟩
  · obtain ⟨k1, k2, k3⟩ := vx_keep h0 e1 hS hAX hf hL hF
    obtain ⟨t2, a1, b1⟩ := kx E ce q u t T'.heap (locs ++ L) e1.symm (by rw [← e2]; exact X'.warmed.alike) hp hb k1 k2 k3 (by rw [e1]; exact hce) hcv hcl T' rfl X'
    exact ⟨t2, st.trans a1, b1⟩
theorem vx_callv {S SX : Type} {post : S → Prop} {px : SX → Prop} {B : S → State → Prop} {BX : String → SX → State → Prop} {AX : Nat → Prop} (hr : vx_Run p l e R s m args below meth c H locs cells slots mc ms (F0 m pc ls st0) rest (va_Qv post B A1 a) (vx_X px BX AX) free) (hS : va_S A0 H0 H locs) (hA : ∀ q, q < H.size → A1 q → A0 q) (hf : ∀ q, free q → A0 q) (hAX : ∀ q, q < H.size → AX q → A0 q)
    (kx : ∀ (E : String) (ce : Cell) (q9 : Addr) (u : SX) (t : State) (H1 : Heap) (locs1 : List Loc), t.heap = H1 → s.vm.Alike t.vm → px u → BX E u t → H.size ≤ H1.size → (∀ q : Nat, q < H.size → ¬ AX q → H1[q]? = H[q]?) → va_S A0 H0 H1 locs1 → H1[q9]? = some ce → ce.vm = .none → s.vm.findClass E = some ce.cls → vx_W p l e R s m args below meth c H1 locs1 (cells + mc) (slots + ms) Q (F0 m pc ls rest) q9)
    (kk : ∀ (u : S) (t : State) (H1 : Heap) (locs1 : List Loc), t.heap = H1 → s.vm.Alike t.vm → post u → B u t → H.size ≤ H1.size → (∀ q : Nat, q < H.size → ¬ A1 q → H1[q]? = H[q]?) → va_S A0 H0 H1 locs1 → W p l e R s m args below meth c H1 locs1 (cells + mc) (slots + ms) Q (F0 m (pc + 3) ls (rest))) : W p l e R s m args below meth c H locs cells slots Q (F0 m pc ls st0) := by
  intro T hT X
  rcases hr T hT X with ⟨v, st₀, t, T', L, h0, X', hL, e1, e2, ⟨⟨u, hv, hp, hb⟩, hF⟩, st⟩ | ⟨q, st₀, t, T', L, E, ce, h0, X', hL, e1, e2, ⟨u, hp, hb, hF⟩, hce, hcv, hcl, st⟩
  · cases hv
    obtain ⟨k1, k2, k3⟩ := vx_keep h0 e1 hS hA hf hL hF
    obtain ⟨t2, a1, b1⟩ := kk u t T'.heap (locs ++ L) e1.symm (by rw [← e2]; exact X'.warmed.alike) hp hb k1 k2 k3 T' rfl X'
    exact ⟨t2, st t2 a1, b1⟩
  · obtain ⟨k1, k2, k3⟩ := vx_keep h0 e1 hS hAX hf hL hF
    obtain ⟨t2, a1, b1⟩ := kx E ce q u t T'.heap (locs ++ L) e1.symm (by rw [← e2]; exact X'.warmed.alike) hp hb k1 k2 k3 (by rw [e1]; exact hce) hcv hcl T' rfl X'
    exact ⟨t2, st.trans a1, b1⟩
end Rows
section Ends
variable {p : Program} {l : Launch} {e : Env} {R : Room} {s : State} {m : MethodId} {args : Array Value} {below : List Frame} {meth : Method} {c : Code} {H : Heap} {locs : List Loc} {cells slots : Nat} {Q : State → Prop}
variable {mc ms : Nat} {free : Addr → Prop} {A0 A1 : Nat → Prop} {H0 : Heap} {a : Array Value} {ls : Array Slot} {st0 rest : List Value}
variable {Qc : Array Value → State → Outcome → State → Prop} {XC : String → State → State → Prop}
/-- what a body that may throw owes at its end -/
def vx_MQ (below : List Frame) (Qc : Array Value → State → Outcome → State → Prop) (XC : String → State → State → Prop) (a : Array Value) (s : State) (mc ms : Nat) (free : Addr → Prop) : State → Prop := fun t =>
  ∃ o, t.status = .running ∧ Ended t below o ∧ vx_Q Qc XC mc ms free a s o t
theorem vx_ret {g : JFrame} {mc ms : Nat} (k : W p l e R s m args below meth c H locs cells slots (MQ below Qc args s mc ms free) g) : W p l e R s m args below meth c H locs cells slots (vx_MQ below Qc XC args s mc ms free) g := by
  intro T hT X
  obtain ⟨t, a1, o, b1, b2, b3, b4⟩ := k T hT X
  exact ⟨t, a1, o, b1, b2, Or.inl ⟨b3, b4⟩⟩
/-- not caught here: it goes on to the caller -/
theorem vx_widen {g : JFrame} {q : Addr} {k n : Nat} (h1 : cells ≤ k) (h2 : slots ≤ n) (kk : vx_W p l e R s m args below meth c H locs k n Q g q) : vx_W p l e R s m args below meth c H locs cells slots Q g q := fun T hT X => kk T hT (stand_widen X h1 h2)
theorem vx_out {pc : Nat} {E : String} {ce : Cell} {q : Addr} {mc ms : Nat} (hout : ∀ x ∈ c.exceptionTable.toList, covers x pc = false) (hlocks : meth.locks = false) (hcell : H[q]? = some ce) (hv : ce.vm = .none) (hcl : s.vm.findClass E = some ce.cls)
    (hx : ∀ t : State, t.heap = H → s.vm.Alike t.vm → XC E s t) (hf : ∀ z ∈ locs, free z.base) (hc : cells ≤ mc) (hs : slots ≤ ms) :
    vx_W p l e R s m args below meth c H locs cells slots (vx_MQ below Qc XC args s mc ms free) (F0 m pc ls rest) q := by
  intro T hT X
  obtain ⟨st1, hrun, hend, hW, hsm⟩ := X.leaveThrown q (g := F0 m pc ls rest) rfl rfl rfl hout hlocks
  have hcell9 : (T.setFrames (.throwing q :: below)).heap[q]? = some ce := by
    show T.heap[q]? = some ce
    rw [hT]; exact hcell
  exact ⟨_, st1, .threw q, hrun, hend, Or.inr ⟨q, rfl, E, ce, locs, hx _ hT hW.alike, hcell9, hv, hcl, hW, hsm.mono hc hs, hf⟩⟩
theorem vx_frame {U : State} {k n : Nat} (h : s.sameButNew ({ U with vm := s.vm } : State) locs k n) : s.heap.size ≤ U.heap.size ∧ ∀ q : Nat, q < s.heap.size → (∀ z ∈ locs, z.base ≠ q) → U.heap[q]? = s.heap[q]? := by
  obtain ⟨-, h2, -, -, -, h6⟩ := h
  refine ⟨h2, fun q hq hz => ?_⟩
  obtain ⟨c9, e1, e2, e3, e4⟩ := h6 q _ (Array.getElem?_eq_getElem hq)
  have hs : c9.slots = (s.heap[q]).slots := Array.ext_getElem? fun i => e4 i fun hm => hz _ hm rfl
  have h9 : c9 = s.heap[q] := by
    rw [hs] at e2
    exact e2
  have e5 : U.heap[q]? = some c9 := e1
  rw [e5, h9, Array.getElem?_eq_getElem hq]
/-- the words of a throw but the four that speak of the heap -/
def vx_no (w : Cond) : Bool := decide (w ≠ .isRef (.static Bundle.tN "UNASSIGNED_STACK" Bundle.steD)) && decide (w ≠ .isRef (.static Bundle.tN "SUPPRESSED_SENTINEL" Bundle.listD)) && decide (w ≠ .laysStatic Bundle.tN "UNASSIGNED_STACK" Bundle.steD) && decide (w ≠ .laysStatic Bundle.tN "SUPPRESSED_SENTINEL" Bundle.listD)
def vx_at0 (own : String) (ic : Nat) (X : String) (names : List String) : List Cond := (Bundle.ownAtoms0 own ic X names).filter vx_no
/-- a word that the tables alone decide, or a good one -/
def vx_ot (w : Cond) : Bool := w.onTables || goodWord w
theorem vx_ot_at {args a' : Array Value} {s U : State} {w : Cond} (hW : s.WarmedH U.vm) (hvm : s.vm = U.vm) (hg : vx_ot w = true) (h : w.before args s = true) : w.before a' U = true := by
  simp only [vx_ot, Bool.or_eq_true] at hg
  rcases hg with hg | hg
  · exact va_tabs hg hvm h
  · exact word_at hW (good_of_word hg) h
/-- a list's words: the good ones out of the method's own list, the others by premises of their own -/
theorem vx_hat {args : Array Value} {s : State} {L B : List Cond} (h1 : ∀ w ∈ L.filter goodWord, w.before args s = true) (h2 : ∀ w ∈ L.filter (fun w => !goodWord w), w ∈ B) (h3 : ∀ w ∈ B, w.before args s = true) : ∀ w ∈ L, w.before args s = true := by
  intro w hw
  by_cases g : goodWord w = true
  · exact h1 w (List.mem_filter.mpr ⟨hw, g⟩)
  · refine h3 w (h2 w (List.mem_filter.mpr ⟨hw, ?_⟩))
    show (!goodWord w) = true
    cases hgw : goodWord w
    · rfl
    · exact absurd hgw g
theorem vx_c {args : Array Value} {s : State} {w : Cond} {B : List Cond} (h : w.before args s = true) (t : ∀ w ∈ B, w.before args s = true) : ∀ w' ∈ w :: B, w'.before args s = true := fun w' h' => (List.mem_cons.mp h').elim (fun e => by rw [e]; exact h) (t w')
theorem vx_n {args : Array Value} {s : State} : ∀ w ∈ ([] : List Cond), w.before args s = true := fun _ h => nomatch h
theorem vx_own {args : Array Value} {s : State} {L : List Cond} (h1 : ∀ w ∈ L.filter vx_no, w.before args s = true)
    (hU : (Cond.isRef (.static Bundle.tN "UNASSIGNED_STACK" Bundle.steD)).before args s = true) (hN : (Cond.isRef (.static Bundle.tN "SUPPRESSED_SENTINEL" Bundle.listD)).before args s = true)
    (lU : (Cond.laysStatic Bundle.tN "UNASSIGNED_STACK" Bundle.steD).before args s = true) (lN : (Cond.laysStatic Bundle.tN "SUPPRESSED_SENTINEL" Bundle.listD).before args s = true) : ∀ w ∈ L, w.before args s = true := by
  intro w hw
  by_cases e1 : w = .isRef (.static Bundle.tN "UNASSIGNED_STACK" Bundle.steD)
  · rw [e1]; exact hU
  · by_cases e2 : w = .isRef (.static Bundle.tN "SUPPRESSED_SENTINEL" Bundle.listD)
    · rw [e2]; exact hN
    · by_cases e3 : w = .laysStatic Bundle.tN "UNASSIGNED_STACK" Bundle.steD
      · rw [e3]; exact lU
      · by_cases e4 : w = .laysStatic Bundle.tN "SUPPRESSED_SENTINEL" Bundle.listD
        · rw [e4]; exact lN
        · exact h1 w (List.mem_filter.mpr ⟨hw, by unfold vx_no; rw [decide_eq_true e1, decide_eq_true e2, decide_eq_true e3, decide_eq_true e4]; rfl⟩)
/-- where a static field lies, its class's statics cell in H -/
def vx_L (C n d : String) (A : Nat → Prop) (U : State) (H : Heap) : Prop := ∃ (c : ClassId) (k : Class) (i : Nat) (f : Field) (a : Nat) (cell : Cell), U.vm.findClass C = some c ∧ U.fieldFound? C n d = some (c, k, i, f) ∧ f.isStatic = true ∧ k.statics = some a ∧ H[a]? = some cell ∧ cell.vm.isStatics = true ∧ cell.cls = c ∧ f.slot < cell.slots.size ∧ k.staticTypes[f.slot]? = some f.type ∧ ¬ A a
theorem vx_L.moved {C n d : String} {A : Nat → Prop} {u U : State} {H : Heap} (hvm : u.vm.Alike U.vm) (h : vx_L C n d A u H) : vx_L C n d A U H := by
  obtain ⟨c, k, i, f, a, cell, h1, h2, h3, h4, h5, h6, h7, h8, h9, h10⟩ := h
  obtain ⟨k', hi', he⟩ := State.fieldFound?_setVm hvm h2
  exact ⟨c, k', i, f, a, cell, by rw [hvm.findClass]; exact h1, hi', h3, by rw [he]; exact h4, h5, h6, h7, h8, by rw [he]; exact h9, h10⟩
theorem vx_L.kept {C n d : String} {A : Nat → Prop} {U : State} {H H1 : Heap} (h : vx_L C n d A U H) (hq : ∀ a : Nat, a < H.size → ¬ A a → H1[a]? = H[a]?) : vx_L C n d A U H1 := by
  obtain ⟨c, k, i, f, a, cell, h1, h2, h3, h4, h5, h6, h7, h8, h9, h10⟩ := h
  exact ⟨c, k, i, f, a, cell, h1, h2, h3, h4, by rw [hq a (Array.getElem?_eq_some_iff.mp h5).1 h10]; exact h5, h6, h7, h8, h9, h10⟩
theorem vx_L.narrow {C n d : String} {A B : Nat → Prop} {U : State} {H : Heap} (h : vx_L C n d A U H) (hAB : ∀ q, B q → A q) : vx_L C n d B U H := by
  obtain ⟨c, k, i, f, a, cell, h1, h2, h3, h4, h5, h6, h7, h8, h9, h10⟩ := h
  exact ⟨c, k, i, f, a, cell, h1, h2, h3, h4, h5, h6, h7, h8, h9, fun z => h10 (hAB _ z)⟩
theorem vx_L.word {C n d : String} {A : Nat → Prop} {s : State} {args : Array Value} (h : vx_L C n d A s s.heap) : (Cond.laysStatic C n d).before args s = true := by
  obtain ⟨c, k, i, f, a, cell, h1, h2, h3, h4, h5, h6, h7, h8, h9, -⟩ := h
  show (Cond.laysStatic C n d).holds args s none s [] = true
  exact Cond.laysStatic_of h1 h2 h3 h4 h5 h6 h7 h8 h9
/-- .. and what it holds: null or some reference -/
def vx_Zq (C n d : String) (A : Nat → Prop) (U : State) (H : Heap) : Prop := va_Zq C n d A U H ∧ vx_L C n d A U H
theorem vx_Zq.moved {C n d : String} {A : Nat → Prop} {u U : State} {H : Heap} (hvm : u.vm.Alike U.vm) (h : vx_Zq C n d A u H) : vx_Zq C n d A U H := ⟨va_Zq.moved hvm h.1, vx_L.moved hvm h.2⟩
theorem vx_Zq.kept {C n d : String} {A : Nat → Prop} {U : State} {H H1 : Heap} (h : vx_Zq C n d A U H) (hq : ∀ a : Nat, a < H.size → ¬ A a → H1[a]? = H[a]?) : vx_Zq C n d A U H1 := ⟨va_Zq.kept h.1 hq, vx_L.kept h.2 hq⟩
theorem vx_Zq.narrow {C n d : String} {A B : Nat → Prop} {U : State} {H : Heap} (h : vx_Zq C n d A U H) (hAB : ∀ q, B q → A q) : vx_Zq C n d B U H := ⟨va_Zq.narrow h.1 hAB, vx_L.narrow h.2 hAB⟩
theorem vx_Zqof {args : Array Value} {s : State} {C n d : String} {A : Nat → Prop} (hl : (Cond.laysStatic C n d).before args s = true) (hini : (Cond.initialized C).before args s = true) (h : (Cond.isRef (.static C n d)).before args s = true) (hA : ∀ a : Nat, a < s.heap.size → ¬ A a) : vx_Zq C n d A s s.heap := by
  refine ⟨va_Zqof hl hini h hA, ?_⟩
  obtain ⟨c, k, i, f, a, cell, h1, h2, h3, h4, h5, h6, h7, h8, h9⟩ := Cond.laysStatic_spec hl
  exact ⟨c, k, i, f, a, cell, h1, h2, h3, h4, h5, h6, h7, h8, h9, hA a (Array.getElem?_eq_some_iff.mp h5).1⟩
theorem vx_isRef {C n d : String} {v : Value} {A : Nat → Prop} {s : State} {args : Array Value} (h : va_Z C n d v A s s.heap) (hv : v.isRef = true) : (Cond.isRef (.static C n d)).before args s = true := by
  obtain ⟨cf, kf, fi, f, a, cell, h1, h2, h3, h4, h5, h6, h7, -⟩ := h
  have he : (Term.static C n d).eval args s none [] s = some v := by
    simp [Term.eval, State.fieldNamed?, h1, h2, h4, h5, h6, h7]
  simp only [Cond.before, Cond.holds, Cond.value, he]
  cases v <;> simp_all [Value.isRef]
theorem vx_isRefq {C n d : String} {A : Nat → Prop} {s : State} {args : Array Value} (h : va_Zq C n d A s s.heap) : (Cond.isRef (.static C n d)).before args s = true := by
  rcases h with h | ⟨t, h⟩
  · exact vx_isRef h rfl
  · exact vx_isRef h rfl
/-- the same frame, seen from here: as if the method were called anew in this heap -/
theorem vx_rebase {T : State} (X : Stand p l e R s m args below meth c T locs cells slots) {R' : Room} (hf : R'.frames ≤ R.frames) (hl : R'.locals ≤ R.locals) (hc : cells + R'.cells ≤ R.cells) (hs : slots + R'.slots ≤ R.slots) :
    Stand p l e R' ((T.setVm s.vm).setFrames (.invoking m args :: below)) m args below meth c T [] 0 0 := by
  have htop : (T.setVm s.vm).topJava?.isSome := X.here.top
  have hF : ((T.setVm s.vm).setFrames (.invoking m args :: below)).frames = .invoking m args :: below := State.frames_setFrames _ (State.cur_lt_of_top htop)
  obtain ⟨g₀, hg0⟩ := Option.isSome_iff_exists.mp htop
  obtain ⟨r, hr⟩ := State.topJava?_eq_some.mp hg0
  have hl9 : e.platform.stackLimits (T.setVm s.vm).me = e.platform.stackLimits s.me := X.limits
  have hb9 : (T.setVm s.vm).me.stackBytes = s.me.stackBytes := X.bytes
  refine ⟨X.admits, X.cas, X.clock, hF, ?_, X.hears, X.method, X.code, X.here, X.tail, X.warmed, ?_, ?_, ?_⟩
  · have h := X.room
    have hU : ((T.setVm s.vm).setFrames (.invoking m args :: below)).localsInUse = s.localsInUse := by
      rw [State.localsInUse_invoking hF (meth := meth) (c := c) X.method X.code, State.localsInUse_invoking X.frames X.method X.code]
    simp only [State.hasRoom, Bool.and_eq_true, decide_eq_true_eq] at h ⊢
    obtain ⟨⟨⟨⟨h1, h2, h3, h4, h5, h6⟩, h7⟩, h8⟩, h9⟩ := h
    rw [X.frames, List.length_cons] at h2 h3
    have q1 := X.heapSize
    have q2 := X.used
    simp only [hF, hU, List.length_cons, State.stackLimits_setFrames, State.stackBytes_setFrames, hl9, hb9]
    refine ⟨⟨⟨⟨by omega, by omega, by omega, by omega, by omega, h6⟩, ?_⟩, ?_⟩, X.book⟩
    · show T.heap.size + R'.cells ≤ e.platform.maxCells
      omega
    · show T.slotsUsed + R'.slots ≤ e.platform.maxSlots
      omega
  · rw [State.stackLimits_setFrames]; rfl
  · rw [State.stackBytes_setFrames]; rfl
  · refine ⟨?_, Nat.le_refl _, Nat.le_refl _, ?_, ?_, fun a c9 h9 => ⟨c9, h9, rfl, rfl, fun _ _ => rfl⟩⟩
    · obtain ⟨t, ht, -⟩ := State.frames_cons hr
      show T.setVm s.vm = { ((T.setVm s.vm).setFrames (.invoking m args :: below)).setFrames (T.setVm s.vm).frames with heap := T.heap, slotsUsed := T.slotsUsed }
      rw [State.setFrames_setFrames, State.setFrames_self ht]
      rfl
    · show T.slotsUsed = T.slotsUsed + ((T.heap.toList.drop T.heap.size).map (·.slots.size)).sum
      rw [List.drop_eq_nil_of_le (Nat.le_of_eq Array.length_toList)]
      rfl
    · show ((T.heap.toList.drop T.heap.size).map (·.slots.size)).sum ≤ 0
      rw [List.drop_eq_nil_of_le (Nat.le_of_eq Array.length_toList)]
      exact Nat.le_refl _
/-- 'throw new E()': new; dup; invokespecial; athrow -/
theorem vx_throw0 {cc : ByteArray} {pc : Nat} (hexec : p.tables.exec = Jvm.exec) (hb : c.code = cc) (hl : l.stackTraces = false) {own cls : String} {names : List String} {ik ic mc ms : Nat} {A : Nat → Prop}
    (hown : s.vm.findClass own = some m.cls) (hcls : Bundle.fit cls = true) (hnames : ∀ n ∈ names, Bundle.fit n = true)
    (hk : (Cond.classLink own ik cls).before args s = true) (hini : (Cond.initialized cls).before args s = true) (hat : ∀ w ∈ vx_at0 own ic cls names, w.before args s = true)
    (hgood : ∀ w ∈ Cond.classLink own ik cls :: Cond.initialized cls :: vx_at0 own ic cls names, vx_ot w = true)
    (hU : vx_Zq Bundle.tN "UNASSIGNED_STACK" Bundle.steD A s s.heap) (hN : vx_Zq Bundle.tN "SUPPRESSED_SENTINEL" Bundle.listD A s s.heap) (hS : va_S A s.heap H locs) (hsize : ls.size = c.maxLocals)
    (d0 : decode cc pc = .ok (.new ik, 3)) (d3 : decode cc (pc + 3) = .ok (.dup, 1)) (d4 : decode cc (pc + 4) = .ok (.invokespecial ic, 3)) (d7 : decode cc (pc + 7) = .ok (.athrow, 1))
    (hout : ∀ x ∈ c.exceptionTable.toList, covers x (pc + 7) = false)
    (hRframes : names.length + 3 < R.frames) (hRlocals : (rest.map fun v => v.category).sum + (13 * (names.length + 1) + 42) ≤ R.locals) (hRcells : cells + 1 ≤ R.cells) (hRslots : slots + 6 ≤ R.slots) (hlocks : meth.locks = false)
    (hx : ∀ t : State, s.vm.Alike t.vm → H.size ≤ t.heap.size → (∀ q : Nat, q < H.size → t.heap[q]? = H[q]?) → XC cls s t)
    (hf : ∀ z ∈ locs, free z.base) (hc : cells + 1 ≤ mc) (hs : slots + 6 ≤ ms) :
    W p l e R s m args below meth c H locs cells slots (vx_MQ below Qc XC args s mc ms free) (F0 m pc ls rest) := by
  intro T hT X
  have htr : e.platform.stackTraces = false := (show e.platform.stackTraces = l.stackTraces by rw [X.admits.platform]).trans hl
  have Y := vx_rebase X (R' := { frames := R.frames, locals := R.locals, cells := 1, slots := 6 }) (Nat.le_refl _) (Nat.le_refl _) hRcells hRslots
  obtain ⟨s', hA⟩ : ∃ z, z = (T.setVm s.vm).setFrames (.invoking m args :: below) := ⟨_, rfl⟩
  rw [← hA] at Y
  have hvm : s'.vm = s.vm := by rw [hA]; rfl
  have hhp : s'.heap = H := by rw [hA]; exact hT
  have hW0 : s.WarmedH s'.vm := by rw [hvm]; exact State.WarmedH.refl s
  have hat' : ∀ w ∈ vx_at0 own ic cls names, w.before args s' = true := fun w hw => vx_ot_at hW0 hvm.symm (hgood w (List.mem_cons_of_mem _ (List.mem_cons_of_mem _ hw))) (hat w hw)
  have hk' : (Cond.classLink own ik cls).before args s' = true := vx_ot_at hW0 hvm.symm (hgood _ List.mem_cons_self) hk
  have hini' : (Cond.initialized cls).before args s' = true := vx_ot_at hW0 hvm.symm (hgood _ (List.mem_cons_of_mem _ List.mem_cons_self)) hini
  have hU' : vx_Zq Bundle.tN "UNASSIGNED_STACK" Bundle.steD A s' s'.heap := by rw [hhp]; exact vx_Zq.moved hW0.alike (hU.kept hS.2.1)
  have hN' : vx_Zq Bundle.tN "SUPPRESSED_SENTINEL" Bundle.listD A s' s'.heap := by rw [hhp]; exact vx_Zq.moved hW0.alike (hN.kept hS.2.1)
  have h : ∀ w ∈ Bundle.ownAtoms0 own ic cls names, w.before args s' = true := vx_own hat' (vx_isRefq hU'.1) (vx_isRefq hN'.1) hU'.2.word hN'.2.word
  have hown' : s'.vm.findClass own = some m.cls := by rw [hvm]; exact hown
  have hins : (Cond.instantiable cls 6).before args s' = true := h _ (by simp [Bundle.ownAtoms0])
  obtain ⟨vm₁, cX, kX, hfX, hkX, -, -, X₁, st1⟩ := Y.newCold hexec (own := own) (C := cls) (index := ik) (n := 6) hown' hk' hins hini'
    (g := F0 m pc ls rest) rfl (by rw [hb]; exact d0) (Nat.le_refl _) (Nat.le_refl _)
  generalize hT1 : (T.setVm vm₁).pushCell { cls := cX, slots := kX.instanceTypes.map defaultValue, vm := .none } = T1 at X₁ st1
  have hcat : (Value.ref T.heap.size).category = 1 := rfl
  have hcellA : T1.heap[T.heap.size]? = some (freshCell cX kX) := by rw [← hT1]; exact State.heap_pushCell_size _ _
  have d3' : decode c.code (pc + 3) = .ok (.dup, 1) := by rw [hb]; exact d3
  obtain ⟨U, hsteps, hrun, hend, hW, hsame, ce, hce, hO⟩ := X₁.ctorThrow0 hexec htr (own := own) (cls := cls) (names := names) (ic := ic) hown' hcls hnames h (fun x hx => nomatch hx) hfX hkX hcellA (by rw [hhp, hT]; exact Nat.le_refl _)
    (g := { method := m, pc := pc + 4, locals := ls, stack := .ref T.heap.size :: .ref T.heap.size :: rest, locked := none }) rfl hsize rfl rfl (rest := rest) rfl
    (by rw [hb]; exact d4) (by rw [hb]; exact d7) hout hRframes (by simp only [List.map_cons, List.sum_cons, hcat]; omega) hlocks
  obtain ⟨f1, f2⟩ := vx_frame hsame
  rw [hhp] at f1 f2
  have hWs : s.WarmedH U.vm := State.WarmedH.trans hW0 hW
  have hcl : s.vm.findClass cls = some ce.cls := by
    have h9 := hO.cls
    rw [hvm] at h9
    exact h9
  have hall : s.sameButNew ({ U with vm := s.vm } : State) locs mc ms := by
    subst hA
    obtain ⟨e1, e2⟩ := hsame
    rw [State.setFrames_setFrames] at e1
    have h2 : (T.setVm s.vm).sameButNew ({ U with vm := s.vm } : State) [] (0 + 1) (0 + 6) := ⟨e1, e2⟩
    have h3 := X.same.trans h2
    rw [List.append_nil] at h3
    exact h3.mono hc hs
  refine ⟨U, ?_, .threw T.heap.size, hrun, hend, Or.inr ⟨T.heap.size, rfl, cls, ce, locs, hx U hWs.alike f1 (fun q hq => f2 q hq (fun z hz => nomatch hz)), hce, hO.vm, hcl, hWs, hall, hf⟩⟩
  refine st1 _ ?_
  show Steps p.tables e below (T1.setTop { method := m, pc := pc + 3, locals := ls, stack := .ref T.heap.size :: rest, locked := none }) _
  jvm_step X₁.here [X₁.here.top, hexec, d3', Value.category]
  exact hsteps
end Ends
section Bodies
variable {l : Launch}
theorem vx_ofW {y : MethodName} {ws ws' : List Cond} {rm : Room} {Pc : Array Value → State → Prop} {Qc : Array Value → State → Outcome → State → Prop} {XC : String → State → State → Prop} {mc ms : Nat} {free : Addr → Prop} {cc : ByteArray} {maxL : Nat} {ret : Option FieldType}
    (hy : plainName y.cls = true) (hw : ws = Cond.code y cc maxL ret :: ws')
    (body : ∀ p e s m args below meth c s₁, BodyLoose p l y (headSpec ws rm) cc maxL ret e s m args below meth c s₁ → c.maxLocals = maxL → (∀ x ∈ c.exceptionTable.toList, False) → Pc args s →
      W p l e (headSpec ws rm).room s m args below meth c s.heap [] 0 0 (vx_MQ below Qc XC args s mc ms free) (entryFrame m args maxL)) : vx_Met l y ws rm Pc Qc XC mc ms free := by
  refine MetFree.of_bodyS (code := cc) (maxLocals := maxL) (ret := ret) hy ?_ ?_
  · intro args s m h hn
    obtain ⟨meth, c, h1, h2, h3, h4, h5, h6, -, -⟩ := Cond.code_spec hn (atoms_spec (ws := ws) h _ (by rw [hw]; exact List.mem_cons_self))
    exact ⟨meth, c, h1, h2, h3, h4, h5, h6⟩
  · intro p e s m args below meth c s₁ B hml hP _
    have hh0 : s₁.heap = s.heap := by rw [B.state]; rfl
    have ht : ∀ x ∈ c.exceptionTable.toList, False := by
      obtain ⟨meth9, c9, h1, h2, -, -, -, -, h7, -⟩ := Cond.code_spec B.named (atoms_spec (ws := ws) B.pre _ (by rw [hw]; exact List.mem_cons_self))
      cases Option.some.inj (h1.symm.trans B.method)
      cases Option.some.inj (h2.symm.trans (Stand.of_body B).code)
      intro x hx
      rw [Array.isEmpty_iff.mp h7] at hx
      cases hx
    obtain ⟨t, a1, o, b1, b2, b3⟩ := body p e s m args below meth c s₁ B hml ht hP s₁ hh0 (Stand.of_body B)
    exact ⟨t, o, a1, b1, b2, b3⟩
/-- the table of a body with handlers -/
theorem vx_table {p : Program} {x y : MethodName} {S : Spec} {cc bytes : ByteArray} {maxL maxL' : Nat} {ret ret' : Option FieldType} {e : Env} {s s₁ : State} {m : MethodId} {args : Array Value} {below : List Frame} {meth : Method} {c : Code} {hh : List (Nat × Nat × Nat × Nat)}
    (B : BodyLoose p l y S cc maxL ret e s m args below meth c s₁) (h : (Cond.codeWith y bytes maxL' ret' hh).before args s = true) : c.exceptionTable.toList = tableOf hh := by
  obtain ⟨m9, meth9, c9, hn9, h1, h2, -, -, h6, -⟩ := Cond.codeWith_spec h
  cases Option.some.inj (hn9.symm.trans B.named)
  cases Option.some.inj (h1.symm.trans B.method)
  cases Option.some.inj (h2.symm.trans (Stand.of_body B).code)
  rw [← h6, table_eq]
end Bodies
end VXA
section VXS
variable {p : Program} {l : Launch} {e : Env} {R : Room} {s : State} {m : MethodId} {args : Array Value} {below : List Frame} {meth : Method} {c : Code} {T : State} {H : Heap} {locs : List Loc} {cells slots : Nat}
abbrev vx_CSW (R : Room) (s : State) (args : Array Value) (own : String) (index : Nat) (y : MethodName) (bytes : ByteArray) (maxL : Nat) (ret : Option FieldType) (hh : List (Nat × Nat × Nat × Nat)) (ws : List Cond) (rm : Room) (mc ms n : Nat) : Prop :=
  (rm.cells = mc ∧ rm.slots = ms ∧ rm.frames + 1 ≤ R.frames ∧ 8 + (maxL + 11) + rm.locals ≤ R.locals ∧ (∀ w ∈ ws, ∀ (a' : Array Value) (U : State), s.WarmedH U.vm → w.before a' U = true) ∧ Cond.codeWith y bytes maxL ret hh ∈ ws) ∧
  (Cond.codeWith y bytes maxL ret hh).before args s = true ∧ (Cond.initialized y.cls).before args s = true ∧ (y.cls ≠ "java/lang/invoke/MethodHandle" ∧ y.cls ≠ "java/lang/invoke/VarHandle") ∧
  (∀ sig, parseMethodDescriptor y.desc = some sig → n = sig.parameters.length) ∧ (Cond.methodLink own index y).before args s = true ∧ (Cond.static y).before args s = true
theorem vx_cwSW {own : String} {index maxL mc ms : Nat} {y : MethodName} {bytes : ByteArray} {ret : Option FieldType} {hh : List (Nat × Nat × Nat × Nat)} {Ts ws ws' : List Cond} {rm : Room} (n : Nat) (ht : ∀ w ∈ Ts, w.before args s = true) (hT : GoodIn Ts (va_wsS own index y ws)) (hw : ws = Cond.codeWith y bytes maxL ret hh :: ws') (hrc : rm.cells = mc) (hrs : rm.slots = ms)
    (hd : y.cls ≠ "java/lang/invoke/MethodHandle" ∧ y.cls ≠ "java/lang/invoke/VarHandle" ∧ (parseMethodDescriptor y.desc).map (fun d => d.parameters.length) = some n) (hR : rm.frames + 1 ≤ R.frames ∧ 8 + (maxL + 11) + rm.locals ≤ R.locals) :
    vx_CSW R s args own index y bytes maxL ret hh ws rm mc ms n := by
  have ok : ∀ w ∈ va_wsS own index y ws, w.before args s = true := fun w h => ht w (hT w h).1
  have hG : GoodIn Ts ws := fun w h => hT w (by unfold va_wsS; exact List.mem_append_right _ h)
  have hc : Cond.codeWith y bytes maxL ret hh ∈ ws := by rw [hw]; exact List.mem_cons_self
  refine ⟨⟨hrc, hrs, hR.1, hR.2, pay_in ht hG, hc⟩, ht _ (hG _ hc).1, ok _ (by simp [va_wsS]), ⟨hd.1, hd.2.1⟩, fun sig h => ?_, ok _ (by simp [va_wsS]), ok _ (by simp [va_wsS])⟩
  have h2 := hd.2.2
  rw [h] at h2
  exact (Option.some.inj h2).symm
theorem vx_callSW (X : Stand p l e R s m args below meth c T locs cells slots) (hexec : p.tables.exec = Jvm.exec) {own : String} {index : Nat} {y : MethodName} {bytes : ByteArray} {maxL : Nat} {ret : Option FieldType} {hh : List (Nat × Nat × Nat × Nat)}
    (hown : s.vm.findClass own = some m.cls) (hlink : (Cond.methodLink own index y).before args s = true) (hstat : (Cond.static y).before args s = true) (hinit : (Cond.initialized y.cls).before args s = true)
    (hcode : (Cond.codeWith y bytes maxL ret hh).before args s = true) (hy : y.cls ≠ "java/lang/invoke/MethodHandle" ∧ y.cls ≠ "java/lang/invoke/VarHandle")
    {W9 : Nat} {Pre : Pt → Array Value → Prop} {Post : Pt → Array Value → Option Value → Pt → Prop} (hK : Back l R p e below s args y 3 W9 Pre Post)
    {g : JFrame} (hg : g.method = m) (hsize : g.locals.size = c.maxLocals) {argsL rest : List Value} (hlen : ∀ sig, parseMethodDescriptor y.desc = some sig → argsL.length = sig.parameters.length)
    (hstack : g.stack = argsL.reverse ++ rest) (hW : 2 * g.monitorRoom + (rest.map fun v => v.category).sum ≤ W9) (hdg : decode c.code g.pc = .ok (.invokestatic index, 3))
    (hpre : ∀ vm₁, s.WarmedH vm₁ → Pre ⟨T.setVm vm₁, locs, cells, slots⟩ argsL.toArray) :
    ∃ (v : Option Value) (vm₁ : Vm) (B : Pt), s.WarmedH vm₁ ∧ Stand p l e R s m args below meth c B.U B.locs B.cells B.slots ∧ Post ⟨T.setVm vm₁, locs, cells, slots⟩ argsL.toArray v B ∧
      ∀ target, Steps p.tables e below (B.U.setTop { g with pc := g.pc + 3, stack := v.toList ++ rest }) target → Steps p.tables e below (T.setTop g) target := by
  obtain ⟨mk, methM, cM, hnamed, hmethM, -, -, -, -, -, -, hsigM⟩ := Cond.codeWith_spec hcode
  have hstatic : methM.isStatic = true := Cond.static_spec hnamed hmethM hstat
  obtain ⟨kP, hkP, -⟩ := className_of_methodNamed hnamed
  have hinitP : kP.init = .initialized := Cond.initialized_spec (findClass_of_methodNamed hnamed) hkP hinit
  obtain ⟨vm₁, X₁, hstep₁⟩ := X.invokestatic hexec hown hlink hnamed hmethM hstatic hkP hinitP hy (g := g) hg (argsL := argsL) (rest := rest) (hlen _ hsigM) hstack hdg
  obtain ⟨v, B, X', hpost, hsteps⟩ := hK m meth c ⟨T.setVm vm₁, locs, cells, slots⟩ { g with stack := rest } (.invokestatic index) mk argsL.toArray X₁ hg hsize hdg hW (X₁.named hnamed) (hpre vm₁ X₁.warmed)
  exact ⟨v, vm₁, B, X₁.warmed, X', hpost, fun target h => hstep₁ _ fun acts => by rw [doInvoke_state]; exact hsteps.trans h⟩
theorem vx_runSW {y : MethodName} {bytes cc : ByteArray} {maxL nL mc ms n index : Nat} {ret : Option FieldType} {hh : List (Nat × Nat × Nat × Nat)} {ws : List Cond} {rm : Room} {Pc : Array Value → State → Prop} {Qc : Array Value → State → Outcome → State → Prop} {free : Addr → Prop} {Ts : List Cond} {own : String} {As rest : List Value} {g : JFrame}
    (S : CallFix p m c cc nL s args Ts own) (hM : Met l y ws rm Pc Qc mc ms free) (cw : vx_CSW R s args own index y bytes maxL ret hh ws rm mc ms n) (hp : PreS s H Pc As)
    (hg : g.method = m) (hn : As.length = n) (hsize : g.locals.size = nL) (hstack : g.stack = As.reverse ++ rest) (hW : 2 * g.monitorRoom + (rest.map fun v => v.category).sum ≤ 8) (hdg : decode cc g.pc = .ok (.invokestatic index, 3)) (hf : cells + mc ≤ R.cells ∧ slots + ms ≤ R.slots) :
    va_Run p l e R s m args below meth c H locs cells slots mc ms g rest (Qc As.toArray) (free) := by
  obtain ⟨⟨hrc, hrs, hfr, hlo, hws, hcw⟩, hcode, hini, hy, hlen, hl, hstt⟩ := cw
  have hK : Back l R p e below s args y 3 8 (PreOf R mc ms Pc) (PostOf Qc mc ms free) := va_backW (hh := hh) (bytes := bytes) (maxL := maxL) (ret := ret) hM hp.1 hrc hrs hfr hlo hws hcw (fun a' U hW => word_at hW (Or.inl (by first | rfl | simp [Cond.onTables, Cond.keeps, Cond.steady])) hini)
  obtain ⟨hx, hb, hml, ho, -⟩ := S
  intro T hT X
  obtain ⟨v, vm₁, ⟨U', l2, c2, s2⟩, hW₁, X', ⟨g', mk, t, L, e1, e2, hq, h1, hL, h2, h3⟩, st⟩ := vx_callSW X hx (hh := hh) (bytes := bytes) (maxL := maxL) (ret := ret) ho hl hstt hini hcode hy hK hg (hsize.trans hml.symm) (argsL := As) (rest := rest) (fun sig h => hn.trans (hlen sig h)) hstack hW (by rw [hb]; exact hdg)
    (fun vm₁ hW₁ => ⟨hf.1, hf.2, hp.2 (T.setVm vm₁) hT hW₁⟩)
  dsimp only [Pt.U, Pt.locs, Pt.cells, Pt.slots] at X' e1 e2 h1 h2 h3 st
  subst h1; subst h2; subst h3
  exact ⟨v, (T.setVm vm₁).calling g' mk As.toArray, t, U', L, hT, X', hL, e1, e2, hq, st⟩
end VXS
end
section
/-! catching in the walked method: the search through rows that are passed, the catch type cold or warm -/
section MMC
def mm_FindsTo (e : Env) (s : State) (f : JFrame) (a : Addr) (h : Handler) (vm' : Vm) : Prop :=
  ∀ (Q : Handler → Pre) (E : CtlPost) (d : Bool) (acts : List Action), wp (findHandler f a) Q E e d acts s ↔ Q h d acts (s.setVm vm')
/-- one row that covers and names a linked type: taken or passed -/
theorem mm_go_link {Q : Handler → Pre} {E : CtlPost} {e : Env} {d : Bool} {acts : List Action} {s : State} {f : JFrame} {a : Addr} {x : ExceptionTableEntry} {t : List ExceptionTableEntry} {c : ClassId} {cell : Cell} (hx : covers x f.pc = true) (h0 : x.catchType ≠ 0)
    (hl : s.vm.ClassLinks e.platform f.method.cls x.catchType c) (hcell : s.heap[a]? = some cell) (hobj : ∀ k, cell.vm ≠ .statics k)
    (hk : ∃ k, s.vm.classes[cell.cls]? = some k) (hc : ∃ k, s.vm.classes[c]? = some k) :
    wp (findHandler.go f a (x :: t)) Q E e d acts s ↔ (if s.vm.assignable cell.cls c = true then Q (.found x.handlerPc) d acts (s.setVm (s.vm.noted f.method.cls x.catchType (.cls c))) else wp (findHandler.go f a t) Q E e d acts (s.setVm (s.vm.noted f.method.cls x.catchType (.cls c)))) := by
  simp only [covers] at hx
  obtain ⟨ha, ht⟩ := (resolveClass_links e.toSetting hl).op (op := VmOp.resolveClass f.method.cls x.catchType) rfl
  have hal : s.vm.Alike (s.vm.noted f.method.cls x.catchType (.cls c)) := (Vm.Alike.refl s.vm).noted _ _ _
  obtain ⟨k1, hk1⟩ := hk
  obtain ⟨k2, hk2⟩ := hc
  obtain ⟨k1', hk1', -⟩ := hal.2.2 _ _ hk1
  obtain ⟨k2', hk2', -⟩ := hal.2.2 _ _ hk2
  by_cases hfit : s.vm.assignable cell.cls c = true
  · have hfit' : (s.vm.noted f.method.cls x.catchType (.cls c)).assignable cell.cls c = true := by rw [hal.assignable]; exact hfit
    rw [if_pos hfit]
    simp [findHandler.go, hx, h0, ha, ht, hcell, hobj, hk1', hk2', hfit', VmOp.dirties, VmOp.acts]
  · have hfit' : (s.vm.noted f.method.cls x.catchType (.cls c)).assignable cell.cls c = false := by rw [hal.assignable]; simpa using hfit
    rw [if_neg hfit]
    simp [findHandler.go, hx, h0, ha, ht, hcell, hobj, hk1', hk2', hfit', VmOp.dirties, VmOp.acts]
/-- the search through passed rows to one that takes the object; every row that covers names a linked type -/
theorem mm_go_to {e : Env} {s₀ : State} {f : JFrame} {a : Addr} {cell : Cell} (hobj : ∀ k, cell.vm ≠ .statics k) (hk0 : ∃ k, s₀.vm.classes[cell.cls]? = some k)
    (x : ExceptionTableEntry) (suf : List ExceptionTableEntry) (hx : covers x f.pc = true) (h0 : x.catchType ≠ 0) {cT : ClassId} (hlT : s₀.vm.ClassLinks e.platform f.method.cls x.catchType cT) (hfit : s₀.vm.assignable cell.cls cT = true) :
    ∀ (pre : List ExceptionTableEntry) (S : State), s₀.WarmedH S.vm → S.heap[a]? = some cell →
      (∀ y ∈ pre, covers y f.pc = false ∨ (y.catchType ≠ 0 ∧ ∃ c, s₀.vm.ClassLinks e.platform f.method.cls y.catchType c ∧ s₀.vm.assignable cell.cls c = false)) →
      ∃ vm', s₀.WarmedH vm' ∧ ∀ (Q : Handler → Pre) (E : CtlPost) (d : Bool) (acts : List Action), wp (findHandler.go f a (pre ++ x :: suf)) Q E e d acts S ↔ Q (.found x.handlerPc) d acts (S.setVm vm') := by
  obtain ⟨k0, hk0⟩ := hk0
  have one : ∀ (y : ExceptionTableEntry) (t : List ExceptionTableEntry) (c : ClassId) (S : State), s₀.WarmedH S.vm → S.heap[a]? = some cell → covers y f.pc = true → y.catchType ≠ 0 → s₀.vm.ClassLinks e.platform f.method.cls y.catchType c →
      s₀.WarmedH (S.vm.noted f.method.cls y.catchType (.cls c)) ∧ ∀ (Q : Handler → Pre) (E : CtlPost) (d : Bool) (acts : List Action), wp (findHandler.go f a (y :: t)) Q E e d acts S ↔ (if s₀.vm.assignable cell.cls c = true then Q (.found y.handlerPc) d acts (S.setVm (S.vm.noted f.method.cls y.catchType (.cls c))) else wp (findHandler.go f a t) Q E e d acts (S.setVm (S.vm.noted f.method.cls y.catchType (.cls c)))) := by
    intro y t c S hW hcell hcov hy0 hl
    obtain ⟨k0', hk0', -⟩ := hW.alike.2.2 _ _ hk0
    obtain ⟨dk, _, _, kt, hd, _, _, _, _, hkt, _, hopen⟩ := hl.here
    obtain ⟨kt', hkt', -⟩ := hW.alike.2.2 _ _ hkt
    refine ⟨hW.noted hd hopen (State.rightAt_cls hl), fun Q E d acts => ?_⟩
    rw [mm_go_link hcov hy0 (hW.classLinks hl) hcell hobj ⟨k0', hk0'⟩ ⟨kt', hkt'⟩, hW.alike.assignable]
  intro pre
  induction pre with
  | nil =>
    intro S hW hcell _
    obtain ⟨hW', hq⟩ := one x suf cT S hW hcell hx h0 hlT
    exact ⟨_, hW', fun Q E d acts => by rw [List.nil_append, hq, if_pos hfit]⟩
  | cons y ys ih =>
    intro S hW hcell hpass
    have hrest := fun z hz => hpass z (List.mem_cons_of_mem y hz)
    by_cases hcov : covers y f.pc = true
    · rcases hpass y List.mem_cons_self with h | ⟨hy0, c, hl, hno⟩
      · rw [h] at hcov; cases hcov
      · obtain ⟨hW', hq⟩ := one y (ys ++ x :: suf) c S hW hcell hcov hy0 hl
        obtain ⟨vm', hW2, hq2⟩ := ih (S.setVm (S.vm.noted f.method.cls y.catchType (.cls c))) hW' hcell hrest
        exact ⟨vm', hW2, fun Q E d acts => by
          rw [List.cons_append, hq, if_neg (by rw [hno]; decide)]
          exact hq2 Q E d acts⟩
    · obtain ⟨vm', hW', hq⟩ := ih S hW hcell hrest
      exact ⟨vm', hW', fun Q E d acts => by
        rw [List.cons_append, Jvm.W.findHandler_go_skip (by simpa using hcov)]
        exact hq Q E d acts⟩
theorem mm_stepCatch {e : Env} {s : State} {a : Addr} {f : JFrame} {r : List Frame} {pc : Nat} {vm' : Vm} (hfind : mm_FindsTo e s f a (.found pc) vm') :
    (stepThrowing e s a (.java f :: r)).Is ((s.setVm vm').setFrames (.java { f with pc := pc, stack := [.ref a] } :: r)) [] := by
  simp only [stepThrowing, searchFrame, vmDo]
  generalize hr : Sem.go _ e false [] s = res
  obtain ⟨as, rfl, ha⟩ := Sem.eq_ok_of hr (a := Handler.found pc) (s' := s.setVm vm') (acts' := []) (by simp [hfind _ _ _ _])
  exact ⟨rfl, ha⟩
theorem mm_caught {tb : Tables} {e : Env} {s target : State} {g : JFrame} {c : Code} {below : List Frame} {a : Addr} (h : At s g.method c below) {pc : Nat} {vm' : Vm}
    (hfind : mm_FindsTo e ((s.setTop g).pushFrame (.throwing a)) g a (.found pc) vm') (hrest : Steps tb e below ((s.setVm vm').setTop { g with pc := pc, stack := [.ref a] }) target) :
    Steps tb e below ((s.setTop g).pushFrame (.throwing a)) target := by
  have hq : ∀ (u : State) (F G : List Frame), ((u.setFrames F).setVm vm').setFrames G = (u.setVm vm').setFrames G := by
    intro u F G
    have h1 : (u.setFrames F).setVm vm' = (u.setVm vm').setFrames F := rfl
    rw [h1, State.setFrames_setFrames]
  obtain ⟨hgo, hw⟩ := h.throwing a
  refine Steps.head hgo hw ?_
  rw [stepThread_throwing (frames_entered h.top _), (mm_stepCatch (s := (s.setTop g).pushFrame (.throwing a)) hfind).1]
  obtain ⟨g₀, hg⟩ := Option.isSome_iff_exists.mp h.top
  obtain ⟨r, hr⟩ := State.topJava?_eq_some.mp hg
  have hr' : (s.setVm vm').frames = .java g₀ :: r := hr
  rw [State.setTop_of_frames _ hr'] at hrest
  rw [hr, List.tail_cons, State.pushFrame, hq, State.setTop_of_frames _ hr, hq]
  exact hrest
variable {p : Program} {l : Launch} {e : Env} {R : Room} {s : State} {m : MethodId} {args : Array Value} {below : List Frame} {meth : Method} {c : Code} {H : Heap} {locs : List Loc} {cells slots : Nat} {Q : State → Prop} {pc : Nat} {ls : Array Slot} {rest : List Value}
/-- caught by the row x of this method's table; the rows ahead don't take it -/
theorem mm_catch {own name : String} {E : String} {ce : Cell} {q : Addr} (hown : s.vm.findClass own = some m.cls) (pre : List ExceptionTableEntry) (x : ExceptionTableEntry) (suf : List ExceptionTableEntry) (hsplit : c.exceptionTable.toList = pre ++ x :: suf)
    (hpass : ∀ z ∈ pre, covers z pc = false ∨ (z.catchType ≠ 0 ∧ ∃ nm : String, (Cond.classLink own z.catchType nm).before args s = true ∧ va_Nc E nm s)) (hx : covers x pc = true) (h0 : x.catchType ≠ 0)
    (hlink : (Cond.classLink own x.catchType name).before args s = true) (hcast : (Cond.castable E name).before args s = true) (hcell : H[q]? = some ce) (hv : ce.vm = .none) (hcl : s.vm.findClass E = some ce.cls)
    (kk : W p l e R s m args below meth c H locs cells slots Q (F0 m x.handlerPc ls [.ref q])) : vx_W p l e R s m args below meth c H locs cells slots Q (F0 m pc ls rest) q := by
  intro T hT X
  have hpl : e.platform.magicAccessors = ({} : Platform).magicAccessors := by rw [X.admits.platform]
  obtain ⟨c3, c4, hc3, hc4, hasg⟩ := Cond.castable_spec hcast
  cases Option.some.inj (hc3.symm.trans hcl)
  obtain ⟨c5, hc5, hcl5⟩ := Cond.classLink_spec hown hlink e.platform hpl
  cases Option.some.inj (hc4.symm.trans hc5)
  obtain ⟨k9, h9, -⟩ := Vm.findClass_spec hcl
  have hcellT : ((T.setTop (F0 m pc ls rest)).pushFrame (.throwing q)).heap[q]? = some ce := by rw [throwing_heap, hT]; exact hcell
  have hWT : s.WarmedH ((T.setTop (F0 m pc ls rest)).pushFrame (.throwing q)).vm := by rw [throwing_vm]; exact X.warmed
  obtain ⟨vm', hW', hq⟩ := mm_go_to (e := e) (s₀ := s) (f := F0 m pc ls rest) (a := q) (cell := ce) (VmData.ne_statics_of (by rw [hv]; rfl)) ⟨k9, h9⟩ x suf hx h0 hcl5 hasg pre ((T.setTop (F0 m pc ls rest)).pushFrame (.throwing q)) hWT hcellT
    (fun z hz => by
      rcases hpass z hz with h | ⟨hz0, nm, hl1, hn1⟩
      · exact Or.inl h
      · obtain ⟨c6, hc6, hcl6⟩ := Cond.classLink_spec hown hl1 e.platform hpl
        obtain ⟨a8, b8, h1, h2, h3⟩ := hn1
        cases Option.some.inj (h1.symm.trans hcl)
        cases Option.some.inj (h2.symm.trans hc6)
        exact Or.inr ⟨hz0, _, hcl6, h3⟩)
  obtain ⟨t, a1, b1⟩ := kk (T.setVm vm') hT (X.noted hW')
  refine ⟨t, mm_caught (g := F0 m pc ls rest) X.here (fun Q E d acts => ?_) a1, b1⟩
  have hm' : ((T.setTop (F0 m pc ls rest)).pushFrame (.throwing q)).vm.method? (F0 m pc ls rest).method = some meth := by rw [throwing_vm]; exact X.method'
  rw [Jvm.W.findHandler_eq hm' X.code, hsplit]
  exact hq Q E d acts
end MMC
end
section
/-! ===== BEGIN printed: names, fields, word lists, decode rows ===== -/
def RX0 : String := "ChainBench$Device"
def TX0 : u_T := fun k => match k with
  | 0 => ("ChainBench$Device", "bits", "I", true)
  | 1 => ("ChainBench$Device", "identity", "I", true)
  | 2 => ("ChainBench$Device", "cells", "I", true)
  | 3 => ("ChainBench$Device", "drivers", "I", true)
  | 4 => ("ChainBench$Device", "wired", "I", false)
  | 5 => ("ChainBench$Device", "latches", "I", false)
  | 6 => ("ChainBench$Device", "cores", "I", false)
  | 7 => ("ChainBench$Device", "instruction", "I", false)
  | 8 => ("ChainBench$Device", "instructionShift", "I", false)
  | _ => ("ChainBench$Device", "data", "I", false)
def tyX0 : Nat → FieldType := fun k => match k with
  | 0 => .int
  | 1 => .int
  | 2 => .int
  | 3 => .int
  | 4 => .int
  | 5 => .int
  | 6 => .int
  | 7 => .int
  | 8 => .int
  | _ => .int
theorem nmX0 : ∀ a, a < 10 → ∀ b, b < 10 → a ≠ b → (TX0 a).2.1 ≠ (TX0 b).2.1 := by decide +kernel
theorem tyX0_ok : ∀ k, k < 10 → parseFieldDescriptor (TX0 k).2.2.1 = some (tyX0 k) := by decide +kernel
abbrev cX0_init : ByteArray := prog_2_method_1_code
def yX0_init : MethodName := ⟨RX0, "<init>", "(IIII)V"⟩
abbrev cX0_drives : ByteArray := prog_2_method_2_code
def yX0_drives : MethodName := ⟨RX0, "drives", "(I)Z"⟩
abbrev cX0_isWired : ByteArray := prog_2_method_3_code
def yX0_isWired : MethodName := ⟨RX0, "isWired", "(I)Z"⟩
abbrev cX0_wire : ByteArray := prog_2_method_4_code
def yX0_wire : MethodName := ⟨RX0, "wire", "(I)V"⟩
abbrev cX0_setCore : ByteArray := prog_2_method_5_code
def yX0_setCore : MethodName := ⟨RX0, "setCore", "(IZ)V"⟩
abbrev cX0_clearOutputs : ByteArray := prog_2_method_6_code
def yX0_clearOutputs : MethodName := ⟨RX0, "clearOutputs", "()V"⟩
abbrev cX0_outputs : ByteArray := prog_2_method_7_code
def yX0_outputs : MethodName := ⟨RX0, "outputs", "()I"⟩
abbrev cX0_hasBoundary : ByteArray := prog_2_method_8_code
def yX0_hasBoundary : MethodName := ⟨RX0, "hasBoundary", "()Z"⟩
abbrev cX0_dataLength : ByteArray := prog_2_method_9_code
def yX0_dataLength : MethodName := ⟨RX0, "dataLength", "()I"⟩
abbrev cX0_captureData : ByteArray := prog_2_method_10_code
def yX0_captureData : MethodName := ⟨RX0, "captureData", "(I)V"⟩
abbrev cX0_shiftData : ByteArray := prog_2_method_11_code
def yX0_shiftData : MethodName := ⟨RX0, "shiftData", "(Z)Z"⟩
abbrev cX0_shiftInstruction : ByteArray := prog_2_method_12_code
def yX0_shiftInstruction : MethodName := ⟨RX0, "shiftInstruction", "(Z)Z"⟩
abbrev cX0_updateData : ByteArray := prog_2_method_13_code
def yX0_updateData : MethodName := ⟨RX0, "updateData", "()V"⟩
abbrev cX0_shiftedDown : ByteArray := prog_2_method_14_code
def yX0_shiftedDown : MethodName := ⟨RX0, "shiftedDown", "(IIZ)I"⟩
def RX1 : String := "ChainBench$Net"
def TX1 : u_T := fun k => match k with
  | 0 => ("ChainBench$Net", "from", "LChainBench$Device;", true)
  | 1 => ("ChainBench$Net", "fromCell", "I", true)
  | 2 => ("ChainBench$Net", "to", "LChainBench$Device;", true)
  | 3 => ("ChainBench$Net", "toCell", "I", true)
  | 4 => ("ChainBench$Net", "faultKind", "I", false)
  | 5 => ("ChainBench$Net", "shortedWith", "LChainBench$Net;", false)
  | _ => ("ChainBench$Net", "seen", "I", false)
def tyX1 : Nat → FieldType := fun k => match k with
  | 0 => .object "ChainBench$Device"
  | 1 => .int
  | 2 => .object "ChainBench$Device"
  | 3 => .int
  | 4 => .int
  | 5 => .object "ChainBench$Net"
  | _ => .int
theorem nmX1 : ∀ a, a < 7 → ∀ b, b < 7 → a ≠ b → (TX1 a).2.1 ≠ (TX1 b).2.1 := by decide +kernel
theorem tyX1_ok : ∀ k, k < 7 → parseFieldDescriptor (TX1 k).2.2.1 = some (tyX1 k) := by decide +kernel
abbrev cX1_init : ByteArray := prog_3_method_1_code
def yX1_init : MethodName := ⟨RX1, "<init>", "(LChainBench$Device;ILChainBench$Device;I)V"⟩
abbrev cX1_carries : ByteArray := prog_3_method_2_code
def yX1_carries : MethodName := ⟨RX1, "carries", "()Z"⟩
abbrev cX1_breakAlone : ByteArray := prog_3_method_3_code
def yX1_breakAlone : MethodName := ⟨RX1, "breakAlone", "(I)V"⟩
abbrev cX1_breakWith : ByteArray := prog_3_method_4_code
def yX1_breakWith : MethodName := ⟨RX1, "breakWith", "(LChainBench$Net;I)V"⟩
abbrev cX1_mend : ByteArray := prog_3_method_5_code
def yX1_mend : MethodName := ⟨RX1, "mend", "()V"⟩
def RX2 : String := "ChainBench"
def TX2 : u_T := fun k => match k with
  | 0 => ("ChainBench", "devices", "Ljava/util/ArrayList;", true)
  | 1 => ("ChainBench", "nets", "Ljava/util/ArrayList;", true)
  | 2 => ("ChainBench", "portState", "I", false)
  | 3 => ("ChainBench", "clockCount", "I", false)
  | 4 => ("ChainBench", "scanRow", "[I", true)
  | 5 => ("ChainBench", "foundIdentities", "[I", true)
  | 6 => ("ChainBench", "foundCount", "I", false)
  | _ => ("ChainBench", "tested", "Z", false)
def tyX2 : Nat → FieldType := fun k => match k with
  | 0 => .object "java/util/ArrayList"
  | 1 => .object "java/util/ArrayList"
  | 2 => .int
  | 3 => .int
  | 4 => .array .int
  | 5 => .array .int
  | 6 => .int
  | _ => .boolean
theorem nmX2 : ∀ a, a < 8 → ∀ b, b < 8 → a ≠ b → (TX2 a).2.1 ≠ (TX2 b).2.1 := by decide +kernel
theorem tyX2_ok : ∀ k, k < 8 → parseFieldDescriptor (TX2 k).2.2.1 = some (tyX2 k) := by decide +kernel
abbrev cX2_init : ByteArray := prog_1_method_1_code
def yX2_init : MethodName := ⟨RX2, "<init>", "()V"⟩
abbrev cX2_device : ByteArray := prog_1_method_2_code
def yX2_device : MethodName := ⟨RX2, "device", "(IIII)I"⟩
abbrev cX2_net : ByteArray := prog_1_method_3_code
def yX2_net : MethodName := ⟨RX2, "net", "(IIII)I"⟩
abbrev cX2_fault : ByteArray := prog_1_method_4_code
def yX2_fault : MethodName := ⟨RX2, "fault", "(III)V"⟩
abbrev cX2_core : ByteArray := prog_1_method_5_code
def yX2_core : MethodName := ⟨RX2, "core", "(IIZ)V"⟩
abbrev cX2_clock : ByteArray := prog_1_method_6_code
def yX2_clock : MethodName := ⟨RX2, "clock", "(ZZ)Z"⟩
abbrev cX2_state : ByteArray := prog_1_method_7_code
def yX2_state : MethodName := ⟨RX2, "state", "()I"⟩
abbrev cX2_look : ByteArray := prog_1_method_8_code
def yX2_look : MethodName := ⟨RX2, "look", "(II)I"⟩
abbrev cX2_value : ByteArray := prog_1_method_9_code
def yX2_value : MethodName := ⟨RX2, "value", "(I)Z"⟩
abbrev cX2_find : ByteArray := prog_1_method_10_code
def yX2_find : MethodName := ⟨RX2, "find", "()I"⟩
abbrev cX2_found : ByteArray := prog_1_method_11_code
def yX2_found : MethodName := ⟨RX2, "found", "(I)I"⟩
abbrev cX2_test : ByteArray := prog_1_method_12_code
def yX2_test : MethodName := ⟨RX2, "test", "()I"⟩
abbrev cX2_saw : ByteArray := prog_1_method_13_code
def yX2_saw : MethodName := ⟨RX2, "saw", "(I)I"⟩
abbrev cX2_clocks : ByteArray := prog_1_method_14_code
def yX2_clocks : MethodName := ⟨RX2, "clocks", "()I"⟩
abbrev cX2_isDevice : ByteArray := prog_1_method_15_code
def yX2_isDevice : MethodName := ⟨RX2, "isDevice", "(I)Z"⟩
abbrev cX2_isCell : ByteArray := prog_1_method_16_code
def yX2_isCell : MethodName := ⟨RX2, "isCell", "(II)Z"⟩
abbrev cX2_isNet : ByteArray := prog_1_method_17_code
def yX2_isNet : MethodName := ⟨RX2, "isNet", "(I)Z"⟩
abbrev cX2_restartDevices : ByteArray := prog_1_method_18_code
def yX2_restartDevices : MethodName := ⟨RX2, "restartDevices", "()V"⟩
abbrev cX2_step : ByteArray := prog_1_method_19_code
def yX2_step : MethodName := ⟨RX2, "step", "(ZZ)Z"⟩
abbrev cX2_enterState : ByteArray := prog_1_method_20_code
def yX2_enterState : MethodName := ⟨RX2, "enterState", "(I)V"⟩
abbrev cX2_doState : ByteArray := prog_1_method_21_code
def yX2_doState : MethodName := ⟨RX2, "doState", "(Z)Z"⟩
abbrev cX2_signalsOf : ByteArray := prog_1_method_22_code
def yX2_signalsOf : MethodName := ⟨RX2, "signalsOf", "(LChainBench$Device;)I"⟩
abbrev cX2_goToIdle : ByteArray := prog_1_method_23_code
def yX2_goToIdle : MethodName := ⟨RX2, "goToIdle", "()V"⟩
abbrev cX2_scan : ByteArray := prog_1_method_24_code
def yX2_scan : MethodName := ⟨RX2, "scan", "(ZI)V"⟩
abbrev cX2_wordsBeforeAllOnes : ByteArray := prog_1_method_25_code
def yX2_wordsBeforeAllOnes : MethodName := ⟨RX2, "wordsBeforeAllOnes", "()I"⟩
abbrev cX2_giveAllExtest : ByteArray := prog_1_method_26_code
def yX2_giveAllExtest : MethodName := ⟨RX2, "giveAllExtest", "()V"⟩
abbrev cX2_allCells : ByteArray := prog_1_method_27_code
def yX2_allCells : MethodName := ⟨RX2, "allCells", "()I"⟩
abbrev cX2_forgetSeen : ByteArray := prog_1_method_28_code
def yX2_forgetSeen : MethodName := ⟨RX2, "forgetSeen", "()V"⟩
abbrev cX2_patternOfRound : ByteArray := prog_1_method_29_code
def yX2_patternOfRound : MethodName := ⟨RX2, "patternOfRound", "(I)I"⟩
abbrev cX2_noteSeen : ByteArray := prog_1_method_30_code
def yX2_noteSeen : MethodName := ⟨RX2, "noteSeen", "(II)V"⟩
abbrev cX2_placeInScan : ByteArray := prog_1_method_31_code
def yX2_placeInScan : MethodName := ⟨RX2, "placeInScan", "(LChainBench$Device;I)I"⟩
abbrev cX2_countFaulty : ByteArray := prog_1_method_32_code
def yX2_countFaulty : MethodName := ⟨RX2, "countFaulty", "()I"⟩
def RX3 : String := "ChainBenchModel"
def TX3 : u_T := fun k => match k with
  | 0 => ("ChainBenchModel", "thrown", "I", false)
  | 1 => ("ChainBenchModel", "count", "I", false)
  | 2 => ("ChainBenchModel", "width", "[I", true)
  | 3 => ("ChainBenchModel", "identity", "[I", true)
  | 4 => ("ChainBenchModel", "cells", "[I", true)
  | 5 => ("ChainBenchModel", "instruction", "[I", true)
  | 6 => ("ChainBenchModel", "shifted", "[I", true)
  | 7 => ("ChainBenchModel", "boundary", "[I", true)
  | 8 => ("ChainBenchModel", "identities", "[I", true)
  | 9 => ("ChainBenchModel", "bypass", "[I", true)
  | 10 => ("ChainBenchModel", "drives", "[Z", true)
  | 11 => ("ChainBenchModel", "latch", "[I", true)
  | 12 => ("ChainBenchModel", "core", "[I", true)
  | 13 => ("ChainBenchModel", "netOf", "[I", true)
  | 14 => ("ChainBenchModel", "nets", "I", false)
  | 15 => ("ChainBenchModel", "driver", "[I", true)
  | 16 => ("ChainBenchModel", "kind", "[I", true)
  | 17 => ("ChainBenchModel", "partner", "[I", true)
  | 18 => ("ChainBenchModel", "seen", "[I", true)
  | 19 => ("ChainBenchModel", "state", "I", false)
  | 20 => ("ChainBenchModel", "clocks", "I", false)
  | 21 => ("ChainBenchModel", "found", "I", false)
  | 22 => ("ChainBenchModel", "names", "[I", true)
  | _ => ("ChainBenchModel", "tested", "Z", false)
def tyX3 : Nat → FieldType := fun k => match k with
  | 0 => .int
  | 1 => .int
  | 2 => .array .int
  | 3 => .array .int
  | 4 => .array .int
  | 5 => .array .int
  | 6 => .array .int
  | 7 => .array .int
  | 8 => .array .int
  | 9 => .array .int
  | 10 => .array .boolean
  | 11 => .array .int
  | 12 => .array .int
  | 13 => .array .int
  | 14 => .int
  | 15 => .array .int
  | 16 => .array .int
  | 17 => .array .int
  | 18 => .array .int
  | 19 => .int
  | 20 => .int
  | 21 => .int
  | 22 => .array .int
  | _ => .boolean
theorem nmX3 : ∀ a, a < 24 → ∀ b, b < 24 → a ≠ b → (TX3 a).2.1 ≠ (TX3 b).2.1 := by decide +kernel
theorem tyX3_ok : ∀ k, k < 24 → parseFieldDescriptor (TX3 k).2.2.1 = some (tyX3 k) := by decide +kernel
abbrev cX3_init : ByteArray := prog_5_method_1_code
def yX3_init : MethodName := ⟨RX3, "<init>", "()V"⟩
abbrev cX3_thrown : ByteArray := prog_5_method_2_code
def yX3_thrown : MethodName := ⟨RX3, "thrown", "()I"⟩
abbrev cX3_out : ByteArray := prog_5_method_3_code
def yX3_out : MethodName := ⟨RX3, "out", "(II)Z"⟩
abbrev cX3_fail : ByteArray := prog_5_method_4_code
def yX3_fail : MethodName := ⟨RX3, "fail", "(I)I"⟩
abbrev cX3_after : ByteArray := prog_5_method_5_code
def yX3_after : MethodName := ⟨RX3, "after", "(IZ)I"⟩
abbrev cX3_device : ByteArray := prog_5_method_6_code
def yX3_device : MethodName := ⟨RX3, "device", "(IIII)I"⟩
abbrev cX3_isCell : ByteArray := prog_5_method_7_code
def yX3_isCell : MethodName := ⟨RX3, "isCell", "(II)Z"⟩
abbrev cX3_net : ByteArray := prog_5_method_8_code
def yX3_net : MethodName := ⟨RX3, "net", "(IIII)I"⟩
abbrev cX3_heal : ByteArray := prog_5_method_9_code
def yX3_heal : MethodName := ⟨RX3, "heal", "(I)V"⟩
abbrev cX3_fault : ByteArray := prog_5_method_10_code
def yX3_fault : MethodName := ⟨RX3, "fault", "(III)V"⟩
abbrev cX3_core : ByteArray := prog_5_method_11_code
def yX3_core : MethodName := ⟨RX3, "core", "(IIZ)V"⟩
abbrev cX3_output : ByteArray := prog_5_method_12_code
def yX3_output : MethodName := ⟨RX3, "output", "(I)I"⟩
abbrev cX3_valueOf : ByteArray := prog_5_method_13_code
def yX3_valueOf : MethodName := ⟨RX3, "valueOf", "(I)I"⟩
abbrev cX3_signal : ByteArray := prog_5_method_14_code
def yX3_signal : MethodName := ⟨RX3, "signal", "(I)I"⟩
abbrev cX3_down : ByteArray := prog_5_method_15_code
def yX3_down : MethodName := ⟨RX3, "down", "([IIII)I"⟩
abbrev cX3_shiftAll : ByteArray := prog_5_method_16_code
def yX3_shiftAll : MethodName := ⟨RX3, "shiftAll", "(ZI)I"⟩
abbrev cX3_capture : ByteArray := prog_5_method_17_code
def yX3_capture : MethodName := ⟨RX3, "capture", "(I)V"⟩
abbrev cX3_update : ByteArray := prog_5_method_18_code
def yX3_update : MethodName := ⟨RX3, "update", "(I)V"⟩
abbrev cX3_numberIn : ByteArray := prog_5_method_19_code
def yX3_numberIn : MethodName := ⟨RX3, "numberIn", "(I)I"⟩
abbrev cX3_tick : ByteArray := prog_5_method_20_code
def yX3_tick : MethodName := ⟨RX3, "tick", "(ZI)I"⟩
abbrev cX3_clock : ByteArray := prog_5_method_21_code
def yX3_clock : MethodName := ⟨RX3, "clock", "(ZZ)Z"⟩
abbrev cX3_goIdle : ByteArray := prog_5_method_22_code
def yX3_goIdle : MethodName := ⟨RX3, "goIdle", "()V"⟩
abbrev cX3_comeTo : ByteArray := prog_5_method_23_code
def yX3_comeTo : MethodName := ⟨RX3, "comeTo", "(Z)V"⟩
abbrev cX3_leave : ByteArray := prog_5_method_24_code
def yX3_leave : MethodName := ⟨RX3, "leave", "()V"⟩
abbrev cX3_find : ByteArray := prog_5_method_25_code
def yX3_find : MethodName := ⟨RX3, "find", "()I"⟩
abbrev cX3_found : ByteArray := prog_5_method_26_code
def yX3_found : MethodName := ⟨RX3, "found", "(I)I"⟩
abbrev cX3_round : ByteArray := prog_5_method_27_code
def yX3_round : MethodName := ⟨RX3, "round", "(IZ)V"⟩
abbrev cX3_test : ByteArray := prog_5_method_28_code
def yX3_test : MethodName := ⟨RX3, "test", "()I"⟩
abbrev cX3_saw : ByteArray := prog_5_method_29_code
def yX3_saw : MethodName := ⟨RX3, "saw", "(I)I"⟩
abbrev cX3_state : ByteArray := prog_5_method_30_code
def yX3_state : MethodName := ⟨RX3, "state", "()I"⟩
abbrev cX3_look : ByteArray := prog_5_method_31_code
def yX3_look : MethodName := ⟨RX3, "look", "(II)I"⟩
abbrev cX3_value : ByteArray := prog_5_method_32_code
def yX3_value : MethodName := ⟨RX3, "value", "(I)Z"⟩
abbrev cX3_clocks : ByteArray := prog_5_method_33_code
def yX3_clocks : MethodName := ⟨RX3, "clocks", "()I"⟩
def RJx145de : String := "java/io/Serializable"
def TJx145de : u_T := fun k => match k with
  | _ => ("", "", "", false)
def tyJx145de : Nat → FieldType := fun k => match k with
  | _ => .int
theorem nmJx145de : ∀ a, a < 0 → ∀ b, b < 0 → a ≠ b → (TJx145de a).2.1 ≠ (TJx145de b).2.1 := by decide +kernel
theorem tyJx145de_ok : ∀ k, k < 0 → parseFieldDescriptor (TJx145de k).2.2.1 = some (tyJx145de k) := by decide +kernel
def RJx8e188 : String := "java/lang/Cloneable"
def TJx8e188 : u_T := fun k => match k with
  | _ => ("", "", "", false)
def tyJx8e188 : Nat → FieldType := fun k => match k with
  | _ => .int
theorem nmJx8e188 : ∀ a, a < 0 → ∀ b, b < 0 → a ≠ b → (TJx8e188 a).2.1 ≠ (TJx8e188 b).2.1 := by decide +kernel
theorem tyJx8e188_ok : ∀ k, k < 0 → parseFieldDescriptor (TJx8e188 k).2.2.1 = some (tyJx8e188 k) := by decide +kernel
def RJxab1ab : String := "java/lang/Iterable"
def TJxab1ab : u_T := fun k => match k with
  | _ => ("", "", "", false)
def tyJxab1ab : Nat → FieldType := fun k => match k with
  | _ => .int
theorem nmJxab1ab : ∀ a, a < 0 → ∀ b, b < 0 → a ≠ b → (TJxab1ab a).2.1 ≠ (TJxab1ab b).2.1 := by decide +kernel
theorem tyJxab1ab_ok : ∀ k, k < 0 → parseFieldDescriptor (TJxab1ab k).2.2.1 = some (tyJxab1ab k) := by decide +kernel
def RJ9 : String := "java/lang/Math"
def TJ9 : u_T := fun k => match k with
  | _ => ("", "", "", false)
def tyJ9 : Nat → FieldType := fun k => match k with
  | _ => .int
theorem nmJ9 : ∀ a, a < 0 → ∀ b, b < 0 → a ≠ b → (TJ9 a).2.1 ≠ (TJ9 b).2.1 := by decide +kernel
theorem tyJ9_ok : ∀ k, k < 0 → parseFieldDescriptor (TJ9 k).2.2.1 = some (tyJ9 k) := by decide +kernel
abbrev cJ9_max_7cf53 : ByteArray := prog_13_method_65_code
def yJ9_max_7cf53 : MethodName := ⟨RJ9, "max", "(II)I"⟩
abbrev cJ9_min_7cf53 : ByteArray := prog_13_method_69_code
def yJ9_min_7cf53 : MethodName := ⟨RJ9, "min", "(II)I"⟩
def RJ10 : String := "java/lang/System"
def TJ10 : u_T := fun k => match k with
  | _ => ("", "", "", false)
def tyJ10 : Nat → FieldType := fun k => match k with
  | _ => .int
theorem nmJ10 : ∀ a, a < 0 → ∀ b, b < 0 → a ≠ b → (TJ10 a).2.1 ≠ (TJ10 b).2.1 := by decide +kernel
theorem tyJ10_ok : ∀ k, k < 0 → parseFieldDescriptor (TJ10 k).2.2.1 = some (tyJ10 k) := by decide +kernel
def RJxa1e45 : String := "java/util/AbstractCollection"
def TJxa1e45 : u_T := fun k => match k with
  | _ => ("", "", "", false)
def tyJxa1e45 : Nat → FieldType := fun k => match k with
  | _ => .int
theorem nmJxa1e45 : ∀ a, a < 0 → ∀ b, b < 0 → a ≠ b → (TJxa1e45 a).2.1 ≠ (TJxa1e45 b).2.1 := by decide +kernel
theorem tyJxa1e45_ok : ∀ k, k < 0 → parseFieldDescriptor (TJxa1e45 k).2.2.1 = some (tyJxa1e45 k) := by decide +kernel
abbrev cJxa1e45_init_da8c8 : ByteArray := prog_17_method_1_code
def yJxa1e45_init_da8c8 : MethodName := ⟨RJxa1e45, "<init>", "()V"⟩
def RJxc12de : String := "java/util/AbstractList"
def TJxc12de : u_T := fun k => match k with
  | _ => ("", "", "", false)
def tyJxc12de : Nat → FieldType := fun k => match k with
  | _ => .int
theorem nmJxc12de : ∀ a, a < 0 → ∀ b, b < 0 → a ≠ b → (TJxc12de a).2.1 ≠ (TJxc12de b).2.1 := by decide +kernel
theorem tyJxc12de_ok : ∀ k, k < 0 → parseFieldDescriptor (TJxc12de k).2.2.1 = some (tyJxc12de k) := by decide +kernel
abbrev cJxc12de_init_da8c8 : ByteArray := prog_18_method_1_code
def yJxc12de_init_da8c8 : MethodName := ⟨RJxc12de, "<init>", "()V"⟩
def RJx4a65c : String := "java/util/ArrayList"
def TJx4a65c : u_T := fun k => match k with
  | 0 => ("java/util/AbstractList", "modCount", "I", false)
  | 1 => ("java/util/ArrayList", "elementData", "[Ljava/lang/Object;", false)
  | _ => ("java/util/ArrayList", "size", "I", false)
def tyJx4a65c : Nat → FieldType := fun k => match k with
  | 0 => .int
  | 1 => .array (.object "java/lang/Object")
  | _ => .int
theorem nmJx4a65c : ∀ a, a < 3 → ∀ b, b < 3 → a ≠ b → (TJx4a65c a).2.1 ≠ (TJx4a65c b).2.1 := by decide +kernel
theorem tyJx4a65c_ok : ∀ k, k < 3 → parseFieldDescriptor (TJx4a65c k).2.2.1 = some (tyJx4a65c k) := by decide +kernel
abbrev cJx4a65c_init_da8c8 : ByteArray := prog_19_method_2_code
def yJx4a65c_init_da8c8 : MethodName := ⟨RJx4a65c, "<init>", "()V"⟩
abbrev cJx4a65c_grow_92f84 : ByteArray := prog_19_method_6_code
def yJx4a65c_grow_92f84 : MethodName := ⟨RJx4a65c, "grow", "(I)[Ljava/lang/Object;"⟩
abbrev cJx4a65c_grow_d5877 : ByteArray := prog_19_method_7_code
def yJx4a65c_grow_d5877 : MethodName := ⟨RJx4a65c, "grow", "()[Ljava/lang/Object;"⟩
abbrev cJx4a65c_size_8abf5 : ByteArray := prog_19_method_8_code
def yJx4a65c_size_8abf5 : MethodName := ⟨RJx4a65c, "size", "()I"⟩
abbrev cJx4a65c_isEmpty_aae02 : ByteArray := prog_19_method_9_code
def yJx4a65c_isEmpty_aae02 : MethodName := ⟨RJx4a65c, "isEmpty", "()Z"⟩
abbrev cJx4a65c_elementData_915e3 : ByteArray := prog_19_method_18_code
def yJx4a65c_elementData_915e3 : MethodName := ⟨RJx4a65c, "elementData", "(I)Ljava/lang/Object;"⟩
abbrev cJx4a65c_get_915e3 : ByteArray := prog_19_method_20_code
def yJx4a65c_get_915e3 : MethodName := ⟨RJx4a65c, "get", "(I)Ljava/lang/Object;"⟩
abbrev cJx4a65c_add_72be8 : ByteArray := prog_19_method_24_code
def yJx4a65c_add_72be8 : MethodName := ⟨RJx4a65c, "add", "(Ljava/lang/Object;[Ljava/lang/Object;I)V"⟩
abbrev cJx4a65c_add_9ea2d : ByteArray := prog_19_method_25_code
def yJx4a65c_add_9ea2d : MethodName := ⟨RJx4a65c, "add", "(Ljava/lang/Object;)Z"⟩
def RJ7 : String := "java/util/Arrays"
def TJ7 : u_T := fun k => match k with
  | _ => ("", "", "", false)
def tyJ7 : Nat → FieldType := fun k => match k with
  | _ => .int
theorem nmJ7 : ∀ a, a < 0 → ∀ b, b < 0 → a ≠ b → (TJ7 a).2.1 ≠ (TJ7 b).2.1 := by decide +kernel
theorem tyJ7_ok : ∀ k, k < 0 → parseFieldDescriptor (TJ7 k).2.2.1 = some (tyJ7 k) := by decide +kernel
abbrev cJ7_copyOf_1904c : ByteArray := prog_20_method_119_code
def yJ7_copyOf_1904c : MethodName := ⟨RJ7, "copyOf", "([Ljava/lang/Object;I)[Ljava/lang/Object;"⟩
abbrev cJ7_copyOf_6403c : ByteArray := prog_20_method_120_code
def yJ7_copyOf_6403c : MethodName := ⟨RJ7, "copyOf", "([Ljava/lang/Object;ILjava/lang/Class;)[Ljava/lang/Object;"⟩
def RJx5ef63 : String := "java/util/Collection"
def TJx5ef63 : u_T := fun k => match k with
  | _ => ("", "", "", false)
def tyJx5ef63 : Nat → FieldType := fun k => match k with
  | _ => .int
theorem nmJx5ef63 : ∀ a, a < 0 → ∀ b, b < 0 → a ≠ b → (TJx5ef63 a).2.1 ≠ (TJx5ef63 b).2.1 := by decide +kernel
theorem tyJx5ef63_ok : ∀ k, k < 0 → parseFieldDescriptor (TJx5ef63 k).2.2.1 = some (tyJx5ef63 k) := by decide +kernel
def RJxbd725 : String := "java/util/List"
def TJxbd725 : u_T := fun k => match k with
  | _ => ("", "", "", false)
def tyJxbd725 : Nat → FieldType := fun k => match k with
  | _ => .int
theorem nmJxbd725 : ∀ a, a < 0 → ∀ b, b < 0 → a ≠ b → (TJxbd725 a).2.1 ≠ (TJxbd725 b).2.1 := by decide +kernel
theorem tyJxbd725_ok : ∀ k, k < 0 → parseFieldDescriptor (TJxbd725 k).2.2.1 = some (tyJxbd725 k) := by decide +kernel
def RJ15 : String := "java/util/Objects"
def TJ15 : u_T := fun k => match k with
  | _ => ("", "", "", false)
def tyJ15 : Nat → FieldType := fun k => match k with
  | _ => .int
theorem nmJ15 : ∀ a, a < 0 → ∀ b, b < 0 → a ≠ b → (TJ15 a).2.1 ≠ (TJ15 b).2.1 := by decide +kernel
theorem tyJ15_ok : ∀ k, k < 0 → parseFieldDescriptor (TJ15 k).2.2.1 = some (tyJ15 k) := by decide +kernel
abbrev cJ15_checkIndex_7cf53 : ByteArray := prog_23_method_17_code
def yJ15_checkIndex_7cf53 : MethodName := ⟨RJ15, "checkIndex", "(II)I"⟩
def RJxf0a74 : String := "java/util/RandomAccess"
def TJxf0a74 : u_T := fun k => match k with
  | _ => ("", "", "", false)
def tyJxf0a74 : Nat → FieldType := fun k => match k with
  | _ => .int
theorem nmJxf0a74 : ∀ a, a < 0 → ∀ b, b < 0 → a ≠ b → (TJxf0a74 a).2.1 ≠ (TJxf0a74 b).2.1 := by decide +kernel
theorem tyJxf0a74_ok : ∀ k, k < 0 → parseFieldDescriptor (TJxf0a74 k).2.2.1 = some (tyJxf0a74 k) := by decide +kernel
def RJxa66e6 : String := "java/util/SequencedCollection"
def TJxa66e6 : u_T := fun k => match k with
  | _ => ("", "", "", false)
def tyJxa66e6 : Nat → FieldType := fun k => match k with
  | _ => .int
theorem nmJxa66e6 : ∀ a, a < 0 → ∀ b, b < 0 → a ≠ b → (TJxa66e6 a).2.1 ≠ (TJxa66e6 b).2.1 := by decide +kernel
theorem tyJxa66e6_ok : ∀ k, k < 0 → parseFieldDescriptor (TJxa66e6 k).2.2.1 = some (tyJxa66e6 k) := by decide +kernel
def RJ8 : String := "jdk/internal/util/ArraysSupport"
def TJ8 : u_T := fun k => match k with
  | _ => ("", "", "", false)
def tyJ8 : Nat → FieldType := fun k => match k with
  | _ => .int
theorem nmJ8 : ∀ a, a < 0 → ∀ b, b < 0 → a ≠ b → (TJ8 a).2.1 ≠ (TJ8 b).2.1 := by decide +kernel
theorem tyJ8_ok : ∀ k, k < 0 → parseFieldDescriptor (TJ8 k).2.2.1 = some (tyJ8 k) := by decide +kernel
abbrev cJ8_newLength_cabcc : ByteArray := prog_26_method_27_code
def yJ8_newLength_cabcc : MethodName := ⟨RJ8, "newLength", "(III)I"⟩
abbrev cJ8_hugeLength_7cf53 : ByteArray := prog_26_method_28_code
def yJ8_hugeLength_7cf53 : MethodName := ⟨RJ8, "hugeLength", "(II)I"⟩
def RJ3 : String := "jdk/internal/util/Preconditions"
def TJ3 : u_T := fun k => match k with
  | _ => ("", "", "", false)
def tyJ3 : Nat → FieldType := fun k => match k with
  | _ => .int
theorem nmJ3 : ∀ a, a < 0 → ∀ b, b < 0 → a ≠ b → (TJ3 a).2.1 ≠ (TJ3 b).2.1 := by decide +kernel
theorem tyJ3_ok : ∀ k, k < 0 → parseFieldDescriptor (TJ3 k).2.2.1 = some (tyJ3 k) := by decide +kernel
abbrev cJ3_checkIndex_8e157 : ByteArray := prog_27_method_11_code
def yJ3_checkIndex_8e157 : MethodName := ⟨RJ3, "checkIndex", "(IILjava/util/function/BiFunction;)I"⟩
def RL : String := "ChainBenchLaw"
abbrev cL_device : ByteArray := method_3_code
def yL_device : MethodName := ⟨RL, "device", "(LChainBench;IIII[J)I"⟩
abbrev cL_net : ByteArray := method_4_code
def yL_net : MethodName := ⟨RL, "net", "(LChainBench;IIII[J)I"⟩
abbrev cL_fault : ByteArray := method_5_code
def yL_fault : MethodName := ⟨RL, "fault", "(LChainBench;III)I"⟩
abbrev cL_core : ByteArray := method_6_code
def yL_core : MethodName := ⟨RL, "core", "(LChainBench;IIZ)I"⟩
abbrev cL_clock : ByteArray := method_7_code
def yL_clock : MethodName := ⟨RL, "clock", "(LChainBench;ZZ[J)I"⟩
abbrev cL_look : ByteArray := method_8_code
def yL_look : MethodName := ⟨RL, "look", "(LChainBench;II[J)I"⟩
abbrev cL_value : ByteArray := method_9_code
def yL_value : MethodName := ⟨RL, "value", "(LChainBench;I[J)I"⟩
abbrev cL_find : ByteArray := method_10_code
def yL_find : MethodName := ⟨RL, "find", "(LChainBench;[J)I"⟩
abbrev cL_found : ByteArray := method_11_code
def yL_found : MethodName := ⟨RL, "found", "(LChainBench;I[J)I"⟩
abbrev cL_test : ByteArray := method_12_code
def yL_test : MethodName := ⟨RL, "test", "(LChainBench;[J)I"⟩
abbrev cL_saw : ByteArray := method_13_code
def yL_saw : MethodName := ⟨RL, "saw", "(LChainBench;I[J)I"⟩
abbrev cL_law : ByteArray := code
def yL_law : MethodName := ⟨RL, "law", "([I)Z"⟩
/-! the classes whose objects the heap holds; the static rows; the words -/
abbrev mm_cl : List vw_C := [(RJx4a65c, TJx4a65c, 3), (RX0, TX0, 10), (RX1, TX1, 7), (RX2, TX2, 8), (RX3, TX3, 24)]
/-- words that ride into a callee -/
def mm_good (w : Cond) : Bool := goodWord w || (w.onTables && w.keepsFace)
def mm_W : List Cond := lw_tbl.filter mm_good
theorem mm_W_in {w : Cond} (h : w ∈ lw_tbl) (g : mm_good w = true) : w ∈ mm_W := List.mem_filter.mpr ⟨h, g⟩
theorem mm_W_good : ∀ w ∈ mm_W, mm_good w = true := fun w h => (List.mem_filter.mp h).2
theorem mm_word {args a' : Array Value} {s U : State} (hW : s.WarmedH U.vm) {w : Cond} (hg : mm_good w = true) (h : w.before args s = true) : w.before a' U = true := by
  simp only [mm_good, Bool.or_eq_true, Bool.and_eq_true] at hg
  rcases hg with hg | hg
  · exact word_at hW (good_of_word hg) h
  · have h1 : w.before args (s.setVm U.vm) = true := Cond.before_shiftedFace (State.Shifted.of_warmed hW) w hg.2 h
    rw [Cond.onTables_vm (A' := a') (U' := U) U.vm w hg.1, State.setVm_self] at h1
    exact h1
theorem mm_cl_in : ∀ q ∈ mm_cl, ∀ w ∈ u_ws q.1 q.2.1 q.2.2, w ∈ mm_W := by decide +kernel
theorem mm_cl_ty : ∀ q ∈ mm_cl, ∀ k, k < q.2.2 → (parseFieldDescriptor (q.2.1 k).2.2.1).isSome = true := by decide +kernel
theorem mm_cl_nm : ∀ q ∈ mm_cl, ∀ a, a < q.2.2 → ∀ b, b < q.2.2 → a ≠ b → (q.2.1 a).2.1 ≠ (q.2.1 b).2.1 := by decide +kernel
def mm_t0 : List Int32 := [1, 1, 3, 4, 4, 6, 6, 4, 1, 10, 11, 11, 13, 13, 11, 1]
def mm_t1 : List Int32 := [0, 2, 9, 5, 5, 8, 7, 8, 2, 0, 12, 12, 15, 14, 15, 2]
/-- the static rows: of which class, name, descriptor, component, length, contents -/
def mm_st : List (String × String × String × FieldType × Nat × (Nat → Value)) :=
  [("ChainBench", "AFTER_TMS_0", "[I", .int, 16, fun k => .int (mm_t0.getD k 0)), ("ChainBench", "AFTER_TMS_1", "[I", .int, 16, fun k => .int (mm_t1.getD k 0)),
   ("java/util/ArrayList", "DEFAULTCAPACITY_EMPTY_ELEMENTDATA", "[Ljava/lang/Object;", .object "java/lang/Object", 0, fun _ => .null)]
end
section
/-! THE JUDGEMENT mm_V: the machine in a method of ours, over a heap of things at addresses; mm_C: a method's contract -/
/-- a thing: its kind (0 .. 4: an object of that class of mm_cl; 10 int[], 11 boolean[], 12 long[], 13 Object[]) and its contents -/
abbrev mm_Ob : Type := Nat × List Value
abbrev mm_Hp : Type := Nat → Option mm_Ob
/-- what is fixed for a run: classes and slots; array classes by kind; addresses of the static rows (3: the script); the script -/
abbrev mm_G : Type := va_G × (Nat → ClassId) × (Nat → Nat) × Nat × (Nat → Int32)
abbrev mm_at : List (Nat × FieldType) := [(10, .int), (11, .boolean), (12, .long), (13, .object "java/lang/Object")]
/-- how a call ends: a value, or an exception by its class's name -/
abbrev mm_O : Type := Option Value ⊕ String
/-- a method: its name, bytes, locals, answer's type, frames and words of locals that it needs, its table -/
abbrev mm_M : Type := MethodName × ByteArray × Nat × Option FieldType × Nat × Nat × List (Nat × Nat × Nat × Nat)
def mm_up (h : mm_Hp) (a : Nat) (o : mm_Ob) : mm_Hp := fun b => if b = a then some o else h b
theorem mm_up_self (h : mm_Hp) (a : Nat) (o : mm_Ob) : mm_up h a o a = some o := if_pos rfl
theorem mm_up_ne (h : mm_Hp) {a b : Nat} (o : mm_Ob) (hb : b ≠ a) : mm_up h a o b = h b := if_neg hb
theorem mm_up_up (h : mm_Hp) (a : Nat) (o o' : mm_Ob) : mm_up (mm_up h a o) a o' = mm_up h a o' := by
  funext b
  unfold mm_up
  by_cases hb : b = a
  · rw [if_pos hb, if_pos hb]
  · rw [if_neg hb, if_neg hb, if_neg hb]
def mm_cell (G : mm_G) (a : Nat) (o : mm_Ob) (H : Heap) : Prop :=
  if o.1 < 10 then ∃ r : vw_C, mm_cl[o.1]? = some r ∧ o.2.length = r.2.2 ∧ t_OB a (G.1.1 o.1) r.2.2 (G.1.2 o.1) H (vp_V o.2)
  else H[a]? = some (arrV (G.2.1 o.1) o.2.length (vp_V o.2))
theorem mm_cell_o {G : mm_G} {a ci : Nat} {fs : List Value} {H : Heap} (hci : ci < 10) : mm_cell G a (ci, fs) H ↔ ∃ r : vw_C, mm_cl[ci]? = some r ∧ fs.length = r.2.2 ∧ t_OB a (G.1.1 ci) r.2.2 (G.1.2 ci) H (vp_V fs) := by
  unfold mm_cell
  rw [if_pos hci]
theorem mm_cell_a {G : mm_G} {a t : Nat} {vs : List Value} {H : Heap} (ht : ¬ t < 10) : mm_cell G a (t, vs) H ↔ H[a]? = some (arrV (G.2.1 t) vs.length (vp_V vs)) := by
  unfold mm_cell
  rw [if_neg ht]
theorem mm_cell_some {G : mm_G} {a : Nat} {o : mm_Ob} {H : Heap} (h : mm_cell G a o H) : ∃ cell : Cell, H[a]? = some cell ∧ cell.vm = .none := by
  unfold mm_cell at h
  split at h
  · obtain ⟨r, -, -, cell, h1, -, h3, -⟩ := h
    exact ⟨cell, h1, h3⟩
  · exact ⟨_, h, rfl⟩
theorem mm_cell_lt {G : mm_G} {a : Nat} {o : mm_Ob} {H : Heap} (h : mm_cell G a o H) : a < H.size := by
  obtain ⟨cell, h1, -⟩ := mm_cell_some h
  exact (Array.getElem?_eq_some_iff.mp h1).1
theorem mm_cell_kept {G : mm_G} {a : Nat} {o : mm_Ob} {H H1 : Heap} (h : mm_cell G a o H) (hq : H1[a]? = H[a]?) : mm_cell G a o H1 := by
  unfold mm_cell at h ⊢
  split
  · rename_i hlt
    rw [if_pos hlt] at h
    obtain ⟨r, h1, h2, h3⟩ := h
    exact ⟨r, h1, h2, h3.kept hq⟩
  · rename_i hlt
    rw [if_neg hlt] at h
    rw [hq]; exact h
/-- the heap holds the things -/
def mm_R (G : mm_G) (h : mm_Hp) (H : Heap) : Prop := ∀ (a : Nat) (o : mm_Ob), h a = some o → mm_cell G a o H
theorem mm_R_up {G : mm_G} {h : mm_Hp} {H H1 : Heap} {a : Nat} {o : mm_Ob} (hR : mm_R G h H) (h1 : mm_cell G a o H1) (hq : ∀ q : Nat, q ≠ a → H1[q]? = H[q]?) : mm_R G (mm_up h a o) H1 := by
  intro b ob hb
  by_cases e : b = a
  · subst e
    rw [mm_up_self] at hb
    cases hb
    exact h1
  · rw [mm_up_ne _ _ e] at hb
    exact mm_cell_kept (hR b ob hb) (hq b e)
theorem mm_R_push {G : mm_G} {h : mm_Hp} {H H1 : Heap} {o : mm_Ob} (hR : mm_R G h H) (h1 : mm_cell G H.size o H1) (hq : ∀ q : Nat, q < H.size → H1[q]? = H[q]?) : mm_R G (mm_up h H.size o) H1 := by
  intro b ob hb
  by_cases e : b = H.size
  · subst e
    rw [mm_up_self] at hb
    cases hb
    exact h1
  · rw [mm_up_ne _ _ e] at hb
    exact mm_cell_kept (hR b ob hb) (hq b (mm_cell_lt (hR b ob hb)))
theorem mm_R_grow {G : mm_G} {h : mm_Hp} {H H1 : Heap} (hR : mm_R G h H) (hq : ∀ q : Nat, q < H.size → H1[q]? = H[q]?) : mm_R G h H1 := fun b ob hb => mm_cell_kept (hR b ob hb) (hq b (mm_cell_lt (hR b ob hb)))
theorem mm_R_new {G : mm_G} {h : mm_Hp} {H : Heap} (hR : mm_R G h H) : h H.size = none := by
  cases e : h H.size with
  | none => rfl
  | some o => exact absurd (mm_cell_lt (hR _ _ e)) (Nat.lt_irrefl _)
/-- what the tables say -/
def mm_K (G : mm_G) (U : State) : Prop := va_K G.1 mm_cl [] U ∧ (∀ q ∈ mm_at, ArrOfT U (G.2.1 q.1) q.2 ∧ va_RA U (G.2.1 q.1) q.2) ∧ va_AO "java/lang/Object" U ∧ va_Nc "java/lang/IllegalStateException" "java/lang/IllegalArgumentException" U
theorem mm_K_moved {G : mm_G} {u U : State} (hvm : u.vm.Alike U.vm) (h : mm_K G u) : mm_K G U :=
  ⟨va_K.moved hvm h.1, fun q hq => ⟨arrOfT_moved hvm (h.2.1 q hq).1, (h.2.1 q hq).2.moved hvm⟩, va_AO.moved hvm h.2.2.1, va_Nc.moved hvm h.2.2.2⟩
/-- what stands outside the things that a run may write: the static rows, the script, what a throw reads -/
def mm_Sx (G : mm_G) (A : Nat → Prop) (U : State) (H : Heap) : Prop :=
  (∀ (k : Nat) (q : String × String × String × FieldType × Nat × (Nat → Value)), mm_st[k]? = some q → va_Z q.1 q.2.1 q.2.2.1 (.ref (G.2.2.1 k)) A U H ∧ va_T q.2.2.2.1 (G.2.2.1 k) q.2.2.2.2.1 q.2.2.2.2.2 A U H) ∧
  vx_Zq Bundle.tN "UNASSIGNED_STACK" Bundle.steD A U H ∧ vx_Zq Bundle.tN "SUPPRESSED_SENTINEL" Bundle.listD A U H ∧ va_X (G.2.2.1 3) G.2.2.2.1 G.2.2.2.2 U H ∧ G.2.2.1 3 < H.size ∧ ¬ A (G.2.2.1 3)
theorem mm_Sx_moved {G : mm_G} {A : Nat → Prop} {u U : State} {H : Heap} (hvm : u.vm.Alike U.vm) (h : mm_Sx G A u H) : mm_Sx G A U H :=
  ⟨fun k q hq => ⟨va_Z.moved hvm (h.1 k q hq).1, va_T.moved hvm (h.1 k q hq).2⟩, vx_Zq.moved hvm h.2.1, vx_Zq.moved hvm h.2.2.1, va_X.moved hvm h.2.2.2.1, h.2.2.2.2⟩
theorem mm_Sx_kept {G : mm_G} {A : Nat → Prop} {U : State} {H H1 : Heap} (h : mm_Sx G A U H) (hz : H.size ≤ H1.size) (hq : ∀ a : Nat, a < H.size → ¬ A a → H1[a]? = H[a]?) : mm_Sx G A U H1 :=
  ⟨fun k q hk => ⟨va_Z.kept (h.1 k q hk).1 hq, va_T.kept (h.1 k q hk).2 hq⟩, vx_Zq.kept h.2.1 hq, vx_Zq.kept h.2.2.1 hq, va_X.kept h.2.2.2.1 (hq _ h.2.2.2.2.1 h.2.2.2.2.2), Nat.lt_of_lt_of_le h.2.2.2.2.1 hz, h.2.2.2.2.2⟩
theorem mm_Sx_narrow {G : mm_G} {A B : Nat → Prop} {U : State} {H : Heap} (h : mm_Sx G A U H) (hAB : ∀ q, B q → A q) : mm_Sx G B U H :=
  ⟨fun k q hk => ⟨va_Z.narrow (h.1 k q hk).1 hAB, va_T.narrow (h.1 k q hk).2 hAB⟩, vx_Zq.narrow h.2.1 hAB, vx_Zq.narrow h.2.2.1 hAB, h.2.2.2.1, h.2.2.2.2.1, fun z => h.2.2.2.2.2 (hAB _ z)⟩
/-- the facts that stay through a method's body -/
def mm_F (G : mm_G) (M : mm_M) (p : Program) (l : Launch) (R : Room) (s : State) (m : MethodId) (args : Array Value) (meth : Method) (c : Code) (A : Nat → Prop) : Prop :=
  p.tables.exec = Jvm.exec ∧ c.code = M.2.1 ∧ meth.sig.returnType = M.2.2.2.1 ∧ meth.locks = false ∧ c.maxLocals = M.2.2.1 ∧ s.vm.findClass M.1.cls = some m.cls ∧ (∀ w ∈ mm_W, w.before args s = true) ∧ meth.name = M.1.name ∧
  c.exceptionTable.toList = tableOf M.2.2.2.2.2.2 ∧ l.stackTraces = false ∧ M.2.2.2.2.1 ≤ R.frames ∧ M.2.2.2.2.2.1 ≤ R.locals ∧ mm_K G s ∧ mm_Sx G A s s.heap ∧ (∀ q : Nat, s.heap.size ≤ q → A q)
/-- .. and what holds of the heap -/
def mm_I (G : mm_G) (h : mm_Hp) (H : Heap) (A : Nat → Prop) (s : State) (locs : List Loc) : Prop := mm_R G h H ∧ va_S A s.heap H locs ∧ ∀ (a : Nat) (o : mm_Ob), h a = some o → A a
/-- the world behind a method -/
def mm_B (G : mm_G) (h' : mm_Hp) (A : Nat → Prop) (st t : State) : Prop := mm_R G h' t.heap ∧ (∀ (a : Nat) (o : mm_Ob), h' a = some o → A a) ∧ va_F A st t
def mm_Qc (G : mm_G) (Q : mm_O → mm_Hp → Prop) (A : Nat → Prop) : Array Value → State → Outcome → State → Prop := fun _ st o t => ∃ (v : Option Value) (h' : mm_Hp), o = .returned v ∧ Q (.inl v) h' ∧ mm_B G h' A st t
def mm_XC (G : mm_G) (Q : mm_O → mm_Hp → Prop) (A : Nat → Prop) : String → State → State → Prop := fun E st t => ∃ h' : mm_Hp, Q (.inr E) h' ∧ mm_B G h' A st t
def mm_V (G : mm_G) (M : mm_M) (pc : Nat) (L : List (Nat × Value)) (st : List Value) (h : mm_Hp) (kc ks : Nat) (Q : mm_O → mm_Hp → Prop) : Prop :=
  ∀ (p : Program) (l : Launch) (e : Env) (R : Room) (s : State) (m : MethodId) (args : Array Value) (below : List Frame) (meth : Method) (c : Code) (H : Heap) (locs : List Loc) (cells slots : Nat) (A : Nat → Prop) (ls : Array Slot),
    mm_F G M p l R s m args meth c A → mm_I G h H A s locs → cells + kc ≤ R.cells → slots + ks ≤ R.slots → lv_has ls M.2.2.1 L →
    W p l e R s m args below meth c H locs cells slots (vx_MQ below (mm_Qc G Q A) (mm_XC G Q A) args s (cells + kc) (slots + ks) A) (F0 m pc ls st)
/-- the things that a callee may write -/
def mm_A (h : mm_Hp) (sz : Nat) : Nat → Prop := fun q => (∃ o, h q = some o) ∨ sz ≤ q
def mm_Pc (G : mm_G) (av : List Value) (h : mm_Hp) (sz : Nat) : Array Value → State → Prop := fun a U => a = av.toArray ∧ U.heap.size = sz ∧ mm_R G h U.heap ∧ mm_K G U ∧ mm_Sx G (mm_A h sz) U U.heap
/-- a method's contract: called with av in the heap h it ends as Q says, with at most kc cells of ks slots new -/
def mm_C (G : mm_G) (M : mm_M) (av : List Value) (h : mm_Hp) (kc ks : Nat) (Q : mm_O → mm_Hp → Prop) : Prop :=
  ∀ (l : Launch) (sz : Nat), l.stackTraces = false → vx_Met l M.1 (Cond.code M.1 M.2.1 M.2.2.1 M.2.2.2.1 :: mm_W) { frames := M.2.2.2.2.1, cells := kc, slots := ks, locals := M.2.2.2.2.2.1 } (mm_Pc G av h sz) (mm_Qc G Q (mm_A h sz)) (mm_XC G Q (mm_A h sz)) kc ks (mm_A h sz)
theorem mm_Pc_blind {G : mm_G} {av : List Value} {h : mm_Hp} {sz : Nat} : FrameBlind (mm_Pc G av h sz) := by
  intro a U g mk q
  obtain ⟨q1, q2, q3, q4, q5⟩ := q
  exact ⟨q1, q2, q3, mm_K_moved (u := U) (U := U.calling g mk a) (Vm.Alike.refl U.vm) q4, mm_Sx_moved (u := U) (U := U.calling g mk a) (Vm.Alike.refl U.vm) q5⟩
set_option maxHeartbeats 1000000 in
/-- a contract out of the walk of the body -/
theorem mm_C_of {G : mm_G} {M : mm_M} {av : List Value} {h : mm_Hp} {kc ks : Nat} {Q : mm_O → mm_Hp → Prop} (hy : plainName M.1.cls = true) (hh : M.2.2.2.2.2.2 = []) (hn : (lg_sl av).length ≤ M.2.2.1) {L : List (Nat × Value)} (hL : lv_args 0 av = L)
    (k : mm_V G M 0 L [] h kc ks Q) : mm_C G M av h kc ks Q := by
  intro l sz hl
  refine vx_ofW (cc := M.2.1) (maxL := M.2.2.1) (ret := M.2.2.2.1) hy rfl ?_
  intro p e s m args below meth c s₁ B hml ht hP
  obtain ⟨rfl, hsz, hR, hK, hX⟩ := hP
  subst hsz
  have hts := atoms_spec (ws := Cond.code M.1 M.2.1 M.2.2.1 M.2.2.2.1 :: mm_W) B.pre
  have hA : ∀ q : Nat, s.heap.size ≤ q → mm_A h s.heap.size q := fun q z => Or.inr z
  have hl2 := lv_entry av (n := M.2.2.1) hn
  rw [lg_entry_eq]
  have htab : c.exceptionTable.toList = tableOf M.2.2.2.2.2.2 := by
    rw [hh]
    cases e9 : c.exceptionTable.toList with
    | nil => rfl
    | cons x t => exact absurd (ht x (by rw [e9]; exact List.mem_cons_self)) id
  have hF : mm_F G M p l ({ frames := M.2.2.2.2.1, cells := kc, slots := ks, locals := M.2.2.2.2.2.1 } : Room) s m av.toArray meth c (mm_A h s.heap.size) :=
    ⟨B.exec, B.bytes, B.returns, B.notSynchronized, hml, findClass_of_methodNamed B.named, fun w hw => hts w (List.mem_cons_of_mem _ hw), (name_of_methodNamed B.named B.method).1, htab, hl, Nat.le_refl _, Nat.le_refl _, hK, hX, hA⟩
  have hI : mm_I G h s.heap (mm_A h s.heap.size) s [] := ⟨hR, va_S.rf, fun a o z => Or.inl ⟨o, z⟩⟩
  have h9 := k p l e ({ frames := M.2.2.2.2.1, cells := kc, slots := ks, locals := M.2.2.2.2.2.1 } : Room) s m av.toArray below meth c s.heap [] 0 0 (mm_A h s.heap.size) _ hF hI (by rw [Nat.zero_add]; exact Nat.le_refl _) (by rw [Nat.zero_add]; exact Nat.le_refl _) (hL ▸ hl2)
  rw [Nat.zero_add, Nat.zero_add] at h9
  exact h9
end
section
/-! locals by their places, in order -/
def mm_get (L : List (Nat × Value)) (i : Nat) : Option Value := match L with
  | [] => none
  | q :: L => if q.1 == i then some q.2 else mm_get L i
theorem mm_get_mem : ∀ {L : List (Nat × Value)} {i : Nat} {v : Value}, mm_get L i = some v → (i, v) ∈ L := by
  intro L
  induction L with
  | nil => intro i v h; cases h
  | cons q L ih =>
    intro i v h
    unfold mm_get at h
    by_cases e : (q.1 == i) = true
    · rw [if_pos e] at h
      cases h
      have e1 : q.1 = i := by simpa using e
      rw [← e1]
      exact List.mem_cons_self
    · rw [if_neg e] at h
      exact List.mem_cons_of_mem _ (ih h)
def mm_ins (x : Nat × Value) (L : List (Nat × Value)) : List (Nat × Value) := match L with
  | [] => [x]
  | q :: L => if x.1 < q.1 then x :: q :: L else q :: mm_ins x L
theorem mm_ins_mem {x q : Nat × Value} : ∀ {L : List (Nat × Value)}, q ∈ mm_ins x L → q = x ∨ q ∈ L := by
  intro L
  induction L with
  | nil => intro h; exact Or.inl (List.mem_singleton.mp h)
  | cons y L ih =>
    intro h
    unfold mm_ins at h
    split at h
    · exact List.mem_cons.mp h
    · rcases List.mem_cons.mp h with h | h
      · exact Or.inr (by rw [h]; exact List.mem_cons_self)
      · rcases ih h with h | h
        · exact Or.inl h
        · exact Or.inr (List.mem_cons_of_mem _ h)
def mm_set (L : List (Nat × Value)) (i : Nat) (v : Value) : List (Nat × Value) := mm_ins (i, v) (L.filter (fun q => !(q.1 == i) && !(q.1 + 1 == i && q.2.category == 2)))
theorem mm_set_has {ls : Array Slot} {nL i : Nat} {v : Value} {L : List (Nat × Value)} (h : lv_has ls nL ((i, v) :: L.filter (fun q => !(q.1 == i) && !(q.1 + 1 == i && q.2.category == 2)))) : lv_has ls nL (mm_set L i v) :=
  ⟨h.1, h.2.1, fun q hq => h.2.2 q ((mm_ins_mem hq).elim (fun e => by rw [e]; exact List.mem_cons_self) (fun e => List.mem_cons_of_mem _ e))⟩
theorem mm_at_loc {ls : Array Slot} {nL i : Nat} {v : Value} {L : List (Nat × Value)} (h : lv_has ls nL L) (hg : mm_get L i = some v) : ls[i]? = some (.val v) := h.2.2 _ (mm_get_mem hg)
def mm_ushr (x y : Int32) : Int32 := (x.toUInt32 >>> (y.toUInt32 &&& Int32.toUInt32 31)).toInt32
/-- the literal of an instruction -/
def mm_cst (i : Instr) : Int32 := match i with
  | .iconst n => Int32.ofInt n
  | .bipush n => (Int8.ofInt n).toInt32
  | .sipush n => (Int16.ofInt n).toInt32
  | .iinc _ n => Int32.ofInt n
  | _ => 0
/-- what an instruction of numbers, locals and stack does; none: not one of them -/
def mm_ps (nL : Nat) (i : Instr) (len : Nat) (c : Int32) (L : List (Nat × Value)) (st : List Value) : Option (List (Nat × Value) × List Value) :=
  match i, len, st with
  | .iconst _, 1, st => some (L, .int c :: st)
  | .bipush _, 2, st => some (L, .int c :: st)
  | .sipush _, 3, st => some (L, .int c :: st)
  | .lconst n, 1, st => some (L, .long (Int64.ofNat (n : Nat)) :: st)
  | .aconst_null, 1, st => some (L, .null :: st)
  | .iload_n k, 1, st => match mm_get L k with | some (.int x) => some (L, .int x :: st) | _ => none
  | .iload k, 2, st => match mm_get L k with | some (.int x) => some (L, .int x :: st) | _ => none
  | .aload_n k, 1, st => match mm_get L k with | some (.ref x) => some (L, .ref x :: st) | some .null => some (L, .null :: st) | _ => none
  | .aload k, 2, st => match mm_get L k with | some (.ref x) => some (L, .ref x :: st) | some .null => some (L, .null :: st) | _ => none
  | .istore_n k, 1, .int x :: st => if (k : Nat) < nL then some (mm_set L k (.int x), st) else none
  | .istore k, 2, .int x :: st => if k < nL then some (mm_set L k (.int x), st) else none
  | .astore_n k, 1, .ref x :: st => if (k : Nat) < nL then some (mm_set L k (.ref x), st) else none
  | .astore_n k, 1, .null :: st => if (k : Nat) < nL then some (mm_set L k .null, st) else none
  | .astore k, 2, .ref x :: st => if k < nL then some (mm_set L k (.ref x), st) else none
  | .astore k, 2, .null :: st => if k < nL then some (mm_set L k .null, st) else none
  | .iinc k _, 3, st => match mm_get L k with | some (.int x) => (if k < nL then some (mm_set L k (.int (x + c)), st) else none) | _ => none
  | .iadd, 1, .int y :: .int x :: st => some (L, .int (x + y) :: st)
  | .isub, 1, .int y :: .int x :: st => some (L, .int (x - y) :: st)
  | .imul, 1, .int y :: .int x :: st => some (L, .int (x * y) :: st)
  | .iand, 1, .int y :: .int x :: st => some (L, .int (x &&& y) :: st)
  | .ior, 1, .int y :: .int x :: st => some (L, .int (x ||| y) :: st)
  | .ixor, 1, .int y :: .int x :: st => some (L, .int (x ^^^ y) :: st)
  | .ishl, 1, .int y :: .int x :: st => some (L, .int (x <<< (y &&& 31)) :: st)
  | .ishr, 1, .int y :: .int x :: st => some (L, .int (x >>> (y &&& 31)) :: st)
  | .iushr, 1, .int y :: .int x :: st => some (L, .int (mm_ushr x y) :: st)
  | .i2l, 1, .int x :: st => some (L, .long x.toInt64 :: st)
  | .lcmp, 1, .long y :: .long x :: st => some (L, .int (lg_cmp x y) :: st)
  | .dup, 1, .int x :: st => some (L, .int x :: .int x :: st)
  | .dup, 1, .ref x :: st => some (L, .ref x :: .ref x :: st)
  | .dup_x1, 1, .int x :: .ref y :: st => some (L, .int x :: .ref y :: .int x :: st)
  | .dup_x1, 1, .ref x :: .ref y :: st => some (L, .ref x :: .ref y :: .ref x :: st)
  | .pop, 1, .int _ :: st => some (L, st)
  | .pop, 1, .ref _ :: st => some (L, st)
  | _, _, _ => none
/-- a row of a method's code: place, instruction, length, literal -/
abbrev mm_T : Type := List (Nat × Instr × Nat × Int32)
def mm_ok (M : mm_M) (T : mm_T) : Prop := ∀ q ∈ T, decode M.2.1 q.1 = .ok (q.2.1, q.2.2.1) ∧ mm_cst q.2.1 = q.2.2.2
def mm_ix (T : mm_T) (pc : Nat) : Option (Instr × Nat × Int32) := match T with
  | [] => none
  | q :: T => if q.1 == pc then some q.2 else mm_ix T pc
theorem mm_ix_mem : ∀ {T : mm_T} {pc : Nat} {x : Instr × Nat × Int32}, mm_ix T pc = some x → (pc, x) ∈ T := by
  intro T
  induction T with
  | nil => intro i v h; cases h
  | cons q L ih =>
    intro i v h
    unfold mm_ix at h
    by_cases e : (q.1 == i) = true
    · rw [if_pos e] at h
      cases h
      have e1 : q.1 = i := by simpa using e
      rw [← e1]
      exact List.mem_cons_self
    · rw [if_neg e] at h
      exact List.mem_cons_of_mem _ (ih h)
theorem mm_dec {M : mm_M} {T : mm_T} (hT : mm_ok M T) {pc : Nat} {i : Instr} {len : Nat} {c : Int32} (h : mm_ix T pc = some (i, len, c)) : decode M.2.1 pc = .ok (i, len) := (hT _ (mm_ix_mem h)).1
/-- n instructions of numbers, locals, stack, and jumps -/
def mm_run (nL : Nat) (T : mm_T) : Nat → Nat → List (Nat × Value) → List Value → Option (Nat × List (Nat × Value) × List Value)
  | 0, pc, L, st => some (pc, L, st)
  | n + 1, pc, L, st => match mm_ix T pc with
    | some (i, len, c) => (match i, len with
      | .goto off, 3 => if 0 ≤ (pc : Int) + off then mm_run nL T n ((pc : Int) + off).toNat L st else none
      | i, len => (match mm_ps nL i len c L st with
        | some (L', st') => mm_run nL T n (pc + len) L' st'
        | none => none))
    | none => none
section MMP
variable {G : mm_G} {M : mm_M} {pc : Nat} {L : List (Nat × Value)} {st : List Value} {h : mm_Hp} {kc ks : Nat} {Q : mm_O → mm_Hp → Prop}
set_option maxHeartbeats 4000000 in
theorem mm_ps_ok {i : Instr} {len : Nat} {L' : List (Nat × Value)} {st' : List Value} (hd : decode M.2.1 pc = .ok (i, len)) (hp : mm_ps M.2.2.1 i len (mm_cst i) L st = some (L', st')) (k : mm_V G M (pc + len) L' st' h kc ks Q) : mm_V G M pc L st h kc ks Q := by
  intro p l e R s m args below meth c H locs cells slots A ls hF hI hc hs hl
  have kk := fun ls hl => k p l e R s m args below meth c H locs cells slots A ls hF hI hc hs hl
  clear k
  have hx := hF.1
  have hb := hF.2.1
  unfold mm_ps at hp
  split at hp

  · cases hp; exact lv_iconst hx hb hd rfl (kk ls hl)
  · cases hp; exact lv_bipush hx hb hd rfl (kk ls hl)
  · cases hp; exact lv_sipush hx hb hd rfl (kk ls hl)
  · cases hp; exact lv_lconst hx hb hd rfl (kk ls hl)
  · cases hp; exact lv_null hx hb hd (kk ls hl)
  · split at hp
    · rename_i x hg; cases hp; exact lv_iload_n hx hb hd rfl (mm_at_loc hl hg) (kk ls hl)
    · cases hp
  · split at hp
    · rename_i x hg; cases hp; exact lv_iload hx hb hd (mm_at_loc hl hg) (kk ls hl)
    · cases hp
  · split at hp
    · rename_i x hg; cases hp; exact lv_aload_n hx hb hd rfl (mm_at_loc hl hg) (kk ls hl)
    · rename_i hg; cases hp; exact lv_aload_nN hx hb hd rfl (mm_at_loc hl hg) (kk ls hl)
    · cases hp
  · split at hp
    · rename_i x hg; cases hp; exact lv_aload hx hb hd (mm_at_loc hl hg) (kk ls hl)
    · rename_i hg; cases hp; exact lv_aloadN hx hb hd (mm_at_loc hl hg) (kk ls hl)
    · cases hp
  · split at hp
    · rename_i hlt; cases hp; exact lv_istore_n hx hb hd rfl hl hlt rfl (fun ls hl => kk ls (mm_set_has hl))
    · cases hp
  · split at hp
    · rename_i hlt; cases hp; exact lv_istore hx hb hd hl hlt rfl (fun ls hl => kk ls (mm_set_has hl))
    · cases hp
  · split at hp
    · rename_i hlt; cases hp; exact lv_astore_n hx hb hd rfl hl hlt rfl (fun ls hl => kk ls (mm_set_has hl))
    · cases hp
  · split at hp
    · rename_i hlt; cases hp; exact lv_astore_nN hx hb hd rfl hl hlt rfl (fun ls hl => kk ls (mm_set_has hl))
    · cases hp
  · split at hp
    · rename_i hlt; cases hp; exact lv_astore hx hb hd hl hlt rfl (fun ls hl => kk ls (mm_set_has hl))
    · cases hp
  · split at hp
    · rename_i hlt; cases hp; exact lv_astoreN hx hb hd hl hlt rfl (fun ls hl => kk ls (mm_set_has hl))
    · cases hp
  · split at hp
    · rename_i x hg
      split at hp
      · rename_i hlt
        cases hp
        obtain ⟨j, hj⟩ := List.getElem?_of_mem (mm_get_mem hg)
        exact lv_iinc hx hb hd hl hj rfl hlt rfl (fun ls hl => kk ls (mm_set_has hl))
      · cases hp
    · cases hp
  · cases hp; exact lv_iadd hx hb hd (kk ls hl)
  · cases hp; exact lv_isub hx hb hd (kk ls hl)
  · cases hp; exact lv_imul hx hb hd (kk ls hl)
  · cases hp; exact lv_iand hx hb hd (kk ls hl)
  · cases hp; exact lv_ior hx hb hd (kk ls hl)
  · cases hp; exact lv_ixor hx hb hd (kk ls hl)
  · cases hp; exact lv_ishl hx hb hd (kk ls hl)
  · cases hp; exact lv_ishr hx hb hd (kk ls hl)
  · cases hp; exact lv_iushr hx hb hd rfl (kk ls hl)
  · cases hp; exact lv_i2l hx hb hd rfl (kk ls hl)
  · cases hp; exact W.lcmp hx hb hd (kk ls hl)
  · cases hp; exact lv_dup hx hb hd rfl (kk ls hl)
  · cases hp; exact lv_dup hx hb hd rfl (kk ls hl)
  · cases hp; exact lv_dup_x1 hx hb hd rfl rfl (kk ls hl)
  · cases hp; exact lv_dup_x1 hx hb hd rfl rfl (kk ls hl)
  · cases hp; exact lv_pop hx hb hd rfl (kk ls hl)
  · cases hp; exact lv_pop hx hb hd rfl (kk ls hl)
  · cases hp

theorem mm_goto {off : Int} (hd : decode M.2.1 pc = .ok (.goto off, 3)) (h0 : 0 ≤ (pc : Int) + off) (k : mm_V G M ((pc : Int) + off).toNat L st h kc ks Q) : mm_V G M pc L st h kc ks Q := by
  intro p l e R s m args below meth c H locs cells slots A ls hF hI hc hs hl
  exact lv_goto hF.1 hF.2.1 hd (by omega) (k p l e R s m args below meth c H locs cells slots A ls hF hI hc hs hl)
/-- n pure instructions at once -/
theorem mm_blk {T : mm_T} (hT : mm_ok M T) : ∀ (n pc : Nat) (L : List (Nat × Value)) (st : List Value) {pc' : Nat} {L' : List (Nat × Value)} {st' : List Value}, mm_run M.2.2.1 T n pc L st = some (pc', L', st') → mm_V G M pc' L' st' h kc ks Q → mm_V G M pc L st h kc ks Q := by
  intro n
  induction n with
  | zero =>
    intro pc L st pc' L' st' hr k
    cases hr
    exact k
  | succ n ih =>
    intro pc L st pc' L' st' hr k
    unfold mm_run at hr
    split at hr
    · rename_i i len c hix
      have hd := mm_dec hT hix
      have hc := (hT _ (mm_ix_mem hix)).2
      dsimp only at hc
      split at hr
      · split at hr
        · rename_i h0
          exact mm_goto hd h0 (ih _ _ _ hr k)
        · cases hr
      · split at hr
        · rename_i hp
          rw [← hc] at hp
          exact mm_ps_ok hd hp (ih _ _ _ hr k)
        · cases hr
    · cases hr
/-- fewer locals -/
theorem mm_V_pick {L' : List (Nat × Value)} (ks' : List Nat) (hL : lv_pick L ks' = L') (k : mm_V G M pc L' st h kc ks Q) : mm_V G M pc L st h kc ks Q := by
  intro p l e R s m args below meth c H locs cells slots A ls hF hI hc hs hl
  exact k p l e R s m args below meth c H locs cells slots A ls hF hI hc hs (lv_sub hl ks' hL)

theorem mm_if_eq {T : mm_T} (hT : mm_ok M T) {x c0 : Int32} {off : Int} (tgt : Nat) (hf : mm_ix T pc = some (.ifCond .eq off, 3, c0)) (ht : (pc : Int) + off = (tgt : Int)) (kt : x = 0 → mm_V G M tgt L st h kc ks Q) (kf : ¬ x = 0 → mm_V G M (pc + 3) L st h kc ks Q) : mm_V G M pc L (.int x :: st) h kc ks Q := by
  intro p l e R s m args below meth c H locs cells slots A ls hF hI hc hs hl
  exact lv_if_eq hF.1 hF.2.1 (mm_dec hT hf) ht (fun z => kt z p l e R s m args below meth c H locs cells slots A ls hF hI hc hs hl) (fun z => kf z p l e R s m args below meth c H locs cells slots A ls hF hI hc hs hl)
theorem mm_ic_eq {T : mm_T} (hT : mm_ok M T) {x y c0 : Int32} {off : Int} (tgt : Nat) (hf : mm_ix T pc = some (.if_icmp .eq off, 3, c0)) (ht : (pc : Int) + off = (tgt : Int)) (kt : x = y → mm_V G M tgt L st h kc ks Q) (kf : ¬ x = y → mm_V G M (pc + 3) L st h kc ks Q) : mm_V G M pc L (.int y :: .int x :: st) h kc ks Q := by
  intro p l e R s m args below meth c H locs cells slots A ls hF hI hc hs hl
  exact lv_icmp_eq hF.1 hF.2.1 (mm_dec hT hf) ht (fun z => kt z p l e R s m args below meth c H locs cells slots A ls hF hI hc hs hl) (fun z => kf z p l e R s m args below meth c H locs cells slots A ls hF hI hc hs hl)

theorem mm_if_ne {T : mm_T} (hT : mm_ok M T) {x c0 : Int32} {off : Int} (tgt : Nat) (hf : mm_ix T pc = some (.ifCond .ne off, 3, c0)) (ht : (pc : Int) + off = (tgt : Int)) (kt : ¬ x = 0 → mm_V G M tgt L st h kc ks Q) (kf : x = 0 → mm_V G M (pc + 3) L st h kc ks Q) : mm_V G M pc L (.int x :: st) h kc ks Q := by
  intro p l e R s m args below meth c H locs cells slots A ls hF hI hc hs hl
  exact lv_if_ne hF.1 hF.2.1 (mm_dec hT hf) ht (fun z => kt z p l e R s m args below meth c H locs cells slots A ls hF hI hc hs hl) (fun z => kf z p l e R s m args below meth c H locs cells slots A ls hF hI hc hs hl)
theorem mm_ic_ne {T : mm_T} (hT : mm_ok M T) {x y c0 : Int32} {off : Int} (tgt : Nat) (hf : mm_ix T pc = some (.if_icmp .ne off, 3, c0)) (ht : (pc : Int) + off = (tgt : Int)) (kt : ¬ x = y → mm_V G M tgt L st h kc ks Q) (kf : x = y → mm_V G M (pc + 3) L st h kc ks Q) : mm_V G M pc L (.int y :: .int x :: st) h kc ks Q := by
  intro p l e R s m args below meth c H locs cells slots A ls hF hI hc hs hl
  exact lv_icmp_ne hF.1 hF.2.1 (mm_dec hT hf) ht (fun z => kt z p l e R s m args below meth c H locs cells slots A ls hF hI hc hs hl) (fun z => kf z p l e R s m args below meth c H locs cells slots A ls hF hI hc hs hl)

theorem mm_if_lt {T : mm_T} (hT : mm_ok M T) {x c0 : Int32} {off : Int} (tgt : Nat) (hf : mm_ix T pc = some (.ifCond .lt off, 3, c0)) (ht : (pc : Int) + off = (tgt : Int)) (kt : x < 0 → mm_V G M tgt L st h kc ks Q) (kf : ¬ x < 0 → mm_V G M (pc + 3) L st h kc ks Q) : mm_V G M pc L (.int x :: st) h kc ks Q := by
  intro p l e R s m args below meth c H locs cells slots A ls hF hI hc hs hl
  exact lv_if_lt hF.1 hF.2.1 (mm_dec hT hf) ht (fun z => kt z p l e R s m args below meth c H locs cells slots A ls hF hI hc hs hl) (fun z => kf z p l e R s m args below meth c H locs cells slots A ls hF hI hc hs hl)
theorem mm_ic_lt {T : mm_T} (hT : mm_ok M T) {x y c0 : Int32} {off : Int} (tgt : Nat) (hf : mm_ix T pc = some (.if_icmp .lt off, 3, c0)) (ht : (pc : Int) + off = (tgt : Int)) (kt : x < y → mm_V G M tgt L st h kc ks Q) (kf : ¬ x < y → mm_V G M (pc + 3) L st h kc ks Q) : mm_V G M pc L (.int y :: .int x :: st) h kc ks Q := by
  intro p l e R s m args below meth c H locs cells slots A ls hF hI hc hs hl
  exact lv_icmp_lt hF.1 hF.2.1 (mm_dec hT hf) ht (fun z => kt z p l e R s m args below meth c H locs cells slots A ls hF hI hc hs hl) (fun z => kf z p l e R s m args below meth c H locs cells slots A ls hF hI hc hs hl)

theorem mm_if_ge {T : mm_T} (hT : mm_ok M T) {x c0 : Int32} {off : Int} (tgt : Nat) (hf : mm_ix T pc = some (.ifCond .ge off, 3, c0)) (ht : (pc : Int) + off = (tgt : Int)) (kt : 0 ≤ x → mm_V G M tgt L st h kc ks Q) (kf : ¬ 0 ≤ x → mm_V G M (pc + 3) L st h kc ks Q) : mm_V G M pc L (.int x :: st) h kc ks Q := by
  intro p l e R s m args below meth c H locs cells slots A ls hF hI hc hs hl
  exact lv_if_ge hF.1 hF.2.1 (mm_dec hT hf) ht (fun z => kt z p l e R s m args below meth c H locs cells slots A ls hF hI hc hs hl) (fun z => kf z p l e R s m args below meth c H locs cells slots A ls hF hI hc hs hl)
theorem mm_ic_ge {T : mm_T} (hT : mm_ok M T) {x y c0 : Int32} {off : Int} (tgt : Nat) (hf : mm_ix T pc = some (.if_icmp .ge off, 3, c0)) (ht : (pc : Int) + off = (tgt : Int)) (kt : y ≤ x → mm_V G M tgt L st h kc ks Q) (kf : ¬ y ≤ x → mm_V G M (pc + 3) L st h kc ks Q) : mm_V G M pc L (.int y :: .int x :: st) h kc ks Q := by
  intro p l e R s m args below meth c H locs cells slots A ls hF hI hc hs hl
  exact lv_icmp_ge hF.1 hF.2.1 (mm_dec hT hf) ht (fun z => kt z p l e R s m args below meth c H locs cells slots A ls hF hI hc hs hl) (fun z => kf z p l e R s m args below meth c H locs cells slots A ls hF hI hc hs hl)

theorem mm_if_gt {T : mm_T} (hT : mm_ok M T) {x c0 : Int32} {off : Int} (tgt : Nat) (hf : mm_ix T pc = some (.ifCond .gt off, 3, c0)) (ht : (pc : Int) + off = (tgt : Int)) (kt : 0 < x → mm_V G M tgt L st h kc ks Q) (kf : ¬ 0 < x → mm_V G M (pc + 3) L st h kc ks Q) : mm_V G M pc L (.int x :: st) h kc ks Q := by
  intro p l e R s m args below meth c H locs cells slots A ls hF hI hc hs hl
  exact lv_if_gt hF.1 hF.2.1 (mm_dec hT hf) ht (fun z => kt z p l e R s m args below meth c H locs cells slots A ls hF hI hc hs hl) (fun z => kf z p l e R s m args below meth c H locs cells slots A ls hF hI hc hs hl)
theorem mm_ic_gt {T : mm_T} (hT : mm_ok M T) {x y c0 : Int32} {off : Int} (tgt : Nat) (hf : mm_ix T pc = some (.if_icmp .gt off, 3, c0)) (ht : (pc : Int) + off = (tgt : Int)) (kt : y < x → mm_V G M tgt L st h kc ks Q) (kf : ¬ y < x → mm_V G M (pc + 3) L st h kc ks Q) : mm_V G M pc L (.int y :: .int x :: st) h kc ks Q := by
  intro p l e R s m args below meth c H locs cells slots A ls hF hI hc hs hl
  exact lv_icmp_gt hF.1 hF.2.1 (mm_dec hT hf) ht (fun z => kt z p l e R s m args below meth c H locs cells slots A ls hF hI hc hs hl) (fun z => kf z p l e R s m args below meth c H locs cells slots A ls hF hI hc hs hl)

theorem mm_if_le {T : mm_T} (hT : mm_ok M T) {x c0 : Int32} {off : Int} (tgt : Nat) (hf : mm_ix T pc = some (.ifCond .le off, 3, c0)) (ht : (pc : Int) + off = (tgt : Int)) (kt : x ≤ 0 → mm_V G M tgt L st h kc ks Q) (kf : ¬ x ≤ 0 → mm_V G M (pc + 3) L st h kc ks Q) : mm_V G M pc L (.int x :: st) h kc ks Q := by
  intro p l e R s m args below meth c H locs cells slots A ls hF hI hc hs hl
  exact lv_if_le hF.1 hF.2.1 (mm_dec hT hf) ht (fun z => kt z p l e R s m args below meth c H locs cells slots A ls hF hI hc hs hl) (fun z => kf z p l e R s m args below meth c H locs cells slots A ls hF hI hc hs hl)
theorem mm_ic_le {T : mm_T} (hT : mm_ok M T) {x y c0 : Int32} {off : Int} (tgt : Nat) (hf : mm_ix T pc = some (.if_icmp .le off, 3, c0)) (ht : (pc : Int) + off = (tgt : Int)) (kt : x ≤ y → mm_V G M tgt L st h kc ks Q) (kf : ¬ x ≤ y → mm_V G M (pc + 3) L st h kc ks Q) : mm_V G M pc L (.int y :: .int x :: st) h kc ks Q := by
  intro p l e R s m args below meth c H locs cells slots A ls hF hI hc hs hl
  exact lv_icmp_le hF.1 hF.2.1 (mm_dec hT hf) ht (fun z => kt z p l e R s m args below meth c H locs cells slots A ls hF hI hc hs hl) (fun z => kf z p l e R s m args below meth c H locs cells slots A ls hF hI hc hs hl)

theorem mm_idiv {T : mm_T} (hT : mm_ok M T) {x y c0 : Int32} (hf : mm_ix T pc = some (.idiv, 1, c0)) (hne : ¬ y = 0) (k : mm_V G M (pc + 1) L (.int (x / y) :: st) h kc ks Q) : mm_V G M pc L (.int y :: .int x :: st) h kc ks Q := by
  intro p l e R s m args below meth c H locs cells slots A ls hF hI hc hs hl
  exact lv_idiv hF.1 hF.2.1 (mm_dec hT hf) hne (k p l e R s m args below meth c H locs cells slots A ls hF hI hc hs hl)
theorem mm_irem {T : mm_T} (hT : mm_ok M T) {x y c0 : Int32} (hf : mm_ix T pc = some (.irem, 1, c0)) (hne : ¬ y = 0) (k : mm_V G M (pc + 1) L (.int (x - x / y * y) :: st) h kc ks Q) : mm_V G M pc L (.int y :: .int x :: st) h kc ks Q := by
  intro p l e R s m args below meth c H locs cells slots A ls hF hI hc hs hl
  exact lv_irem hF.1 hF.2.1 (mm_dec hT hf) hne (k p l e R s m args below meth c H locs cells slots A ls hF hI hc hs hl)
theorem mm_acmp_eq {T : mm_T} (hT : mm_ok M T) {x y : Nat} {c0 : Int32} {off : Int} (tgt : Nat) (hf : mm_ix T pc = some (.if_acmp .eq off, 3, c0)) (ht : (pc : Int) + off = (tgt : Int)) (kt : x = y → mm_V G M tgt L st h kc ks Q) (kf : ¬ x = y → mm_V G M (pc + 3) L st h kc ks Q) : mm_V G M pc L (.ref y :: .ref x :: st) h kc ks Q := by
  intro p l e R s m args below meth c H locs cells slots A ls hF hI hc hs hl
  exact lv_acmp_eq (rx := some x) (ry := some y) hF.1 hF.2.1 (mm_dec hT hf) ht (fun z => kt (Option.some.inj z) p l e R s m args below meth c H locs cells slots A ls hF hI hc hs hl) (fun z => kf (fun q => z (by rw [q])) p l e R s m args below meth c H locs cells slots A ls hF hI hc hs hl)
theorem mm_acmp_ne {T : mm_T} (hT : mm_ok M T) {x y : Nat} {c0 : Int32} {off : Int} (tgt : Nat) (hf : mm_ix T pc = some (.if_acmp .ne off, 3, c0)) (ht : (pc : Int) + off = (tgt : Int)) (kt : ¬ x = y → mm_V G M tgt L st h kc ks Q) (kf : x = y → mm_V G M (pc + 3) L st h kc ks Q) : mm_V G M pc L (.ref y :: .ref x :: st) h kc ks Q := by
  intro p l e R s m args below meth c H locs cells slots A ls hF hI hc hs hl
  exact lv_acmp_ne (rx := some x) (ry := some y) hF.1 hF.2.1 (mm_dec hT hf) ht (fun z => kt (fun q => z (by rw [q])) p l e R s m args below meth c H locs cells slots A ls hF hI hc hs hl) (fun z => kf (Option.some.inj z) p l e R s m args below meth c H locs cells slots A ls hF hI hc hs hl)
theorem mm_ifnonnull {T : mm_T} (hT : mm_ok M T) {x : Nat} {c0 : Int32} {off : Int} (tgt : Nat) (hf : mm_ix T pc = some (.ifnonnull off, 3, c0)) (ht : (pc : Int) + off = (tgt : Int)) (k : mm_V G M tgt L st h kc ks Q) : mm_V G M pc L (.ref x :: st) h kc ks Q := by
  intro p l e R s m args below meth c H locs cells slots A ls hF hI hc hs hl
  exact lv_ifnonnull hF.1 hF.2.1 (mm_dec hT hf) ht (k p l e R s m args below meth c H locs cells slots A ls hF hI hc hs hl)
theorem mm_ifnonnullN {T : mm_T} (hT : mm_ok M T) {c0 : Int32} {off : Int} (hf : mm_ix T pc = some (.ifnonnull off, 3, c0)) (k : mm_V G M (pc + 3) L st h kc ks Q) : mm_V G M pc L (.null :: st) h kc ks Q := by
  intro p l e R s m args below meth c H locs cells slots A ls hF hI hc hs hl
  exact lv_ifnonnullN hF.1 hF.2.1 (mm_dec hT hf) (k p l e R s m args below meth c H locs cells slots A ls hF hI hc hs hl)
theorem mm_ifnull {T : mm_T} (hT : mm_ok M T) {x : Nat} {c0 : Int32} {off : Int} (hf : mm_ix T pc = some (.ifnull off, 3, c0)) (k : mm_V G M (pc + 3) L st h kc ks Q) : mm_V G M pc L (.ref x :: st) h kc ks Q := by
  intro p l e R s m args below meth c H locs cells slots A ls hF hI hc hs hl
  exact lv_ifnull hF.1 hF.2.1 (mm_dec hT hf) (k p l e R s m args below meth c H locs cells slots A ls hF hI hc hs hl)
theorem mm_ifnullN {T : mm_T} (hT : mm_ok M T) {c0 : Int32} {off : Int} (tgt : Nat) (hf : mm_ix T pc = some (.ifnull off, 3, c0)) (ht : (pc : Int) + off = (tgt : Int)) (k : mm_V G M tgt L st h kc ks Q) : mm_V G M pc L (.null :: st) h kc ks Q := by
  intro p l e R s m args below meth c H locs cells slots A ls hF hI hc hs hl
  exact lv_ifnullN hF.1 hF.2.1 (mm_dec hT hf) ht (k p l e R s m args below meth c H locs cells slots A ls hF hI hc hs hl)
theorem mm_tabIn {T : mm_T} (hT : mm_ok M T) {x c0 : Int32} {dflt lo hi off : Int} {offs : Array Int} {len : Nat} (tgt : Nat) (hf : mm_ix T pc = some (.tableswitch dflt lo hi offs, len, c0)) (h1 : ¬ x.toInt < lo) (h2 : ¬ hi < x.toInt) (ho : offs[(x.toInt - lo).toNat]? = some off) (ht : (pc : Int) + off = (tgt : Int)) (k : mm_V G M tgt L st h kc ks Q) : mm_V G M pc L (.int x :: st) h kc ks Q := by
  intro p l e R s m args below meth c H locs cells slots A ls hF hI hc hs hl
  exact lv_tableIn hF.1 hF.2.1 (mm_dec hT hf) h1 h2 ho ht (k p l e R s m args below meth c H locs cells slots A ls hF hI hc hs hl)
theorem mm_tabOut {T : mm_T} (hT : mm_ok M T) {x c0 : Int32} {dflt lo hi : Int} {offs : Array Int} {len : Nat} (tgt : Nat) (hf : mm_ix T pc = some (.tableswitch dflt lo hi offs, len, c0)) (h1 : x.toInt < lo ∨ hi < x.toInt) (ht : (pc : Int) + dflt = (tgt : Int)) (k : mm_V G M tgt L st h kc ks Q) : mm_V G M pc L (.int x :: st) h kc ks Q := by
  intro p l e R s m args below meth c H locs cells slots A ls hF hI hc hs hl
  exact lv_tableOut hF.1 hF.2.1 (mm_dec hT hf) h1 ht (k p l e R s m args below meth c H locs cells slots A ls hF hI hc hs hl)
end MMP
end
section
/-! words by a program's look -/
def mm_in (w : Cond) : Bool := mm_good w && decide (w ∈ lw_tbl)
theorem mm_in_mem {w : Cond} (h : mm_in w = true) : w ∈ mm_W := by
  simp only [mm_in, Bool.and_eq_true, decide_eq_true_eq] at h
  exact mm_W_in h.2 h.1
theorem mm_in_of {w : Cond} {args : Array Value} {s : State} (hts : ∀ w ∈ mm_W, w.before args s = true) (h : mm_in w = true) : w.before args s = true := hts w (mm_in_mem h)
def mm_fd (ci k : Nat) : String := match mm_cl[ci]? with
  | some r => (r.2.1 k).2.2.1
  | none => ""
/-- field k of class ci by the pool's entry idx of own -/
def mm_fok (own : String) (idx : Nat) (ref : String) (ci k : Nat) : Bool := match mm_cl[ci]? with
  | some r => decide (k < r.2.2) && mm_in (.fieldLink own idx ref (r.2.1 k).2.1 (r.2.1 k).2.2.1) && (decide (ref = (r.2.1 k).1) || mm_in (.sameField ref (r.2.1 k).1 (r.2.1 k).2.1 (r.2.1 k).2.2.1))
  | none => false
def mm_fin (ci k : Nat) : Bool := match mm_cl[ci]? with
  | some r => (r.2.1 k).2.2.2
  | none => true
def mm_decl (ci k : Nat) : String := match mm_cl[ci]? with
  | some r => (r.2.1 k).1
  | none => ""
def mm_fit (d : String) (v : Value) : Prop := ∃ ty, parseFieldDescriptor d = some ty ∧ narrow ty v = v ∧ fits ty v = true
theorem mm_fit_I (x : Int32) : mm_fit "I" (.int x) := ⟨.int, by decide +kernel, rfl, rfl⟩
theorem mm_fit_Z0 : mm_fit "Z" (.int 0) := ⟨.boolean, by decide +kernel, rfl, by decide +kernel⟩
theorem mm_fit_Z1 : mm_fit "Z" (.int 1) := ⟨.boolean, by decide +kernel, rfl, by decide +kernel⟩
theorem mm_fit_AI (a : Nat) : mm_fit "[I" (.ref a) := ⟨.array .int, by decide +kernel, rfl, rfl⟩
theorem mm_fit_AZ (a : Nat) : mm_fit "[Z" (.ref a) := ⟨.array .boolean, by decide +kernel, rfl, rfl⟩
theorem mm_fit_AO (a : Nat) : mm_fit "[Ljava/lang/Object;" (.ref a) := ⟨.array (.object "java/lang/Object"), by decide +kernel, rfl, rfl⟩
theorem mm_fit_L (a : Nat) : mm_fit "Ljava/util/ArrayList;" (.ref a) := ⟨.object "java/util/ArrayList", by decide +kernel, rfl, rfl⟩
theorem mm_fit_D (a : Nat) : mm_fit "LChainBench$Device;" (.ref a) := ⟨.object "ChainBench$Device", by decide +kernel, rfl, rfl⟩
theorem mm_fit_N (a : Nat) : mm_fit "LChainBench$Net;" (.ref a) := ⟨.object "ChainBench$Net", by decide +kernel, rfl, rfl⟩
theorem mm_fit_Nn : mm_fit "LChainBench$Net;" .null := ⟨.object "ChainBench$Net", by decide +kernel, rfl, rfl⟩
theorem mm_ci_lt {ci : Nat} {r : vw_C} (h : mm_cl[ci]? = some r) : ci < 10 := by
  have := (List.getElem?_eq_some_iff.mp h).1
  exact Nat.lt_trans this (by decide)
theorem mm_ci_in {ci : Nat} {r : vw_C} (h : mm_cl[ci]? = some r) : ∀ w ∈ u_ws r.1 r.2.1 r.2.2, w ∈ mm_W := mm_cl_in r (List.mem_of_getElem? h)
def mm_ty0 (r : vw_C) (k : Nat) : FieldType := (parseFieldDescriptor (r.2.1 k).2.2.1).getD .int
theorem mm_ty0_ok {ci : Nat} {r : vw_C} (h : mm_cl[ci]? = some r) : ∀ k, k < r.2.2 → parseFieldDescriptor (r.2.1 k).2.2.1 = some (mm_ty0 r k) := fun k hk => by
  have h1 := mm_cl_ty r (List.mem_of_getElem? h) k hk
  unfold mm_ty0
  cases e : parseFieldDescriptor (r.2.1 k).2.2.1 with
  | none => rw [e] at h1; cases h1
  | some t => rfl
/-- what the field's look gives -/
theorem mm_fok_of {own ref : String} {idx ci k : Nat} {args : Array Value} {s : State} (hts : ∀ w ∈ mm_W, w.before args s = true) (h : mm_fok own idx ref ci k = true) :
    ∃ r : vw_C, mm_cl[ci]? = some r ∧ k < r.2.2 ∧ (Cond.fieldLink own idx ref (r.2.1 k).2.1 (r.2.1 k).2.2.1).before args s = true ∧ (∀ x, s.fieldFound? (r.2.1 k).1 (r.2.1 k).2.1 (r.2.1 k).2.2.1 = some x → s.fieldFound? ref (r.2.1 k).2.1 (r.2.1 k).2.2.1 = some x) := by
  unfold mm_fok at h
  split at h
  · rename_i r hr
    simp only [Bool.and_eq_true, Bool.or_eq_true, decide_eq_true_eq] at h
    obtain ⟨⟨h1, h2⟩, h3⟩ := h
    refine ⟨r, hr, h1, mm_in_of hts h2, fun x hx => ?_⟩
    rcases h3 with h3 | h3
    · rw [h3]; exact hx
    · exact u_same (mm_in_of hts h3) x hx
  · cases h
section MMH
variable {G : mm_G} {M : mm_M} {pc : Nat} {L : List (Nat × Value)} {st : List Value} {h : mm_Hp} {kc ks : Nat} {Q : mm_O → mm_Hp → Prop} {T : mm_T}
theorem mm_getf (hT : mm_ok M T) {a ci idx k : Nat} {fs : List Value} {v : Value} {c0 : Int32} {ref : String} (ha : h a = some (ci, fs)) (hf : mm_ix T pc = some (.getfield idx, 3, c0)) (hk : mm_fok M.1.cls idx ref ci k = true) (hv : fs[k]? = some v)
    (kk : mm_V G M (pc + 3) L (v :: st) h kc ks Q) : mm_V G M pc L (.ref a :: st) h kc ks Q := by
  intro p l e R s m args below meth c H locs cells slots A ls hF hI hc hs hl
  obtain ⟨r, hr, hkN, hlink, hsame⟩ := mm_fok_of hF.2.2.2.2.2.2.1 hk
  have hcell := hI.1 a _ ha
  rw [mm_cell_o (mm_ci_lt hr)] at hcell
  obtain ⟨r', hr', -, hOB⟩ := hcell
  cases hr.symm.trans hr'
  have hP : va_P G.1 mm_cl [(a, .inr (ci, fs))] H := fun j q hj => by
    have hz : j < 1 := (List.getElem?_eq_some_iff.mp hj).1
    rw [show j = 0 by omega] at hj
    cases hj
    exact ⟨r, hr, hOB⟩
  exact va_get (D := G.1) (cl := mm_cl) (C := r.1) (T := r.2.1) (N := r.2.2) hF.1 hF.2.1 hF.2.2.2.2.2.2.1 (mm_ci_in hr) hF.2.2.2.2.2.1 hF.2.2.2.2.2.2.2.2.2.2.2.2.1.1 hP 0 rfl hr k hkN hlink hsame hv (mm_dec hT hf) (kk p l e R s m args below meth c H locs cells slots A ls hF hI hc hs hl)
theorem mm_putf (hT : mm_ok M T) {a ci idx k : Nat} {fs : List Value} {v : Value} {c0 : Int32} {ref : String} (ha : h a = some (ci, fs)) (hf : mm_ix T pc = some (.putfield idx, 3, c0)) (hk : mm_fok M.1.cls idx ref ci k = true)
    (hfin : mm_fin ci k = false ∨ (mm_fin ci k = true ∧ mm_decl ci k = M.1.cls ∧ M.1.name = "<init>")) (hft : mm_fit (mm_fd ci k) v)
    (kk : mm_V G M (pc + 3) L st (mm_up h a (ci, fs.set k v)) kc ks Q) : mm_V G M pc L (v :: .ref a :: st) h kc ks Q := by
  intro p l e R s m args below meth c H locs cells slots A ls hF hI hc hs hl
  have hts := hF.2.2.2.2.2.2.1
  have hown := hF.2.2.2.2.2.1
  have hKK := hF.2.2.2.2.2.2.2.2.2.2.2.2.1.1
  obtain ⟨r, hr, hkN, hlink, hsame⟩ := mm_fok_of hts hk
  have hcell := hI.1 a _ ha
  rw [mm_cell_o (mm_ci_lt hr)] at hcell
  obtain ⟨r', hr', hlen, cell, q1, q2, q3, q4⟩ := hcell
  cases hr.symm.trans hr'
  have hap := va_apart (own := M.1.cls) hts (mm_ci_in hr) (mm_ty0 r) (mm_ty0_ok hr) (mm_cl_nm r (List.mem_of_getElem? hr)) hKK hr
  obtain ⟨hS, hfc, kC, hkC, hkind⟩ := hKK.1 ci _ hr
  obtain ⟨cf, kf, fi, f, hi, hsl⟩ := hS k hkN
  have hst := (u_facts hfc hkC (u_lays hts (mm_ci_in hr) hkN) hi).1
  obtain ⟨ty, hd, hn, hfit⟩ := hft
  have hfd : mm_fd ci k = (r.2.1 k).2.2.1 := by unfold mm_fd; rw [hr]
  have hfn : mm_fin ci k = (r.2.1 k).2.2.2 := by unfold mm_fin; rw [hr]
  have hdc : mm_decl ci k = (r.2.1 k).1 := by unfold mm_decl; rw [hr]
  rw [hfd] at hd
  rw [hfn, hdc] at hfin
  have hlay := hts _ (mm_ci_in hr _ (u_in_lay hkN))
  have end9 : ∀ H' : Heap, H'[a]? = some (cell.setSlot f.slot v) → H'.size = H.size → (∀ q, q ≠ a → H'[q]? = H[q]?) → W p l e R s m args below meth c H' (locs ++ [⟨a, f.slot⟩]) cells slots (vx_MQ below (mm_Qc G Q A) (mm_XC G Q A) args s (cells + kc) (slots + ks) A) (F0 m (pc + 3) ls st) := by
    intro H' e1 e2 e3
    rw [hsl] at e1 ⊢
    refine kk p l e R s m args below meth c H' _ cells slots A ls hF ⟨mm_R_up hI.1 ?_ e3, hI.2.1.put e2 e3 (hI.2.2 a _ ha), ?_⟩ hc hs hl
    · rw [mm_cell_o (mm_ci_lt hr)]
      exact ⟨r, hr, by rw [List.length_set]; exact hlen, t_OB.to (V := updV (vp_V fs) k v) ⟨_, e1, q2, q3, t_set q4 hap hkN v⟩ (fun j _ => vp_updV_set (by rw [hlen]; exact hkN) v j)⟩
    · intro b ob hb
      by_cases eb : b = a
      · rw [eb]; exact hI.2.2 a _ ha
      · rw [mm_up_ne _ _ eb] at hb
        exact hI.2.2 b ob hb
  unfold u_lay at hlay
  rcases hfin with hfin | ⟨hfin, hdecl, hin2⟩
  · rw [if_neg (by rw [hfin]; decide)] at hlay
    have h6 := u_store hfc hkC hkind hlay hi hd hn hfit
    exact W.putK hF.1 hF.2.1 (f := f) ⟨hown, hlink, ⟨_, _, _, hsame _ hi⟩, hst⟩ (by rw [q2]; exact h6) q1 q3 (by rw [hsl]; exact k2_hasslot (q4 k hkN)) rfl rfl (mm_dec hT hf) end9
  · rw [if_pos hfin] at hlay
    have hcf : m.cls = cf := by
      obtain ⟨_, _, c', _, _, _, -, -, hf', -, -, -, hown2, -⟩ := Cond.laysFinal_spec hlay
      have e1 : c' = cf := by have := hi.symm.trans hf'; simp at this; exact this.1.symm
      rw [hdecl] at hown2
      rw [← e1]; exact Option.some.inj (hown.symm.trans hown2)
    have h6 := u_fits hfc hkC hkind (Or.inr hlay) hi hd hn hfit
    exact W.putFinK hF.1 hF.2.1 hown hlink (hsame _ hi) hst hcf (hF.2.2.2.2.2.2.2.1.trans hin2) (by rw [q2]; exact h6) q1 q3 (by rw [hsl]; exact k2_hasslot (q4 k hkN)) rfl rfl (mm_dec hT hf) end9
/-- an index -/
theorem mm_inx {i : Int32} {j n : Nat} (hi : i = nI j) (hj : j < n) (hb : j < 2147483648) : ¬ (i < 0 ∨ n ≤ i.toNatClampNeg) ∧ i.toNatClampNeg = j := by
  subst hi
  have h1 : (nI j).toNatClampNeg = j := nI_clamp hb
  refine ⟨fun q => ?_, h1⟩
  rcases q with q | q
  · exact nI_pos hb q
  · rw [h1] at q; omega
theorem mm_vsget {vs : List Value} {j : Nat} {v : Value} (hv : vs[j]? = some v) : j < vs.length ∧ vp_V vs j = v := by
  have := List.getElem?_eq_some_iff.mp hv
  exact ⟨this.1, by unfold vp_V; rw [List.getD_eq_getElem?_getD, hv]; rfl⟩
theorem mm_arr_lt {a t : Nat} {vs : List Value} {H : Heap} (hR : mm_R G h H) (ha : h a = some (t, vs)) (ht : ¬ t < 10) : H[a]? = some (arrV (G.2.1 t) vs.length (vp_V vs)) := by
  have h1 := hR a _ ha
  rwa [mm_cell_a ht] at h1

theorem mm_iald (hT : mm_ok M T) {a j : Nat} {i c0 : Int32} {vs : List Value} {v : Value} (ha : h a = some (10, vs)) (hf : mm_ix T pc = some (.iaload, 1, c0)) (hi : i = nI j) (hb : j < 2147483648) (hv : vs[j]? = some v)
    (kk : mm_V G M (pc + 1) L (v :: st) h kc ks Q) : mm_V G M pc L (.int i :: .ref a :: st) h kc ks Q := by
  intro p l e R s m args below meth c H locs cells slots A ls hF hI hc hs hl
  obtain ⟨hj, hv2⟩ := mm_vsget hv
  obtain ⟨h1, h2⟩ := mm_inx hi hj hb
  exact W.iald hF.1 hF.2.1 (v := v) (mm_arr_lt hI.1 ha (by decide)) ((hF.2.2.2.2.2.2.2.2.2.2.2.2.1.2.1 (10, .int) (by simp)).1 _ _) (fun q => by cases q) (by rw [arrV_size]; exact h1) (by rw [h2, arrV_read _ _ hj, hv2]) rfl rfl (mm_dec hT hf) (kk p l e R s m args below meth c H locs cells slots A ls hF hI hc hs hl)

theorem mm_zald (hT : mm_ok M T) {a j : Nat} {i c0 : Int32} {vs : List Value} {v : Value} (ha : h a = some (11, vs)) (hf : mm_ix T pc = some (.baload, 1, c0)) (hi : i = nI j) (hb : j < 2147483648) (hv : vs[j]? = some v)
    (kk : mm_V G M (pc + 1) L (v :: st) h kc ks Q) : mm_V G M pc L (.int i :: .ref a :: st) h kc ks Q := by
  intro p l e R s m args below meth c H locs cells slots A ls hF hI hc hs hl
  obtain ⟨hj, hv2⟩ := mm_vsget hv
  obtain ⟨h1, h2⟩ := mm_inx hi hj hb
  exact W.zald hF.1 hF.2.1 (v := v) (mm_arr_lt hI.1 ha (by decide)) ((hF.2.2.2.2.2.2.2.2.2.2.2.2.1.2.1 (11, .boolean) (by simp)).1 _ _) (fun q => by cases q) (by rw [arrV_size]; exact h1) (by rw [h2, arrV_read _ _ hj, hv2]) rfl rfl (mm_dec hT hf) (kk p l e R s m args below meth c H locs cells slots A ls hF hI hc hs hl)

theorem mm_lald (hT : mm_ok M T) {a j : Nat} {i c0 : Int32} {vs : List Value} {v : Value} (ha : h a = some (12, vs)) (hf : mm_ix T pc = some (.laload, 1, c0)) (hi : i = nI j) (hb : j < 2147483648) (hv : vs[j]? = some v)
    (kk : mm_V G M (pc + 1) L (v :: st) h kc ks Q) : mm_V G M pc L (.int i :: .ref a :: st) h kc ks Q := by
  intro p l e R s m args below meth c H locs cells slots A ls hF hI hc hs hl
  obtain ⟨hj, hv2⟩ := mm_vsget hv
  obtain ⟨h1, h2⟩ := mm_inx hi hj hb
  exact W.lald hF.1 hF.2.1 (v := v) (mm_arr_lt hI.1 ha (by decide)) ((hF.2.2.2.2.2.2.2.2.2.2.2.2.1.2.1 (12, .long) (by simp)).1 _ _) (fun q => by cases q) (by rw [arrV_size]; exact h1) (by rw [h2, arrV_read _ _ hj, hv2]) rfl rfl (mm_dec hT hf) (kk p l e R s m args below meth c H locs cells slots A ls hF hI hc hs hl)

theorem mm_aald (hT : mm_ok M T) {a j : Nat} {i c0 : Int32} {vs : List Value} {v : Value} (ha : h a = some (13, vs)) (hf : mm_ix T pc = some (.aaload, 1, c0)) (hi : i = nI j) (hb : j < 2147483648) (hv : vs[j]? = some v)
    (kk : mm_V G M (pc + 1) L (v :: st) h kc ks Q) : mm_V G M pc L (.int i :: .ref a :: st) h kc ks Q := by
  intro p l e R s m args below meth c H locs cells slots A ls hF hI hc hs hl
  obtain ⟨hj, hv2⟩ := mm_vsget hv
  obtain ⟨h1, h2⟩ := mm_inx hi hj hb
  exact W.aald hF.1 hF.2.1 (v := v) (ty := .object "java/lang/Object") (mm_arr_lt hI.1 ha (by decide)) ((hF.2.2.2.2.2.2.2.2.2.2.2.2.1.2.1 (13, .object "java/lang/Object") (by simp)).1 _ _) rfl (fun q => by cases q) (by rw [arrV_size]; exact h1) (by rw [h2, arrV_read _ _ hj, hv2]) rfl rfl (mm_dec hT hf) (kk p l e R s m args below meth c H locs cells slots A ls hF hI hc hs hl)
theorem mm_dom_up {A : Nat → Prop} {h : mm_Hp} {a : Nat} {o : mm_Ob} (hA : ∀ (a : Nat) (o : mm_Ob), h a = some o → A a) (ha : A a) : ∀ (b : Nat) (ob : mm_Ob), mm_up h a o b = some ob → A b := by
  intro b ob hb
  by_cases eb : b = a
  · rw [eb]; exact ha
  · rw [mm_up_ne _ _ eb] at hb
    exact hA b ob hb
theorem mm_arr_set {a t j : Nat} {vs : List Value} {v : Value} {H' : Heap} (ht : ¬ t < 10) (hj : j < vs.length) (e : H'[a]? = some ((arrV (G.2.1 t) vs.length (vp_V vs)).setSlot j v)) : mm_cell G a (t, vs.set j v) H' := by
  rw [mm_cell_a ht, e, arrV_store, List.length_set]
  congr 2
  funext q
  exact vp_updV_set hj v q

theorem mm_iast (hT : mm_ok M T) {a j : Nat} {i c0 : Int32} {x : Int32} {vs : List Value} (ha : h a = some (10, vs)) (hf : mm_ix T pc = some (.iastore, 1, c0)) (hi : i = nI j) (hb : j < 2147483648) (hj : j < vs.length)
    (kk : mm_V G M (pc + 1) L st (mm_up h a (10, vs.set j (.int x))) kc ks Q) : mm_V G M pc L (.int x :: .int i :: .ref a :: st) h kc ks Q := by
  intro p l e R s m args below meth c H locs cells slots A ls hF hI hc hs hl
  obtain ⟨h1, h2⟩ := mm_inx hi hj hb
  refine W.iast hF.1 hF.2.1 (mm_arr_lt hI.1 ha (by decide)) ((hF.2.2.2.2.2.2.2.2.2.2.2.2.1.2.1 (10, .int) (by simp)).1 _ _) (fun q => by cases q) (by rw [arrV_size]; exact h1) rfl rfl (mm_dec hT hf) fun H' e z oq => ?_
  rw [h2] at e ⊢
  exact kk p l _ R s m args below meth c H' _ cells slots A ls hF ⟨mm_R_up hI.1 (mm_arr_set (by decide) hj e) oq, hI.2.1.put z oq (hI.2.2 a _ ha), mm_dom_up hI.2.2 (hI.2.2 a _ ha)⟩ hc hs hl

theorem mm_zast (hT : mm_ok M T) {a j : Nat} {i c0 : Int32} {x : Int32} {vs : List Value} (ha : h a = some (11, vs)) (hf : mm_ix T pc = some (.bastore, 1, c0)) (hi : i = nI j) (hb : j < 2147483648) (hj : j < vs.length) (hz : narrow .boolean (.int x) = .int x)
    (kk : mm_V G M (pc + 1) L st (mm_up h a (11, vs.set j (.int x))) kc ks Q) : mm_V G M pc L (.int x :: .int i :: .ref a :: st) h kc ks Q := by
  intro p l e R s m args below meth c H locs cells slots A ls hF hI hc hs hl
  obtain ⟨h1, h2⟩ := mm_inx hi hj hb
  refine W.zast hF.1 hF.2.1 (mm_arr_lt hI.1 ha (by decide)) ((hF.2.2.2.2.2.2.2.2.2.2.2.2.1.2.1 (11, .boolean) (by simp)).1 _ _) (fun q => by cases q) (by rw [arrV_size]; exact h1) rfl rfl (mm_dec hT hf) fun H' e z oq => ?_
  rw [h2] at e ⊢
  rw [hz] at e
  exact kk p l _ R s m args below meth c H' _ cells slots A ls hF ⟨mm_R_up hI.1 (mm_arr_set (by decide) hj e) oq, hI.2.1.put z oq (hI.2.2 a _ ha), mm_dom_up hI.2.2 (hI.2.2 a _ ha)⟩ hc hs hl

theorem mm_last (hT : mm_ok M T) {a j : Nat} {i c0 : Int32} {x : Int64} {vs : List Value} (ha : h a = some (12, vs)) (hf : mm_ix T pc = some (.lastore, 1, c0)) (hi : i = nI j) (hb : j < 2147483648) (hj : j < vs.length)
    (kk : mm_V G M (pc + 1) L st (mm_up h a (12, vs.set j (.long x))) kc ks Q) : mm_V G M pc L (.long x :: .int i :: .ref a :: st) h kc ks Q := by
  intro p l e R s m args below meth c H locs cells slots A ls hF hI hc hs hl
  obtain ⟨h1, h2⟩ := mm_inx hi hj hb
  refine W.last hF.1 hF.2.1 (mm_arr_lt hI.1 ha (by decide)) ((hF.2.2.2.2.2.2.2.2.2.2.2.2.1.2.1 (12, .long) (by simp)).1 _ _) (fun q => by cases q) (by rw [arrV_size]; exact h1) rfl rfl (mm_dec hT hf) fun H' e z oq => ?_
  rw [h2] at e ⊢
  exact kk p l _ R s m args below meth c H' _ cells slots A ls hF ⟨mm_R_up hI.1 (mm_arr_set (by decide) hj e) oq, hI.2.1.put z oq (hI.2.2 a _ ha), mm_dom_up hI.2.2 (hI.2.2 a _ ha)⟩ hc hs hl

/-- an object of class ci laid into a row of Objects -/
theorem mm_aast (hT : mm_ok M T) {a j b ci : Nat} {i c0 : Int32} {vs fs : List Value} {r : vw_C} (ha : h a = some (13, vs)) (hbo : h b = some (ci, fs)) (hr : mm_cl[ci]? = some r) (hca : mm_in (.castable r.1 "java/lang/Object") = true) (hf : mm_ix T pc = some (.aastore, 1, c0)) (hi : i = nI j) (hb : j < 2147483648) (hj : j < vs.length)
    (kk : mm_V G M (pc + 1) L st (mm_up h a (13, vs.set j (.ref b))) kc ks Q) : mm_V G M pc L (.ref b :: .int i :: .ref a :: st) h kc ks Q := by
  intro p l e R s m args below meth c H locs cells slots A ls hF hI hc hs hl
  obtain ⟨h1, h2⟩ := mm_inx hi hj hb
  have hKK := hF.2.2.2.2.2.2.2.2.2.2.2.2.1
  obtain ⟨kA, comp, k1, k2, k3, -⟩ := (hKK.2.1 (13, .object "java/lang/Object") (by simp)).2
  obtain ⟨kE, hkE, -⟩ := Vm.findClass_spec k3
  have hcell := hI.1 b _ hbo
  rw [mm_cell_o (mm_ci_lt hr)] at hcell
  obtain ⟨r', hr', -, cv, g1, g2, g3, -⟩ := hcell
  cases hr.symm.trans hr'
  have hfc := (hKK.1.1 ci _ hr).2.1
  obtain ⟨kC, hkC, -⟩ := Vm.findClass_spec hfc
  obtain ⟨x1, t1, f1, f2, f3⟩ := Cond.castable_spec (mm_in_of hF.2.2.2.2.2.2.1 hca)
  cases hfc.symm.trans f1
  cases k3.symm.trans f2
  refine W.aast hF.1 hF.2.1 (mm_arr_lt hI.1 ha (by decide)) (fun q h => by cases h) (fun h => by cases h) k1 k2 rfl hkE ⟨fun q => h1 (Or.inl q), by show _ < (arrV _ _ _).slots.size; rw [arrV_size, h2]; exact hj⟩ g1 (fun q h => by rw [g3] at h; cases h) (by rw [g2]; exact hkC) (by rw [g2]; exact f3) rfl rfl (mm_dec hT hf) fun H1 e1 z oq => ?_
  rw [h2] at e1 ⊢
  exact kk p l e R s m args below meth c H1 _ cells slots A ls hF ⟨mm_R_up hI.1 (mm_arr_set (by decide) hj e1) oq, hI.2.1.put z oq (hI.2.2 a _ ha), mm_dom_up hI.2.2 (hI.2.2 a _ ha)⟩ hc hs hl
theorem mm_alen (hT : mm_ok M T) {a t : Nat} {c0 v : Int32} {vs : List Value} (ha : h a = some (t, vs)) (ht : t = 10 ∨ t = 13) (hf : mm_ix T pc = some (.arraylength, 1, c0)) (hv : nI vs.length = v)
    (kk : mm_V G M (pc + 1) L (.int v :: st) h kc ks Q) : mm_V G M pc L (.ref a :: st) h kc ks Q := by
  intro p l e R s m args below meth c H locs cells slots A ls hF hI hc hs hl
  have hKK := hF.2.2.2.2.2.2.2.2.2.2.2.2.1.2.1
  rcases ht with rfl | rfl
  · exact W.alen (n := v) hF.1 hF.2.1 (mm_arr_lt hI.1 ha (by decide)) ((hKK (10, .int) (by simp)).1 _ _) (by rw [arrV_size]; exact hv) rfl rfl (mm_dec hT hf) (kk p l e R s m args below meth c H locs cells slots A ls hF hI hc hs hl)
  · exact W.alen (n := v) hF.1 hF.2.1 (mm_arr_lt hI.1 ha (by decide)) ((hKK (13, .object "java/lang/Object") (by simp)).1 _ _) (by rw [arrV_size]; exact hv) rfl rfl (mm_dec hT hf) (kk p l e R s m args below meth c H locs cells slots A ls hF hI hc hs hl)
theorem mm_arrV_congr {cA : ClassId} {N : Nat} {f g : Nat → Value} (h : ∀ j, j < N → f j = g j) : arrV cA N f = arrV cA N g := by
  have h1 : (Array.ofFn (n := N) fun j => f j.val) = Array.ofFn (n := N) fun j => g j.val := by
    apply Array.ext
    · simp
    · intro j h1 h2
      simp only [Array.getElem_ofFn]
      exact h j (by simpa using h1)
  unfold arrV
  rw [h1]
/-- the static rows -/
theorem mm_gets (hT : mm_ok M T) {k idx : Nat} {c0 : Int32} {q : String × String × String × FieldType × Nat × (Nat → Value)} (hq : mm_st[k]? = some q) (hk : mm_in (.fieldLink M.1.cls idx q.1 q.2.1 q.2.2.1) = true) (hf : mm_ix T pc = some (.getstatic idx, 3, c0))
    (kk : mm_V G M (pc + 3) L (.ref (G.2.2.1 k) :: st) h kc ks Q) : mm_V G M pc L st h kc ks Q := by
  intro p l e R s m args below meth c H locs cells slots A ls hF hI hc hs hl
  exact va_gets hF.1 hF.2.1 (hF.2.2.2.2.2.2.2.2.2.2.2.2.2.1.1 k q hq).1 hI.2.1 hF.2.2.2.2.2.1 (mm_in_of hF.2.2.2.2.2.2.1 hk) (fun x hx => hx) (mm_dec hT hf) (kk p l e R s m args below meth c H locs cells slots A ls hF hI hc hs hl)
theorem mm_tald (hT : mm_ok M T) {k N : Nat} {c0 i : Int32} {j : Nat} {C n d : String} {f : Nat → Value} {v : Value} (hq : mm_st[k]? = some (C, n, d, .int, N, f)) (hf : mm_ix T pc = some (.iaload, 1, c0)) (hi : i = nI j) (hb : j < 2147483648) (hj : j < N) (hv : f j = v)
    (kk : mm_V G M (pc + 1) L (v :: st) h kc ks Q) : mm_V G M pc L (.int i :: .ref (G.2.2.1 k) :: st) h kc ks Q := by
  intro p l e R s m args below meth c H locs cells slots A ls hF hI hc hs hl
  obtain ⟨h1, h2⟩ := mm_inx hi hj hb
  exact va_ti hF.1 hF.2.1 (hF.2.2.2.2.2.2.2.2.2.2.2.2.2.1.1 k _ hq).2 hI.2.1 h1 (by rw [h2]; exact hv) (mm_dec hT hf) (kk p l e R s m args below meth c H locs cells slots A ls hF hI hc hs hl)
theorem mm_tlen (hT : mm_ok M T) {k N : Nat} {c0 v : Int32} {C n d : String} {ty : FieldType} {f : Nat → Value} (hq : mm_st[k]? = some (C, n, d, ty, N, f)) (hf : mm_ix T pc = some (.arraylength, 1, c0)) (hv : nI N = v)
    (kk : mm_V G M (pc + 1) L (.int v :: st) h kc ks Q) : mm_V G M pc L (.ref (G.2.2.1 k) :: st) h kc ks Q := by
  intro p l e R s m args below meth c H locs cells slots A ls hF hI hc hs hl
  exact va_tlen hF.1 hF.2.1 (hF.2.2.2.2.2.2.2.2.2.2.2.2.2.1.1 k _ hq).2 hI.2.1 hv (mm_dec hT hf) (kk p l e R s m args below meth c H locs cells slots A ls hF hI hc hs hl)
/-- the script -/
theorem mm_sald (hT : mm_ok M T) {c0 i : Int32} {j : Nat} (hf : mm_ix T pc = some (.iaload, 1, c0)) (hi : i = nI j) (hb : j < 2147483648) (hj : j < G.2.2.2.1)
    (kk : mm_V G M (pc + 1) L (.int (G.2.2.2.2 j) :: st) h kc ks Q) : mm_V G M pc L (.int i :: .ref (G.2.2.1 3) :: st) h kc ks Q := by
  intro p l e R s m args below meth c H locs cells slots A ls hF hI hc hs hl
  obtain ⟨h1, h2⟩ := mm_inx hi hj hb
  have hX := hF.2.2.2.2.2.2.2.2.2.2.2.2.2.1.2.2.2
  refine va_sld hF.1 hF.2.1 hX.1 hX.2.1 hX.2.2 hI.2.1 h1 (mm_dec hT hf) ?_
  rw [h2]
  exact kk p l e R s m args below meth c H locs cells slots A ls hF hI hc hs hl
theorem mm_slen (hT : mm_ok M T) {c0 : Int32} (hf : mm_ix T pc = some (.arraylength, 1, c0)) (kk : mm_V G M (pc + 1) L (.int (nI G.2.2.2.1) :: st) h kc ks Q) : mm_V G M pc L (.ref (G.2.2.1 3) :: st) h kc ks Q := by
  intro p l e R s m args below meth c H locs cells slots A ls hF hI hc hs hl
  have hX := hF.2.2.2.2.2.2.2.2.2.2.2.2.2.1.2.2.2
  exact va_slen hF.1 hF.2.1 hX.1 hX.2.1 hX.2.2 hI.2.1 (mm_dec hT hf) (kk p l e R s m args below meth c H locs cells slots A ls hF hI hc hs hl)
/-- 'checkcast' of an object of class ci -/
def mm_cok (own : String) (idx ci : Nat) : Bool := match mm_cl[ci]? with
  | some r => mm_in (.classLink own idx r.1) && mm_in (.castable r.1 r.1)
  | none => false
theorem mm_cast (hT : mm_ok M T) {a ci idx : Nat} {c0 : Int32} {fs : List Value} (ha : h a = some (ci, fs)) (hk : mm_cok M.1.cls idx ci = true) (hf : mm_ix T pc = some (.checkcast idx, 3, c0))
    (kk : mm_V G M (pc + 3) L (.ref a :: st) h kc ks Q) : mm_V G M pc L (.ref a :: st) h kc ks Q := by
  intro p l e R s m args below meth c H locs cells slots A ls hF hI hc hs hl
  unfold mm_cok at hk
  split at hk
  · rename_i r hr
    simp only [Bool.and_eq_true] at hk
    have hcell := hI.1 a _ ha
    rw [mm_cell_o (mm_ci_lt hr)] at hcell
    obtain ⟨r', hr', -, cv, g1, g2, g3, -⟩ := hcell
    cases hr.symm.trans hr'
    have hfc := (hF.2.2.2.2.2.2.2.2.2.2.2.2.1.1.1 ci _ hr).2.1
    exact va_castY hF.1 hF.2.1 (C := r.1) hF.2.2.2.2.2.1 (mm_in_of hF.2.2.2.2.2.2.1 hk.1) (va_Nw.of rfl (mm_in_of hF.2.2.2.2.2.2.1 hk.2)) ⟨cv, g1, by rw [g3]; rfl, by rw [g2]; exact hfc⟩ (mm_dec hT hf) (kk p l e R s m args below meth c H locs cells slots A ls hF hI hc hs hl)
  · cases hk
/-- the fields of a new object -/
def mm_df (ci : Nat) : List Value := match mm_cl[ci]? with
  | some r => (List.range r.2.2).map (fun k => defaultValue (mm_ty0 r k))
  | none => []
def mm_nok (own : String) (idx ci N : Nat) : Bool := match mm_cl[ci]? with
  | some r => decide (N = r.2.2) && mm_in (.classLink own idx r.1) && mm_in (.instantiable r.1 r.2.2) && mm_in (.initialized r.1)
  | none => false
theorem mm_new (hT : mm_ok M T) {ci idx N : Nat} {c0 : Int32} (hk : mm_nok M.1.cls idx ci N = true) (hf : mm_ix T pc = some (.new idx, 3, c0))
    (kk : ∀ q : Nat, h q = none → mm_V G M (pc + 3) L (.ref q :: st) (mm_up h q (ci, mm_df ci)) kc ks Q) : mm_V G M pc L st h (1 + kc) (N + ks) Q := by
  intro p l e R s m args below meth c H locs cells slots A ls hF hI hc hs hl
  unfold mm_nok at hk
  split at hk
  · rename_i r hr
    simp only [Bool.and_eq_true, decide_eq_true_eq] at hk
    obtain ⟨⟨⟨rfl, k1⟩, k2⟩, k3⟩ := hk
    have hts := hF.2.2.2.2.2.2.1
    have hKn := hF.2.2.2.2.2.2.2.2.2.2.2.2.1.1.1 ci _ hr
    refine W.newcK hF.1 hF.2.1 (C := r.1) (n := r.2.2) hF.2.2.2.2.2.1 (mm_in_of hts k1) (mm_in_of hts k2) (mm_in_of hts k3) rfl (mm_dec hT hf) (by omega) (by omega) hKn.2.1 rfl fun H1 kC hkC e1 z1 o1 => ?_
    have hcell : mm_cell G H.size (ci, mm_df ci) H1 := by
      rw [mm_cell_o (mm_ci_lt hr)]
      have hdf : mm_df ci = (List.range r.2.2).map (fun k => defaultValue (mm_ty0 r k)) := by unfold mm_df; rw [hr]
      refine ⟨r, hr, by rw [hdf]; simp, (u_born (mm_ty0 r) hts (mm_ci_in hr) hKn hkC e1 (mm_ty0_ok hr)).to fun j hj => ?_⟩
      unfold vp_V
      rw [hdf, List.getD_eq_getElem?_getD, List.getElem?_map, List.getElem?_range hj]
      rfl
    have h9 := kk H.size (mm_R_new hI.1) p l e R s m args below meth c H1 locs (cells + 1) (slots + r.2.2) A ls hF ⟨mm_R_push hI.1 hcell o1, ⟨Nat.le_trans hI.2.1.1 (by omega), fun x h1 h2 => (o1 x (Nat.lt_of_lt_of_le h1 hI.2.1.1)).trans (hI.2.1.2.1 x h1 h2), hI.2.1.2.2⟩, mm_dom_up hI.2.2 (hF.2.2.2.2.2.2.2.2.2.2.2.2.2.2 _ hI.2.1.1)⟩ (by omega) (by omega) hl
    rw [Nat.add_assoc cells, Nat.add_assoc slots] at h9
    exact h9
  · cases hk

theorem mm_newI (hT : mm_ok M T) {N : Nat} {n c0 : Int32} (hk : mm_in (.arrayClass .int) = true) (hf : mm_ix T pc = some (.newarray .int, 2, c0)) (hn : n = nI N) (hN : N < 1000000)
    (kk : ∀ q : Nat, h q = none → mm_V G M (pc + 2) L (.ref q :: st) (mm_up h q (10, List.replicate N (.int 0))) kc ks Q) : mm_V G M pc L (.int n :: st) h (1 + kc) (N + ks) Q := by
  intro p l e R s m args below meth c H locs cells slots A ls hF hI hc hs hl
  subst hn
  have hts := hF.2.2.2.2.2.2.1
  have hcl : (nI N).toNatClampNeg = N := nI_clamp (by omega)
  refine va_newaK hF.1 hF.2.1 (atype := .int) (mm_in_of hts hk) (g := F0 m pc ls (.int (nI N) :: st)) rfl (mm_dec hT hf) rfl (nI_pos (by omega)) hcl (Nat.le_trans (Nat.mul_le_mul_right _ (Nat.le_of_lt hN)) (by decide)) (by omega) (by omega) rfl fun H1 cA e1 z1 o1 hAr hNm => ?_
  have hRA := (hF.2.2.2.2.2.2.2.2.2.2.2.2.1.2.1 (10, .int) (by simp)).2
  have hid : cA = G.2.1 10 := Option.some.inj (hNm.symm.trans hRA)
  have hcell : mm_cell G H.size (10, List.replicate N (.int 0)) H1 := by
    rw [mm_cell_a (by decide), e1, hid, List.length_replicate]
    have hfun : ∀ j, j < N → vp_V (List.replicate N (.int 0)) j = (.int 0) := fun j hj => by
      unfold vp_V
      rw [List.getD_eq_getElem?_getD, List.getElem?_replicate, if_pos hj]
      rfl
    rw [mm_arrV_congr (f := fun _ => defaultValue (newarray.typeOf .int)) (g := vp_V (List.replicate N (.int 0))) (fun j hj => (hfun j hj).symm)]
  have h9 := kk H.size (mm_R_new hI.1) p l e R s m args below meth c H1 locs (cells + 1) (slots + N) A ls hF ⟨mm_R_push hI.1 hcell o1, ⟨Nat.le_trans hI.2.1.1 (by omega), fun x h1 h2 => (o1 x (Nat.lt_of_lt_of_le h1 hI.2.1.1)).trans (hI.2.1.2.1 x h1 h2), hI.2.1.2.2⟩, mm_dom_up hI.2.2 (hF.2.2.2.2.2.2.2.2.2.2.2.2.2.2 _ hI.2.1.1)⟩ (by omega) (by omega) hl
  rw [Nat.add_assoc cells, Nat.add_assoc slots] at h9
  exact h9

theorem mm_newZ (hT : mm_ok M T) {N : Nat} {n c0 : Int32} (hk : mm_in (.arrayClass .boolean) = true) (hf : mm_ix T pc = some (.newarray .boolean, 2, c0)) (hn : n = nI N) (hN : N < 1000000)
    (kk : ∀ q : Nat, h q = none → mm_V G M (pc + 2) L (.ref q :: st) (mm_up h q (11, List.replicate N (.int 0))) kc ks Q) : mm_V G M pc L (.int n :: st) h (1 + kc) (N + ks) Q := by
  intro p l e R s m args below meth c H locs cells slots A ls hF hI hc hs hl
  subst hn
  have hts := hF.2.2.2.2.2.2.1
  have hcl : (nI N).toNatClampNeg = N := nI_clamp (by omega)
  refine va_newaK hF.1 hF.2.1 (atype := .boolean) (mm_in_of hts hk) (g := F0 m pc ls (.int (nI N) :: st)) rfl (mm_dec hT hf) rfl (nI_pos (by omega)) hcl (Nat.le_trans (Nat.mul_le_mul_right _ (Nat.le_of_lt hN)) (by decide)) (by omega) (by omega) rfl fun H1 cA e1 z1 o1 hAr hNm => ?_
  have hRA := (hF.2.2.2.2.2.2.2.2.2.2.2.2.1.2.1 (11, .boolean) (by simp)).2
  have hid : cA = G.2.1 11 := Option.some.inj (hNm.symm.trans hRA)
  have hcell : mm_cell G H.size (11, List.replicate N (.int 0)) H1 := by
    rw [mm_cell_a (by decide), e1, hid, List.length_replicate]
    have hfun : ∀ j, j < N → vp_V (List.replicate N (.int 0)) j = (.int 0) := fun j hj => by
      unfold vp_V
      rw [List.getD_eq_getElem?_getD, List.getElem?_replicate, if_pos hj]
      rfl
    rw [mm_arrV_congr (f := fun _ => defaultValue (newarray.typeOf .boolean)) (g := vp_V (List.replicate N (.int 0))) (fun j hj => (hfun j hj).symm)]
  have h9 := kk H.size (mm_R_new hI.1) p l e R s m args below meth c H1 locs (cells + 1) (slots + N) A ls hF ⟨mm_R_push hI.1 hcell o1, ⟨Nat.le_trans hI.2.1.1 (by omega), fun x h1 h2 => (o1 x (Nat.lt_of_lt_of_le h1 hI.2.1.1)).trans (hI.2.1.2.1 x h1 h2), hI.2.1.2.2⟩, mm_dom_up hI.2.2 (hF.2.2.2.2.2.2.2.2.2.2.2.2.2.2 _ hI.2.1.1)⟩ (by omega) (by omega) hl
  rw [Nat.add_assoc cells, Nat.add_assoc slots] at h9
  exact h9

theorem mm_newJ (hT : mm_ok M T) {N : Nat} {n c0 : Int32} (hk : mm_in (.arrayClass .long) = true) (hf : mm_ix T pc = some (.newarray .long, 2, c0)) (hn : n = nI N) (hN : N < 1000000)
    (kk : ∀ q : Nat, h q = none → mm_V G M (pc + 2) L (.ref q :: st) (mm_up h q (12, List.replicate N (.long 0))) kc ks Q) : mm_V G M pc L (.int n :: st) h (1 + kc) (N + ks) Q := by
  intro p l e R s m args below meth c H locs cells slots A ls hF hI hc hs hl
  subst hn
  have hts := hF.2.2.2.2.2.2.1
  have hcl : (nI N).toNatClampNeg = N := nI_clamp (by omega)
  refine va_newaK hF.1 hF.2.1 (atype := .long) (mm_in_of hts hk) (g := F0 m pc ls (.int (nI N) :: st)) rfl (mm_dec hT hf) rfl (nI_pos (by omega)) hcl (Nat.le_trans (Nat.mul_le_mul_right _ (Nat.le_of_lt hN)) (by decide)) (by omega) (by omega) rfl fun H1 cA e1 z1 o1 hAr hNm => ?_
  have hRA := (hF.2.2.2.2.2.2.2.2.2.2.2.2.1.2.1 (12, .long) (by simp)).2
  have hid : cA = G.2.1 12 := Option.some.inj (hNm.symm.trans hRA)
  have hcell : mm_cell G H.size (12, List.replicate N (.long 0)) H1 := by
    rw [mm_cell_a (by decide), e1, hid, List.length_replicate]
    have hfun : ∀ j, j < N → vp_V (List.replicate N (.long 0)) j = (.long 0) := fun j hj => by
      unfold vp_V
      rw [List.getD_eq_getElem?_getD, List.getElem?_replicate, if_pos hj]
      rfl
    rw [mm_arrV_congr (f := fun _ => defaultValue (newarray.typeOf .long)) (g := vp_V (List.replicate N (.long 0))) (fun j hj => (hfun j hj).symm)]
  have h9 := kk H.size (mm_R_new hI.1) p l e R s m args below meth c H1 locs (cells + 1) (slots + N) A ls hF ⟨mm_R_push hI.1 hcell o1, ⟨Nat.le_trans hI.2.1.1 (by omega), fun x h1 h2 => (o1 x (Nat.lt_of_lt_of_le h1 hI.2.1.1)).trans (hI.2.1.2.1 x h1 h2), hI.2.1.2.2⟩, mm_dom_up hI.2.2 (hF.2.2.2.2.2.2.2.2.2.2.2.2.2.2 _ hI.2.1.1)⟩ (by omega) (by omega) hl
  rw [Nat.add_assoc cells, Nat.add_assoc slots] at h9
  exact h9

theorem mm_newO (hT : mm_ok M T) {N idx : Nat} {n c0 : Int32} (hk : mm_in (.classLink M.1.cls idx "java/lang/Object") = true) (hf : mm_ix T pc = some (.anewarray idx, 3, c0)) (hn : n = nI N) (hN : N < 1000000)
    (kk : ∀ q : Nat, h q = none → mm_V G M (pc + 3) L (.ref q :: st) (mm_up h q (13, List.replicate N .null)) kc ks Q) : mm_V G M pc L (.int n :: st) h (1 + kc) (N + ks) Q := by
  intro p l e R s m args below meth c H locs cells slots A ls hF hI hc hs hl
  subst hn
  have hts := hF.2.2.2.2.2.2.1
  have hKK := hF.2.2.2.2.2.2.2.2.2.2.2.2.1
  have hcl : (nI N).toNatClampNeg = N := nI_clamp (by omega)
  refine W.anew hF.1 hF.2.1 (C := "java/lang/Object") hF.2.2.2.2.2.1 (mm_in_of hts hk) (va_AO.use hKK.2.2.1) (g := F0 m pc ls (.int (nI N) :: st)) rfl (mm_dec hT hf) rfl (nI_pos (by omega)) (by rw [hcl]; omega) (by omega) (by rw [hcl]; omega) fun cA kA comp f1 f2 f3 f4 => ?_
  rw [hcl]
  generalize hH1 : H.push ({ cls := cA, slots := Array.replicate N .null, vm := .none } : Cell) = H1
  have z1 : H1.size = H.size + 1 := by rw [← hH1, Array.size_push]
  have e1 : H1[H.size]? = some (arrV cA N (fun _ => .null)) := by rw [← hH1, Array.getElem?_push_size, ← arrV_new]
  have o1 : ∀ q : Nat, q < H.size → H1[q]? = H[q]? := fun q hq => by rw [← hH1, Array.getElem?_push, if_neg (Nat.ne_of_lt hq)]
  obtain ⟨kA', comp', g1, g2, g3, g4⟩ := (hKK.2.1 (13, .object "java/lang/Object") (by simp)).2
  have hid : cA = G.2.1 13 := Option.some.inj (f1.symm.trans g4)
  have hcell : mm_cell G H.size (13, List.replicate N .null) H1 := by
    rw [mm_cell_a (by decide), e1, hid, List.length_replicate]
    have hfun : ∀ j, vp_V (List.replicate N .null) j = .null := fun j => by
      unfold vp_V
      rw [List.getD_eq_getElem?_getD, List.getElem?_replicate]
      split <;> rfl
    congr 2
    funext j
    exact (hfun j).symm
  have h9 := kk H.size (mm_R_new hI.1) p l e R s m args below meth c H1 locs (cells + 1) (slots + N) A ls hF ⟨mm_R_push hI.1 hcell o1, ⟨Nat.le_trans hI.2.1.1 (by omega), fun x h1 h2 => (o1 x (Nat.lt_of_lt_of_le h1 hI.2.1.1)).trans (hI.2.1.2.1 x h1 h2), hI.2.1.2.2⟩, mm_dom_up hI.2.2 (hF.2.2.2.2.2.2.2.2.2.2.2.2.2.2 _ hI.2.1.1)⟩ (by omega) (by omega) hl
  rw [Nat.add_assoc cells, Nat.add_assoc slots] at h9
  exact h9
/-- more room than is used -/
theorem mm_V_wid {k1 k2 : Nat} (h1 : k1 ≤ kc) (h2 : k2 ≤ ks) (k : mm_V G M pc L st h k1 k2 Q) : mm_V G M pc L st h kc ks Q := by
  intro p l e R s m args below meth c H locs cells slots A ls hF hI hc hs hl
  have h9 := k p l e R s m args below meth c H locs cells slots A ls hF hI (by omega) (by omega) hl
  intro T9 hT9 X9
  obtain ⟨t, a1, o9, b1, b2, b3⟩ := h9 T9 hT9 X9
  refine ⟨t, a1, o9, b1, b2, ?_⟩
  rcases b3 with ⟨q1, L9, ⟨q2, q3, q4⟩, q5⟩ | ⟨q, e9, E, ce, L9, x1, x2, x3, x4, x5, x6, x7⟩
  · exact Or.inl ⟨q1, L9, ⟨q2, q3, q4.mono (by omega) (by omega)⟩, q5⟩
  · exact Or.inr ⟨q, e9, E, ce, L9, x1, x2, x3, x4, x5, x6.mono (by omega) (by omega), x7⟩
/-- ends -/
theorem mm_iret (hT : mm_ok M T) {c0 x : Int32} (hf : mm_ix T pc = some (.ireturn, 1, c0)) (hr : M.2.2.2.1 = some .int) (hq : Q (.inl (some (.int x))) h) : mm_V G M pc L [.int x] h kc ks Q := by
  intro p l e R s m args below meth c H locs cells slots A ls hF hI hc hs hl
  refine W.widen (k := cells + kc) (n := slots + ks) (Nat.le_add_right _ _) (Nat.le_add_right _ _) (vx_ret ?_)
  exact W.iret (v := x) hF.1 hF.2.1 (hF.2.2.1.trans hr) (fun t ht hW => ⟨_, h, rfl, hq, by rw [ht]; exact hI.1, hI.2.2, hI.2.1.F ht⟩) hI.2.1.2.2 (mm_dec hT hf) hF.2.2.2.1
theorem mm_zret (hT : mm_ok M T) {c0 x : Int32} (hf : mm_ix T pc = some (.ireturn, 1, c0)) (hr : M.2.2.2.1 = some .boolean) (hn : narrow .boolean (.int x) = .int x) (hq : Q (.inl (some (.int x))) h) : mm_V G M pc L [.int x] h kc ks Q := by
  intro p l e R s m args below meth c H locs cells slots A ls hF hI hc hs hl
  refine W.widen (k := cells + kc) (n := slots + ks) (Nat.le_add_right _ _) (Nat.le_add_right _ _) (vx_ret ?_)
  exact W.zret (v := x) (ty := .boolean) hF.1 hF.2.1 (hF.2.2.1.trans hr) hn (fun t ht hW => ⟨_, h, rfl, hq, by rw [ht]; exact hI.1, hI.2.2, hI.2.1.F ht⟩) hI.2.1.2.2 (mm_dec hT hf) hF.2.2.2.1
theorem mm_vret (hT : mm_ok M T) {c0 : Int32} (hf : mm_ix T pc = some (.return_, 1, c0)) (hr : M.2.2.2.1 = none) (hq : Q (.inl none) h) : mm_V G M pc L [] h kc ks Q := by
  intro p l e R s m args below meth c H locs cells slots A ls hF hI hc hs hl
  refine W.widen (k := cells + kc) (n := slots + ks) (Nat.le_add_right _ _) (Nat.le_add_right _ _) (vx_ret ?_)
  exact W.vret hF.1 hF.2.1 (hF.2.2.1.trans hr) (fun t ht hW => ⟨_, h, rfl, hq, by rw [ht]; exact hI.1, hI.2.2, hI.2.1.F ht⟩) hI.2.1.2.2 (mm_dec hT hf) hF.2.2.2.1
theorem mm_aret (hT : mm_ok M T) {c0 : Int32} {a : Nat} {rt : FieldType} (hf : mm_ix T pc = some (.areturn, 1, c0)) (hr : M.2.2.2.1 = some rt) (hrt : (∃ n, rt = .object n) ∨ ∃ t, rt = .array t) (hq : Q (.inl (some (.ref a))) h) : mm_V G M pc L [.ref a] h kc ks Q := by
  intro p l e R s m args below meth c H locs cells slots A ls hF hI hc hs hl
  refine W.widen (k := cells + kc) (n := slots + ks) (Nat.le_add_right _ _) (Nat.le_add_right _ _) (vx_ret ?_)
  exact W.aret (v := .ref a) hF.1 hF.2.1 (hF.2.2.1.trans hr) hrt (Or.inr ⟨a, rfl⟩) (fun t ht hW => ⟨_, h, rfl, hq, by rw [ht]; exact hI.1, hI.2.2, hI.2.1.F ht⟩) hI.2.1.2.2 (mm_dec hT hf) hF.2.2.2.1
/-- Object's own constructor -/
theorem mm_oinit (hT : mm_ok M T) {c0 : Int32} {a idx : Nat} (hf : mm_ix T pc = some (.invokespecial idx, 3, c0)) (hk : (mm_in (.methodLink M.1.cls idx objectInit) && mm_in (.instanceMethod objectInit) && mm_in (.code objectInit ⟨#[0xb1]⟩ 1 none)) = true) (hw : (st.map fun v => v.category).sum ≤ 8)
    (hfr : 1 ≤ M.2.2.2.2.1) (hlo : 20 ≤ M.2.2.2.2.2.1) (kk : mm_V G M (pc + 3) L st h kc ks Q) : mm_V G M pc L (.ref a :: st) h kc ks Q := by
  intro p l e R s m args below meth c H locs cells slots A ls hF hI hc hs hl
  simp only [Bool.and_eq_true] at hk
  have hts := hF.2.2.2.2.2.2.1
  have hfr9 := hF.2.2.2.2.2.2.2.2.2.2.1
  have hlo9 := hF.2.2.2.2.2.2.2.2.2.2.2.1
  have hrm := lv_room (m := m) (pc := pc) (ls := ls) (rest := .ref a :: st) hw
  exact W.objInit hF.1 hF.2.1 hF.2.2.2.2.2.1 (mm_in_of hts hk.1.1) (mm_in_of hts hk.1.2) (mm_in_of hts hk.2) (g := F0 m pc ls (.ref a :: st)) rfl (by rw [hF.2.2.2.2.1]; exact hl.1) rfl (mm_dec hT hf) (by omega) (by omega) (kk p l e R s m args below meth c H locs cells slots A ls hF hI hc hs hl)
end MMH
end
section
/-! calls -/
abbrev mm_rm (M : mm_M) (kc ks : Nat) : Room := { frames := M.2.2.2.2.1, cells := kc, slots := ks, locals := M.2.2.2.2.2.1 }
/-- a contract that never throws, as the kit has it -/
theorem mm_met {G : mm_G} {Mc : mm_M} {av : List Value} {h : mm_Hp} {mc ms : Nat} {Qm : mm_O → mm_Hp → Prop} (hc : mm_C G Mc av h mc ms Qm) (hx : ∀ E h', ¬ Qm (.inr E) h') (l : Launch) (sz : Nat) (hl : l.stackTraces = false) :
    Met l Mc.1 (Cond.code Mc.1 Mc.2.1 Mc.2.2.1 Mc.2.2.2.1 :: mm_W) (mm_rm Mc mc ms) (mm_Pc G av h sz) (mm_Qc G Qm (mm_A h sz)) mc ms (mm_A h sz) := by
  refine MetFree.mono (hc l sz hl) (fun _ _ z => z) (fun _ _ _ _ _ _ => trivial) (fun a s o t _ hq => ?_)
  rcases hq with hq | ⟨q, -, E, ce, L, ⟨h', hq', -⟩, -⟩
  · exact hq
  · exact absurd hq' (hx E h')
def mm_rok (M Mc : mm_M) (n : Nat) : Bool := decide (Mc.1.cls ≠ "java/lang/invoke/MethodHandle") && decide (Mc.1.cls ≠ "java/lang/invoke/VarHandle") && decide ((parseMethodDescriptor Mc.1.desc).map (fun d => d.parameters.length) = some n) && decide (Mc.2.2.2.2.1 + 1 ≤ M.2.2.2.2.1) && decide (8 + (Mc.2.2.1 + 11) + Mc.2.2.2.2.2.1 ≤ M.2.2.2.2.2.1)
def mm_cdok (Mc : mm_M) : Bool := mm_in (.initialized Mc.1.cls) && mm_in (.code Mc.1 Mc.2.1 Mc.2.2.1 Mc.2.2.2.1)
def mm_vok (M Mc : mm_M) (idx n : Nat) : Bool := mm_in (.methodLink M.1.cls idx Mc.1) && mm_in (.instanceMethod Mc.1) && mm_in (.selects Mc.1.cls Mc.1 Mc.1) && mm_cdok Mc && mm_rok M Mc n
def mm_sok (M Mc : mm_M) (idx n : Nat) : Bool := mm_in (.methodLink M.1.cls idx Mc.1) && mm_in (.static Mc.1) && mm_cdok Mc && mm_rok M Mc n
def mm_iok (M Mc : mm_M) (idx n : Nat) : Bool := mm_in (.methodLink M.1.cls idx Mc.1) && mm_in (.instanceMethod Mc.1) && mm_cdok Mc && mm_rok M Mc n && decide (Mc.1.name = "<init>") && decide (Mc.2.2.2.1 = none)
theorem mm_callB {M Mc : mm_M} {idx n mc ms : Nat} {R : Room} {s : State} {args : Array Value} (hts : ∀ w ∈ mm_W, w.before args s = true) (hfr : M.2.2.2.2.1 ≤ R.frames) (hlo : M.2.2.2.2.2.1 ≤ R.locals) (h1 : mm_in (.methodLink M.1.cls idx Mc.1) = true) (h2 : mm_cdok Mc = true) (h3 : mm_rok M Mc n = true) :
    CallB R s args M.1.cls idx Mc.1 Mc.2.1 Mc.2.2.1 Mc.2.2.2.1 (Cond.code Mc.1 Mc.2.1 Mc.2.2.1 Mc.2.2.2.1 :: mm_W) (mm_rm Mc mc ms) mc ms n := by
  simp only [mm_cdok, Bool.and_eq_true] at h2
  simp only [mm_rok, Bool.and_eq_true, decide_eq_true_eq] at h3
  obtain ⟨⟨⟨⟨a1, a2⟩, a3⟩, a4⟩, a5⟩ := h3
  refine ⟨rfl, rfl, Nat.le_trans a4 hfr, Nat.le_trans a5 hlo, fun w hw a' U hW => ?_, List.mem_cons_self, mm_in_of hts h2.2, mm_in_of hts h2.1, ⟨a1, a2⟩, fun sig hsig => ?_, mm_in_of hts h1⟩
  · rcases List.mem_cons.mp hw with e | e
    · rw [e]
      exact mm_word hW (mm_W_good _ (mm_in_mem h2.2)) (mm_in_of hts h2.2)
    · exact mm_word hW (mm_W_good _ e) (hts w e)
  · rw [hsig] at a3
    exact (Option.some.inj a3).symm
section MML
variable {G : mm_G} {M : mm_M} {pc : Nat} {L : List (Nat × Value)} {st : List Value} {h : mm_Hp} {kc ks : Nat} {Q : mm_O → mm_Hp → Prop} {T : mm_T}
/-- the callee's start holds in every state that the call may meet -/
theorem mm_pre {p : Program} {l : Launch} {R : Room} {s : State} {m : MethodId} {args : Array Value} {meth : Method} {c : Code} {A : Nat → Prop} {H : Heap} {locs : List Loc} {av : List Value} (hF : mm_F G M p l R s m args meth c A) (hI : mm_I G h H A s locs) :
    ∀ U : State, U.heap = H → s.WarmedH U.vm → mm_Pc G av h H.size av.toArray U := by
  intro U hU hW
  have hAB : ∀ q, mm_A h H.size q → A q := fun q hq => by
    rcases hq with ⟨o, ho⟩ | hq
    · exact hI.2.2 q o ho
    · exact hF.2.2.2.2.2.2.2.2.2.2.2.2.2.2 q (Nat.le_trans hI.2.1.1 hq)
  refine ⟨rfl, by rw [hU], by rw [hU]; exact hI.1, mm_K_moved hW.alike hF.2.2.2.2.2.2.2.2.2.2.2.2.1, ?_⟩
  rw [hU]
  exact mm_Sx_moved hW.alike (mm_Sx_narrow (mm_Sx_kept hF.2.2.2.2.2.2.2.2.2.2.2.2.2.1 hI.2.1.1 hI.2.1.2.1) hAB)
/-- what holds behind a call -/
theorem mm_post {p : Program} {l : Launch} {R : Room} {s : State} {m : MethodId} {args : Array Value} {meth : Method} {c : Code} {A : Nat → Prop} {H : Heap} {locs L9 : List Loc} {h' : mm_Hp} {st₀ t T' : State} (hF : mm_F G M p l R s m args meth c A) (hI : mm_I G h H A s locs)
    (h0 : st₀.heap = H) (e1 : T'.heap = t.heap) (hL : ∀ q ∈ L9, mm_A h H.size q.base) (hB : mm_B G h' (mm_A h H.size) st₀ t) : mm_I G h' T'.heap A s (locs ++ L9) := by
  have hAB : ∀ q, mm_A h H.size q → A q := fun q hq => by
    rcases hq with ⟨o, ho⟩ | hq
    · exact hI.2.2 q o ho
    · exact hF.2.2.2.2.2.2.2.2.2.2.2.2.2.2 q (Nat.le_trans hI.2.1.1 hq)
  obtain ⟨b1, b2, b3⟩ := hB
  exact ⟨by rw [e1]; exact b1, (vx_keep (free := mm_A h H.size) h0 e1 hI.2.1 (fun q _ z => hAB q z) hAB hL b3).2.2, fun a o ha => hAB a (b2 a o ha)⟩
theorem mm_on {p : Program} {l : Launch} {e : Env} {R : Room} {s : State} {m : MethodId} {args : Array Value} {below : List Frame} {meth : Method} {c : Code} {A : Nat → Prop} {H : Heap} {locs : List Loc} {cells slots mc ms : Nat} {ls : Array Slot} {stk : List Value} {av : Array Value} {Qm : mm_O → mm_Hp → Prop}
    (hr : va_Run p l e R s m args below meth c H locs cells slots mc ms (F0 m pc ls stk) st (mm_Qc G Qm (mm_A h H.size) av) (mm_A h H.size)) (hF : mm_F G M p l R s m args meth c A) (hI : mm_I G h H A s locs) (hc : cells + (mc + kc) ≤ R.cells) (hs : slots + (ms + ks) ≤ R.slots) (hl : lv_has ls M.2.2.1 L)
    (kk : ∀ (v : Option Value) (h' : mm_Hp), Qm (.inl v) h' → mm_V G M (pc + 3) L (v.toList ++ st) h' kc ks Q) :
    W p l e R s m args below meth c H locs cells slots (vx_MQ below (mm_Qc G Q A) (mm_XC G Q A) args s (cells + (mc + kc)) (slots + (ms + ks)) A) (F0 m pc ls stk) := by
  intro T9 hT9 X9
  obtain ⟨v, st₀, t, T', L9, h0, X', hL, e1, e2, ⟨v', h', hv, hq, hB⟩, st1⟩ := hr T9 hT9 X9
  cases hv
  have h9 := kk v h' hq p l e R s m args below meth c T'.heap (locs ++ L9) (cells + mc) (slots + ms) A ls hF (mm_post hF hI h0 e1 hL hB) (by omega) (by omega) hl
  rw [Nat.add_assoc cells, Nat.add_assoc slots] at h9
  obtain ⟨t2, a1, b1⟩ := h9 T' rfl X'
  exact ⟨t2, st1 t2 a1, b1⟩
theorem mm_callV (hT : mm_ok M T) {Mc : mm_M} {idx mc ms b ci : Nat} {As fs stk : List Value} {c0 : Int32} {Qm : mm_O → mm_Hp → Prop} {r : vw_C} (hf : mm_ix T pc = some (.invokevirtual idx, 3, c0)) (hk : mm_vok M Mc idx As.length = true) (hb : h b = some (ci, fs)) (hr : mm_cl[ci]? = some r) (hrc : r.1 = Mc.1.cls)
    (hstk : stk = As.reverse ++ .ref b :: st) (hw : (st.map fun v => v.category).sum ≤ 8) (hC : mm_C G Mc (.ref b :: As) h mc ms Qm) (hx : ∀ E h', ¬ Qm (.inr E) h')
    (kk : ∀ (v : Option Value) (h' : mm_Hp), Qm (.inl v) h' → mm_V G M (pc + 3) L (v.toList ++ st) h' kc ks Q) : mm_V G M pc L stk h (mc + kc) (ms + ks) Q := by
  intro p l e R s m args below meth c H locs cells slots A ls hF hI hc hs hl
  simp only [mm_vok, Bool.and_eq_true] at hk
  obtain ⟨⟨⟨⟨k1, k2⟩, k3⟩, k4⟩, k5⟩ := hk
  have hts := hF.2.2.2.2.2.2.1
  have hcell := hI.1 b _ hb
  rw [mm_cell_o (mm_ci_lt hr)] at hcell
  obtain ⟨r', hr', -, cv, g1, g2, g3, -⟩ := hcell
  cases hr.symm.trans hr'
  have hfc := (hF.2.2.2.2.2.2.2.2.2.2.2.2.1.1.1 ci _ hr).2.1
  rw [hrc] at hfc
  refine mm_on (va_runV (C := Mc.1.cls) (As := As) (rest := st) (nL := M.2.2.1) ⟨hF.1, hF.2.1, hF.2.2.2.2.1, hF.2.2.2.2.2.1, hts⟩ (mm_met hC hx l H.size hF.2.2.2.2.2.2.2.2.2.1) ⟨mm_callB hts hF.2.2.2.2.2.2.2.2.2.2.1 hF.2.2.2.2.2.2.2.2.2.2.2.1 k1 k4 k5, mm_in_of hts k2, mm_in_of hts k3⟩ ⟨mm_Pc_blind, ⟨cv, g1, by rw [g3]; rfl, by rw [g2]; exact hfc⟩, mm_pre hF hI⟩ rfl rfl hl.1 hstk (lv_room hw) (mm_dec hT hf) ⟨by omega, by omega⟩) hF hI hc hs hl kk
theorem mm_callS (hT : mm_ok M T) {Mc : mm_M} {idx mc ms : Nat} {As stk : List Value} {c0 : Int32} {Qm : mm_O → mm_Hp → Prop} (hf : mm_ix T pc = some (.invokestatic idx, 3, c0)) (hk : mm_sok M Mc idx As.length = true)
    (hstk : stk = As.reverse ++ st) (hw : (st.map fun v => v.category).sum ≤ 8) (hC : mm_C G Mc As h mc ms Qm) (hx : ∀ E h', ¬ Qm (.inr E) h')
    (kk : ∀ (v : Option Value) (h' : mm_Hp), Qm (.inl v) h' → mm_V G M (pc + 3) L (v.toList ++ st) h' kc ks Q) : mm_V G M pc L stk h (mc + kc) (ms + ks) Q := by
  intro p l e R s m args below meth c H locs cells slots A ls hF hI hc hs hl
  simp only [mm_sok, Bool.and_eq_true] at hk
  obtain ⟨⟨⟨k1, k2⟩, k4⟩, k5⟩ := hk
  have hts := hF.2.2.2.2.2.2.1
  refine mm_on (va_runS (As := As) (rest := st) (nL := M.2.2.1) ⟨hF.1, hF.2.1, hF.2.2.2.2.1, hF.2.2.2.2.2.1, hts⟩ (mm_met hC hx l H.size hF.2.2.2.2.2.2.2.2.2.1) ⟨mm_callB hts hF.2.2.2.2.2.2.2.2.2.2.1 hF.2.2.2.2.2.2.2.2.2.2.2.1 k1 k4 k5, mm_in_of hts k2⟩ ⟨mm_Pc_blind, mm_pre hF hI⟩ rfl rfl hl.1 hstk (lv_room hw) (mm_dec hT hf) ⟨by omega, by omega⟩) hF hI hc hs hl kk
theorem mm_callI (hT : mm_ok M T) {Mc : mm_M} {idx mc ms b : Nat} {As stk : List Value} {c0 : Int32} {Qm : mm_O → mm_Hp → Prop} (hf : mm_ix T pc = some (.invokespecial idx, 3, c0)) (hk : mm_iok M Mc idx As.length = true)
    (hstk : stk = As.reverse ++ .ref b :: st) (hw : (st.map fun v => v.category).sum ≤ 8) (hC : mm_C G Mc (.ref b :: As) h mc ms Qm) (hx : ∀ E h', ¬ Qm (.inr E) h')
    (kk : ∀ (v : Option Value) (h' : mm_Hp), Qm (.inl v) h' → mm_V G M (pc + 3) L (v.toList ++ st) h' kc ks Q) : mm_V G M pc L stk h (mc + kc) (ms + ks) Q := by
  intro p l e R s m args below meth c H locs cells slots A ls hF hI hc hs hl
  simp only [mm_iok, Bool.and_eq_true, decide_eq_true_eq] at hk
  obtain ⟨⟨⟨⟨⟨k1, k2⟩, k4⟩, k5⟩, k6⟩, k7⟩ := hk
  have hts := hF.2.2.2.2.2.2.1
  have hM := mm_met hC hx l H.size hF.2.2.2.2.2.2.2.2.2.1
  have hB := mm_callB (mc := mc) (ms := ms) hts hF.2.2.2.2.2.2.2.2.2.2.1 hF.2.2.2.2.2.2.2.2.2.2.2.1 k1 k4 k5
  rw [k7] at hM hB
  refine mm_on (va_runI (As := As) (b := b) (rest := st) (nL := M.2.2.1) ⟨hF.1, hF.2.1, hF.2.2.2.2.1, hF.2.2.2.2.2.1, hts⟩ hM ⟨hB, k6, mm_in_of hts k2⟩ ⟨mm_Pc_blind, mm_pre hF hI⟩ rfl rfl hl.1 hstk (lv_room hw) (mm_dec hT hf) ⟨by omega, by omega⟩) hF hI hc hs hl kk
/-- 'throw new E()' out of a method without a table -/
def mm_tok (own : String) (ik ic : Nat) (cls : String) (names : List String) : Bool := Bundle.fit cls && names.all Bundle.fit && (Cond.classLink own ik cls :: Cond.initialized cls :: vx_at0 own ic cls names).all (fun w => mm_in w && vx_ot w)
theorem mm_throw (hT : mm_ok M T) {ik ic : Nat} {c0 c1 c2 c3 : Int32} {cls : String} {names : List String} (hf0 : mm_ix T pc = some (.new ik, 3, c0)) (hf3 : mm_ix T (pc + 3) = some (.dup, 1, c1)) (hf4 : mm_ix T (pc + 4) = some (.invokespecial ic, 3, c2)) (hf7 : mm_ix T (pc + 7) = some (.athrow, 1, c3))
    (hk : mm_tok M.1.cls ik ic cls names = true) (hh : M.2.2.2.2.2.2 = []) (hfr : names.length + 3 < M.2.2.2.2.1) (hlo : (st.map fun v => v.category).sum + (13 * (names.length + 1) + 42) ≤ M.2.2.2.2.2.1) (hq : Q (.inr cls) h) : mm_V G M pc L st h (1 + kc) (6 + ks) Q := by
  intro p l e R s m args below meth c H locs cells slots A ls hF hI hc hs hl
  simp only [mm_tok, Bool.and_eq_true, List.all_eq_true] at hk
  obtain ⟨⟨k1, k2⟩, k3⟩ := hk
  have hts := hF.2.2.2.2.2.2.1
  have hX := hF.2.2.2.2.2.2.2.2.2.2.2.2.2.1
  have hfr9 := hF.2.2.2.2.2.2.2.2.2.2.1
  have hlo9 := hF.2.2.2.2.2.2.2.2.2.2.2.1
  refine vx_throw0 (A := A) hF.1 hF.2.1 hF.2.2.2.2.2.2.2.2.2.1 (own := M.1.cls) (cls := cls) (names := names) (ik := ik) (ic := ic) hF.2.2.2.2.2.1 k1 k2 (mm_in_of hts (k3 _ List.mem_cons_self).1) (mm_in_of hts (k3 _ (List.mem_cons_of_mem _ List.mem_cons_self)).1)
    (fun w hw => mm_in_of hts (k3 _ (List.mem_cons_of_mem _ (List.mem_cons_of_mem _ hw))).1) (fun w hw => (k3 w hw).2) hX.2.1 hX.2.2.1 hI.2.1 (by rw [hF.2.2.2.2.1]; exact hl.1) (mm_dec hT hf0) (mm_dec hT hf3) (mm_dec hT hf4) (mm_dec hT hf7)
    (fun x hx => by rw [hF.2.2.2.2.2.2.2.2.1, hh] at hx; cases hx) (by omega) (by omega) (by omega) (by omega) hF.2.2.2.1
    (fun t ht hz ho => ⟨h, hq, mm_R_grow hI.1 ho, hI.2.2, Nat.le_trans hI.2.1.1 hz, fun q h1 h2 => (ho q (Nat.lt_of_lt_of_le h1 hI.2.1.1)).trans (hI.2.1.2.1 q h1 h2)⟩) hI.2.1.2.2 (by omega) (by omega)
/-- which row of the method's table takes an E that comes at pc -/
def mm_hx (M : mm_M) (pc : Nat) (E : String) (hp : Nat) : Prop := ∃ (pre : List ExceptionTableEntry) (x : ExceptionTableEntry) (suf : List ExceptionTableEntry) (name : String), tableOf M.2.2.2.2.2.2 = pre ++ x :: suf ∧ x.handlerPc = hp ∧
  (∀ z ∈ pre, covers z pc = false ∨ (z.catchType ≠ 0 ∧ E = "java/lang/IllegalStateException" ∧ mm_in (.classLink M.1.cls z.catchType "java/lang/IllegalArgumentException") = true)) ∧ covers x pc = true ∧ x.catchType ≠ 0 ∧ mm_in (.classLink M.1.cls x.catchType name) = true ∧ mm_in (.castable E name) = true
/-- a call whose throws are caught here -/
theorem mm_callVX (hT : mm_ok M T) {Mc : mm_M} {idx mc ms b ci : Nat} {As fs stk : List Value} {c0 : Int32} {Qm : mm_O → mm_Hp → Prop} {r : vw_C} (hf : mm_ix T pc = some (.invokevirtual idx, 3, c0)) (hk : mm_vok M Mc idx As.length = true) (hb : h b = some (ci, fs)) (hr : mm_cl[ci]? = some r) (hrc : r.1 = Mc.1.cls)
    (hstk : stk = As.reverse ++ .ref b :: st) (hw : (st.map fun v => v.category).sum ≤ 8) (hC : mm_C G Mc (.ref b :: As) h mc ms Qm)
    (kx : ∀ (E : String) (h' : mm_Hp) (q : Nat), Qm (.inr E) h' → ∃ hp, mm_hx M pc E hp ∧ mm_V G M hp L [.ref q] h' kc ks Q)
    (kk : ∀ (v : Option Value) (h' : mm_Hp), Qm (.inl v) h' → mm_V G M (pc + 3) L (v.toList ++ st) h' kc ks Q) : mm_V G M pc L stk h (mc + kc) (ms + ks) Q := by
  intro p l e R s m args below meth c H locs cells slots A ls hF hI hc hs hl
  simp only [mm_vok, Bool.and_eq_true] at hk
  obtain ⟨⟨⟨⟨k1, k2⟩, k3⟩, k4⟩, k5⟩ := hk
  have hts := hF.2.2.2.2.2.2.1
  have hcell := hI.1 b _ hb
  rw [mm_cell_o (mm_ci_lt hr)] at hcell
  obtain ⟨r', hr', -, cv, g1, g2, g3, -⟩ := hcell
  cases hr.symm.trans hr'
  have hfc := (hF.2.2.2.2.2.2.2.2.2.2.2.2.1.1.1 ci _ hr).2.1
  rw [hrc] at hfc
  have hrun := vx_runV (e := e) (below := below) (meth := meth) (locs := locs) (cells := cells) (slots := slots) (C := Mc.1.cls) (b := b) (As := As) (rest := st) (nL := M.2.2.1) (g := F0 m pc ls stk) ⟨hF.1, hF.2.1, hF.2.2.2.2.1, hF.2.2.2.2.2.1, hts⟩ (hC l H.size hF.2.2.2.2.2.2.2.2.2.1) ⟨mm_callB hts hF.2.2.2.2.2.2.2.2.2.2.1 hF.2.2.2.2.2.2.2.2.2.2.2.1 k1 k4 k5, mm_in_of hts k2, mm_in_of hts k3⟩ (H := H) ⟨mm_Pc_blind, ⟨cv, g1, by rw [g3]; rfl, by rw [g2]; exact hfc⟩, mm_pre hF hI⟩ rfl rfl hl.1 hstk (lv_room hw) (mm_dec hT hf) ⟨by omega, by omega⟩
  intro T9 hT9 X9
  rcases hrun T9 hT9 X9 with ⟨v, st₀, t, T', L9, h0, X', hL, e1, e2, ⟨v', h', hv, hq, hB⟩, st1⟩ | ⟨q, st₀, t, T', L9, E, ce, h0, X', hL, e1, e2, ⟨h', hq, hB⟩, hce, hcv, hcl, st1⟩
  · cases hv
    have h9 := kk v h' hq p l e R s m args below meth c T'.heap (locs ++ L9) (cells + mc) (slots + ms) A ls hF (mm_post hF hI h0 e1 hL hB) (by omega) (by omega) hl
    rw [Nat.add_assoc cells, Nat.add_assoc slots] at h9
    obtain ⟨t2, a1, b1⟩ := h9 T' rfl X'
    exact ⟨t2, st1 t2 a1, b1⟩
  · obtain ⟨hp, ⟨pre, x, suf, name, w1, w2, w3, w4, w5, w6, w7⟩, hV⟩ := kx E h' q hq
    have h9 := hV p l e R s m args below meth c T'.heap (locs ++ L9) (cells + mc) (slots + ms) A ls hF (mm_post hF hI h0 e1 hL hB) (by omega) (by omega) hl
    rw [Nat.add_assoc cells, Nat.add_assoc slots, ← w2] at h9
    obtain ⟨t2, a1, b1⟩ := mm_catch (rest := st) hF.2.2.2.2.2.1 pre x suf (by rw [hF.2.2.2.2.2.2.2.2.1]; exact w1) (fun z hz => by
      rcases w3 z hz with u | ⟨u1, u2, u3⟩
      · exact Or.inl u
      · exact Or.inr ⟨u1, _, mm_in_of hts u3, by rw [u2]; exact hF.2.2.2.2.2.2.2.2.2.2.2.2.1.2.2.2⟩) w4 w5 (mm_in_of hts w6) (mm_in_of hts w7) (by rw [e1]; exact hce) hcv hcl h9 T' rfl X'
    exact ⟨t2, st1.trans a1, b1⟩
/-- a method with a table, called by its name -/
def mm_CH (G : mm_G) (M : mm_M) (av : List Value) (h : mm_Hp) (kc ks : Nat) (Q : mm_O → mm_Hp → Prop) : Prop :=
  ∀ (l : Launch) (sz : Nat), l.stackTraces = false → vx_Met l M.1 (Cond.codeWith M.1 M.2.1 M.2.2.1 M.2.2.2.1 M.2.2.2.2.2.2 :: mm_W) (mm_rm M kc ks) (mm_Pc G av h sz) (mm_Qc G Q (mm_A h sz)) (mm_XC G Q (mm_A h sz)) kc ks (mm_A h sz)
set_option maxHeartbeats 1000000 in
theorem mm_CH_of {av : List Value} (hy : plainName M.1.cls = true) (hn : (lg_sl av).length ≤ M.2.2.1) (hL : lv_args 0 av = L)
    (k : mm_V G M 0 L [] h kc ks Q) : mm_CH G M av h kc ks Q := by
  intro l sz hl
  refine MetFree.of_bodyS (code := M.2.1) (maxLocals := M.2.2.1) (ret := M.2.2.2.1) hy ?_ ?_
  · intro args s m h hn
    obtain ⟨m9, meth, c, hn9, h1, h2, h3, h4, -, h5, h6, -⟩ := Cond.codeWith_spec (atoms_spec (ws := Cond.codeWith M.1 M.2.1 M.2.2.1 M.2.2.2.1 M.2.2.2.2.2.2 :: mm_W) h _ List.mem_cons_self)
    cases hn.symm.trans hn9
    exact ⟨meth, c, h1, h2, h3, h4, h5, h6⟩
  · intro p e s m args below meth c s₁ B hml hP _
    obtain ⟨rfl, hsz, hR, hK, hX⟩ := hP
    subst hsz
    have hts := atoms_spec (ws := Cond.codeWith M.1 M.2.1 M.2.2.1 M.2.2.2.1 M.2.2.2.2.2.2 :: mm_W) B.pre
    have hA : ∀ q : Nat, s.heap.size ≤ q → mm_A h s.heap.size q := fun q z => Or.inr z
    have hl2 := lv_entry av (n := M.2.2.1) hn
    have hh0 : s₁.heap = s.heap := by rw [B.state]; rfl
    have hF : mm_F G M p l (mm_rm M kc ks) s m av.toArray meth c (mm_A h s.heap.size) :=
      ⟨B.exec, B.bytes, B.returns, B.notSynchronized, hml, findClass_of_methodNamed B.named, fun w hw => hts w (List.mem_cons_of_mem _ hw), (name_of_methodNamed B.named B.method).1, vx_table (x := M.1) B (hts _ List.mem_cons_self), hl, Nat.le_refl _, Nat.le_refl _, hK, hX, hA⟩
    have hI : mm_I G h s.heap (mm_A h s.heap.size) s [] := ⟨hR, va_S.rf, fun a o z => Or.inl ⟨o, z⟩⟩
    have h9 := k p l e (mm_rm M kc ks) s m av.toArray below meth c s.heap [] 0 0 (mm_A h s.heap.size) _ hF hI (by rw [Nat.zero_add]; exact Nat.le_refl _) (by rw [Nat.zero_add]; exact Nat.le_refl _) (hL ▸ hl2)
    rw [Nat.zero_add, Nat.zero_add, ← lg_entry_eq] at h9
    obtain ⟨t, a1, o, b1, b2, b3⟩ := h9 s₁ hh0 (Stand.of_body B)
    exact ⟨t, o, a1, b1, b2, b3⟩
def mm_hok (M Mc : mm_M) (idx n : Nat) : Bool := mm_in (.methodLink M.1.cls idx Mc.1) && mm_in (.static Mc.1) && mm_in (.initialized Mc.1.cls) && mm_in (.codeWith Mc.1 Mc.2.1 Mc.2.2.1 Mc.2.2.2.1 Mc.2.2.2.2.2.2) && mm_rok M Mc n
theorem mm_callH (hT : mm_ok M T) {Mc : mm_M} {idx mc ms : Nat} {As stk : List Value} {c0 : Int32} {Qm : mm_O → mm_Hp → Prop} (hf : mm_ix T pc = some (.invokestatic idx, 3, c0)) (hk : mm_hok M Mc idx As.length = true)
    (hstk : stk = As.reverse ++ st) (hw : (st.map fun v => v.category).sum ≤ 8) (hC : mm_CH G Mc As h mc ms Qm) (hx : ∀ E h', ¬ Qm (.inr E) h')
    (kk : ∀ (v : Option Value) (h' : mm_Hp), Qm (.inl v) h' → mm_V G M (pc + 3) L (v.toList ++ st) h' kc ks Q) : mm_V G M pc L stk h (mc + kc) (ms + ks) Q := by
  intro p l e R s m args below meth c H locs cells slots A ls hF hI hc hs hl
  simp only [mm_hok, mm_rok, Bool.and_eq_true, decide_eq_true_eq] at hk
  obtain ⟨⟨⟨⟨k1, k2⟩, k3⟩, k4⟩, ⟨⟨⟨⟨a1, a2⟩, a3⟩, a4⟩, a5⟩⟩ := hk
  have hts := hF.2.2.2.2.2.2.1
  have hfr := hF.2.2.2.2.2.2.2.2.2.2.1
  have hlo := hF.2.2.2.2.2.2.2.2.2.2.2.1
  have hM : Met l Mc.1 (Cond.codeWith Mc.1 Mc.2.1 Mc.2.2.1 Mc.2.2.2.1 Mc.2.2.2.2.2.2 :: mm_W) (mm_rm Mc mc ms) (mm_Pc G As h H.size) (mm_Qc G Qm (mm_A h H.size)) mc ms (mm_A h H.size) := by
    refine MetFree.mono (hC l H.size hF.2.2.2.2.2.2.2.2.2.1) (fun _ _ z => z) (fun _ _ _ _ _ _ => trivial) (fun a s o t _ hq => ?_)
    rcases hq with hq | ⟨q, -, E, ce, L, ⟨h', hq', -⟩, -⟩
    · exact hq
    · exact absurd hq' (hx E h')
  refine mm_on (vx_runSW (hh := Mc.2.2.2.2.2.2) (bytes := Mc.2.1) (maxL := Mc.2.2.1) (ret := Mc.2.2.2.1) (As := As) (rest := st) (nL := M.2.2.1) ⟨hF.1, hF.2.1, hF.2.2.2.2.1, hF.2.2.2.2.2.1, hts⟩ hM ⟨⟨rfl, rfl, Nat.le_trans a4 hfr, Nat.le_trans a5 hlo, fun w hw a' U hW => ?_, List.mem_cons_self⟩, mm_in_of hts k4, mm_in_of hts k3, ⟨a1, a2⟩, fun sig hsig => ?_, mm_in_of hts k1, mm_in_of hts k2⟩ ⟨mm_Pc_blind, mm_pre hF hI⟩ rfl rfl hl.1 hstk (lv_room hw) (mm_dec hT hf) ⟨by omega, by omega⟩) hF hI hc hs hl kk
  · rcases List.mem_cons.mp hw with e | e
    · rw [e]
      exact mm_word hW (mm_W_good _ (mm_in_mem k4)) (mm_in_of hts k4)
    · exact mm_word hW (mm_W_good _ e) (hts w e)
  · rw [hsig] at a3
    exact (Option.some.inj a3).symm
end MML
end
section
/-! the methods: name, bytes, locals, answer, room, table; their code by rows -/
def M_Dv_init : mm_M := (yX0_init, cX0_init, 5, none, 1, 20, [])
def M_Dv_drives : mm_M := (yX0_drives, cX0_drives, 2, (some .boolean), 0, 0, [])
def M_Dv_isWired : mm_M := (yX0_isWired, cX0_isWired, 2, (some .boolean), 0, 0, [])
def M_Dv_wire : mm_M := (yX0_wire, cX0_wire, 2, none, 0, 0, [])
def M_Dv_setCore : mm_M := (yX0_setCore, cX0_setCore, 3, none, 0, 0, [])
def M_Dv_clearOutputs : mm_M := (yX0_clearOutputs, cX0_clearOutputs, 1, none, 0, 0, [])
def M_Dv_outputs : mm_M := (yX0_outputs, cX0_outputs, 1, (some .int), 0, 0, [])
def M_Dv_hasBoundary : mm_M := (yX0_hasBoundary, cX0_hasBoundary, 1, (some .boolean), 0, 0, [])
def M_Dv_dataLength : mm_M := (yX0_dataLength, cX0_dataLength, 1, (some .int), 1, 20, [])
def M_Dv_captureData : mm_M := (yX0_captureData, cX0_captureData, 2, none, 1, 20, [])
def M_Dv_shiftData : mm_M := (yX0_shiftData, cX0_shiftData, 3, (some .boolean), 2, 40, [])
def M_Dv_shiftInstruction : mm_M := (yX0_shiftInstruction, cX0_shiftInstruction, 3, (some .boolean), 1, 23, [])
def M_Dv_updateData : mm_M := (yX0_updateData, cX0_updateData, 1, none, 1, 20, [])
def M_Dv_shiftedDown : mm_M := (yX0_shiftedDown, cX0_shiftedDown, 4, (some .int), 0, 0, [])
def M_Nt_init : mm_M := (yX1_init, cX1_init, 5, none, 1, 20, [])
def M_Nt_carries : mm_M := (yX1_carries, cX1_carries, 3, (some .boolean), 1, 20, [])
def M_Nt_breakAlone : mm_M := (yX1_breakAlone, cX1_breakAlone, 2, none, 1, 20, [])
def M_Nt_breakWith : mm_M := (yX1_breakWith, cX1_breakWith, 3, none, 1, 20, [])
def M_Nt_mend : mm_M := (yX1_mend, cX1_mend, 1, none, 0, 0, [])
def M_Cb_init : mm_M := (yX2_init, cX2_init, 1, none, 4, 80, [])
def M_Cb_device : mm_M := (yX2_device, cX2_device, 5, (some .int), 6, 108, [])
def M_Cb_net : mm_M := (yX2_net, cX2_net, 7, (some .int), 6, 108, [])
def M_Cb_fault : mm_M := (yX2_fault, cX2_fault, 4, none, 6, 89, [])
def M_Cb_core : mm_M := (yX2_core, cX2_core, 4, none, 6, 89, [])
def M_Cb_clock : mm_M := (yX2_clock, cX2_clock, 3, (some .boolean), 6, 135, [])
def M_Cb_state : mm_M := (yX2_state, cX2_state, 1, (some .int), 0, 0, [])
def M_Cb_look : mm_M := (yX2_look, cX2_look, 4, (some .int), 6, 89, [])
def M_Cb_value : mm_M := (yX2_value, cX2_value, 2, (some .boolean), 6, 89, [])
def M_Cb_find : mm_M := (yX2_find, cX2_find, 2, (some .int), 7, 161, [])
def M_Cb_found : mm_M := (yX2_found, cX2_found, 2, (some .int), 6, 89, [])
def M_Cb_test : mm_M := (yX2_test, cX2_test, 3, (some .int), 8, 183, [])
def M_Cb_saw : mm_M := (yX2_saw, cX2_saw, 2, (some .int), 6, 89, [])
def M_Cb_clocks : mm_M := (yX2_clocks, cX2_clocks, 1, (some .int), 0, 0, [])
def M_Cb_isDevice : mm_M := (yX2_isDevice, cX2_isDevice, 2, (some .boolean), 1, 20, [])
def M_Cb_isCell : mm_M := (yX2_isCell, cX2_isCell, 3, (some .boolean), 3, 64, [])
def M_Cb_isNet : mm_M := (yX2_isNet, cX2_isNet, 2, (some .boolean), 1, 20, [])
def M_Cb_restartDevices : mm_M := (yX2_restartDevices, cX2_restartDevices, 2, none, 4, 86, [])
def M_Cb_step : mm_M := (yX2_step, cX2_step, 4, (some .boolean), 5, 112, [])
def M_Cb_enterState : mm_M := (yX2_enterState, cX2_enterState, 3, none, 3, 64, [])
def M_Cb_doState : mm_M := (yX2_doState, cX2_doState, 5, (some .boolean), 4, 88, [])
def M_Cb_signalsOf : mm_M := (yX2_signalsOf, cX2_signalsOf, 5, (some .int), 3, 64, [])
def M_Cb_goToIdle : mm_M := (yX2_goToIdle, cX2_goToIdle, 2, none, 6, 135, [])
def M_Cb_scan : mm_M := (yX2_scan, cX2_scan, 7, none, 6, 135, [])
def M_Cb_wordsBeforeAllOnes : mm_M := (yX2_wordsBeforeAllOnes, cX2_wordsBeforeAllOnes, 2, (some .int), 0, 0, [])
def M_Cb_giveAllExtest : mm_M := (yX2_giveAllExtest, cX2_giveAllExtest, 3, none, 7, 161, [])
def M_Cb_allCells : mm_M := (yX2_allCells, cX2_allCells, 3, (some .int), 3, 64, [])
def M_Cb_forgetSeen : mm_M := (yX2_forgetSeen, cX2_forgetSeen, 2, none, 3, 64, [])
def M_Cb_patternOfRound : mm_M := (yX2_patternOfRound, cX2_patternOfRound, 5, (some .int), 4, 88, [])
def M_Cb_noteSeen : mm_M := (yX2_noteSeen, cX2_noteSeen, 5, none, 4, 88, [])
def M_Cb_placeInScan : mm_M := (yX2_placeInScan, cX2_placeInScan, 5, (some .int), 3, 64, [])
def M_Cb_countFaulty : mm_M := (yX2_countFaulty, cX2_countFaulty, 3, (some .int), 3, 64, [])
def M_Md_init : mm_M := (yX3_init, cX3_init, 1, none, 1, 20, [])
def M_Md_thrown : mm_M := (yX3_thrown, cX3_thrown, 1, (some .int), 0, 0, [])
def M_Md_out : mm_M := (yX3_out, cX3_out, 2, (some .boolean), 0, 0, [])
def M_Md_fail : mm_M := (yX3_fail, cX3_fail, 2, (some .int), 0, 0, [])
def M_Md_after : mm_M := (yX3_after, cX3_after, 2, (some .int), 0, 0, [])
def M_Md_device : mm_M := (yX3_device, cX3_device, 8, (some .int), 0, 0, [])
def M_Md_isCell : mm_M := (yX3_isCell, cX3_isCell, 3, (some .boolean), 1, 21, [])
def M_Md_net : mm_M := (yX3_net, cX3_net, 8, (some .int), 2, 43, [])
def M_Md_heal : mm_M := (yX3_heal, cX3_heal, 3, none, 0, 0, [])
def M_Md_fault : mm_M := (yX3_fault, cX3_fault, 5, none, 1, 22, [])
def M_Md_core : mm_M := (yX3_core, cX3_core, 4, none, 2, 43, [])
def M_Md_output : mm_M := (yX3_output, cX3_output, 2, (some .int), 0, 0, [])
def M_Md_valueOf : mm_M := (yX3_valueOf, cX3_valueOf, 4, (some .int), 1, 21, [])
def M_Md_signal : mm_M := (yX3_signal, cX3_signal, 2, (some .int), 2, 44, [])
def M_Md_down : mm_M := (yX3_down, cX3_down, 6, (some .int), 0, 0, [])
def M_Md_shiftAll : mm_M := (yX3_shiftAll, cX3_shiftAll, 6, (some .int), 1, 25, [])
def M_Md_capture : mm_M := (yX3_capture, cX3_capture, 4, none, 3, 65, [])
def M_Md_update : mm_M := (yX3_update, cX3_update, 3, none, 0, 0, [])
def M_Md_numberIn : mm_M := (yX3_numberIn, cX3_numberIn, 4, (some .int), 0, 0, [])
def M_Md_tick : mm_M := (yX3_tick, cX3_tick, 6, (some .int), 4, 88, [])
def M_Md_clock : mm_M := (yX3_clock, cX3_clock, 3, (some .boolean), 5, 113, [])
def M_Md_goIdle : mm_M := (yX3_goIdle, cX3_goIdle, 3, none, 5, 113, [])
def M_Md_comeTo : mm_M := (yX3_comeTo, cX3_comeTo, 4, none, 5, 113, [])
def M_Md_leave : mm_M := (yX3_leave, cX3_leave, 3, none, 5, 113, [])
def M_Md_find : mm_M := (yX3_find, cX3_find, 5, (some .int), 6, 136, [])
def M_Md_found : mm_M := (yX3_found, cX3_found, 2, (some .int), 1, 21, [])
def M_Md_round : mm_M := (yX3_round, cX3_round, 9, none, 6, 136, [])
def M_Md_test : mm_M := (yX3_test, cX3_test, 5, (some .int), 7, 164, [])
def M_Md_saw : mm_M := (yX3_saw, cX3_saw, 2, (some .int), 1, 21, [])
def M_Md_state : mm_M := (yX3_state, cX3_state, 1, (some .int), 0, 0, [])
def M_Md_look : mm_M := (yX3_look, cX3_look, 5, (some .int), 3, 65, [])
def M_Md_value : mm_M := (yX3_value, cX3_value, 2, (some .boolean), 2, 44, [])
def M_Md_clocks : mm_M := (yX3_clocks, cX3_clocks, 1, (some .int), 0, 0, [])
def M_Mh_max : mm_M := (yJ9_max_7cf53, cJ9_max_7cf53, 2, (some .int), 0, 0, [])
def M_Ac_init : mm_M := (yJxa1e45_init_da8c8, cJxa1e45_init_da8c8, 1, none, 1, 20, [])
def M_As_init : mm_M := (yJxc12de_init_da8c8, cJxc12de_init_da8c8, 1, none, 2, 40, [])
def M_Al_init : mm_M := (yJx4a65c_init_da8c8, cJx4a65c_init_da8c8, 1, none, 3, 60, [])
def M_Al_grow1 : mm_M := (yJx4a65c_grow_92f84, cJx4a65c_grow_92f84, 4, (some (.array (.object "java/lang/Object"))), 1, 21, [])
def M_Al_grow0 : mm_M := (yJx4a65c_grow_d5877, cJx4a65c_grow_d5877, 1, (some (.array (.object "java/lang/Object"))), 2, 44, [])
def M_Al_size : mm_M := (yJx4a65c_size_8abf5, cJx4a65c_size_8abf5, 1, (some .int), 0, 0, [])
def M_Al_isEmpty : mm_M := (yJx4a65c_isEmpty_aae02, cJx4a65c_isEmpty_aae02, 1, (some .boolean), 0, 0, [])
def M_Al_elementData : mm_M := (yJx4a65c_elementData_915e3, cJx4a65c_elementData_915e3, 2, (some (.object "java/lang/Object")), 0, 0, [])
def M_Al_get : mm_M := (yJx4a65c_get_915e3, cJx4a65c_get_915e3, 2, (some (.object "java/lang/Object")), 2, 43, [])
def M_Al_add3 : mm_M := (yJx4a65c_add_72be8, cJx4a65c_add_72be8, 4, none, 3, 64, [])
def M_Al_add : mm_M := (yJx4a65c_add_9ea2d, cJx4a65c_add_9ea2d, 2, (some .boolean), 4, 87, [])
def M_Ob_checkIndex : mm_M := (yJ15_checkIndex_7cf53, cJ15_checkIndex_7cf53, 2, (some .int), 1, 22, [])
def M_Pc_checkIndex : mm_M := (yJ3_checkIndex_8e157, cJ3_checkIndex_8e157, 3, (some .int), 0, 0, [])
def M_Lw_device : mm_M := (yL_device, cL_device, 7, (some .int), 7, 132, [(0, 14, 17, 13), (0, 14, 21, 15)])
def M_Lw_net : mm_M := (yL_net, cL_net, 7, (some .int), 7, 134, [(0, 14, 17, 13), (0, 14, 21, 15)])
def M_Lw_fault : mm_M := (yL_fault, cL_fault, 5, (some .int), 7, 112, [(0, 7, 10, 13)])
def M_Lw_core : mm_M := (yL_core, cL_core, 5, (some .int), 7, 112, [(0, 7, 10, 13)])
def M_Lw_clock : mm_M := (yL_clock, cL_clock, 5, (some .int), 7, 157, [(0, 17, 20, 15)])
def M_Lw_look : mm_M := (yL_look, cL_look, 5, (some .int), 7, 112, [(0, 10, 13, 13)])
def M_Lw_value : mm_M := (yL_value, cL_value, 4, (some .int), 7, 110, [(0, 16, 19, 13)])
def M_Lw_find : mm_M := (yL_find, cL_find, 3, (some .int), 8, 182, [(0, 8, 11, 15)])
def M_Lw_found : mm_M := (yL_found, cL_found, 4, (some .int), 7, 110, [(0, 9, 12, 48)])
def M_Lw_test : mm_M := (yL_test, cL_test, 3, (some .int), 9, 205, [(0, 8, 11, 15)])
def M_Lw_saw : mm_M := (yL_saw, cL_saw, 4, (some .int), 7, 110, [(0, 9, 12, 48)])
def M_Lw_law : mm_M := (yL_law, cL_law, 7, ret, 10, 227, [])
def T_Dv_init : mm_T := [(0, .aload_n 0, 1, 0), (1, .invokespecial 3, 3, 0), (4, .aload_n 0, 1, 0), (5, .iload_n 1, 1, 0), (6, .putfield 9, 3, 0), (9, .aload_n 0, 1, 0), (10, .iload_n 2, 1, 0), (11, .putfield 15, 3, 0), (14, .aload_n 0, 1, 0), (15, .iload_n 3, 1, 0), (16, .putfield 18, 3, 0), (19, .aload_n 0, 1, 0), (20, .iload 4, 2, 0), (22, .iconst 1, 1, 1), (23, .iload_n 3, 1, 0), (24, .ishl, 1, 0), (25, .iconst 1, 1, 1), (26, .isub, 1, 0), (27, .iand, 1, 0), (28, .putfield 21, 3, 0), (31, .aload_n 0, 1, 0), (32, .iconst 1, 1, 1), (33, .putfield 24, 3, 0), (36, .return_, 1, 0)]
set_option maxRecDepth 20000 in
theorem ok_Dv_init : mm_ok M_Dv_init T_Dv_init := by unfold mm_ok; decide +kernel
def T_Dv_drives : mm_T := [(0, .aload_n 0, 1, 0), (1, .getfield 21, 3, 0), (4, .iload_n 1, 1, 0), (5, .iushr, 1, 0), (6, .iconst 1, 1, 1), (7, .iand, 1, 0), (8, .iconst 1, 1, 1), (9, .if_icmp .ne 7, 3, 0), (12, .iconst 1, 1, 1), (13, .goto 4, 3, 0), (16, .iconst 0, 1, 0), (17, .ireturn, 1, 0)]
set_option maxRecDepth 20000 in
theorem ok_Dv_drives : mm_ok M_Dv_drives T_Dv_drives := by unfold mm_ok; decide +kernel
def T_Dv_isWired : mm_T := [(0, .aload_n 0, 1, 0), (1, .getfield 27, 3, 0), (4, .iload_n 1, 1, 0), (5, .iushr, 1, 0), (6, .iconst 1, 1, 1), (7, .iand, 1, 0), (8, .iconst 1, 1, 1), (9, .if_icmp .ne 7, 3, 0), (12, .iconst 1, 1, 1), (13, .goto 4, 3, 0), (16, .iconst 0, 1, 0), (17, .ireturn, 1, 0)]
set_option maxRecDepth 20000 in
theorem ok_Dv_isWired : mm_ok M_Dv_isWired T_Dv_isWired := by unfold mm_ok; decide +kernel
def T_Dv_wire : mm_T := [(0, .aload_n 0, 1, 0), (1, .dup, 1, 0), (2, .getfield 27, 3, 0), (5, .iconst 1, 1, 1), (6, .iload_n 1, 1, 0), (7, .ishl, 1, 0), (8, .ior, 1, 0), (9, .putfield 27, 3, 0), (12, .return_, 1, 0)]
set_option maxRecDepth 20000 in
theorem ok_Dv_wire : mm_ok M_Dv_wire T_Dv_wire := by unfold mm_ok; decide +kernel
def T_Dv_setCore : mm_T := [(0, .iload_n 2, 1, 0), (1, .ifCond .eq 18, 3, 0), (4, .aload_n 0, 1, 0), (5, .dup, 1, 0), (6, .getfield 30, 3, 0), (9, .iconst 1, 1, 1), (10, .iload_n 1, 1, 0), (11, .ishl, 1, 0), (12, .ior, 1, 0), (13, .putfield 30, 3, 0), (16, .goto 17, 3, 0), (19, .aload_n 0, 1, 0), (20, .dup, 1, 0), (21, .getfield 30, 3, 0), (24, .iconst 1, 1, 1), (25, .iload_n 1, 1, 0), (26, .ishl, 1, 0), (27, .iconst (-1), 1, (-1)), (28, .ixor, 1, 0), (29, .iand, 1, 0), (30, .putfield 30, 3, 0), (33, .return_, 1, 0)]
set_option maxRecDepth 20000 in
theorem ok_Dv_setCore : mm_ok M_Dv_setCore T_Dv_setCore := by unfold mm_ok; decide +kernel
def T_Dv_clearOutputs : mm_T := [(0, .aload_n 0, 1, 0), (1, .iconst 0, 1, 0), (2, .putfield 33, 3, 0), (5, .aload_n 0, 1, 0), (6, .iconst 0, 1, 0), (7, .putfield 30, 3, 0), (10, .return_, 1, 0)]
set_option maxRecDepth 20000 in
theorem ok_Dv_clearOutputs : mm_ok M_Dv_clearOutputs T_Dv_clearOutputs := by unfold mm_ok; decide +kernel
def T_Dv_outputs : mm_T := [(0, .aload_n 0, 1, 0), (1, .getfield 24, 3, 0), (4, .ifCond .ne 10, 3, 0), (7, .aload_n 0, 1, 0), (8, .getfield 33, 3, 0), (11, .goto 7, 3, 0), (14, .aload_n 0, 1, 0), (15, .getfield 30, 3, 0), (18, .ireturn, 1, 0)]
set_option maxRecDepth 20000 in
theorem ok_Dv_outputs : mm_ok M_Dv_outputs T_Dv_outputs := by unfold mm_ok; decide +kernel
def T_Dv_hasBoundary : mm_T := [(0, .aload_n 0, 1, 0), (1, .getfield 24, 3, 0), (4, .ifCond .eq 11, 3, 0), (7, .aload_n 0, 1, 0), (8, .getfield 24, 3, 0), (11, .iconst 2, 1, 2), (12, .if_icmp .ne 7, 3, 0), (15, .iconst 1, 1, 1), (16, .goto 4, 3, 0), (19, .iconst 0, 1, 0), (20, .ireturn, 1, 0)]
set_option maxRecDepth 20000 in
theorem ok_Dv_hasBoundary : mm_ok M_Dv_hasBoundary T_Dv_hasBoundary := by unfold mm_ok; decide +kernel
def T_Dv_dataLength : mm_T := [(0, .aload_n 0, 1, 0), (1, .invokevirtual 36, 3, 0), (4, .ifCond .eq 8, 3, 0), (7, .aload_n 0, 1, 0), (8, .getfield 18, 3, 0), (11, .ireturn, 1, 0), (12, .aload_n 0, 1, 0), (13, .getfield 24, 3, 0), (16, .iconst 1, 1, 1), (17, .if_icmp .ne 8, 3, 0), (20, .bipush 32, 2, 32), (22, .goto 4, 3, 0), (25, .iconst 1, 1, 1), (26, .ireturn, 1, 0)]
set_option maxRecDepth 20000 in
theorem ok_Dv_dataLength : mm_ok M_Dv_dataLength T_Dv_dataLength := by unfold mm_ok; decide +kernel
def T_Dv_captureData : mm_T := [(0, .aload_n 0, 1, 0), (1, .invokevirtual 36, 3, 0), (4, .ifCond .eq 11, 3, 0), (7, .aload_n 0, 1, 0), (8, .iload_n 1, 1, 0), (9, .putfield 40, 3, 0), (12, .goto 23, 3, 0), (15, .aload_n 0, 1, 0), (16, .aload_n 0, 1, 0), (17, .getfield 24, 3, 0), (20, .iconst 1, 1, 1), (21, .if_icmp .ne 10, 3, 0), (24, .aload_n 0, 1, 0), (25, .getfield 15, 3, 0), (28, .goto 4, 3, 0), (31, .iconst 0, 1, 0), (32, .putfield 40, 3, 0), (35, .return_, 1, 0)]
set_option maxRecDepth 20000 in
theorem ok_Dv_captureData : mm_ok M_Dv_captureData T_Dv_captureData := by unfold mm_ok; decide +kernel
def T_Dv_shiftData : mm_T := [(0, .aload_n 0, 1, 0), (1, .getfield 40, 3, 0), (4, .iconst 1, 1, 1), (5, .iand, 1, 0), (6, .iconst 1, 1, 1), (7, .if_icmp .ne 7, 3, 0), (10, .iconst 1, 1, 1), (11, .goto 4, 3, 0), (14, .iconst 0, 1, 0), (15, .istore_n 2, 1, 0), (16, .aload_n 0, 1, 0), (17, .aload_n 0, 1, 0), (18, .getfield 40, 3, 0), (21, .aload_n 0, 1, 0), (22, .invokevirtual 43, 3, 0), (25, .iload_n 1, 1, 0), (26, .invokestatic 47, 3, 0), (29, .putfield 40, 3, 0), (32, .iload_n 2, 1, 0), (33, .ireturn, 1, 0)]
set_option maxRecDepth 20000 in
theorem ok_Dv_shiftData : mm_ok M_Dv_shiftData T_Dv_shiftData := by unfold mm_ok; decide +kernel
def T_Dv_shiftInstruction : mm_T := [(0, .aload_n 0, 1, 0), (1, .getfield 51, 3, 0), (4, .iconst 1, 1, 1), (5, .iand, 1, 0), (6, .iconst 1, 1, 1), (7, .if_icmp .ne 7, 3, 0), (10, .iconst 1, 1, 1), (11, .goto 4, 3, 0), (14, .iconst 0, 1, 0), (15, .istore_n 2, 1, 0), (16, .aload_n 0, 1, 0), (17, .aload_n 0, 1, 0), (18, .getfield 51, 3, 0), (21, .aload_n 0, 1, 0), (22, .getfield 9, 3, 0), (25, .iload_n 1, 1, 0), (26, .invokestatic 47, 3, 0), (29, .putfield 51, 3, 0), (32, .iload_n 2, 1, 0), (33, .ireturn, 1, 0)]
set_option maxRecDepth 20000 in
theorem ok_Dv_shiftInstruction : mm_ok M_Dv_shiftInstruction T_Dv_shiftInstruction := by unfold mm_ok; decide +kernel
def T_Dv_updateData : mm_T := [(0, .aload_n 0, 1, 0), (1, .invokevirtual 36, 3, 0), (4, .ifCond .eq 16, 3, 0), (7, .aload_n 0, 1, 0), (8, .aload_n 0, 1, 0), (9, .getfield 40, 3, 0), (12, .aload_n 0, 1, 0), (13, .getfield 21, 3, 0), (16, .iand, 1, 0), (17, .putfield 33, 3, 0), (20, .return_, 1, 0)]
set_option maxRecDepth 20000 in
theorem ok_Dv_updateData : mm_ok M_Dv_updateData T_Dv_updateData := by unfold mm_ok; decide +kernel
def T_Dv_shiftedDown : mm_T := [(0, .iload_n 0, 1, 0), (1, .iconst 1, 1, 1), (2, .iushr, 1, 0), (3, .istore_n 3, 1, 0), (4, .iload_n 2, 1, 0), (5, .ifCond .eq 13, 3, 0), (8, .iload_n 3, 1, 0), (9, .iconst 1, 1, 1), (10, .iload_n 1, 1, 0), (11, .iconst 1, 1, 1), (12, .isub, 1, 0), (13, .ishl, 1, 0), (14, .ior, 1, 0), (15, .goto 4, 3, 0), (18, .iload_n 3, 1, 0), (19, .ireturn, 1, 0)]
set_option maxRecDepth 20000 in
theorem ok_Dv_shiftedDown : mm_ok M_Dv_shiftedDown T_Dv_shiftedDown := by unfold mm_ok; decide +kernel
def T_Nt_init : mm_T := [(0, .aload_n 0, 1, 0), (1, .invokespecial 3, 3, 0), (4, .aload_n 0, 1, 0), (5, .aload_n 1, 1, 0), (6, .putfield 9, 3, 0), (9, .aload_n 0, 1, 0), (10, .iload_n 2, 1, 0), (11, .putfield 15, 3, 0), (14, .aload_n 0, 1, 0), (15, .aload_n 3, 1, 0), (16, .putfield 19, 3, 0), (19, .aload_n 0, 1, 0), (20, .iload 4, 2, 0), (22, .putfield 22, 3, 0), (25, .aload_n 0, 1, 0), (26, .iconst (-1), 1, (-1)), (27, .putfield 25, 3, 0), (30, .return_, 1, 0)]
set_option maxRecDepth 20000 in
theorem ok_Nt_init : mm_ok M_Nt_init T_Nt_init := by unfold mm_ok; decide +kernel
def T_Nt_carries : mm_T := [(0, .aload_n 0, 1, 0), (1, .getfield 25, 3, 0), (4, .ifCond .ne 5, 3, 0), (7, .iconst 0, 1, 0), (8, .ireturn, 1, 0), (9, .aload_n 0, 1, 0), (10, .getfield 25, 3, 0), (13, .iconst 1, 1, 1), (14, .if_icmp .ne 5, 3, 0), (17, .iconst 1, 1, 1), (18, .ireturn, 1, 0), (19, .aload_n 0, 1, 0), (20, .getfield 9, 3, 0), (23, .invokevirtual 28, 3, 0), (26, .aload_n 0, 1, 0), (27, .getfield 15, 3, 0), (30, .iushr, 1, 0), (31, .iconst 1, 1, 1), (32, .iand, 1, 0), (33, .istore_n 1, 1, 0), (34, .aload_n 0, 1, 0), (35, .getfield 34, 3, 0), (38, .ifnonnull 14, 3, 0), (41, .iload_n 1, 1, 0), (42, .iconst 1, 1, 1), (43, .if_icmp .ne 7, 3, 0), (46, .iconst 1, 1, 1), (47, .goto 4, 3, 0), (50, .iconst 0, 1, 0), (51, .ireturn, 1, 0), (52, .aload_n 0, 1, 0), (53, .getfield 34, 3, 0), (56, .getfield 9, 3, 0), (59, .invokevirtual 28, 3, 0), (62, .aload_n 0, 1, 0), (63, .getfield 34, 3, 0), (66, .getfield 15, 3, 0), (69, .iushr, 1, 0), (70, .iconst 1, 1, 1), (71, .iand, 1, 0), (72, .istore_n 2, 1, 0), (73, .aload_n 0, 1, 0), (74, .getfield 25, 3, 0), (77, .iconst 2, 1, 2), (78, .if_icmp .ne 9, 3, 0), (81, .iload_n 1, 1, 0), (82, .iload_n 2, 1, 0), (83, .iand, 1, 0), (84, .goto 6, 3, 0), (87, .iload_n 1, 1, 0), (88, .iload_n 2, 1, 0), (89, .ior, 1, 0), (90, .iconst 1, 1, 1), (91, .if_icmp .ne 7, 3, 0), (94, .iconst 1, 1, 1), (95, .goto 4, 3, 0), (98, .iconst 0, 1, 0), (99, .ireturn, 1, 0)]
set_option maxRecDepth 20000 in
theorem ok_Nt_carries : mm_ok M_Nt_carries T_Nt_carries := by unfold mm_ok; decide +kernel
def T_Nt_breakAlone : mm_T := [(0, .aload_n 0, 1, 0), (1, .invokevirtual 38, 3, 0), (4, .aload_n 0, 1, 0), (5, .iload_n 1, 1, 0), (6, .putfield 25, 3, 0), (9, .return_, 1, 0)]
set_option maxRecDepth 20000 in
theorem ok_Nt_breakAlone : mm_ok M_Nt_breakAlone T_Nt_breakAlone := by unfold mm_ok; decide +kernel
def T_Nt_breakWith : mm_T := [(0, .aload_n 0, 1, 0), (1, .invokevirtual 38, 3, 0), (4, .aload_n 1, 1, 0), (5, .invokevirtual 38, 3, 0), (8, .aload_n 0, 1, 0), (9, .iload_n 2, 1, 0), (10, .putfield 25, 3, 0), (13, .aload_n 0, 1, 0), (14, .aload_n 1, 1, 0), (15, .putfield 34, 3, 0), (18, .aload_n 1, 1, 0), (19, .iload_n 2, 1, 0), (20, .putfield 25, 3, 0), (23, .aload_n 1, 1, 0), (24, .aload_n 0, 1, 0), (25, .putfield 34, 3, 0), (28, .return_, 1, 0)]
set_option maxRecDepth 20000 in
theorem ok_Nt_breakWith : mm_ok M_Nt_breakWith T_Nt_breakWith := by unfold mm_ok; decide +kernel
def T_Nt_mend : mm_T := [(0, .aload_n 0, 1, 0), (1, .getfield 34, 3, 0), (4, .ifnull 19, 3, 0), (7, .aload_n 0, 1, 0), (8, .getfield 34, 3, 0), (11, .iconst (-1), 1, (-1)), (12, .putfield 25, 3, 0), (15, .aload_n 0, 1, 0), (16, .getfield 34, 3, 0), (19, .aconst_null, 1, 0), (20, .putfield 34, 3, 0), (23, .aload_n 0, 1, 0), (24, .iconst (-1), 1, (-1)), (25, .putfield 25, 3, 0), (28, .aload_n 0, 1, 0), (29, .aconst_null, 1, 0), (30, .putfield 34, 3, 0), (33, .return_, 1, 0)]
set_option maxRecDepth 20000 in
theorem ok_Nt_mend : mm_ok M_Nt_mend T_Nt_mend := by unfold mm_ok; decide +kernel
def T_Mh_max : mm_T := [(0, .iload_n 0, 1, 0), (1, .iload_n 1, 1, 0), (2, .if_icmp .lt 7, 3, 0), (5, .iload_n 0, 1, 0), (6, .goto 4, 3, 0), (9, .iload_n 1, 1, 0), (10, .ireturn, 1, 0)]
set_option maxRecDepth 20000 in
theorem ok_Mh_max : mm_ok M_Mh_max T_Mh_max := by unfold mm_ok; decide +kernel
def T_Ac_init : mm_T := [(0, .aload_n 0, 1, 0), (1, .invokespecial 1, 3, 0), (4, .return_, 1, 0)]
set_option maxRecDepth 20000 in
theorem ok_Ac_init : mm_ok M_Ac_init T_Ac_init := by unfold mm_ok; decide +kernel
def T_As_init : mm_T := [(0, .aload_n 0, 1, 0), (1, .invokespecial 1, 3, 0), (4, .aload_n 0, 1, 0), (5, .iconst 0, 1, 0), (6, .putfield 7, 3, 0), (9, .return_, 1, 0)]
set_option maxRecDepth 20000 in
theorem ok_As_init : mm_ok M_As_init T_As_init := by unfold mm_ok; decide +kernel
def T_Al_init : mm_T := [(0, .aload_n 0, 1, 0), (1, .invokespecial 1, 3, 0), (4, .aload_n 0, 1, 0), (5, .getstatic 39, 3, 0), (8, .putfield 9, 3, 0), (11, .return_, 1, 0)]
set_option maxRecDepth 20000 in
theorem ok_Al_init : mm_ok M_Al_init T_Al_init := by unfold mm_ok; decide +kernel
def T_Al_grow1 : mm_T := [(0, .aload_n 0, 1, 0), (1, .getfield 9, 3, 0), (4, .arraylength, 1, 0), (5, .istore_n 2, 1, 0), (6, .iload_n 2, 1, 0), (7, .ifCond .gt 13, 3, 0), (10, .aload_n 0, 1, 0), (11, .getfield 9, 3, 0), (14, .getstatic 39, 3, 0), (17, .if_acmp .eq 28, 3, 0), (20, .iload_n 2, 1, 0), (21, .iload_n 1, 1, 0), (22, .iload_n 2, 1, 0), (23, .isub, 1, 0), (24, .iload_n 2, 1, 0), (25, .iconst 1, 1, 1), (26, .ishr, 1, 0), (27, .invokestatic 73, 3, 0), (30, .istore_n 3, 1, 0), (31, .aload_n 0, 1, 0), (32, .aload_n 0, 1, 0), (33, .getfield 9, 3, 0), (36, .iload_n 3, 1, 0), (37, .invokestatic 66, 3, 0), (40, .dup_x1, 1, 0), (41, .putfield 9, 3, 0), (44, .areturn, 1, 0), (45, .aload_n 0, 1, 0), (46, .bipush 10, 2, 10), (48, .iload_n 1, 1, 0), (49, .invokestatic 79, 3, 0), (52, .anewarray 7, 3, 0), (55, .dup_x1, 1, 0), (56, .putfield 9, 3, 0), (59, .areturn, 1, 0)]
set_option maxRecDepth 20000 in
theorem ok_Al_grow1 : mm_ok M_Al_grow1 T_Al_grow1 := by unfold mm_ok; decide +kernel
def T_Al_grow0 : mm_T := [(0, .aload_n 0, 1, 0), (1, .aload_n 0, 1, 0), (2, .getfield 48, 3, 0), (5, .iconst 1, 1, 1), (6, .iadd, 1, 0), (7, .invokevirtual 69, 3, 0), (10, .areturn, 1, 0)]
set_option maxRecDepth 20000 in
theorem ok_Al_grow0 : mm_ok M_Al_grow0 T_Al_grow0 := by unfold mm_ok; decide +kernel
def T_Al_size : mm_T := [(0, .aload_n 0, 1, 0), (1, .getfield 48, 3, 0), (4, .ireturn, 1, 0)]
set_option maxRecDepth 20000 in
theorem ok_Al_size : mm_ok M_Al_size T_Al_size := by unfold mm_ok; decide +kernel
def T_Al_isEmpty : mm_T := [(0, .aload_n 0, 1, 0), (1, .getfield 48, 3, 0), (4, .ifCond .ne 7, 3, 0), (7, .iconst 1, 1, 1), (8, .goto 4, 3, 0), (11, .iconst 0, 1, 0), (12, .ireturn, 1, 0)]
set_option maxRecDepth 20000 in
theorem ok_Al_isEmpty : mm_ok M_Al_isEmpty T_Al_isEmpty := by unfold mm_ok; decide +kernel
def T_Al_elementData : mm_T := [(0, .aload_n 0, 1, 0), (1, .getfield 9, 3, 0), (4, .iload_n 1, 1, 0), (5, .aaload, 1, 0), (6, .areturn, 1, 0)]
set_option maxRecDepth 20000 in
theorem ok_Al_elementData : mm_ok M_Al_elementData T_Al_elementData := by unfold mm_ok; decide +kernel
def T_Al_get : mm_T := [(0, .iload_n 1, 1, 0), (1, .aload_n 0, 1, 0), (2, .getfield 48, 3, 0), (5, .invokestatic 118, 3, 0), (8, .pop, 1, 0), (9, .aload_n 0, 1, 0), (10, .iload_n 1, 1, 0), (11, .invokevirtual 123, 3, 0), (14, .areturn, 1, 0)]
set_option maxRecDepth 20000 in
theorem ok_Al_get : mm_ok M_Al_get T_Al_get := by unfold mm_ok; decide +kernel
def T_Al_add3 : mm_T := [(0, .iload_n 3, 1, 0), (1, .aload_n 2, 1, 0), (2, .arraylength, 1, 0), (3, .if_icmp .ne 8, 3, 0), (6, .aload_n 0, 1, 0), (7, .invokevirtual 129, 3, 0), (10, .astore_n 2, 1, 0), (11, .aload_n 2, 1, 0), (12, .iload_n 3, 1, 0), (13, .aload_n 1, 1, 0), (14, .aastore, 1, 0), (15, .aload_n 0, 1, 0), (16, .iload_n 3, 1, 0), (17, .iconst 1, 1, 1), (18, .iadd, 1, 0), (19, .putfield 48, 3, 0), (22, .return_, 1, 0)]
set_option maxRecDepth 20000 in
theorem ok_Al_add3 : mm_ok M_Al_add3 T_Al_add3 := by unfold mm_ok; decide +kernel
def T_Al_add : mm_T := [(0, .aload_n 0, 1, 0), (1, .dup, 1, 0), (2, .getfield 63, 3, 0), (5, .iconst 1, 1, 1), (6, .iadd, 1, 0), (7, .putfield 63, 3, 0), (10, .aload_n 0, 1, 0), (11, .aload_n 1, 1, 0), (12, .aload_n 0, 1, 0), (13, .getfield 9, 3, 0), (16, .aload_n 0, 1, 0), (17, .getfield 48, 3, 0), (20, .invokevirtual 131, 3, 0), (23, .iconst 1, 1, 1), (24, .ireturn, 1, 0)]
set_option maxRecDepth 20000 in
theorem ok_Al_add : mm_ok M_Al_add T_Al_add := by unfold mm_ok; decide +kernel
def T_Ob_checkIndex : mm_T := [(0, .iload_n 0, 1, 0), (1, .iload_n 1, 1, 0), (2, .aconst_null, 1, 0), (3, .invokestatic 105, 3, 0), (6, .ireturn, 1, 0)]
set_option maxRecDepth 20000 in
theorem ok_Ob_checkIndex : mm_ok M_Ob_checkIndex T_Ob_checkIndex := by unfold mm_ok; decide +kernel
def T_Pc_checkIndex : mm_T := [(0, .iload_n 0, 1, 0), (1, .ifCond .lt 8, 3, 0), (4, .iload_n 0, 1, 0), (5, .iload_n 1, 1, 0), (6, .if_icmp .lt 10, 3, 0), (9, .aload_n 2, 1, 0), (10, .iload_n 0, 1, 0), (11, .iload_n 1, 1, 0), (12, .invokestatic 95, 3, 0), (15, .athrow, 1, 0), (16, .iload_n 0, 1, 0), (17, .ireturn, 1, 0)]
set_option maxRecDepth 20000 in
theorem ok_Pc_checkIndex : mm_ok M_Pc_checkIndex T_Pc_checkIndex := by unfold mm_ok; decide +kernel
end
section
/-! code by rows -/
def T_Cb_init : mm_T := [(0, .aload_n 0, 1, 0), (1, .invokespecial 3, 3, 0), (4, .aload_n 0, 1, 0), (5, .new 9, 3, 0), (8, .dup, 1, 0), (9, .invokespecial 11, 3, 0), (12, .putfield 12, 3, 0), (15, .aload_n 0, 1, 0), (16, .new 9, 3, 0), (19, .dup, 1, 0), (20, .invokespecial 11, 3, 0), (23, .putfield 16, 3, 0), (26, .aload_n 0, 1, 0), (27, .iconst 0, 1, 0), (28, .putfield 19, 3, 0), (31, .aload_n 0, 1, 0), (32, .iconst 5, 1, 5), (33, .newarray .int, 2, 0), (35, .putfield 23, 3, 0), (38, .aload_n 0, 1, 0), (39, .iconst 4, 1, 4), (40, .newarray .int, 2, 0), (42, .putfield 27, 3, 0), (45, .return_, 1, 0)]
set_option maxRecDepth 20000 in
theorem ok_Cb_init : mm_ok M_Cb_init T_Cb_init := by unfold mm_ok; decide +kernel
def T_Cb_device : mm_T := [(0, .iload_n 1, 1, 0), (1, .iconst 2, 1, 2), (2, .if_icmp .lt 19, 3, 0), (5, .iload_n 1, 1, 0), (6, .iconst 4, 1, 4), (7, .if_icmp .gt 14, 3, 0), (10, .iload_n 3, 1, 0), (11, .iconst 1, 1, 1), (12, .if_icmp .lt 9, 3, 0), (15, .iload_n 3, 1, 0), (16, .bipush 6, 2, 6), (18, .if_icmp .le 11, 3, 0), (21, .new 30, 3, 0), (24, .dup, 1, 0), (25, .invokespecial 32, 3, 0), (28, .athrow, 1, 0), (29, .iload_n 2, 1, 0), (30, .iconst 1, 1, 1), (31, .iand, 1, 0), (32, .ifCond .eq 8, 3, 0), (35, .iload_n 2, 1, 0), (36, .iconst (-1), 1, (-1)), (37, .if_icmp .ne 11, 3, 0), (40, .new 30, 3, 0), (43, .dup, 1, 0), (44, .invokespecial 32, 3, 0), (47, .athrow, 1, 0), (48, .aload_n 0, 1, 0), (49, .getfield 12, 3, 0), (52, .invokevirtual 33, 3, 0), (55, .iconst 4, 1, 4), (56, .if_icmp .lt 11, 3, 0), (59, .new 37, 3, 0), (62, .dup, 1, 0), (63, .invokespecial 39, 3, 0), (66, .athrow, 1, 0), (67, .aload_n 0, 1, 0), (68, .getfield 12, 3, 0), (71, .new 40, 3, 0), (74, .dup, 1, 0), (75, .iload_n 1, 1, 0), (76, .iload_n 2, 1, 0), (77, .iload_n 3, 1, 0), (78, .iload 4, 2, 0), (80, .invokespecial 42, 3, 0), (83, .invokevirtual 45, 3, 0), (86, .pop, 1, 0), (87, .aload_n 0, 1, 0), (88, .invokevirtual 49, 3, 0), (91, .aload_n 0, 1, 0), (92, .getfield 12, 3, 0), (95, .invokevirtual 33, 3, 0), (98, .iconst 1, 1, 1), (99, .isub, 1, 0), (100, .ireturn, 1, 0)]
set_option maxRecDepth 20000 in
theorem ok_Cb_device : mm_ok M_Cb_device T_Cb_device := by unfold mm_ok; decide +kernel
def T_Cb_net : mm_T := [(0, .aload_n 0, 1, 0), (1, .iload_n 1, 1, 0), (2, .iload_n 2, 1, 0), (3, .invokevirtual 52, 3, 0), (6, .ifCond .eq 13, 3, 0), (9, .aload_n 0, 1, 0), (10, .iload_n 3, 1, 0), (11, .iload 4, 2, 0), (13, .invokevirtual 52, 3, 0), (16, .ifCond .ne 11, 3, 0), (19, .new 30, 3, 0), (22, .dup, 1, 0), (23, .invokespecial 32, 3, 0), (26, .athrow, 1, 0), (27, .aload_n 0, 1, 0), (28, .getfield 12, 3, 0), (31, .iload_n 1, 1, 0), (32, .invokevirtual 56, 3, 0), (35, .checkcast 40, 3, 0), (38, .astore 5, 2, 0), (40, .aload_n 0, 1, 0), (41, .getfield 12, 3, 0), (44, .iload_n 3, 1, 0), (45, .invokevirtual 56, 3, 0), (48, .checkcast 40, 3, 0), (51, .astore 6, 2, 0), (53, .aload 5, 2, 0), (55, .iload_n 2, 1, 0), (56, .invokevirtual 60, 3, 0), (59, .ifCond .eq 32, 3, 0), (62, .aload 6, 2, 0), (64, .iload 4, 2, 0), (66, .invokevirtual 60, 3, 0), (69, .ifCond .ne 22, 3, 0), (72, .aload 5, 2, 0), (74, .iload_n 2, 1, 0), (75, .invokevirtual 64, 3, 0), (78, .ifCond .ne 13, 3, 0), (81, .aload 6, 2, 0), (83, .iload 4, 2, 0), (85, .invokevirtual 64, 3, 0), (88, .ifCond .eq 11, 3, 0), (91, .new 30, 3, 0), (94, .dup, 1, 0), (95, .invokespecial 32, 3, 0), (98, .athrow, 1, 0), (99, .aload_n 0, 1, 0), (100, .getfield 16, 3, 0), (103, .invokevirtual 33, 3, 0), (106, .bipush 8, 2, 8), (108, .if_icmp .lt 11, 3, 0), (111, .new 37, 3, 0), (114, .dup, 1, 0), (115, .invokespecial 39, 3, 0), (118, .athrow, 1, 0), (119, .aload 5, 2, 0), (121, .iload_n 2, 1, 0), (122, .invokevirtual 67, 3, 0), (125, .aload 6, 2, 0), (127, .iload 4, 2, 0), (129, .invokevirtual 67, 3, 0), (132, .aload_n 0, 1, 0), (133, .getfield 16, 3, 0), (136, .new 71, 3, 0), (139, .dup, 1, 0), (140, .aload 5, 2, 0), (142, .iload_n 2, 1, 0), (143, .aload 6, 2, 0), (145, .iload 4, 2, 0), (147, .invokespecial 73, 3, 0), (150, .invokevirtual 45, 3, 0), (153, .pop, 1, 0), (154, .aload_n 0, 1, 0), (155, .iconst 0, 1, 0), (156, .putfield 76, 3, 0), (159, .aload_n 0, 1, 0), (160, .getfield 16, 3, 0), (163, .invokevirtual 33, 3, 0), (166, .iconst 1, 1, 1), (167, .isub, 1, 0), (168, .ireturn, 1, 0)]
set_option maxRecDepth 20000 in
theorem ok_Cb_net : mm_ok M_Cb_net T_Cb_net := by unfold mm_ok; decide +kernel
def T_Cb_fault : mm_T := [(0, .aload_n 0, 1, 0), (1, .iload_n 1, 1, 0), (2, .invokevirtual 80, 3, 0), (5, .ifCond .eq 13, 3, 0), (8, .iload_n 2, 1, 0), (9, .iconst (-1), 1, (-1)), (10, .if_icmp .lt 8, 3, 0), (13, .iload_n 2, 1, 0), (14, .iconst 3, 1, 3), (15, .if_icmp .le 11, 3, 0), (18, .new 30, 3, 0), (21, .dup, 1, 0), (22, .invokespecial 32, 3, 0), (25, .athrow, 1, 0), (26, .iload_n 2, 1, 0), (27, .iconst 2, 1, 2), (28, .if_icmp .eq 24, 3, 0), (31, .iload_n 2, 1, 0), (32, .iconst 3, 1, 3), (33, .if_icmp .eq 19, 3, 0), (36, .aload_n 0, 1, 0), (37, .getfield 16, 3, 0), (40, .iload_n 1, 1, 0), (41, .invokevirtual 56, 3, 0), (44, .checkcast 71, 3, 0), (47, .iload_n 2, 1, 0), (48, .invokevirtual 83, 3, 0), (51, .return_, 1, 0), (52, .aload_n 0, 1, 0), (53, .iload_n 3, 1, 0), (54, .invokevirtual 80, 3, 0), (57, .ifCond .eq 8, 3, 0), (60, .iload_n 3, 1, 0), (61, .iload_n 1, 1, 0), (62, .if_icmp .ne 11, 3, 0), (65, .new 30, 3, 0), (68, .dup, 1, 0), (69, .invokespecial 32, 3, 0), (72, .athrow, 1, 0), (73, .aload_n 0, 1, 0), (74, .getfield 16, 3, 0), (77, .iload_n 1, 1, 0), (78, .invokevirtual 56, 3, 0), (81, .checkcast 71, 3, 0), (84, .aload_n 0, 1, 0), (85, .getfield 16, 3, 0), (88, .iload_n 3, 1, 0), (89, .invokevirtual 56, 3, 0), (92, .checkcast 71, 3, 0), (95, .iload_n 2, 1, 0), (96, .invokevirtual 86, 3, 0), (99, .return_, 1, 0)]
set_option maxRecDepth 20000 in
theorem ok_Cb_fault : mm_ok M_Cb_fault T_Cb_fault := by unfold mm_ok; decide +kernel
def T_Cb_core : mm_T := [(0, .aload_n 0, 1, 0), (1, .iload_n 1, 1, 0), (2, .iload_n 2, 1, 0), (3, .invokevirtual 52, 3, 0), (6, .ifCond .eq 21, 3, 0), (9, .aload_n 0, 1, 0), (10, .getfield 12, 3, 0), (13, .iload_n 1, 1, 0), (14, .invokevirtual 56, 3, 0), (17, .checkcast 40, 3, 0), (20, .iload_n 2, 1, 0), (21, .invokevirtual 60, 3, 0), (24, .ifCond .ne 11, 3, 0), (27, .new 30, 3, 0), (30, .dup, 1, 0), (31, .invokespecial 32, 3, 0), (34, .athrow, 1, 0), (35, .aload_n 0, 1, 0), (36, .getfield 12, 3, 0), (39, .iload_n 1, 1, 0), (40, .invokevirtual 56, 3, 0), (43, .checkcast 40, 3, 0), (46, .iload_n 2, 1, 0), (47, .iload_n 3, 1, 0), (48, .invokevirtual 90, 3, 0), (51, .return_, 1, 0)]
set_option maxRecDepth 20000 in
theorem ok_Cb_core : mm_ok M_Cb_core T_Cb_core := by unfold mm_ok; decide +kernel
def T_Cb_clock : mm_T := [(0, .aload_n 0, 1, 0), (1, .getfield 12, 3, 0), (4, .invokevirtual 94, 3, 0), (7, .ifCond .eq 11, 3, 0), (10, .new 37, 3, 0), (13, .dup, 1, 0), (14, .invokespecial 39, 3, 0), (17, .athrow, 1, 0), (18, .aload_n 0, 1, 0), (19, .iload_n 1, 1, 0), (20, .iload_n 2, 1, 0), (21, .invokevirtual 98, 3, 0), (24, .ireturn, 1, 0)]
set_option maxRecDepth 20000 in
theorem ok_Cb_clock : mm_ok M_Cb_clock T_Cb_clock := by unfold mm_ok; decide +kernel
def T_Cb_state : mm_T := [(0, .aload_n 0, 1, 0), (1, .getfield 19, 3, 0), (4, .ireturn, 1, 0)]
set_option maxRecDepth 20000 in
theorem ok_Cb_state : mm_ok M_Cb_state T_Cb_state := by unfold mm_ok; decide +kernel
def T_Cb_look : mm_T := [(0, .aload_n 0, 1, 0), (1, .iload_n 1, 1, 0), (2, .invokevirtual 102, 3, 0), (5, .ifCond .ne 11, 3, 0), (8, .new 30, 3, 0), (11, .dup, 1, 0), (12, .invokespecial 32, 3, 0), (15, .athrow, 1, 0), (16, .aload_n 0, 1, 0), (17, .getfield 12, 3, 0), (20, .iload_n 1, 1, 0), (21, .invokevirtual 56, 3, 0), (24, .checkcast 40, 3, 0), (27, .astore_n 3, 1, 0), (28, .iload_n 2, 1, 0), (29, .tableswitch 52 0 3 #[31, 36, 41, 46], 31, 0), (60, .aload_n 3, 1, 0), (61, .getfield 105, 3, 0), (64, .ireturn, 1, 0), (65, .aload_n 3, 1, 0), (66, .getfield 108, 3, 0), (69, .ireturn, 1, 0), (70, .aload_n 3, 1, 0), (71, .getfield 111, 3, 0), (74, .ireturn, 1, 0), (75, .aload_n 0, 1, 0), (76, .aload_n 3, 1, 0), (77, .invokevirtual 114, 3, 0), (80, .ireturn, 1, 0), (81, .new 30, 3, 0), (84, .dup, 1, 0), (85, .invokespecial 32, 3, 0), (88, .athrow, 1, 0)]
set_option maxRecDepth 20000 in
theorem ok_Cb_look : mm_ok M_Cb_look T_Cb_look := by unfold mm_ok; decide +kernel
def T_Cb_value : mm_T := [(0, .aload_n 0, 1, 0), (1, .iload_n 1, 1, 0), (2, .invokevirtual 80, 3, 0), (5, .ifCond .ne 11, 3, 0), (8, .new 30, 3, 0), (11, .dup, 1, 0), (12, .invokespecial 32, 3, 0), (15, .athrow, 1, 0), (16, .aload_n 0, 1, 0), (17, .getfield 16, 3, 0), (20, .iload_n 1, 1, 0), (21, .invokevirtual 56, 3, 0), (24, .checkcast 71, 3, 0), (27, .invokevirtual 118, 3, 0), (30, .ireturn, 1, 0)]
set_option maxRecDepth 20000 in
theorem ok_Cb_value : mm_ok M_Cb_value T_Cb_value := by unfold mm_ok; decide +kernel
def T_Cb_find : mm_T := [(0, .aload_n 0, 1, 0), (1, .getfield 12, 3, 0), (4, .invokevirtual 94, 3, 0), (7, .ifCond .eq 11, 3, 0), (10, .new 37, 3, 0), (13, .dup, 1, 0), (14, .invokespecial 39, 3, 0), (17, .athrow, 1, 0), (18, .aload_n 0, 1, 0), (19, .invokevirtual 121, 3, 0), (22, .iconst 0, 1, 0), (23, .istore_n 1, 1, 0), (24, .iload_n 1, 1, 0), (25, .iconst 5, 1, 5), (26, .if_icmp .ge 16, 3, 0), (29, .aload_n 0, 1, 0), (30, .getfield 23, 3, 0), (33, .iload_n 1, 1, 0), (34, .iconst (-1), 1, (-1)), (35, .iastore, 1, 0), (36, .iinc 1 1, 3, 1), (39, .goto (-15), 3, 0), (42, .aload_n 0, 1, 0), (43, .iconst 0, 1, 0), (44, .sipush 160, 3, 160), (47, .invokevirtual 124, 3, 0), (50, .aload_n 0, 1, 0), (51, .aload_n 0, 1, 0), (52, .invokevirtual 128, 3, 0), (55, .putfield 131, 3, 0), (58, .iconst 0, 1, 0), (59, .istore_n 1, 1, 0), (60, .iload_n 1, 1, 0), (61, .aload_n 0, 1, 0), (62, .getfield 131, 3, 0), (65, .if_icmp .ge 28, 3, 0), (68, .aload_n 0, 1, 0), (69, .getfield 27, 3, 0), (72, .iload_n 1, 1, 0), (73, .aload_n 0, 1, 0), (74, .getfield 23, 3, 0), (77, .aload_n 0, 1, 0), (78, .getfield 131, 3, 0), (81, .iconst 1, 1, 1), (82, .isub, 1, 0), (83, .iload_n 1, 1, 0), (84, .isub, 1, 0), (85, .iaload, 1, 0), (86, .iastore, 1, 0), (87, .iinc 1 1, 3, 1), (90, .goto (-30), 3, 0), (93, .aload_n 0, 1, 0), (94, .getfield 131, 3, 0), (97, .ireturn, 1, 0)]
set_option maxRecDepth 20000 in
theorem ok_Cb_find : mm_ok M_Cb_find T_Cb_find := by unfold mm_ok; decide +kernel
def T_Cb_found : mm_T := [(0, .iload_n 1, 1, 0), (1, .ifCond .lt 11, 3, 0), (4, .iload_n 1, 1, 0), (5, .aload_n 0, 1, 0), (6, .getfield 131, 3, 0), (9, .if_icmp .lt 11, 3, 0), (12, .new 134, 3, 0), (15, .dup, 1, 0), (16, .invokespecial 136, 3, 0), (19, .athrow, 1, 0), (20, .aload_n 0, 1, 0), (21, .getfield 27, 3, 0), (24, .iload_n 1, 1, 0), (25, .iaload, 1, 0), (26, .ireturn, 1, 0)]
set_option maxRecDepth 20000 in
theorem ok_Cb_found : mm_ok M_Cb_found T_Cb_found := by unfold mm_ok; decide +kernel
def T_Cb_test : mm_T := [(0, .aload_n 0, 1, 0), (1, .getfield 12, 3, 0), (4, .invokevirtual 94, 3, 0), (7, .ifCond .ne 13, 3, 0), (10, .aload_n 0, 1, 0), (11, .getfield 16, 3, 0), (14, .invokevirtual 94, 3, 0), (17, .ifCond .eq 11, 3, 0), (20, .new 37, 3, 0), (23, .dup, 1, 0), (24, .invokespecial 39, 3, 0), (27, .athrow, 1, 0), (28, .aload_n 0, 1, 0), (29, .invokevirtual 121, 3, 0), (32, .aload_n 0, 1, 0), (33, .invokevirtual 137, 3, 0), (36, .aload_n 0, 1, 0), (37, .invokevirtual 140, 3, 0), (40, .iconst 0, 1, 0), (41, .istore_n 1, 1, 0), (42, .iload_n 1, 1, 0), (43, .iconst 4, 1, 4), (44, .if_icmp .ge 73, 3, 0), (47, .iconst 1, 1, 1), (48, .iload_n 1, 1, 0), (49, .ishl, 1, 0), (50, .aload_n 0, 1, 0), (51, .getfield 16, 3, 0), (54, .invokevirtual 33, 3, 0), (57, .iconst 1, 1, 1), (58, .iadd, 1, 0), (59, .if_icmp .gt 58, 3, 0), (62, .aload_n 0, 1, 0), (63, .iload_n 1, 1, 0), (64, .invokevirtual 143, 3, 0), (67, .istore_n 2, 1, 0), (68, .aload_n 0, 1, 0), (69, .getfield 23, 3, 0), (72, .iconst 0, 1, 0), (73, .iload_n 2, 1, 0), (74, .iastore, 1, 0), (75, .aload_n 0, 1, 0), (76, .iconst 0, 1, 0), (77, .aload_n 0, 1, 0), (78, .invokevirtual 147, 3, 0), (81, .invokevirtual 124, 3, 0), (84, .aload_n 0, 1, 0), (85, .getfield 23, 3, 0), (88, .iconst 0, 1, 0), (89, .iload_n 2, 1, 0), (90, .iastore, 1, 0), (91, .aload_n 0, 1, 0), (92, .iconst 0, 1, 0), (93, .aload_n 0, 1, 0), (94, .invokevirtual 147, 3, 0), (97, .invokevirtual 124, 3, 0), (100, .aload_n 0, 1, 0), (101, .iload_n 1, 1, 0), (102, .aload_n 0, 1, 0), (103, .getfield 23, 3, 0), (106, .iconst 0, 1, 0), (107, .iaload, 1, 0), (108, .invokevirtual 150, 3, 0), (111, .iinc 1 1, 3, 1), (114, .goto (-72), 3, 0), (117, .aload_n 0, 1, 0), (118, .iconst 1, 1, 1), (119, .putfield 76, 3, 0), (122, .aload_n 0, 1, 0), (123, .invokevirtual 154, 3, 0), (126, .ireturn, 1, 0)]
set_option maxRecDepth 20000 in
theorem ok_Cb_test : mm_ok M_Cb_test T_Cb_test := by unfold mm_ok; decide +kernel
def T_Cb_saw : mm_T := [(0, .aload_n 0, 1, 0), (1, .getfield 76, 3, 0), (4, .ifCond .eq 11, 3, 0), (7, .aload_n 0, 1, 0), (8, .iload_n 1, 1, 0), (9, .invokevirtual 80, 3, 0), (12, .ifCond .ne 11, 3, 0), (15, .new 134, 3, 0), (18, .dup, 1, 0), (19, .invokespecial 136, 3, 0), (22, .athrow, 1, 0), (23, .aload_n 0, 1, 0), (24, .getfield 16, 3, 0), (27, .iload_n 1, 1, 0), (28, .invokevirtual 56, 3, 0), (31, .checkcast 71, 3, 0), (34, .getfield 157, 3, 0), (37, .ireturn, 1, 0)]
set_option maxRecDepth 20000 in
theorem ok_Cb_saw : mm_ok M_Cb_saw T_Cb_saw := by unfold mm_ok; decide +kernel
def T_Cb_clocks : mm_T := [(0, .aload_n 0, 1, 0), (1, .getfield 160, 3, 0), (4, .ireturn, 1, 0)]
set_option maxRecDepth 20000 in
theorem ok_Cb_clocks : mm_ok M_Cb_clocks T_Cb_clocks := by unfold mm_ok; decide +kernel
def T_Cb_isDevice : mm_T := [(0, .iload_n 1, 1, 0), (1, .ifCond .lt 18, 3, 0), (4, .iload_n 1, 1, 0), (5, .aload_n 0, 1, 0), (6, .getfield 12, 3, 0), (9, .invokevirtual 33, 3, 0), (12, .if_icmp .ge 7, 3, 0), (15, .iconst 1, 1, 1), (16, .goto 4, 3, 0), (19, .iconst 0, 1, 0), (20, .ireturn, 1, 0)]
set_option maxRecDepth 20000 in
theorem ok_Cb_isDevice : mm_ok M_Cb_isDevice T_Cb_isDevice := by unfold mm_ok; decide +kernel
def T_Cb_isCell : mm_T := [(0, .aload_n 0, 1, 0), (1, .iload_n 1, 1, 0), (2, .invokevirtual 102, 3, 0), (5, .ifCond .eq 29, 3, 0), (8, .iload_n 2, 1, 0), (9, .ifCond .lt 25, 3, 0), (12, .iload_n 2, 1, 0), (13, .aload_n 0, 1, 0), (14, .getfield 12, 3, 0), (17, .iload_n 1, 1, 0), (18, .invokevirtual 56, 3, 0), (21, .checkcast 40, 3, 0), (24, .getfield 163, 3, 0), (27, .if_icmp .ge 7, 3, 0), (30, .iconst 1, 1, 1), (31, .goto 4, 3, 0), (34, .iconst 0, 1, 0), (35, .ireturn, 1, 0)]
set_option maxRecDepth 20000 in
theorem ok_Cb_isCell : mm_ok M_Cb_isCell T_Cb_isCell := by unfold mm_ok; decide +kernel
def T_Cb_isNet : mm_T := [(0, .iload_n 1, 1, 0), (1, .ifCond .lt 18, 3, 0), (4, .iload_n 1, 1, 0), (5, .aload_n 0, 1, 0), (6, .getfield 16, 3, 0), (9, .invokevirtual 33, 3, 0), (12, .if_icmp .ge 7, 3, 0), (15, .iconst 1, 1, 1), (16, .goto 4, 3, 0), (19, .iconst 0, 1, 0), (20, .ireturn, 1, 0)]
set_option maxRecDepth 20000 in
theorem ok_Cb_isNet : mm_ok M_Cb_isNet T_Cb_isNet := by unfold mm_ok; decide +kernel
def T_Cb_restartDevices : mm_T := [(0, .aload_n 0, 1, 0), (1, .iconst 0, 1, 0), (2, .invokevirtual 166, 3, 0), (5, .iconst 0, 1, 0), (6, .istore_n 1, 1, 0), (7, .iload_n 1, 1, 0), (8, .aload_n 0, 1, 0), (9, .getfield 12, 3, 0), (12, .invokevirtual 33, 3, 0), (15, .if_icmp .ge 23, 3, 0), (18, .aload_n 0, 1, 0), (19, .getfield 12, 3, 0), (22, .iload_n 1, 1, 0), (23, .invokevirtual 56, 3, 0), (26, .checkcast 40, 3, 0), (29, .invokevirtual 169, 3, 0), (32, .iinc 1 1, 3, 1), (35, .goto (-28), 3, 0), (38, .aload_n 0, 1, 0), (39, .iconst 0, 1, 0), (40, .putfield 160, 3, 0), (43, .aload_n 0, 1, 0), (44, .iconst 0, 1, 0), (45, .putfield 131, 3, 0), (48, .aload_n 0, 1, 0), (49, .iconst 0, 1, 0), (50, .putfield 76, 3, 0), (53, .return_, 1, 0)]
set_option maxRecDepth 20000 in
theorem ok_Cb_restartDevices : mm_ok M_Cb_restartDevices T_Cb_restartDevices := by unfold mm_ok; decide +kernel
def T_Cb_step : mm_T := [(0, .aload_n 0, 1, 0), (1, .iload_n 2, 1, 0), (2, .invokevirtual 172, 3, 0), (5, .istore_n 3, 1, 0), (6, .aload_n 0, 1, 0), (7, .iload_n 1, 1, 0), (8, .ifCond .eq 14, 3, 0), (11, .getstatic 176, 3, 0), (14, .aload_n 0, 1, 0), (15, .getfield 19, 3, 0), (18, .iaload, 1, 0), (19, .goto 11, 3, 0), (22, .getstatic 179, 3, 0), (25, .aload_n 0, 1, 0), (26, .getfield 19, 3, 0), (29, .iaload, 1, 0), (30, .invokevirtual 166, 3, 0), (33, .aload_n 0, 1, 0), (34, .dup, 1, 0), (35, .getfield 160, 3, 0), (38, .iconst 1, 1, 1), (39, .iadd, 1, 0), (40, .putfield 160, 3, 0), (43, .iload_n 3, 1, 0), (44, .ireturn, 1, 0)]
set_option maxRecDepth 20000 in
theorem ok_Cb_step : mm_ok M_Cb_step T_Cb_step := by unfold mm_ok; decide +kernel
def T_Cb_enterState : mm_T := [(0, .aload_n 0, 1, 0), (1, .iload_n 1, 1, 0), (2, .putfield 19, 3, 0), (5, .iload_n 1, 1, 0), (6, .ifCond .ne 37, 3, 0), (9, .iconst 0, 1, 0), (10, .istore_n 2, 1, 0), (11, .iload_n 2, 1, 0), (12, .aload_n 0, 1, 0), (13, .getfield 12, 3, 0), (16, .invokevirtual 33, 3, 0), (19, .if_icmp .ge 24, 3, 0), (22, .aload_n 0, 1, 0), (23, .getfield 12, 3, 0), (26, .iload_n 2, 1, 0), (27, .invokevirtual 56, 3, 0), (30, .checkcast 40, 3, 0), (33, .iconst 1, 1, 1), (34, .putfield 105, 3, 0), (37, .iinc 2 1, 3, 1), (40, .goto (-29), 3, 0), (43, .return_, 1, 0)]
set_option maxRecDepth 20000 in
theorem ok_Cb_enterState : mm_ok M_Cb_enterState T_Cb_enterState := by unfold mm_ok; decide +kernel
def T_Cb_doState : mm_T := [(0, .iload_n 1, 1, 0), (1, .istore_n 2, 1, 0), (2, .iconst 0, 1, 0), (3, .istore_n 3, 1, 0), (4, .iload_n 3, 1, 0), (5, .aload_n 0, 1, 0), (6, .getfield 12, 3, 0), (9, .invokevirtual 33, 3, 0), (12, .if_icmp .ge 158, 3, 0), (15, .aload_n 0, 1, 0), (16, .getfield 12, 3, 0), (19, .iload_n 3, 1, 0), (20, .invokevirtual 56, 3, 0), (23, .checkcast 40, 3, 0), (26, .astore 4, 2, 0), (28, .aload_n 0, 1, 0), (29, .getfield 19, 3, 0), (32, .tableswitch 132 3 15 #[68, 82, 132, 132, 132, 92, 132, 100, 109, 132, 132, 132, 119], 68, 0), (100, .aload 4, 2, 0), (102, .aload_n 0, 1, 0), (103, .aload 4, 2, 0), (105, .invokevirtual 114, 3, 0), (108, .invokevirtual 182, 3, 0), (111, .goto 53, 3, 0), (114, .aload 4, 2, 0), (116, .iload_n 2, 1, 0), (117, .invokevirtual 185, 3, 0), (120, .istore_n 2, 1, 0), (121, .goto 43, 3, 0), (124, .aload 4, 2, 0), (126, .invokevirtual 188, 3, 0), (129, .goto 35, 3, 0), (132, .aload 4, 2, 0), (134, .iconst 1, 1, 1), (135, .putfield 108, 3, 0), (138, .goto 26, 3, 0), (141, .aload 4, 2, 0), (143, .iload_n 2, 1, 0), (144, .invokevirtual 191, 3, 0), (147, .istore_n 2, 1, 0), (148, .goto 16, 3, 0), (151, .aload 4, 2, 0), (153, .aload 4, 2, 0), (155, .getfield 108, 3, 0), (158, .putfield 105, 3, 0), (161, .goto 3, 3, 0), (164, .iinc 3 1, 3, 1), (167, .goto (-163), 3, 0), (170, .iload_n 2, 1, 0), (171, .ifCond .eq 24, 3, 0), (174, .aload_n 0, 1, 0), (175, .getfield 19, 3, 0), (178, .iconst 4, 1, 4), (179, .if_icmp .eq 12, 3, 0), (182, .aload_n 0, 1, 0), (183, .getfield 19, 3, 0), (186, .bipush 11, 2, 11), (188, .if_icmp .ne 7, 3, 0), (191, .iconst 1, 1, 1), (192, .goto 4, 3, 0), (195, .iconst 0, 1, 0), (196, .ireturn, 1, 0)]
set_option maxRecDepth 20000 in
theorem ok_Cb_doState : mm_ok M_Cb_doState T_Cb_doState := by unfold mm_ok; decide +kernel
def T_Cb_signalsOf : mm_T := [(0, .aload_n 1, 1, 0), (1, .invokevirtual 194, 3, 0), (4, .istore_n 2, 1, 0), (5, .iconst 0, 1, 0), (6, .istore_n 3, 1, 0), (7, .iload_n 3, 1, 0), (8, .aload_n 0, 1, 0), (9, .getfield 16, 3, 0), (12, .invokevirtual 33, 3, 0), (15, .if_icmp .ge 49, 3, 0), (18, .aload_n 0, 1, 0), (19, .getfield 16, 3, 0), (22, .iload_n 3, 1, 0), (23, .invokevirtual 56, 3, 0), (26, .checkcast 71, 3, 0), (29, .astore 4, 2, 0), (31, .aload 4, 2, 0), (33, .getfield 197, 3, 0), (36, .aload_n 1, 1, 0), (37, .if_acmp .ne 21, 3, 0), (40, .aload 4, 2, 0), (42, .invokevirtual 118, 3, 0), (45, .ifCond .eq 13, 3, 0), (48, .iload_n 2, 1, 0), (49, .iconst 1, 1, 1), (50, .aload 4, 2, 0), (52, .getfield 201, 3, 0), (55, .ishl, 1, 0), (56, .ior, 1, 0), (57, .istore_n 2, 1, 0), (58, .iinc 3 1, 3, 1), (61, .goto (-54), 3, 0), (64, .iload_n 2, 1, 0), (65, .ireturn, 1, 0)]
set_option maxRecDepth 20000 in
theorem ok_Cb_signalsOf : mm_ok M_Cb_signalsOf T_Cb_signalsOf := by unfold mm_ok; decide +kernel
def T_Cb_goToIdle : mm_T := [(0, .iconst 0, 1, 0), (1, .istore_n 1, 1, 0), (2, .iload_n 1, 1, 0), (3, .iconst 5, 1, 5), (4, .if_icmp .ge 16, 3, 0), (7, .aload_n 0, 1, 0), (8, .iconst 1, 1, 1), (9, .iconst 0, 1, 0), (10, .invokevirtual 98, 3, 0), (13, .pop, 1, 0), (14, .iinc 1 1, 3, 1), (17, .goto (-15), 3, 0), (20, .aload_n 0, 1, 0), (21, .iconst 0, 1, 0), (22, .iconst 0, 1, 0), (23, .invokevirtual 98, 3, 0), (26, .pop, 1, 0), (27, .return_, 1, 0)]
set_option maxRecDepth 20000 in
theorem ok_Cb_goToIdle : mm_ok M_Cb_goToIdle T_Cb_goToIdle := by unfold mm_ok; decide +kernel
def T_Cb_scan : mm_T := [(0, .iload_n 1, 1, 0), (1, .ifCond .eq 10, 3, 0), (4, .aload_n 0, 1, 0), (5, .iconst 1, 1, 1), (6, .iconst 0, 1, 0), (7, .invokevirtual 98, 3, 0), (10, .pop, 1, 0), (11, .aload_n 0, 1, 0), (12, .iconst 1, 1, 1), (13, .iconst 0, 1, 0), (14, .invokevirtual 98, 3, 0), (17, .pop, 1, 0), (18, .aload_n 0, 1, 0), (19, .iconst 0, 1, 0), (20, .iconst 0, 1, 0), (21, .invokevirtual 98, 3, 0), (24, .pop, 1, 0), (25, .aload_n 0, 1, 0), (26, .iconst 0, 1, 0), (27, .iconst 0, 1, 0), (28, .invokevirtual 98, 3, 0), (31, .pop, 1, 0), (32, .iconst 0, 1, 0), (33, .istore_n 3, 1, 0), (34, .iload_n 3, 1, 0), (35, .iload_n 2, 1, 0), (36, .if_icmp .ge 96, 3, 0), (39, .iload_n 3, 1, 0), (40, .bipush 32, 2, 32), (42, .idiv, 1, 0), (43, .istore 4, 2, 0), (45, .iconst 1, 1, 1), (46, .iload_n 3, 1, 0), (47, .bipush 32, 2, 32), (49, .irem, 1, 0), (50, .ishl, 1, 0), (51, .istore 5, 2, 0), (53, .aload_n 0, 1, 0), (54, .iload_n 3, 1, 0), (55, .iload_n 2, 1, 0), (56, .iconst 1, 1, 1), (57, .isub, 1, 0), (58, .if_icmp .ne 7, 3, 0), (61, .iconst 1, 1, 1), (62, .goto 4, 3, 0), (65, .iconst 0, 1, 0), (66, .aload_n 0, 1, 0), (67, .getfield 23, 3, 0), (70, .iload 4, 2, 0), (72, .iaload, 1, 0), (73, .iload 5, 2, 0), (75, .iand, 1, 0), (76, .ifCond .eq 7, 3, 0), (79, .iconst 1, 1, 1), (80, .goto 4, 3, 0), (83, .iconst 0, 1, 0), (84, .invokevirtual 98, 3, 0), (87, .istore 6, 2, 0), (89, .aload_n 0, 1, 0), (90, .getfield 23, 3, 0), (93, .iload 4, 2, 0), (95, .iload 6, 2, 0), (97, .ifCond .eq 16, 3, 0), (100, .aload_n 0, 1, 0), (101, .getfield 23, 3, 0), (104, .iload 4, 2, 0), (106, .iaload, 1, 0), (107, .iload 5, 2, 0), (109, .ior, 1, 0), (110, .goto 15, 3, 0), (113, .aload_n 0, 1, 0), (114, .getfield 23, 3, 0), (117, .iload 4, 2, 0), (119, .iaload, 1, 0), (120, .iload 5, 2, 0), (122, .iconst (-1), 1, (-1)), (123, .ixor, 1, 0), (124, .iand, 1, 0), (125, .iastore, 1, 0), (126, .iinc 3 1, 3, 1), (129, .goto (-95), 3, 0), (132, .aload_n 0, 1, 0), (133, .iconst 1, 1, 1), (134, .iconst 0, 1, 0), (135, .invokevirtual 98, 3, 0), (138, .pop, 1, 0), (139, .aload_n 0, 1, 0), (140, .iconst 0, 1, 0), (141, .iconst 0, 1, 0), (142, .invokevirtual 98, 3, 0), (145, .pop, 1, 0), (146, .return_, 1, 0)]
set_option maxRecDepth 20000 in
theorem ok_Cb_scan : mm_ok M_Cb_scan T_Cb_scan := by unfold mm_ok; decide +kernel
def T_Cb_wordsBeforeAllOnes : mm_T := [(0, .iconst 0, 1, 0), (1, .istore_n 1, 1, 0), (2, .iload_n 1, 1, 0), (3, .iconst 4, 1, 4), (4, .if_icmp .ge 19, 3, 0), (7, .aload_n 0, 1, 0), (8, .getfield 23, 3, 0), (11, .iload_n 1, 1, 0), (12, .iaload, 1, 0), (13, .iconst (-1), 1, (-1)), (14, .if_icmp .eq 9, 3, 0), (17, .iinc 1 1, 3, 1), (20, .goto (-18), 3, 0), (23, .iload_n 1, 1, 0), (24, .ireturn, 1, 0)]
set_option maxRecDepth 20000 in
theorem ok_Cb_wordsBeforeAllOnes : mm_ok M_Cb_wordsBeforeAllOnes T_Cb_wordsBeforeAllOnes := by unfold mm_ok; decide +kernel
def T_Cb_giveAllExtest : mm_T := [(0, .iconst 0, 1, 0), (1, .istore_n 1, 1, 0), (2, .iconst 0, 1, 0), (3, .istore_n 2, 1, 0), (4, .iload_n 2, 1, 0), (5, .aload_n 0, 1, 0), (6, .getfield 12, 3, 0), (9, .invokevirtual 33, 3, 0), (12, .if_icmp .ge 26, 3, 0), (15, .iload_n 1, 1, 0), (16, .aload_n 0, 1, 0), (17, .getfield 12, 3, 0), (20, .iload_n 2, 1, 0), (21, .invokevirtual 56, 3, 0), (24, .checkcast 40, 3, 0), (27, .getfield 204, 3, 0), (30, .iadd, 1, 0), (31, .istore_n 1, 1, 0), (32, .iinc 2 1, 3, 1), (35, .goto (-31), 3, 0), (38, .aload_n 0, 1, 0), (39, .getfield 23, 3, 0), (42, .iconst 0, 1, 0), (43, .iconst 0, 1, 0), (44, .iastore, 1, 0), (45, .aload_n 0, 1, 0), (46, .iconst 1, 1, 1), (47, .iload_n 1, 1, 0), (48, .invokevirtual 124, 3, 0), (51, .return_, 1, 0)]
set_option maxRecDepth 20000 in
theorem ok_Cb_giveAllExtest : mm_ok M_Cb_giveAllExtest T_Cb_giveAllExtest := by unfold mm_ok; decide +kernel
def T_Cb_allCells : mm_T := [(0, .iconst 0, 1, 0), (1, .istore_n 1, 1, 0), (2, .iconst 0, 1, 0), (3, .istore_n 2, 1, 0), (4, .iload_n 2, 1, 0), (5, .aload_n 0, 1, 0), (6, .getfield 12, 3, 0), (9, .invokevirtual 33, 3, 0), (12, .if_icmp .ge 26, 3, 0), (15, .iload_n 1, 1, 0), (16, .aload_n 0, 1, 0), (17, .getfield 12, 3, 0), (20, .iload_n 2, 1, 0), (21, .invokevirtual 56, 3, 0), (24, .checkcast 40, 3, 0), (27, .getfield 163, 3, 0), (30, .iadd, 1, 0), (31, .istore_n 1, 1, 0), (32, .iinc 2 1, 3, 1), (35, .goto (-31), 3, 0), (38, .iload_n 1, 1, 0), (39, .ireturn, 1, 0)]
set_option maxRecDepth 20000 in
theorem ok_Cb_allCells : mm_ok M_Cb_allCells T_Cb_allCells := by unfold mm_ok; decide +kernel
def T_Cb_forgetSeen : mm_T := [(0, .iconst 0, 1, 0), (1, .istore_n 1, 1, 0), (2, .iload_n 1, 1, 0), (3, .aload_n 0, 1, 0), (4, .getfield 16, 3, 0), (7, .invokevirtual 33, 3, 0), (10, .if_icmp .ge 24, 3, 0), (13, .aload_n 0, 1, 0), (14, .getfield 16, 3, 0), (17, .iload_n 1, 1, 0), (18, .invokevirtual 56, 3, 0), (21, .checkcast 71, 3, 0), (24, .iconst 0, 1, 0), (25, .putfield 157, 3, 0), (28, .iinc 1 1, 3, 1), (31, .goto (-29), 3, 0), (34, .return_, 1, 0)]
set_option maxRecDepth 20000 in
theorem ok_Cb_forgetSeen : mm_ok M_Cb_forgetSeen T_Cb_forgetSeen := by unfold mm_ok; decide +kernel
def T_Cb_patternOfRound : mm_T := [(0, .iconst 0, 1, 0), (1, .istore_n 2, 1, 0), (2, .iconst 0, 1, 0), (3, .istore_n 3, 1, 0), (4, .iload_n 3, 1, 0), (5, .aload_n 0, 1, 0), (6, .getfield 16, 3, 0), (9, .invokevirtual 33, 3, 0), (12, .if_icmp .ge 47, 3, 0), (15, .aload_n 0, 1, 0), (16, .getfield 16, 3, 0), (19, .iload_n 3, 1, 0), (20, .invokevirtual 56, 3, 0), (23, .checkcast 71, 3, 0), (26, .astore 4, 2, 0), (28, .iload_n 2, 1, 0), (29, .iload_n 3, 1, 0), (30, .iconst 1, 1, 1), (31, .iadd, 1, 0), (32, .iload_n 1, 1, 0), (33, .iushr, 1, 0), (34, .iconst 1, 1, 1), (35, .iand, 1, 0), (36, .aload_n 0, 1, 0), (37, .aload 4, 2, 0), (39, .getfield 207, 3, 0), (42, .aload 4, 2, 0), (44, .getfield 210, 3, 0), (47, .invokevirtual 213, 3, 0), (50, .ishl, 1, 0), (51, .ior, 1, 0), (52, .istore_n 2, 1, 0), (53, .iinc 3 1, 3, 1), (56, .goto (-52), 3, 0), (59, .iload_n 2, 1, 0), (60, .ireturn, 1, 0)]
set_option maxRecDepth 20000 in
theorem ok_Cb_patternOfRound : mm_ok M_Cb_patternOfRound T_Cb_patternOfRound := by unfold mm_ok; decide +kernel
def T_Cb_noteSeen : mm_T := [(0, .iconst 0, 1, 0), (1, .istore_n 3, 1, 0), (2, .iload_n 3, 1, 0), (3, .aload_n 0, 1, 0), (4, .getfield 16, 3, 0), (7, .invokevirtual 33, 3, 0), (10, .if_icmp .ge 52, 3, 0), (13, .aload_n 0, 1, 0), (14, .getfield 16, 3, 0), (17, .iload_n 3, 1, 0), (18, .invokevirtual 56, 3, 0), (21, .checkcast 71, 3, 0), (24, .astore 4, 2, 0), (26, .aload 4, 2, 0), (28, .dup, 1, 0), (29, .getfield 157, 3, 0), (32, .iload_n 2, 1, 0), (33, .aload_n 0, 1, 0), (34, .aload 4, 2, 0), (36, .getfield 197, 3, 0), (39, .aload 4, 2, 0), (41, .getfield 201, 3, 0), (44, .invokevirtual 213, 3, 0), (47, .iushr, 1, 0), (48, .iconst 1, 1, 1), (49, .iand, 1, 0), (50, .iload_n 1, 1, 0), (51, .ishl, 1, 0), (52, .ior, 1, 0), (53, .putfield 157, 3, 0), (56, .iinc 3 1, 3, 1), (59, .goto (-57), 3, 0), (62, .return_, 1, 0)]
set_option maxRecDepth 20000 in
theorem ok_Cb_noteSeen : mm_ok M_Cb_noteSeen T_Cb_noteSeen := by unfold mm_ok; decide +kernel
def T_Cb_placeInScan : mm_T := [(0, .iload_n 2, 1, 0), (1, .istore_n 3, 1, 0), (2, .aload_n 0, 1, 0), (3, .getfield 12, 3, 0), (6, .invokevirtual 33, 3, 0), (9, .iconst 1, 1, 1), (10, .isub, 1, 0), (11, .istore 4, 2, 0), (13, .iload 4, 2, 0), (15, .ifCond .lt 40, 3, 0), (18, .aload_n 0, 1, 0), (19, .getfield 12, 3, 0), (22, .iload 4, 2, 0), (24, .invokevirtual 56, 3, 0), (27, .aload_n 1, 1, 0), (28, .if_acmp .eq 27, 3, 0), (31, .iload_n 3, 1, 0), (32, .aload_n 0, 1, 0), (33, .getfield 12, 3, 0), (36, .iload 4, 2, 0), (38, .invokevirtual 56, 3, 0), (41, .checkcast 40, 3, 0), (44, .getfield 163, 3, 0), (47, .iadd, 1, 0), (48, .istore_n 3, 1, 0), (49, .iinc 4 (-1), 3, (-1)), (52, .goto (-39), 3, 0), (55, .iload_n 3, 1, 0), (56, .ireturn, 1, 0)]
set_option maxRecDepth 20000 in
theorem ok_Cb_placeInScan : mm_ok M_Cb_placeInScan T_Cb_placeInScan := by unfold mm_ok; decide +kernel
def T_Cb_countFaulty : mm_T := [(0, .iconst 0, 1, 0), (1, .istore_n 1, 1, 0), (2, .iconst 0, 1, 0), (3, .istore_n 2, 1, 0), (4, .iload_n 2, 1, 0), (5, .aload_n 0, 1, 0), (6, .getfield 16, 3, 0), (9, .invokevirtual 33, 3, 0), (12, .if_icmp .ge 32, 3, 0), (15, .aload_n 0, 1, 0), (16, .getfield 16, 3, 0), (19, .iload_n 2, 1, 0), (20, .invokevirtual 56, 3, 0), (23, .checkcast 71, 3, 0), (26, .getfield 157, 3, 0), (29, .iload_n 2, 1, 0), (30, .iconst 1, 1, 1), (31, .iadd, 1, 0), (32, .if_icmp .eq 6, 3, 0), (35, .iinc 1 1, 3, 1), (38, .iinc 2 1, 3, 1), (41, .goto (-37), 3, 0), (44, .iload_n 1, 1, 0), (45, .ireturn, 1, 0)]
set_option maxRecDepth 20000 in
theorem ok_Cb_countFaulty : mm_ok M_Cb_countFaulty T_Cb_countFaulty := by unfold mm_ok; decide +kernel
end
section
/-! code by rows -/
def T_Md_init : mm_T := [(0, .aload_n 0, 1, 0), (1, .invokespecial 1, 3, 0), (4, .aload_n 0, 1, 0), (5, .iconst 4, 1, 4), (6, .newarray .int, 2, 0), (8, .putfield 7, 3, 0), (11, .aload_n 0, 1, 0), (12, .iconst 4, 1, 4), (13, .newarray .int, 2, 0), (15, .putfield 13, 3, 0), (18, .aload_n 0, 1, 0), (19, .iconst 4, 1, 4), (20, .newarray .int, 2, 0), (22, .putfield 16, 3, 0), (25, .aload_n 0, 1, 0), (26, .iconst 4, 1, 4), (27, .newarray .int, 2, 0), (29, .putfield 19, 3, 0), (32, .aload_n 0, 1, 0), (33, .bipush 16, 2, 16), (35, .newarray .int, 2, 0), (37, .putfield 22, 3, 0), (40, .aload_n 0, 1, 0), (41, .bipush 24, 2, 24), (43, .newarray .int, 2, 0), (45, .putfield 25, 3, 0), (48, .aload_n 0, 1, 0), (49, .sipush 128, 3, 128), (52, .newarray .int, 2, 0), (54, .putfield 28, 3, 0), (57, .aload_n 0, 1, 0), (58, .iconst 4, 1, 4), (59, .newarray .int, 2, 0), (61, .putfield 31, 3, 0), (64, .aload_n 0, 1, 0), (65, .bipush 24, 2, 24), (67, .newarray .boolean, 2, 0), (69, .putfield 34, 3, 0), (72, .aload_n 0, 1, 0), (73, .bipush 24, 2, 24), (75, .newarray .int, 2, 0), (77, .putfield 38, 3, 0), (80, .aload_n 0, 1, 0), (81, .bipush 24, 2, 24), (83, .newarray .int, 2, 0), (85, .putfield 41, 3, 0), (88, .aload_n 0, 1, 0), (89, .bipush 24, 2, 24), (91, .newarray .int, 2, 0), (93, .putfield 44, 3, 0), (96, .aload_n 0, 1, 0), (97, .bipush 8, 2, 8), (99, .newarray .int, 2, 0), (101, .putfield 47, 3, 0), (104, .aload_n 0, 1, 0), (105, .bipush 8, 2, 8), (107, .newarray .int, 2, 0), (109, .putfield 50, 3, 0), (112, .aload_n 0, 1, 0), (113, .bipush 8, 2, 8), (115, .newarray .int, 2, 0), (117, .putfield 53, 3, 0), (120, .aload_n 0, 1, 0), (121, .bipush 8, 2, 8), (123, .newarray .int, 2, 0), (125, .putfield 56, 3, 0), (128, .aload_n 0, 1, 0), (129, .iconst 4, 1, 4), (130, .newarray .int, 2, 0), (132, .putfield 59, 3, 0), (135, .return_, 1, 0)]
set_option maxRecDepth 20000 in
theorem ok_Md_init : mm_ok M_Md_init T_Md_init := by unfold mm_ok; decide +kernel
def T_Md_thrown : mm_T := [(0, .aload_n 0, 1, 0), (1, .getfield 62, 3, 0), (4, .ireturn, 1, 0)]
set_option maxRecDepth 20000 in
theorem ok_Md_thrown : mm_ok M_Md_thrown T_Md_thrown := by unfold mm_ok; decide +kernel
def T_Md_out : mm_T := [(0, .iload_n 0, 1, 0), (1, .ifCond .lt 8, 3, 0), (4, .iload_n 0, 1, 0), (5, .iload_n 1, 1, 0), (6, .if_icmp .lt 7, 3, 0), (9, .iconst 1, 1, 1), (10, .goto 4, 3, 0), (13, .iconst 0, 1, 0), (14, .ireturn, 1, 0)]
set_option maxRecDepth 20000 in
theorem ok_Md_out : mm_ok M_Md_out T_Md_out := by unfold mm_ok; decide +kernel
def T_Md_fail : mm_T := [(0, .aload_n 0, 1, 0), (1, .iload_n 1, 1, 0), (2, .putfield 62, 3, 0), (5, .iconst 0, 1, 0), (6, .ireturn, 1, 0)]
set_option maxRecDepth 20000 in
theorem ok_Md_fail : mm_ok M_Md_fail T_Md_fail := by unfold mm_ok; decide +kernel
def T_Md_after : mm_T := [(0, .iload_n 1, 1, 0), (1, .ifCond .eq 126, 3, 0), (4, .iload_n 0, 1, 0), (5, .ifCond .eq 9, 3, 0), (8, .iload_n 0, 1, 0), (9, .bipush 9, 2, 9), (11, .if_icmp .ne 7, 3, 0), (14, .iconst 0, 1, 0), (15, .goto 111, 3, 0), (18, .iload_n 0, 1, 0), (19, .iconst 1, 1, 1), (20, .if_icmp .eq 15, 3, 0), (23, .iload_n 0, 1, 0), (24, .bipush 8, 2, 8), (26, .if_icmp .eq 9, 3, 0), (29, .iload_n 0, 1, 0), (30, .bipush 15, 2, 15), (32, .if_icmp .ne 7, 3, 0), (35, .iconst 2, 1, 2), (36, .goto 90, 3, 0), (39, .iload_n 0, 1, 0), (40, .iconst 2, 1, 2), (41, .if_icmp .ne 8, 3, 0), (44, .bipush 9, 2, 9), (46, .goto 80, 3, 0), (49, .iload_n 0, 1, 0), (50, .iconst 3, 1, 3), (51, .if_icmp .eq 8, 3, 0), (54, .iload_n 0, 1, 0), (55, .iconst 4, 1, 4), (56, .if_icmp .ne 7, 3, 0), (59, .iconst 5, 1, 5), (60, .goto 66, 3, 0), (63, .iload_n 0, 1, 0), (64, .iconst 5, 1, 5), (65, .if_icmp .eq 9, 3, 0), (68, .iload_n 0, 1, 0), (69, .bipush 7, 2, 7), (71, .if_icmp .ne 8, 3, 0), (74, .bipush 8, 2, 8), (76, .goto 50, 3, 0), (79, .iload_n 0, 1, 0), (80, .bipush 6, 2, 6), (82, .if_icmp .ne 8, 3, 0), (85, .bipush 7, 2, 7), (87, .goto 39, 3, 0), (90, .iload_n 0, 1, 0), (91, .bipush 10, 2, 10), (93, .if_icmp .eq 9, 3, 0), (96, .iload_n 0, 1, 0), (97, .bipush 11, 2, 11), (99, .if_icmp .ne 8, 3, 0), (102, .bipush 12, 2, 12), (104, .goto 22, 3, 0), (107, .iload_n 0, 1, 0), (108, .bipush 12, 2, 12), (110, .if_icmp .eq 9, 3, 0), (113, .iload_n 0, 1, 0), (114, .bipush 14, 2, 14), (116, .if_icmp .ne 8, 3, 0), (119, .bipush 15, 2, 15), (121, .goto 5, 3, 0), (124, .bipush 14, 2, 14), (126, .ireturn, 1, 0), (127, .iload_n 0, 1, 0), (128, .iconst 2, 1, 2), (129, .if_icmp .lt 15, 3, 0), (132, .iload_n 0, 1, 0), (133, .bipush 8, 2, 8), (135, .if_icmp .eq 9, 3, 0), (138, .iload_n 0, 1, 0), (139, .bipush 15, 2, 15), (141, .if_icmp .ne 7, 3, 0), (144, .iconst 1, 1, 1), (145, .goto 84, 3, 0), (148, .iload_n 0, 1, 0), (149, .iconst 2, 1, 2), (150, .if_icmp .ne 7, 3, 0), (153, .iconst 3, 1, 3), (154, .goto 75, 3, 0), (157, .iload_n 0, 1, 0), (158, .iconst 3, 1, 3), (159, .if_icmp .eq 14, 3, 0), (162, .iload_n 0, 1, 0), (163, .iconst 4, 1, 4), (164, .if_icmp .eq 9, 3, 0), (167, .iload_n 0, 1, 0), (168, .bipush 7, 2, 7), (170, .if_icmp .ne 7, 3, 0), (173, .iconst 4, 1, 4), (174, .goto 55, 3, 0), (177, .iload_n 0, 1, 0), (178, .iconst 5, 1, 5), (179, .if_icmp .eq 9, 3, 0), (182, .iload_n 0, 1, 0), (183, .bipush 6, 2, 6), (185, .if_icmp .ne 8, 3, 0), (188, .bipush 6, 2, 6), (190, .goto 39, 3, 0), (193, .iload_n 0, 1, 0), (194, .bipush 9, 2, 9), (196, .if_icmp .ne 8, 3, 0), (199, .bipush 10, 2, 10), (201, .goto 28, 3, 0), (204, .iload_n 0, 1, 0), (205, .bipush 10, 2, 10), (207, .if_icmp .eq 15, 3, 0), (210, .iload_n 0, 1, 0), (211, .bipush 11, 2, 11), (213, .if_icmp .eq 9, 3, 0), (216, .iload_n 0, 1, 0), (217, .bipush 14, 2, 14), (219, .if_icmp .ne 8, 3, 0), (222, .bipush 11, 2, 11), (224, .goto 5, 3, 0), (227, .bipush 13, 2, 13), (229, .ireturn, 1, 0)]
set_option maxRecDepth 20000 in
theorem ok_Md_after : mm_ok M_Md_after T_Md_after := by unfold mm_ok; decide +kernel
def T_Md_device : mm_T := [(0, .iload_n 1, 1, 0), (1, .iconst 2, 1, 2), (2, .if_icmp .lt 34, 3, 0), (5, .iload_n 1, 1, 0), (6, .iconst 4, 1, 4), (7, .if_icmp .gt 29, 3, 0), (10, .iload_n 2, 1, 0), (11, .iconst 2, 1, 2), (12, .irem, 1, 0), (13, .ifCond .eq 23, 3, 0), (16, .iload_n 2, 1, 0), (17, .iconst (-1), 1, (-1)), (18, .if_icmp .eq 18, 3, 0), (21, .iload_n 3, 1, 0), (22, .iconst 1, 1, 1), (23, .if_icmp .lt 13, 3, 0), (26, .iload_n 3, 1, 0), (27, .bipush 6, 2, 6), (29, .if_icmp .gt 7, 3, 0), (32, .iconst 1, 1, 1), (33, .goto 4, 3, 0), (36, .iconst 0, 1, 0), (37, .istore 5, 2, 0), (39, .aload_n 0, 1, 0), (40, .iload 5, 2, 0), (42, .ifCond .ne 7, 3, 0), (45, .iconst 1, 1, 1), (46, .goto 16, 3, 0), (49, .aload_n 0, 1, 0), (50, .getfield 66, 3, 0), (53, .iconst 4, 1, 4), (54, .if_icmp .ne 7, 3, 0), (57, .iconst 2, 1, 2), (58, .goto 4, 3, 0), (61, .iconst 0, 1, 0), (62, .putfield 62, 3, 0), (65, .aload_n 0, 1, 0), (66, .getfield 62, 3, 0), (69, .ifCond .le 5, 3, 0), (72, .iconst 0, 1, 0), (73, .ireturn, 1, 0), (74, .aload_n 0, 1, 0), (75, .getfield 66, 3, 0), (78, .istore 6, 2, 0), (80, .aload_n 0, 1, 0), (81, .getfield 7, 3, 0), (84, .iload 6, 2, 0), (86, .iload_n 1, 1, 0), (87, .iastore, 1, 0), (88, .aload_n 0, 1, 0), (89, .getfield 13, 3, 0), (92, .iload 6, 2, 0), (94, .iload_n 2, 1, 0), (95, .iastore, 1, 0), (96, .aload_n 0, 1, 0), (97, .getfield 16, 3, 0), (100, .iload 6, 2, 0), (102, .iload_n 3, 1, 0), (103, .iastore, 1, 0), (104, .iconst 0, 1, 0), (105, .istore 7, 2, 0), (107, .iload 7, 2, 0), (109, .iload_n 3, 1, 0), (110, .if_icmp .ge 52, 3, 0), (113, .aload_n 0, 1, 0), (114, .getfield 34, 3, 0), (117, .bipush 6, 2, 6), (119, .iload 6, 2, 0), (121, .imul, 1, 0), (122, .iload 7, 2, 0), (124, .iadd, 1, 0), (125, .iload 4, 2, 0), (127, .iload 7, 2, 0), (129, .ishr, 1, 0), (130, .iconst 1, 1, 1), (131, .iand, 1, 0), (132, .iconst 1, 1, 1), (133, .if_icmp .ne 7, 3, 0), (136, .iconst 1, 1, 1), (137, .goto 4, 3, 0), (140, .iconst 0, 1, 0), (141, .bastore, 1, 0), (142, .aload_n 0, 1, 0), (143, .getfield 44, 3, 0), (146, .bipush 6, 2, 6), (148, .iload 6, 2, 0), (150, .imul, 1, 0), (151, .iload 7, 2, 0), (153, .iadd, 1, 0), (154, .iconst (-1), 1, (-1)), (155, .iastore, 1, 0), (156, .iinc 7 1, 3, 1), (159, .goto (-52), 3, 0), (162, .aload_n 0, 1, 0), (163, .dup, 1, 0), (164, .getfield 66, 3, 0), (167, .iconst 1, 1, 1), (168, .iadd, 1, 0), (169, .putfield 66, 3, 0), (172, .iconst 0, 1, 0), (173, .istore 7, 2, 0), (175, .iload 7, 2, 0), (177, .bipush 24, 2, 24), (179, .if_icmp .ge 25, 3, 0), (182, .aload_n 0, 1, 0), (183, .getfield 38, 3, 0), (186, .iload 7, 2, 0), (188, .iconst 0, 1, 0), (189, .iastore, 1, 0), (190, .aload_n 0, 1, 0), (191, .getfield 41, 3, 0), (194, .iload 7, 2, 0), (196, .iconst 0, 1, 0), (197, .iastore, 1, 0), (198, .iinc 7 1, 3, 1), (201, .goto (-26), 3, 0), (204, .iconst 0, 1, 0), (205, .istore 7, 2, 0), (207, .iload 7, 2, 0), (209, .aload_n 0, 1, 0), (210, .getfield 66, 3, 0), (213, .if_icmp .ge 17, 3, 0), (216, .aload_n 0, 1, 0), (217, .getfield 19, 3, 0), (220, .iload 7, 2, 0), (222, .iconst 1, 1, 1), (223, .iastore, 1, 0), (224, .iinc 7 1, 3, 1), (227, .goto (-20), 3, 0), (230, .aload_n 0, 1, 0), (231, .iconst 0, 1, 0), (232, .putfield 69, 3, 0), (235, .aload_n 0, 1, 0), (236, .iconst 0, 1, 0), (237, .putfield 72, 3, 0), (240, .aload_n 0, 1, 0), (241, .iconst 0, 1, 0), (242, .putfield 75, 3, 0), (245, .aload_n 0, 1, 0), (246, .iconst 0, 1, 0), (247, .putfield 78, 3, 0), (250, .iload 6, 2, 0), (252, .ireturn, 1, 0)]
set_option maxRecDepth 20000 in
theorem ok_Md_device : mm_ok M_Md_device T_Md_device := by unfold mm_ok; decide +kernel
def T_Md_isCell : mm_T := [(0, .iload_n 1, 1, 0), (1, .aload_n 0, 1, 0), (2, .getfield 66, 3, 0), (5, .invokestatic 82, 3, 0), (8, .ifCond .ne 20, 3, 0), (11, .iload_n 2, 1, 0), (12, .aload_n 0, 1, 0), (13, .getfield 16, 3, 0), (16, .iload_n 1, 1, 0), (17, .iaload, 1, 0), (18, .invokestatic 82, 3, 0), (21, .ifCond .ne 7, 3, 0), (24, .iconst 1, 1, 1), (25, .goto 4, 3, 0), (28, .iconst 0, 1, 0), (29, .ireturn, 1, 0)]
set_option maxRecDepth 20000 in
theorem ok_Md_isCell : mm_ok M_Md_isCell T_Md_isCell := by unfold mm_ok; decide +kernel
def T_Md_net : mm_T := [(0, .aload_n 0, 1, 0), (1, .iload_n 1, 1, 0), (2, .iload_n 2, 1, 0), (3, .invokevirtual 86, 3, 0), (6, .ifCond .eq 17, 3, 0), (9, .aload_n 0, 1, 0), (10, .iload_n 3, 1, 0), (11, .iload 4, 2, 0), (13, .invokevirtual 86, 3, 0), (16, .ifCond .eq 7, 3, 0), (19, .iconst 1, 1, 1), (20, .goto 4, 3, 0), (23, .iconst 0, 1, 0), (24, .istore 5, 2, 0), (26, .bipush 6, 2, 6), (28, .iload_n 1, 1, 0), (29, .imul, 1, 0), (30, .iload_n 2, 1, 0), (31, .iadd, 1, 0), (32, .istore 6, 2, 0), (34, .bipush 6, 2, 6), (36, .iload_n 3, 1, 0), (37, .imul, 1, 0), (38, .iload 4, 2, 0), (40, .iadd, 1, 0), (41, .istore 7, 2, 0), (43, .iload 5, 2, 0), (45, .ifCond .eq 47, 3, 0), (48, .aload_n 0, 1, 0), (49, .getfield 34, 3, 0), (52, .iload 6, 2, 0), (54, .baload, 1, 0), (55, .ifCond .eq 37, 3, 0), (58, .aload_n 0, 1, 0), (59, .getfield 34, 3, 0), (62, .iload 7, 2, 0), (64, .baload, 1, 0), (65, .ifCond .ne 27, 3, 0), (68, .aload_n 0, 1, 0), (69, .getfield 44, 3, 0), (72, .iload 6, 2, 0), (74, .iaload, 1, 0), (75, .ifCond .ge 17, 3, 0), (78, .aload_n 0, 1, 0), (79, .getfield 44, 3, 0), (82, .iload 7, 2, 0), (84, .iaload, 1, 0), (85, .ifCond .ge 7, 3, 0), (88, .iconst 1, 1, 1), (89, .goto 4, 3, 0), (92, .iconst 0, 1, 0), (93, .istore 5, 2, 0), (95, .aload_n 0, 1, 0), (96, .iload 5, 2, 0), (98, .ifCond .ne 7, 3, 0), (101, .iconst 1, 1, 1), (102, .goto 17, 3, 0), (105, .aload_n 0, 1, 0), (106, .getfield 89, 3, 0), (109, .bipush 8, 2, 8), (111, .if_icmp .ne 7, 3, 0), (114, .iconst 2, 1, 2), (115, .goto 4, 3, 0), (118, .iconst 0, 1, 0), (119, .putfield 62, 3, 0), (122, .aload_n 0, 1, 0), (123, .getfield 62, 3, 0), (126, .ifCond .le 5, 3, 0), (129, .iconst 0, 1, 0), (130, .ireturn, 1, 0), (131, .aload_n 0, 1, 0), (132, .getfield 44, 3, 0), (135, .iload 6, 2, 0), (137, .aload_n 0, 1, 0), (138, .getfield 89, 3, 0), (141, .iastore, 1, 0), (142, .aload_n 0, 1, 0), (143, .getfield 44, 3, 0), (146, .iload 7, 2, 0), (148, .aload_n 0, 1, 0), (149, .getfield 89, 3, 0), (152, .iastore, 1, 0), (153, .aload_n 0, 1, 0), (154, .getfield 47, 3, 0), (157, .aload_n 0, 1, 0), (158, .getfield 89, 3, 0), (161, .iload 6, 2, 0), (163, .iastore, 1, 0), (164, .aload_n 0, 1, 0), (165, .getfield 50, 3, 0), (168, .aload_n 0, 1, 0), (169, .getfield 89, 3, 0), (172, .iconst (-1), 1, (-1)), (173, .iastore, 1, 0), (174, .aload_n 0, 1, 0), (175, .getfield 53, 3, 0), (178, .aload_n 0, 1, 0), (179, .getfield 89, 3, 0), (182, .iconst (-1), 1, (-1)), (183, .iastore, 1, 0), (184, .aload_n 0, 1, 0), (185, .getfield 56, 3, 0), (188, .aload_n 0, 1, 0), (189, .getfield 89, 3, 0), (192, .iconst 0, 1, 0), (193, .iastore, 1, 0), (194, .aload_n 0, 1, 0), (195, .dup, 1, 0), (196, .getfield 89, 3, 0), (199, .iconst 1, 1, 1), (200, .iadd, 1, 0), (201, .putfield 89, 3, 0), (204, .aload_n 0, 1, 0), (205, .iconst 0, 1, 0), (206, .putfield 78, 3, 0), (209, .aload_n 0, 1, 0), (210, .getfield 89, 3, 0), (213, .iconst 1, 1, 1), (214, .isub, 1, 0), (215, .ireturn, 1, 0)]
set_option maxRecDepth 20000 in
theorem ok_Md_net : mm_ok M_Md_net T_Md_net := by unfold mm_ok; decide +kernel
def T_Md_heal : mm_T := [(0, .aload_n 0, 1, 0), (1, .getfield 53, 3, 0), (4, .iload_n 1, 1, 0), (5, .iaload, 1, 0), (6, .istore_n 2, 1, 0), (7, .aload_n 0, 1, 0), (8, .getfield 50, 3, 0), (11, .iload_n 1, 1, 0), (12, .iconst (-1), 1, (-1)), (13, .iastore, 1, 0), (14, .aload_n 0, 1, 0), (15, .getfield 53, 3, 0), (18, .iload_n 1, 1, 0), (19, .iconst (-1), 1, (-1)), (20, .iastore, 1, 0), (21, .iload_n 2, 1, 0), (22, .ifCond .ge 4, 3, 0), (25, .return_, 1, 0), (26, .aload_n 0, 1, 0), (27, .getfield 50, 3, 0), (30, .iload_n 2, 1, 0), (31, .iconst (-1), 1, (-1)), (32, .iastore, 1, 0), (33, .aload_n 0, 1, 0), (34, .getfield 53, 3, 0), (37, .iload_n 2, 1, 0), (38, .iconst (-1), 1, (-1)), (39, .iastore, 1, 0), (40, .return_, 1, 0)]
set_option maxRecDepth 20000 in
theorem ok_Md_heal : mm_ok M_Md_heal T_Md_heal := by unfold mm_ok; decide +kernel
def T_Md_fault : mm_T := [(0, .iload_n 1, 1, 0), (1, .aload_n 0, 1, 0), (2, .getfield 89, 3, 0), (5, .invokestatic 82, 3, 0), (8, .ifCond .ne 38, 3, 0), (11, .iload_n 2, 1, 0), (12, .iconst (-1), 1, (-1)), (13, .if_icmp .lt 33, 3, 0), (16, .iload_n 2, 1, 0), (17, .iconst 3, 1, 3), (18, .if_icmp .gt 28, 3, 0), (21, .iload_n 2, 1, 0), (22, .iconst 2, 1, 2), (23, .if_icmp .lt 19, 3, 0), (26, .iload_n 3, 1, 0), (27, .aload_n 0, 1, 0), (28, .getfield 89, 3, 0), (31, .invokestatic 82, 3, 0), (34, .ifCond .ne 12, 3, 0), (37, .iload_n 3, 1, 0), (38, .iload_n 1, 1, 0), (39, .if_icmp .eq 7, 3, 0), (42, .iconst 1, 1, 1), (43, .goto 4, 3, 0), (46, .iconst 0, 1, 0), (47, .istore 4, 2, 0), (49, .aload_n 0, 1, 0), (50, .iload 4, 2, 0), (52, .ifCond .eq 7, 3, 0), (55, .iconst 0, 1, 0), (56, .goto 4, 3, 0), (59, .iconst 1, 1, 1), (60, .putfield 62, 3, 0), (63, .aload_n 0, 1, 0), (64, .getfield 62, 3, 0), (67, .ifCond .le 4, 3, 0), (70, .return_, 1, 0), (71, .aload_n 0, 1, 0), (72, .iload_n 1, 1, 0), (73, .invokevirtual 92, 3, 0), (76, .aload_n 0, 1, 0), (77, .getfield 50, 3, 0), (80, .iload_n 1, 1, 0), (81, .iload_n 2, 1, 0), (82, .iastore, 1, 0), (83, .iload_n 2, 1, 0), (84, .iconst 2, 1, 2), (85, .if_icmp .ge 4, 3, 0), (88, .return_, 1, 0), (89, .aload_n 0, 1, 0), (90, .iload_n 3, 1, 0), (91, .invokevirtual 92, 3, 0), (94, .aload_n 0, 1, 0), (95, .getfield 50, 3, 0), (98, .iload_n 3, 1, 0), (99, .iload_n 2, 1, 0), (100, .iastore, 1, 0), (101, .aload_n 0, 1, 0), (102, .getfield 53, 3, 0), (105, .iload_n 1, 1, 0), (106, .iload_n 3, 1, 0), (107, .iastore, 1, 0), (108, .aload_n 0, 1, 0), (109, .getfield 53, 3, 0), (112, .iload_n 3, 1, 0), (113, .iload_n 1, 1, 0), (114, .iastore, 1, 0), (115, .return_, 1, 0)]
set_option maxRecDepth 20000 in
theorem ok_Md_fault : mm_ok M_Md_fault T_Md_fault := by unfold mm_ok; decide +kernel
def T_Md_core : mm_T := [(0, .aload_n 0, 1, 0), (1, .aload_n 0, 1, 0), (2, .iload_n 1, 1, 0), (3, .iload_n 2, 1, 0), (4, .invokevirtual 86, 3, 0), (7, .ifCond .eq 21, 3, 0), (10, .aload_n 0, 1, 0), (11, .getfield 34, 3, 0), (14, .bipush 6, 2, 6), (16, .iload_n 1, 1, 0), (17, .imul, 1, 0), (18, .iload_n 2, 1, 0), (19, .iadd, 1, 0), (20, .baload, 1, 0), (21, .ifCond .eq 7, 3, 0), (24, .iconst 0, 1, 0), (25, .goto 4, 3, 0), (28, .iconst 1, 1, 1), (29, .putfield 62, 3, 0), (32, .aload_n 0, 1, 0), (33, .getfield 62, 3, 0), (36, .ifCond .ne 23, 3, 0), (39, .aload_n 0, 1, 0), (40, .getfield 41, 3, 0), (43, .bipush 6, 2, 6), (45, .iload_n 1, 1, 0), (46, .imul, 1, 0), (47, .iload_n 2, 1, 0), (48, .iadd, 1, 0), (49, .iload_n 3, 1, 0), (50, .ifCond .eq 7, 3, 0), (53, .iconst 1, 1, 1), (54, .goto 4, 3, 0), (57, .iconst 0, 1, 0), (58, .iastore, 1, 0), (59, .return_, 1, 0)]
set_option maxRecDepth 20000 in
theorem ok_Md_core : mm_ok M_Md_core T_Md_core := by unfold mm_ok; decide +kernel
def T_Md_output : mm_T := [(0, .aload_n 0, 1, 0), (1, .getfield 19, 3, 0), (4, .iload_n 1, 1, 0), (5, .bipush 6, 2, 6), (7, .idiv, 1, 0), (8, .iaload, 1, 0), (9, .ifCond .ne 12, 3, 0), (12, .aload_n 0, 1, 0), (13, .getfield 38, 3, 0), (16, .iload_n 1, 1, 0), (17, .iaload, 1, 0), (18, .goto 9, 3, 0), (21, .aload_n 0, 1, 0), (22, .getfield 41, 3, 0), (25, .iload_n 1, 1, 0), (26, .iaload, 1, 0), (27, .ireturn, 1, 0)]
set_option maxRecDepth 20000 in
theorem ok_Md_output : mm_ok M_Md_output T_Md_output := by unfold mm_ok; decide +kernel
def T_Md_valueOf : mm_T := [(0, .aload_n 0, 1, 0), (1, .aload_n 0, 1, 0), (2, .getfield 47, 3, 0), (5, .iload_n 1, 1, 0), (6, .iaload, 1, 0), (7, .invokevirtual 96, 3, 0), (10, .istore_n 2, 1, 0), (11, .aload_n 0, 1, 0), (12, .getfield 50, 3, 0), (15, .iload_n 1, 1, 0), (16, .iaload, 1, 0), (17, .ifCond .ge 5, 3, 0), (20, .iload_n 2, 1, 0), (21, .ireturn, 1, 0), (22, .aload_n 0, 1, 0), (23, .getfield 50, 3, 0), (26, .iload_n 1, 1, 0), (27, .iaload, 1, 0), (28, .iconst 2, 1, 2), (29, .if_icmp .ge 10, 3, 0), (32, .aload_n 0, 1, 0), (33, .getfield 50, 3, 0), (36, .iload_n 1, 1, 0), (37, .iaload, 1, 0), (38, .ireturn, 1, 0), (39, .aload_n 0, 1, 0), (40, .aload_n 0, 1, 0), (41, .getfield 47, 3, 0), (44, .aload_n 0, 1, 0), (45, .getfield 53, 3, 0), (48, .iload_n 1, 1, 0), (49, .iaload, 1, 0), (50, .iaload, 1, 0), (51, .invokevirtual 96, 3, 0), (54, .istore_n 3, 1, 0), (55, .aload_n 0, 1, 0), (56, .getfield 50, 3, 0), (59, .iload_n 1, 1, 0), (60, .iaload, 1, 0), (61, .iconst 2, 1, 2), (62, .if_icmp .ne 9, 3, 0), (65, .iload_n 2, 1, 0), (66, .iload_n 3, 1, 0), (67, .imul, 1, 0), (68, .goto 10, 3, 0), (71, .iload_n 2, 1, 0), (72, .iload_n 3, 1, 0), (73, .iadd, 1, 0), (74, .iload_n 2, 1, 0), (75, .iload_n 3, 1, 0), (76, .imul, 1, 0), (77, .isub, 1, 0), (78, .ireturn, 1, 0)]
set_option maxRecDepth 20000 in
theorem ok_Md_valueOf : mm_ok M_Md_valueOf T_Md_valueOf := by unfold mm_ok; decide +kernel
def T_Md_signal : mm_T := [(0, .aload_n 0, 1, 0), (1, .getfield 34, 3, 0), (4, .iload_n 1, 1, 0), (5, .baload, 1, 0), (6, .ifCond .eq 9, 3, 0), (9, .aload_n 0, 1, 0), (10, .iload_n 1, 1, 0), (11, .invokevirtual 96, 3, 0), (14, .ireturn, 1, 0), (15, .aload_n 0, 1, 0), (16, .getfield 44, 3, 0), (19, .iload_n 1, 1, 0), (20, .iaload, 1, 0), (21, .ifCond .ge 7, 3, 0), (24, .iconst 0, 1, 0), (25, .goto 13, 3, 0), (28, .aload_n 0, 1, 0), (29, .aload_n 0, 1, 0), (30, .getfield 44, 3, 0), (33, .iload_n 1, 1, 0), (34, .iaload, 1, 0), (35, .invokevirtual 100, 3, 0), (38, .ireturn, 1, 0)]
set_option maxRecDepth 20000 in
theorem ok_Md_signal : mm_ok M_Md_signal T_Md_signal := by unfold mm_ok; decide +kernel
def T_Md_down : mm_T := [(0, .aload_n 0, 1, 0), (1, .iload_n 1, 1, 0), (2, .iaload, 1, 0), (3, .istore 4, 2, 0), (5, .iconst 1, 1, 1), (6, .istore 5, 2, 0), (8, .iload 5, 2, 0), (10, .iload_n 2, 1, 0), (11, .if_icmp .ge 23, 3, 0), (14, .aload_n 0, 1, 0), (15, .iload_n 1, 1, 0), (16, .iload 5, 2, 0), (18, .iadd, 1, 0), (19, .iconst 1, 1, 1), (20, .isub, 1, 0), (21, .aload_n 0, 1, 0), (22, .iload_n 1, 1, 0), (23, .iload 5, 2, 0), (25, .iadd, 1, 0), (26, .iaload, 1, 0), (27, .iastore, 1, 0), (28, .iinc 5 1, 3, 1), (31, .goto (-23), 3, 0), (34, .aload_n 0, 1, 0), (35, .iload_n 1, 1, 0), (36, .iload_n 2, 1, 0), (37, .iadd, 1, 0), (38, .iconst 1, 1, 1), (39, .isub, 1, 0), (40, .iload_n 3, 1, 0), (41, .iastore, 1, 0), (42, .iload 4, 2, 0), (44, .ireturn, 1, 0)]
set_option maxRecDepth 20000 in
theorem ok_Md_down : mm_ok M_Md_down T_Md_down := by unfold mm_ok; decide +kernel
def T_Md_shiftAll : mm_T := [(0, .iload_n 2, 1, 0), (1, .istore_n 3, 1, 0), (2, .iconst 0, 1, 0), (3, .istore 4, 2, 0), (5, .iload 4, 2, 0), (7, .aload_n 0, 1, 0), (8, .getfield 66, 3, 0), (11, .if_icmp .ge 117, 3, 0), (14, .aload_n 0, 1, 0), (15, .getfield 19, 3, 0), (18, .iload 4, 2, 0), (20, .iaload, 1, 0), (21, .istore 5, 2, 0), (23, .iload_n 1, 1, 0), (24, .ifCond .ne 26, 3, 0), (27, .aload_n 0, 1, 0), (28, .getfield 22, 3, 0), (31, .iconst 4, 1, 4), (32, .iload 4, 2, 0), (34, .imul, 1, 0), (35, .aload_n 0, 1, 0), (36, .getfield 7, 3, 0), (39, .iload 4, 2, 0), (41, .iaload, 1, 0), (42, .iload_n 3, 1, 0), (43, .invokestatic 103, 3, 0), (46, .istore_n 3, 1, 0), (47, .goto 75, 3, 0), (50, .iload 5, 2, 0), (52, .ifCond .eq 9, 3, 0), (55, .iload 5, 2, 0), (57, .iconst 2, 1, 2), (58, .if_icmp .ne 27, 3, 0), (61, .aload_n 0, 1, 0), (62, .getfield 25, 3, 0), (65, .bipush 6, 2, 6), (67, .iload 4, 2, 0), (69, .imul, 1, 0), (70, .aload_n 0, 1, 0), (71, .getfield 16, 3, 0), (74, .iload 4, 2, 0), (76, .iaload, 1, 0), (77, .iload_n 3, 1, 0), (78, .invokestatic 103, 3, 0), (81, .istore_n 3, 1, 0), (82, .goto 40, 3, 0), (85, .iload 5, 2, 0), (87, .iconst 1, 1, 1), (88, .if_icmp .ne 22, 3, 0), (91, .aload_n 0, 1, 0), (92, .getfield 28, 3, 0), (95, .bipush 32, 2, 32), (97, .iload 4, 2, 0), (99, .imul, 1, 0), (100, .bipush 32, 2, 32), (102, .iload_n 3, 1, 0), (103, .invokestatic 103, 3, 0), (106, .istore_n 3, 1, 0), (107, .goto 15, 3, 0), (110, .aload_n 0, 1, 0), (111, .getfield 31, 3, 0), (114, .iload 4, 2, 0), (116, .iconst 1, 1, 1), (117, .iload_n 3, 1, 0), (118, .invokestatic 103, 3, 0), (121, .istore_n 3, 1, 0), (122, .iinc 4 1, 3, 1), (125, .goto (-120), 3, 0), (128, .iload_n 3, 1, 0), (129, .ireturn, 1, 0)]
set_option maxRecDepth 20000 in
theorem ok_Md_shiftAll : mm_ok M_Md_shiftAll T_Md_shiftAll := by unfold mm_ok; decide +kernel
def T_Md_capture : mm_T := [(0, .aload_n 0, 1, 0), (1, .getfield 19, 3, 0), (4, .iload_n 1, 1, 0), (5, .iaload, 1, 0), (6, .istore_n 2, 1, 0), (7, .aload_n 0, 1, 0), (8, .getfield 31, 3, 0), (11, .iload_n 1, 1, 0), (12, .iconst 0, 1, 0), (13, .iastore, 1, 0), (14, .iconst 0, 1, 0), (15, .istore_n 3, 1, 0), (16, .iload_n 3, 1, 0), (17, .bipush 32, 2, 32), (19, .if_icmp .ge 30, 3, 0), (22, .aload_n 0, 1, 0), (23, .getfield 28, 3, 0), (26, .bipush 32, 2, 32), (28, .iload_n 1, 1, 0), (29, .imul, 1, 0), (30, .iload_n 3, 1, 0), (31, .iadd, 1, 0), (32, .aload_n 0, 1, 0), (33, .getfield 13, 3, 0), (36, .iload_n 1, 1, 0), (37, .iaload, 1, 0), (38, .iload_n 3, 1, 0), (39, .ishr, 1, 0), (40, .iconst 1, 1, 1), (41, .iand, 1, 0), (42, .iastore, 1, 0), (43, .iinc 3 1, 3, 1), (46, .goto (-30), 3, 0), (49, .iconst 0, 1, 0), (50, .istore_n 3, 1, 0), (51, .iload_n 3, 1, 0), (52, .aload_n 0, 1, 0), (53, .getfield 16, 3, 0), (56, .iload_n 1, 1, 0), (57, .iaload, 1, 0), (58, .if_icmp .ge 39, 3, 0), (61, .iload_n 2, 1, 0), (62, .ifCond .eq 8, 3, 0), (65, .iload_n 2, 1, 0), (66, .iconst 2, 1, 2), (67, .if_icmp .ne 30, 3, 0), (70, .aload_n 0, 1, 0), (71, .getfield 25, 3, 0), (74, .bipush 6, 2, 6), (76, .iload_n 1, 1, 0), (77, .imul, 1, 0), (78, .iload_n 3, 1, 0), (79, .iadd, 1, 0), (80, .aload_n 0, 1, 0), (81, .bipush 6, 2, 6), (83, .iload_n 1, 1, 0), (84, .imul, 1, 0), (85, .iload_n 3, 1, 0), (86, .iadd, 1, 0), (87, .invokevirtual 107, 3, 0), (90, .iastore, 1, 0), (91, .iinc 3 1, 3, 1), (94, .goto (-43), 3, 0), (97, .return_, 1, 0)]
set_option maxRecDepth 20000 in
theorem ok_Md_capture : mm_ok M_Md_capture T_Md_capture := by unfold mm_ok; decide +kernel
def T_Md_update : mm_T := [(0, .aload_n 0, 1, 0), (1, .getfield 19, 3, 0), (4, .iload_n 1, 1, 0), (5, .iaload, 1, 0), (6, .ifCond .eq 14, 3, 0), (9, .aload_n 0, 1, 0), (10, .getfield 19, 3, 0), (13, .iload_n 1, 1, 0), (14, .iaload, 1, 0), (15, .iconst 2, 1, 2), (16, .if_icmp .eq 4, 3, 0), (19, .return_, 1, 0), (20, .bipush 6, 2, 6), (22, .iload_n 1, 1, 0), (23, .imul, 1, 0), (24, .istore_n 2, 1, 0), (25, .iload_n 2, 1, 0), (26, .bipush 6, 2, 6), (28, .iload_n 1, 1, 0), (29, .imul, 1, 0), (30, .aload_n 0, 1, 0), (31, .getfield 16, 3, 0), (34, .iload_n 1, 1, 0), (35, .iaload, 1, 0), (36, .iadd, 1, 0), (37, .if_icmp .ge 34, 3, 0), (40, .aload_n 0, 1, 0), (41, .getfield 38, 3, 0), (44, .iload_n 2, 1, 0), (45, .aload_n 0, 1, 0), (46, .getfield 34, 3, 0), (49, .iload_n 2, 1, 0), (50, .baload, 1, 0), (51, .ifCond .eq 12, 3, 0), (54, .aload_n 0, 1, 0), (55, .getfield 25, 3, 0), (58, .iload_n 2, 1, 0), (59, .iaload, 1, 0), (60, .goto 4, 3, 0), (63, .iconst 0, 1, 0), (64, .iastore, 1, 0), (65, .iinc 2 1, 3, 1), (68, .goto (-43), 3, 0), (71, .return_, 1, 0)]
set_option maxRecDepth 20000 in
theorem ok_Md_update : mm_ok M_Md_update T_Md_update := by unfold mm_ok; decide +kernel
def T_Md_numberIn : mm_T := [(0, .iconst 0, 1, 0), (1, .istore_n 2, 1, 0), (2, .aload_n 0, 1, 0), (3, .getfield 7, 3, 0), (6, .iload_n 1, 1, 0), (7, .iaload, 1, 0), (8, .iconst 1, 1, 1), (9, .isub, 1, 0), (10, .istore_n 3, 1, 0), (11, .iload_n 3, 1, 0), (12, .ifCond .lt 24, 3, 0), (15, .iconst 2, 1, 2), (16, .iload_n 2, 1, 0), (17, .imul, 1, 0), (18, .aload_n 0, 1, 0), (19, .getfield 22, 3, 0), (22, .iconst 4, 1, 4), (23, .iload_n 1, 1, 0), (24, .imul, 1, 0), (25, .iload_n 3, 1, 0), (26, .iadd, 1, 0), (27, .iaload, 1, 0), (28, .iadd, 1, 0), (29, .istore_n 2, 1, 0), (30, .iinc 3 (-1), 3, (-1)), (33, .goto (-22), 3, 0), (36, .iload_n 2, 1, 0), (37, .ireturn, 1, 0)]
set_option maxRecDepth 20000 in
theorem ok_Md_numberIn : mm_ok M_Md_numberIn T_Md_numberIn := by unfold mm_ok; decide +kernel
def T_Md_tick : mm_T := [(0, .iconst 0, 1, 0), (1, .istore_n 3, 1, 0), (2, .aload_n 0, 1, 0), (3, .getfield 69, 3, 0), (6, .iconst 4, 1, 4), (7, .if_icmp .eq 12, 3, 0), (10, .aload_n 0, 1, 0), (11, .getfield 69, 3, 0), (14, .bipush 11, 2, 11), (16, .if_icmp .ne 22, 3, 0), (19, .aload_n 0, 1, 0), (20, .aload_n 0, 1, 0), (21, .getfield 69, 3, 0), (24, .iconst 4, 1, 4), (25, .if_icmp .ne 7, 3, 0), (28, .iconst 1, 1, 1), (29, .goto 4, 3, 0), (32, .iconst 0, 1, 0), (33, .iload_n 2, 1, 0), (34, .invokevirtual 110, 3, 0), (37, .istore_n 3, 1, 0), (38, .iconst 0, 1, 0), (39, .istore 4, 2, 0), (41, .iload 4, 2, 0), (43, .aload_n 0, 1, 0), (44, .getfield 66, 3, 0), (47, .if_icmp .ge 106, 3, 0), (50, .aload_n 0, 1, 0), (51, .getfield 69, 3, 0), (54, .iconst 3, 1, 3), (55, .if_icmp .ne 9, 3, 0), (58, .aload_n 0, 1, 0), (59, .iload 4, 2, 0), (61, .invokevirtual 114, 3, 0), (64, .aload_n 0, 1, 0), (65, .getfield 69, 3, 0), (68, .bipush 8, 2, 8), (70, .if_icmp .ne 9, 3, 0), (73, .aload_n 0, 1, 0), (74, .iload 4, 2, 0), (76, .invokevirtual 117, 3, 0), (79, .aload_n 0, 1, 0), (80, .getfield 69, 3, 0), (83, .bipush 15, 2, 15), (85, .if_icmp .ne 16, 3, 0), (88, .aload_n 0, 1, 0), (89, .getfield 19, 3, 0), (92, .iload 4, 2, 0), (94, .aload_n 0, 1, 0), (95, .iload 4, 2, 0), (97, .invokevirtual 120, 3, 0), (100, .iastore, 1, 0), (101, .iconst 0, 1, 0), (102, .istore 5, 2, 0), (104, .iload 5, 2, 0), (106, .iconst 4, 1, 4), (107, .if_icmp .ge 40, 3, 0), (110, .aload_n 0, 1, 0), (111, .getfield 69, 3, 0), (114, .bipush 10, 2, 10), (116, .if_icmp .ne 31, 3, 0), (119, .aload_n 0, 1, 0), (120, .getfield 22, 3, 0), (123, .iconst 4, 1, 4), (124, .iload 4, 2, 0), (126, .imul, 1, 0), (127, .iload 5, 2, 0), (129, .iadd, 1, 0), (130, .iload 5, 2, 0), (132, .ifCond .ne 7, 3, 0), (135, .iconst 1, 1, 1), (136, .goto 4, 3, 0), (139, .iconst 0, 1, 0), (140, .iastore, 1, 0), (141, .iinc 5 1, 3, 1), (144, .goto (-40), 3, 0), (147, .iinc 4 1, 3, 1), (150, .goto (-109), 3, 0), (153, .aload_n 0, 1, 0), (154, .aload_n 0, 1, 0), (155, .getfield 69, 3, 0), (158, .iload_n 1, 1, 0), (159, .invokestatic 123, 3, 0), (162, .putfield 69, 3, 0), (165, .iconst 0, 1, 0), (166, .istore 4, 2, 0), (168, .iload 4, 2, 0), (170, .aload_n 0, 1, 0), (171, .getfield 66, 3, 0), (174, .if_icmp .ge 24, 3, 0), (177, .aload_n 0, 1, 0), (178, .getfield 69, 3, 0), (181, .ifCond .ne 17, 3, 0), (184, .aload_n 0, 1, 0), (185, .getfield 19, 3, 0), (188, .iload 4, 2, 0), (190, .iconst 1, 1, 1), (191, .iastore, 1, 0), (192, .iinc 4 1, 3, 1), (195, .goto (-27), 3, 0), (198, .aload_n 0, 1, 0), (199, .dup, 1, 0), (200, .getfield 72, 3, 0), (203, .iconst 1, 1, 1), (204, .iadd, 1, 0), (205, .putfield 72, 3, 0), (208, .iload_n 3, 1, 0), (209, .ireturn, 1, 0)]
set_option maxRecDepth 20000 in
theorem ok_Md_tick : mm_ok M_Md_tick T_Md_tick := by unfold mm_ok; decide +kernel
def T_Md_clock : mm_T := [(0, .aload_n 0, 1, 0), (1, .aload_n 0, 1, 0), (2, .getfield 66, 3, 0), (5, .ifCond .ne 7, 3, 0), (8, .iconst 1, 1, 1), (9, .goto 4, 3, 0), (12, .iconst 0, 1, 0), (13, .putfield 62, 3, 0), (16, .aload_n 0, 1, 0), (17, .getfield 62, 3, 0), (20, .ifCond .ne 25, 3, 0), (23, .aload_n 0, 1, 0), (24, .iload_n 1, 1, 0), (25, .iload_n 2, 1, 0), (26, .ifCond .eq 7, 3, 0), (29, .iconst 1, 1, 1), (30, .goto 4, 3, 0), (33, .iconst 0, 1, 0), (34, .invokevirtual 127, 3, 0), (37, .iconst 1, 1, 1), (38, .if_icmp .ne 7, 3, 0), (41, .iconst 1, 1, 1), (42, .goto 4, 3, 0), (45, .iconst 0, 1, 0), (46, .ireturn, 1, 0)]
set_option maxRecDepth 20000 in
theorem ok_Md_clock : mm_ok M_Md_clock T_Md_clock := by unfold mm_ok; decide +kernel
def T_Md_goIdle : mm_T := [(0, .iconst 0, 1, 0), (1, .istore_n 1, 1, 0), (2, .iload_n 1, 1, 0), (3, .bipush 6, 2, 6), (5, .if_icmp .ge 25, 3, 0), (8, .aload_n 0, 1, 0), (9, .iload_n 1, 1, 0), (10, .iconst 5, 1, 5), (11, .if_icmp .ge 7, 3, 0), (14, .iconst 1, 1, 1), (15, .goto 4, 3, 0), (18, .iconst 0, 1, 0), (19, .iconst 0, 1, 0), (20, .invokevirtual 127, 3, 0), (23, .istore_n 2, 1, 0), (24, .iinc 1 1, 3, 1), (27, .goto (-25), 3, 0), (30, .return_, 1, 0)]
set_option maxRecDepth 20000 in
theorem ok_Md_goIdle : mm_ok M_Md_goIdle T_Md_goIdle := by unfold mm_ok; decide +kernel
def T_Md_comeTo : mm_T := [(0, .iload_n 1, 1, 0), (1, .ifCond .eq 7, 3, 0), (4, .iconst 0, 1, 0), (5, .goto 4, 3, 0), (8, .iconst 1, 1, 1), (9, .istore_n 2, 1, 0), (10, .iload_n 2, 1, 0), (11, .iconst 4, 1, 4), (12, .if_icmp .ge 25, 3, 0), (15, .aload_n 0, 1, 0), (16, .iload_n 2, 1, 0), (17, .iconst 2, 1, 2), (18, .if_icmp .ge 7, 3, 0), (21, .iconst 1, 1, 1), (22, .goto 4, 3, 0), (25, .iconst 0, 1, 0), (26, .iconst 0, 1, 0), (27, .invokevirtual 127, 3, 0), (30, .istore_n 3, 1, 0), (31, .iinc 2 1, 3, 1), (34, .goto (-24), 3, 0), (37, .return_, 1, 0)]
set_option maxRecDepth 20000 in
theorem ok_Md_comeTo : mm_ok M_Md_comeTo T_Md_comeTo := by unfold mm_ok; decide +kernel
def T_Md_leave : mm_T := [(0, .iconst 0, 1, 0), (1, .istore_n 1, 1, 0), (2, .iload_n 1, 1, 0), (3, .iconst 2, 1, 2), (4, .if_icmp .ge 24, 3, 0), (7, .aload_n 0, 1, 0), (8, .iload_n 1, 1, 0), (9, .ifCond .ne 7, 3, 0), (12, .iconst 1, 1, 1), (13, .goto 4, 3, 0), (16, .iconst 0, 1, 0), (17, .iconst 0, 1, 0), (18, .invokevirtual 127, 3, 0), (21, .istore_n 2, 1, 0), (22, .iinc 1 1, 3, 1), (25, .goto (-23), 3, 0), (28, .return_, 1, 0)]
set_option maxRecDepth 20000 in
theorem ok_Md_leave : mm_ok M_Md_leave T_Md_leave := by unfold mm_ok; decide +kernel
def T_Md_find : mm_T := [(0, .aload_n 0, 1, 0), (1, .aload_n 0, 1, 0), (2, .getfield 66, 3, 0), (5, .ifCond .ne 7, 3, 0), (8, .iconst 1, 1, 1), (9, .goto 4, 3, 0), (12, .iconst 0, 1, 0), (13, .putfield 62, 3, 0), (16, .aload_n 0, 1, 0), (17, .getfield 62, 3, 0), (20, .ifCond .le 5, 3, 0), (23, .iconst 0, 1, 0), (24, .ireturn, 1, 0), (25, .aload_n 0, 1, 0), (26, .invokevirtual 130, 3, 0), (29, .aload_n 0, 1, 0), (30, .iconst 0, 1, 0), (31, .invokevirtual 133, 3, 0), (34, .aload_n 0, 1, 0), (35, .iconst 0, 1, 0), (36, .putfield 75, 3, 0), (39, .iconst 1, 1, 1), (40, .istore_n 1, 1, 0), (41, .iconst 0, 1, 0), (42, .istore_n 2, 1, 0), (43, .iconst 0, 1, 0), (44, .istore_n 3, 1, 0), (45, .iload_n 3, 1, 0), (46, .sipush 160, 3, 160), (49, .if_icmp .ge 106, 3, 0), (52, .aload_n 0, 1, 0), (53, .iload_n 3, 1, 0), (54, .sipush 159, 3, 159), (57, .if_icmp .ne 7, 3, 0), (60, .iconst 1, 1, 1), (61, .goto 4, 3, 0), (64, .iconst 0, 1, 0), (65, .iconst 1, 1, 1), (66, .invokevirtual 127, 3, 0), (69, .istore 4, 2, 0), (71, .iload_n 3, 1, 0), (72, .bipush 32, 2, 32), (74, .irem, 1, 0), (75, .ifCond .ne 8, 3, 0), (78, .iload 4, 2, 0), (80, .goto 12, 3, 0), (83, .iload_n 2, 1, 0), (84, .iload 4, 2, 0), (86, .iload_n 3, 1, 0), (87, .bipush 32, 2, 32), (89, .irem, 1, 0), (90, .ishl, 1, 0), (91, .ior, 1, 0), (92, .istore_n 2, 1, 0), (93, .iload_n 3, 1, 0), (94, .bipush 32, 2, 32), (96, .irem, 1, 0), (97, .bipush 31, 2, 31), (99, .if_icmp .ne 50, 3, 0), (102, .iload_n 1, 1, 0), (103, .ifCond .eq 12, 3, 0), (106, .iload_n 2, 1, 0), (107, .iconst (-1), 1, (-1)), (108, .if_icmp .eq 7, 3, 0), (111, .iconst 1, 1, 1), (112, .goto 4, 3, 0), (115, .iconst 0, 1, 0), (116, .istore_n 1, 1, 0), (117, .iload_n 1, 1, 0), (118, .ifCond .eq 31, 3, 0), (121, .aload_n 0, 1, 0), (122, .getfield 75, 3, 0), (125, .iconst 4, 1, 4), (126, .if_icmp .ge 23, 3, 0), (129, .aload_n 0, 1, 0), (130, .getfield 59, 3, 0), (133, .aload_n 0, 1, 0), (134, .getfield 75, 3, 0), (137, .iload_n 2, 1, 0), (138, .iastore, 1, 0), (139, .aload_n 0, 1, 0), (140, .dup, 1, 0), (141, .getfield 75, 3, 0), (144, .iconst 1, 1, 1), (145, .iadd, 1, 0), (146, .putfield 75, 3, 0), (149, .iinc 3 1, 3, 1), (152, .goto (-107), 3, 0), (155, .aload_n 0, 1, 0), (156, .invokevirtual 137, 3, 0), (159, .aload_n 0, 1, 0), (160, .getfield 75, 3, 0), (163, .ireturn, 1, 0)]
set_option maxRecDepth 20000 in
theorem ok_Md_find : mm_ok M_Md_find T_Md_find := by unfold mm_ok; decide +kernel
def T_Md_found : mm_T := [(0, .aload_n 0, 1, 0), (1, .iconst 0, 1, 0), (2, .putfield 62, 3, 0), (5, .iload_n 1, 1, 0), (6, .aload_n 0, 1, 0), (7, .getfield 75, 3, 0), (10, .invokestatic 82, 3, 0), (13, .ifCond .eq 11, 3, 0), (16, .aload_n 0, 1, 0), (17, .iconst 1, 1, 1), (18, .invokevirtual 140, 3, 0), (21, .goto 16, 3, 0), (24, .aload_n 0, 1, 0), (25, .getfield 59, 3, 0), (28, .aload_n 0, 1, 0), (29, .getfield 75, 3, 0), (32, .iconst 1, 1, 1), (33, .isub, 1, 0), (34, .iload_n 1, 1, 0), (35, .isub, 1, 0), (36, .iaload, 1, 0), (37, .ireturn, 1, 0)]
set_option maxRecDepth 20000 in
theorem ok_Md_found : mm_ok M_Md_found T_Md_found := by unfold mm_ok; decide +kernel
def T_Md_round : mm_T := [(0, .aload_n 0, 1, 0), (1, .iconst 0, 1, 0), (2, .invokevirtual 133, 3, 0), (5, .aload_n 0, 1, 0), (6, .getfield 66, 3, 0), (9, .iconst 1, 1, 1), (10, .isub, 1, 0), (11, .istore_n 3, 1, 0), (12, .iload_n 3, 1, 0), (13, .ifCond .lt 144, 3, 0), (16, .iconst 0, 1, 0), (17, .istore 4, 2, 0), (19, .iload 4, 2, 0), (21, .aload_n 0, 1, 0), (22, .getfield 16, 3, 0), (25, .iload_n 3, 1, 0), (26, .iaload, 1, 0), (27, .if_icmp .ge 124, 3, 0), (30, .aload_n 0, 1, 0), (31, .getfield 44, 3, 0), (34, .bipush 6, 2, 6), (36, .iload_n 3, 1, 0), (37, .imul, 1, 0), (38, .iload 4, 2, 0), (40, .iadd, 1, 0), (41, .iaload, 1, 0), (42, .istore 5, 2, 0), (44, .aload_n 0, 1, 0), (45, .getfield 34, 3, 0), (48, .bipush 6, 2, 6), (50, .iload_n 3, 1, 0), (51, .imul, 1, 0), (52, .iload 4, 2, 0), (54, .iadd, 1, 0), (55, .baload, 1, 0), (56, .istore 6, 2, 0), (58, .iload 5, 2, 0), (60, .ifCond .lt 19, 3, 0), (63, .iload 6, 2, 0), (65, .ifCond .eq 14, 3, 0), (68, .iload 5, 2, 0), (70, .iconst 1, 1, 1), (71, .iadd, 1, 0), (72, .iload_n 1, 1, 0), (73, .ishr, 1, 0), (74, .iconst 1, 1, 1), (75, .iand, 1, 0), (76, .goto 4, 3, 0), (79, .iconst 0, 1, 0), (80, .istore 7, 2, 0), (82, .aload_n 0, 1, 0), (83, .iload_n 3, 1, 0), (84, .ifCond .ne 20, 3, 0), (87, .iload 4, 2, 0), (89, .aload_n 0, 1, 0), (90, .getfield 16, 3, 0), (93, .iconst 0, 1, 0), (94, .iaload, 1, 0), (95, .iconst 1, 1, 1), (96, .isub, 1, 0), (97, .if_icmp .ne 7, 3, 0), (100, .iconst 1, 1, 1), (101, .goto 4, 3, 0), (104, .iconst 0, 1, 0), (105, .iload 7, 2, 0), (107, .invokevirtual 127, 3, 0), (110, .istore 8, 2, 0), (112, .iload_n 2, 1, 0), (113, .ifCond .eq 32, 3, 0), (116, .iload 5, 2, 0), (118, .ifCond .lt 27, 3, 0), (121, .iload 6, 2, 0), (123, .ifCond .ne 22, 3, 0), (126, .aload_n 0, 1, 0), (127, .getfield 56, 3, 0), (130, .iload 5, 2, 0), (132, .aload_n 0, 1, 0), (133, .getfield 56, 3, 0), (136, .iload 5, 2, 0), (138, .iaload, 1, 0), (139, .iload 8, 2, 0), (141, .iload_n 1, 1, 0), (142, .ishl, 1, 0), (143, .ior, 1, 0), (144, .iastore, 1, 0), (145, .iinc 4 1, 3, 1), (148, .goto (-129), 3, 0), (151, .iinc 3 (-1), 3, (-1)), (154, .goto (-142), 3, 0), (157, .aload_n 0, 1, 0), (158, .invokevirtual 137, 3, 0), (161, .return_, 1, 0)]
set_option maxRecDepth 20000 in
theorem ok_Md_round : mm_ok M_Md_round T_Md_round := by unfold mm_ok; decide +kernel
def T_Md_test : mm_T := [(0, .aload_n 0, 1, 0), (1, .aload_n 0, 1, 0), (2, .getfield 66, 3, 0), (5, .ifCond .eq 10, 3, 0), (8, .aload_n 0, 1, 0), (9, .getfield 89, 3, 0), (12, .ifCond .ne 7, 3, 0), (15, .iconst 1, 1, 1), (16, .goto 4, 3, 0), (19, .iconst 0, 1, 0), (20, .putfield 62, 3, 0), (23, .aload_n 0, 1, 0), (24, .getfield 62, 3, 0), (27, .ifCond .le 5, 3, 0), (30, .iconst 0, 1, 0), (31, .ireturn, 1, 0), (32, .aload_n 0, 1, 0), (33, .invokevirtual 130, 3, 0), (36, .iconst 0, 1, 0), (37, .istore_n 1, 1, 0), (38, .iconst 0, 1, 0), (39, .istore_n 2, 1, 0), (40, .iload_n 2, 1, 0), (41, .aload_n 0, 1, 0), (42, .getfield 66, 3, 0), (45, .if_icmp .ge 18, 3, 0), (48, .iload_n 1, 1, 0), (49, .aload_n 0, 1, 0), (50, .getfield 7, 3, 0), (53, .iload_n 2, 1, 0), (54, .iaload, 1, 0), (55, .iadd, 1, 0), (56, .istore_n 1, 1, 0), (57, .iinc 2 1, 3, 1), (60, .goto (-20), 3, 0), (63, .aload_n 0, 1, 0), (64, .iconst 1, 1, 1), (65, .invokevirtual 133, 3, 0), (68, .iconst 1, 1, 1), (69, .istore_n 2, 1, 0), (70, .iload_n 2, 1, 0), (71, .iload_n 1, 1, 0), (72, .if_icmp .gt 25, 3, 0), (75, .aload_n 0, 1, 0), (76, .iload_n 2, 1, 0), (77, .iload_n 1, 1, 0), (78, .if_icmp .ne 7, 3, 0), (81, .iconst 1, 1, 1), (82, .goto 4, 3, 0), (85, .iconst 0, 1, 0), (86, .iconst 0, 1, 0), (87, .invokevirtual 127, 3, 0), (90, .istore_n 3, 1, 0), (91, .iinc 2 1, 3, 1), (94, .goto (-24), 3, 0), (97, .aload_n 0, 1, 0), (98, .invokevirtual 137, 3, 0), (101, .iconst 0, 1, 0), (102, .istore_n 2, 1, 0), (103, .iload_n 2, 1, 0), (104, .aload_n 0, 1, 0), (105, .getfield 89, 3, 0), (108, .if_icmp .ge 16, 3, 0), (111, .aload_n 0, 1, 0), (112, .getfield 56, 3, 0), (115, .iload_n 2, 1, 0), (116, .iconst 0, 1, 0), (117, .iastore, 1, 0), (118, .iinc 2 1, 3, 1), (121, .goto (-18), 3, 0), (124, .iconst 0, 1, 0), (125, .istore_n 2, 1, 0), (126, .iconst 1, 1, 1), (127, .iload_n 2, 1, 0), (128, .ishl, 1, 0), (129, .aload_n 0, 1, 0), (130, .getfield 89, 3, 0), (133, .iconst 1, 1, 1), (134, .iadd, 1, 0), (135, .if_icmp .gt 21, 3, 0), (138, .aload_n 0, 1, 0), (139, .iload_n 2, 1, 0), (140, .iconst 0, 1, 0), (141, .invokevirtual 143, 3, 0), (144, .aload_n 0, 1, 0), (145, .iload_n 2, 1, 0), (146, .iconst 1, 1, 1), (147, .invokevirtual 143, 3, 0), (150, .iinc 2 1, 3, 1), (153, .goto (-27), 3, 0), (156, .aload_n 0, 1, 0), (157, .iconst 1, 1, 1), (158, .putfield 78, 3, 0), (161, .iconst 0, 1, 0), (162, .istore_n 3, 1, 0), (163, .iconst 0, 1, 0), (164, .istore 4, 2, 0), (166, .iload 4, 2, 0), (168, .aload_n 0, 1, 0), (169, .getfield 89, 3, 0), (172, .if_icmp .ge 31, 3, 0), (175, .aload_n 0, 1, 0), (176, .getfield 56, 3, 0), (179, .iload 4, 2, 0), (181, .iaload, 1, 0), (182, .iload 4, 2, 0), (184, .iconst 1, 1, 1), (185, .iadd, 1, 0), (186, .if_icmp .ne 7, 3, 0), (189, .iload_n 3, 1, 0), (190, .goto 6, 3, 0), (193, .iload_n 3, 1, 0), (194, .iconst 1, 1, 1), (195, .iadd, 1, 0), (196, .istore_n 3, 1, 0), (197, .iinc 4 1, 3, 1), (200, .goto (-34), 3, 0), (203, .iload_n 3, 1, 0), (204, .ireturn, 1, 0)]
set_option maxRecDepth 20000 in
theorem ok_Md_test : mm_ok M_Md_test T_Md_test := by unfold mm_ok; decide +kernel
def T_Md_saw : mm_T := [(0, .aload_n 0, 1, 0), (1, .iconst 0, 1, 0), (2, .putfield 62, 3, 0), (5, .aload_n 0, 1, 0), (6, .getfield 78, 3, 0), (9, .ifCond .eq 14, 3, 0), (12, .iload_n 1, 1, 0), (13, .aload_n 0, 1, 0), (14, .getfield 89, 3, 0), (17, .invokestatic 82, 3, 0), (20, .ifCond .eq 11, 3, 0), (23, .aload_n 0, 1, 0), (24, .iconst 1, 1, 1), (25, .invokevirtual 140, 3, 0), (28, .goto 9, 3, 0), (31, .aload_n 0, 1, 0), (32, .getfield 56, 3, 0), (35, .iload_n 1, 1, 0), (36, .iaload, 1, 0), (37, .ireturn, 1, 0)]
set_option maxRecDepth 20000 in
theorem ok_Md_saw : mm_ok M_Md_saw T_Md_saw := by unfold mm_ok; decide +kernel
def T_Md_state : mm_T := [(0, .aload_n 0, 1, 0), (1, .iconst 0, 1, 0), (2, .putfield 62, 3, 0), (5, .aload_n 0, 1, 0), (6, .getfield 69, 3, 0), (9, .ireturn, 1, 0)]
set_option maxRecDepth 20000 in
theorem ok_Md_state : mm_ok M_Md_state T_Md_state := by unfold mm_ok; decide +kernel
def T_Md_look : mm_T := [(0, .aload_n 0, 1, 0), (1, .iconst 0, 1, 0), (2, .putfield 62, 3, 0), (5, .iload_n 1, 1, 0), (6, .aload_n 0, 1, 0), (7, .getfield 66, 3, 0), (10, .invokestatic 82, 3, 0), (13, .ifCond .ne 11, 3, 0), (16, .iload_n 2, 1, 0), (17, .iconst 4, 1, 4), (18, .invokestatic 82, 3, 0), (21, .ifCond .eq 9, 3, 0), (24, .aload_n 0, 1, 0), (25, .iconst 1, 1, 1), (26, .invokevirtual 140, 3, 0), (29, .ireturn, 1, 0), (30, .iload_n 2, 1, 0), (31, .iconst 2, 1, 2), (32, .if_icmp .ge 22, 3, 0), (35, .iload_n 2, 1, 0), (36, .ifCond .ne 12, 3, 0), (39, .aload_n 0, 1, 0), (40, .getfield 19, 3, 0), (43, .iload_n 1, 1, 0), (44, .iaload, 1, 0), (45, .goto 8, 3, 0), (48, .aload_n 0, 1, 0), (49, .iload_n 1, 1, 0), (50, .invokevirtual 120, 3, 0), (53, .ireturn, 1, 0), (54, .iconst 0, 1, 0), (55, .istore_n 3, 1, 0), (56, .aload_n 0, 1, 0), (57, .getfield 16, 3, 0), (60, .iload_n 1, 1, 0), (61, .iaload, 1, 0), (62, .iconst 1, 1, 1), (63, .isub, 1, 0), (64, .istore 4, 2, 0), (66, .iload 4, 2, 0), (68, .ifCond .lt 45, 3, 0), (71, .iconst 2, 1, 2), (72, .iload_n 3, 1, 0), (73, .imul, 1, 0), (74, .iload_n 2, 1, 0), (75, .iconst 2, 1, 2), (76, .if_icmp .ne 18, 3, 0), (79, .aload_n 0, 1, 0), (80, .getfield 38, 3, 0), (83, .bipush 6, 2, 6), (85, .iload_n 1, 1, 0), (86, .imul, 1, 0), (87, .iload 4, 2, 0), (89, .iadd, 1, 0), (90, .iaload, 1, 0), (91, .goto 14, 3, 0), (94, .aload_n 0, 1, 0), (95, .bipush 6, 2, 6), (97, .iload_n 1, 1, 0), (98, .imul, 1, 0), (99, .iload 4, 2, 0), (101, .iadd, 1, 0), (102, .invokevirtual 107, 3, 0), (105, .iadd, 1, 0), (106, .istore_n 3, 1, 0), (107, .iinc 4 (-1), 3, (-1)), (110, .goto (-44), 3, 0), (113, .iload_n 3, 1, 0), (114, .ireturn, 1, 0)]
set_option maxRecDepth 20000 in
theorem ok_Md_look : mm_ok M_Md_look T_Md_look := by unfold mm_ok; decide +kernel
def T_Md_value : mm_T := [(0, .aload_n 0, 1, 0), (1, .iload_n 1, 1, 0), (2, .aload_n 0, 1, 0), (3, .getfield 89, 3, 0), (6, .invokestatic 82, 3, 0), (9, .ifCond .eq 7, 3, 0), (12, .iconst 1, 1, 1), (13, .goto 4, 3, 0), (16, .iconst 0, 1, 0), (17, .putfield 62, 3, 0), (20, .aload_n 0, 1, 0), (21, .getfield 62, 3, 0), (24, .ifCond .ne 16, 3, 0), (27, .aload_n 0, 1, 0), (28, .iload_n 1, 1, 0), (29, .invokevirtual 100, 3, 0), (32, .iconst 1, 1, 1), (33, .if_icmp .ne 7, 3, 0), (36, .iconst 1, 1, 1), (37, .goto 4, 3, 0), (40, .iconst 0, 1, 0), (41, .ireturn, 1, 0)]
set_option maxRecDepth 20000 in
theorem ok_Md_value : mm_ok M_Md_value T_Md_value := by unfold mm_ok; decide +kernel
def T_Md_clocks : mm_T := [(0, .aload_n 0, 1, 0), (1, .iconst 0, 1, 0), (2, .putfield 62, 3, 0), (5, .aload_n 0, 1, 0), (6, .getfield 72, 3, 0), (9, .ireturn, 1, 0)]
set_option maxRecDepth 20000 in
theorem ok_Md_clocks : mm_ok M_Md_clocks T_Md_clocks := by unfold mm_ok; decide +kernel
end
section
/-! code by rows -/
def T_Lw_device : mm_T := [(0, .aload 5, 2, 0), (2, .iconst 0, 1, 0), (3, .aload_n 0, 1, 0), (4, .iload_n 1, 1, 0), (5, .iload_n 2, 1, 0), (6, .iload_n 3, 1, 0), (7, .iload 4, 2, 0), (9, .invokevirtual 7, 3, 0), (12, .i2l, 1, 0), (13, .lastore, 1, 0), (14, .goto 11, 3, 0), (17, .astore 6, 2, 0), (19, .iconst 1, 1, 1), (20, .ireturn, 1, 0), (21, .astore 6, 2, 0), (23, .iconst 2, 1, 2), (24, .ireturn, 1, 0), (25, .iconst 0, 1, 0), (26, .ireturn, 1, 0)]
set_option maxRecDepth 20000 in
theorem ok_Lw_device : mm_ok M_Lw_device T_Lw_device := by unfold mm_ok; decide +kernel
def T_Lw_net : mm_T := [(0, .aload 5, 2, 0), (2, .iconst 0, 1, 0), (3, .aload_n 0, 1, 0), (4, .iload_n 1, 1, 0), (5, .iload_n 2, 1, 0), (6, .iload_n 3, 1, 0), (7, .iload 4, 2, 0), (9, .invokevirtual 17, 3, 0), (12, .i2l, 1, 0), (13, .lastore, 1, 0), (14, .goto 11, 3, 0), (17, .astore 6, 2, 0), (19, .iconst 1, 1, 1), (20, .ireturn, 1, 0), (21, .astore 6, 2, 0), (23, .iconst 2, 1, 2), (24, .ireturn, 1, 0), (25, .iconst 0, 1, 0), (26, .ireturn, 1, 0)]
set_option maxRecDepth 20000 in
theorem ok_Lw_net : mm_ok M_Lw_net T_Lw_net := by unfold mm_ok; decide +kernel
def T_Lw_fault : mm_T := [(0, .aload_n 0, 1, 0), (1, .iload_n 1, 1, 0), (2, .iload_n 2, 1, 0), (3, .iload_n 3, 1, 0), (4, .invokevirtual 20, 3, 0), (7, .goto 7, 3, 0), (10, .astore 4, 2, 0), (12, .iconst 1, 1, 1), (13, .ireturn, 1, 0), (14, .iconst 0, 1, 0), (15, .ireturn, 1, 0)]
set_option maxRecDepth 20000 in
theorem ok_Lw_fault : mm_ok M_Lw_fault T_Lw_fault := by unfold mm_ok; decide +kernel
def T_Lw_core : mm_T := [(0, .aload_n 0, 1, 0), (1, .iload_n 1, 1, 0), (2, .iload_n 2, 1, 0), (3, .iload_n 3, 1, 0), (4, .invokevirtual 24, 3, 0), (7, .goto 7, 3, 0), (10, .astore 4, 2, 0), (12, .iconst 1, 1, 1), (13, .ireturn, 1, 0), (14, .iconst 0, 1, 0), (15, .ireturn, 1, 0)]
set_option maxRecDepth 20000 in
theorem ok_Lw_core : mm_ok M_Lw_core T_Lw_core := by unfold mm_ok; decide +kernel
def T_Lw_clock : mm_T := [(0, .aload_n 3, 1, 0), (1, .iconst 0, 1, 0), (2, .aload_n 0, 1, 0), (3, .iload_n 1, 1, 0), (4, .iload_n 2, 1, 0), (5, .invokevirtual 28, 3, 0), (8, .ifCond .eq 7, 3, 0), (11, .lconst 1, 1, 0), (12, .goto 4, 3, 0), (15, .lconst 0, 1, 0), (16, .lastore, 1, 0), (17, .goto 7, 3, 0), (20, .astore 4, 2, 0), (22, .iconst 1, 1, 1), (23, .ireturn, 1, 0), (24, .iconst 0, 1, 0), (25, .ireturn, 1, 0)]
set_option maxRecDepth 20000 in
theorem ok_Lw_clock : mm_ok M_Lw_clock T_Lw_clock := by unfold mm_ok; decide +kernel
def T_Lw_look : mm_T := [(0, .aload_n 3, 1, 0), (1, .iconst 0, 1, 0), (2, .aload_n 0, 1, 0), (3, .iload_n 1, 1, 0), (4, .iload_n 2, 1, 0), (5, .invokevirtual 32, 3, 0), (8, .i2l, 1, 0), (9, .lastore, 1, 0), (10, .goto 7, 3, 0), (13, .astore 4, 2, 0), (15, .iconst 1, 1, 1), (16, .ireturn, 1, 0), (17, .iconst 0, 1, 0), (18, .ireturn, 1, 0)]
set_option maxRecDepth 20000 in
theorem ok_Lw_look : mm_ok M_Lw_look T_Lw_look := by unfold mm_ok; decide +kernel
def T_Lw_value : mm_T := [(0, .aload_n 2, 1, 0), (1, .iconst 0, 1, 0), (2, .aload_n 0, 1, 0), (3, .iload_n 1, 1, 0), (4, .invokevirtual 36, 3, 0), (7, .ifCond .eq 7, 3, 0), (10, .lconst 1, 1, 0), (11, .goto 4, 3, 0), (14, .lconst 0, 1, 0), (15, .lastore, 1, 0), (16, .goto 6, 3, 0), (19, .astore_n 3, 1, 0), (20, .iconst 1, 1, 1), (21, .ireturn, 1, 0), (22, .iconst 0, 1, 0), (23, .ireturn, 1, 0)]
set_option maxRecDepth 20000 in
theorem ok_Lw_value : mm_ok M_Lw_value T_Lw_value := by unfold mm_ok; decide +kernel
def T_Lw_find : mm_T := [(0, .aload_n 1, 1, 0), (1, .iconst 0, 1, 0), (2, .aload_n 0, 1, 0), (3, .invokevirtual 40, 3, 0), (6, .i2l, 1, 0), (7, .lastore, 1, 0), (8, .goto 6, 3, 0), (11, .astore_n 2, 1, 0), (12, .iconst 1, 1, 1), (13, .ireturn, 1, 0), (14, .iconst 0, 1, 0), (15, .ireturn, 1, 0)]
set_option maxRecDepth 20000 in
theorem ok_Lw_find : mm_ok M_Lw_find T_Lw_find := by unfold mm_ok; decide +kernel
def T_Lw_found : mm_T := [(0, .aload_n 2, 1, 0), (1, .iconst 0, 1, 0), (2, .aload_n 0, 1, 0), (3, .iload_n 1, 1, 0), (4, .invokevirtual 44, 3, 0), (7, .i2l, 1, 0), (8, .lastore, 1, 0), (9, .goto 6, 3, 0), (12, .astore_n 3, 1, 0), (13, .iconst 1, 1, 1), (14, .ireturn, 1, 0), (15, .iconst 0, 1, 0), (16, .ireturn, 1, 0)]
set_option maxRecDepth 20000 in
theorem ok_Lw_found : mm_ok M_Lw_found T_Lw_found := by unfold mm_ok; decide +kernel
def T_Lw_test : mm_T := [(0, .aload_n 1, 1, 0), (1, .iconst 0, 1, 0), (2, .aload_n 0, 1, 0), (3, .invokevirtual 50, 3, 0), (6, .i2l, 1, 0), (7, .lastore, 1, 0), (8, .goto 6, 3, 0), (11, .astore_n 2, 1, 0), (12, .iconst 1, 1, 1), (13, .ireturn, 1, 0), (14, .iconst 0, 1, 0), (15, .ireturn, 1, 0)]
set_option maxRecDepth 20000 in
theorem ok_Lw_test : mm_ok M_Lw_test T_Lw_test := by unfold mm_ok; decide +kernel
def T_Lw_saw : mm_T := [(0, .aload_n 2, 1, 0), (1, .iconst 0, 1, 0), (2, .aload_n 0, 1, 0), (3, .iload_n 1, 1, 0), (4, .invokevirtual 53, 3, 0), (7, .i2l, 1, 0), (8, .lastore, 1, 0), (9, .goto 6, 3, 0), (12, .astore_n 3, 1, 0), (13, .iconst 1, 1, 1), (14, .ireturn, 1, 0), (15, .iconst 0, 1, 0), (16, .ireturn, 1, 0)]
set_option maxRecDepth 20000 in
theorem ok_Lw_saw : mm_ok M_Lw_saw T_Lw_saw := by unfold mm_ok; decide +kernel
end
section
/-! code of the law by rows -/
def T_Lw_law_0 : mm_T := [(0, .new 8, 3, 0), (3, .dup, 1, 0), (4, .invokespecial 56, 3, 0), (7, .astore_n 1, 1, 0), (8, .new 57, 3, 0), (11, .dup, 1, 0), (12, .invokespecial 59, 3, 0), (15, .astore_n 2, 1, 0), (16, .iconst 1, 1, 1), (17, .newarray .long, 2, 0), (19, .astore_n 3, 1, 0), (20, .iconst 0, 1, 0), (21, .istore 4, 2, 0), (23, .iload 4, 2, 0), (25, .aload_n 0, 1, 0), (26, .arraylength, 1, 0), (27, .iconst 5, 1, 5), (28, .isub, 1, 0), (29, .if_icmp .gt 865, 3, 0), (32, .aload_n 0, 1, 0), (33, .iload 4, 2, 0), (35, .iaload, 1, 0), (36, .bipush 15, 2, 15), (38, .iand, 1, 0), (39, .tableswitch 849 0 12 #[65, 157, 249, 309, 385, 492, 505, 573, 636, 680, 736, 780, 836], 65, 0)]
set_option maxRecDepth 20000 in
theorem ok_Lw_law_0 : mm_ok M_Lw_law T_Lw_law_0 := by unfold mm_ok; decide +kernel
end
section
/-! code of the law by rows -/
def T_Lw_law_104 : mm_T := [(104, .aload_n 1, 1, 0), (105, .aload_n 0, 1, 0), (106, .iload 4, 2, 0), (108, .iconst 1, 1, 1), (109, .iadd, 1, 0), (110, .iaload, 1, 0), (111, .aload_n 0, 1, 0), (112, .iload 4, 2, 0), (114, .iconst 2, 1, 2), (115, .iadd, 1, 0), (116, .iaload, 1, 0), (117, .aload_n 0, 1, 0), (118, .iload 4, 2, 0), (120, .iconst 3, 1, 3), (121, .iadd, 1, 0), (122, .iaload, 1, 0), (123, .aload_n 0, 1, 0), (124, .iload 4, 2, 0), (126, .iconst 4, 1, 4), (127, .iadd, 1, 0), (128, .iaload, 1, 0), (129, .aload_n 3, 1, 0), (130, .invokestatic 60, 3, 0), (133, .istore 5, 2, 0), (135, .aload_n 2, 1, 0), (136, .aload_n 0, 1, 0), (137, .iload 4, 2, 0), (139, .iconst 1, 1, 1), (140, .iadd, 1, 0), (141, .iaload, 1, 0), (142, .aload_n 0, 1, 0), (143, .iload 4, 2, 0), (145, .iconst 2, 1, 2), (146, .iadd, 1, 0), (147, .iaload, 1, 0), (148, .aload_n 0, 1, 0), (149, .iload 4, 2, 0), (151, .iconst 3, 1, 3), (152, .iadd, 1, 0), (153, .iaload, 1, 0), (154, .aload_n 0, 1, 0), (155, .iload 4, 2, 0), (157, .iconst 4, 1, 4), (158, .iadd, 1, 0), (159, .iaload, 1, 0), (160, .invokevirtual 65, 3, 0), (163, .istore 6, 2, 0), (165, .aload_n 2, 1, 0), (166, .invokevirtual 66, 3, 0), (169, .iload 5, 2, 0), (171, .if_icmp .eq 5, 3, 0), (174, .iconst 0, 1, 0), (175, .ireturn, 1, 0), (176, .iload 5, 2, 0), (178, .ifCond .ne 15, 3, 0), (181, .aload_n 3, 1, 0), (182, .iconst 0, 1, 0), (183, .laload, 1, 0), (184, .iload 6, 2, 0), (186, .i2l, 1, 0), (187, .lcmp, 1, 0), (188, .ifCond .eq 5, 3, 0), (191, .iconst 0, 1, 0), (192, .ireturn, 1, 0), (193, .goto 695, 3, 0)]
set_option maxRecDepth 20000 in
theorem ok_Lw_law_104 : mm_ok M_Lw_law T_Lw_law_104 := by unfold mm_ok; decide +kernel
end
section
/-! code of the law by rows -/
def T_Lw_law_196 : mm_T := [(196, .aload_n 1, 1, 0), (197, .aload_n 0, 1, 0), (198, .iload 4, 2, 0), (200, .iconst 1, 1, 1), (201, .iadd, 1, 0), (202, .iaload, 1, 0), (203, .aload_n 0, 1, 0), (204, .iload 4, 2, 0), (206, .iconst 2, 1, 2), (207, .iadd, 1, 0), (208, .iaload, 1, 0), (209, .aload_n 0, 1, 0), (210, .iload 4, 2, 0), (212, .iconst 3, 1, 3), (213, .iadd, 1, 0), (214, .iaload, 1, 0), (215, .aload_n 0, 1, 0), (216, .iload 4, 2, 0), (218, .iconst 4, 1, 4), (219, .iadd, 1, 0), (220, .iaload, 1, 0), (221, .aload_n 3, 1, 0), (222, .invokestatic 69, 3, 0), (225, .istore 5, 2, 0), (227, .aload_n 2, 1, 0), (228, .aload_n 0, 1, 0), (229, .iload 4, 2, 0), (231, .iconst 1, 1, 1), (232, .iadd, 1, 0), (233, .iaload, 1, 0), (234, .aload_n 0, 1, 0), (235, .iload 4, 2, 0), (237, .iconst 2, 1, 2), (238, .iadd, 1, 0), (239, .iaload, 1, 0), (240, .aload_n 0, 1, 0), (241, .iload 4, 2, 0), (243, .iconst 3, 1, 3), (244, .iadd, 1, 0), (245, .iaload, 1, 0), (246, .aload_n 0, 1, 0), (247, .iload 4, 2, 0), (249, .iconst 4, 1, 4), (250, .iadd, 1, 0), (251, .iaload, 1, 0), (252, .invokevirtual 71, 3, 0), (255, .istore 6, 2, 0), (257, .aload_n 2, 1, 0), (258, .invokevirtual 66, 3, 0), (261, .iload 5, 2, 0), (263, .if_icmp .eq 5, 3, 0), (266, .iconst 0, 1, 0), (267, .ireturn, 1, 0), (268, .iload 5, 2, 0), (270, .ifCond .ne 15, 3, 0), (273, .aload_n 3, 1, 0), (274, .iconst 0, 1, 0), (275, .laload, 1, 0), (276, .iload 6, 2, 0), (278, .i2l, 1, 0), (279, .lcmp, 1, 0), (280, .ifCond .eq 5, 3, 0), (283, .iconst 0, 1, 0), (284, .ireturn, 1, 0), (285, .goto 603, 3, 0)]
set_option maxRecDepth 20000 in
theorem ok_Lw_law_196 : mm_ok M_Lw_law T_Lw_law_196 := by unfold mm_ok; decide +kernel
end
section
/-! code of the law by rows -/
def T_Lw_law_288 : mm_T := [(288, .aload_n 1, 1, 0), (289, .aload_n 0, 1, 0), (290, .iload 4, 2, 0), (292, .iconst 1, 1, 1), (293, .iadd, 1, 0), (294, .iaload, 1, 0), (295, .aload_n 0, 1, 0), (296, .iload 4, 2, 0), (298, .iconst 2, 1, 2), (299, .iadd, 1, 0), (300, .iaload, 1, 0), (301, .aload_n 0, 1, 0), (302, .iload 4, 2, 0), (304, .iconst 3, 1, 3), (305, .iadd, 1, 0), (306, .iaload, 1, 0), (307, .invokestatic 72, 3, 0), (310, .istore 5, 2, 0), (312, .aload_n 2, 1, 0), (313, .aload_n 0, 1, 0), (314, .iload 4, 2, 0), (316, .iconst 1, 1, 1), (317, .iadd, 1, 0), (318, .iaload, 1, 0), (319, .aload_n 0, 1, 0), (320, .iload 4, 2, 0), (322, .iconst 2, 1, 2), (323, .iadd, 1, 0), (324, .iaload, 1, 0), (325, .aload_n 0, 1, 0), (326, .iload 4, 2, 0), (328, .iconst 3, 1, 3), (329, .iadd, 1, 0), (330, .iaload, 1, 0), (331, .invokevirtual 75, 3, 0), (334, .aload_n 2, 1, 0), (335, .invokevirtual 66, 3, 0), (338, .iload 5, 2, 0), (340, .if_icmp .eq 5, 3, 0), (343, .iconst 0, 1, 0), (344, .ireturn, 1, 0), (345, .goto 543, 3, 0)]
set_option maxRecDepth 20000 in
theorem ok_Lw_law_288 : mm_ok M_Lw_law T_Lw_law_288 := by unfold mm_ok; decide +kernel
end
section
/-! code of the law by rows -/
def T_Lw_law_348 : mm_T := [(348, .aload_n 1, 1, 0), (349, .aload_n 0, 1, 0), (350, .iload 4, 2, 0), (352, .iconst 1, 1, 1), (353, .iadd, 1, 0), (354, .iaload, 1, 0), (355, .aload_n 0, 1, 0), (356, .iload 4, 2, 0), (358, .iconst 2, 1, 2), (359, .iadd, 1, 0), (360, .iaload, 1, 0), (361, .aload_n 0, 1, 0), (362, .iload 4, 2, 0), (364, .iconst 3, 1, 3), (365, .iadd, 1, 0), (366, .iaload, 1, 0), (367, .ifCond .eq 7, 3, 0), (370, .iconst 1, 1, 1), (371, .goto 4, 3, 0), (374, .iconst 0, 1, 0), (375, .invokestatic 76, 3, 0), (378, .istore 5, 2, 0), (380, .aload_n 2, 1, 0), (381, .aload_n 0, 1, 0), (382, .iload 4, 2, 0), (384, .iconst 1, 1, 1), (385, .iadd, 1, 0), (386, .iaload, 1, 0), (387, .aload_n 0, 1, 0), (388, .iload 4, 2, 0), (390, .iconst 2, 1, 2), (391, .iadd, 1, 0), (392, .iaload, 1, 0), (393, .aload_n 0, 1, 0), (394, .iload 4, 2, 0), (396, .iconst 3, 1, 3), (397, .iadd, 1, 0), (398, .iaload, 1, 0), (399, .ifCond .eq 7, 3, 0), (402, .iconst 1, 1, 1), (403, .goto 4, 3, 0), (406, .iconst 0, 1, 0), (407, .invokevirtual 79, 3, 0), (410, .aload_n 2, 1, 0), (411, .invokevirtual 66, 3, 0), (414, .iload 5, 2, 0), (416, .if_icmp .eq 5, 3, 0), (419, .iconst 0, 1, 0), (420, .ireturn, 1, 0), (421, .goto 467, 3, 0)]
set_option maxRecDepth 20000 in
theorem ok_Lw_law_348 : mm_ok M_Lw_law T_Lw_law_348 := by unfold mm_ok; decide +kernel
end
section
/-! code of the law by rows -/
def T_Lw_law_424 : mm_T := [(424, .aload_n 1, 1, 0), (425, .aload_n 0, 1, 0), (426, .iload 4, 2, 0), (428, .iconst 1, 1, 1), (429, .iadd, 1, 0), (430, .iaload, 1, 0), (431, .ifCond .eq 7, 3, 0), (434, .iconst 1, 1, 1), (435, .goto 4, 3, 0), (438, .iconst 0, 1, 0), (439, .aload_n 0, 1, 0), (440, .iload 4, 2, 0), (442, .iconst 2, 1, 2), (443, .iadd, 1, 0), (444, .iaload, 1, 0), (445, .ifCond .eq 7, 3, 0), (448, .iconst 1, 1, 1), (449, .goto 4, 3, 0), (452, .iconst 0, 1, 0), (453, .aload_n 3, 1, 0), (454, .invokestatic 80, 3, 0), (457, .istore 5, 2, 0), (459, .aload_n 2, 1, 0), (460, .aload_n 0, 1, 0), (461, .iload 4, 2, 0), (463, .iconst 1, 1, 1), (464, .iadd, 1, 0), (465, .iaload, 1, 0), (466, .ifCond .eq 7, 3, 0), (469, .iconst 1, 1, 1), (470, .goto 4, 3, 0), (473, .iconst 0, 1, 0), (474, .aload_n 0, 1, 0), (475, .iload 4, 2, 0), (477, .iconst 2, 1, 2), (478, .iadd, 1, 0), (479, .iaload, 1, 0), (480, .ifCond .eq 7, 3, 0), (483, .iconst 1, 1, 1), (484, .goto 4, 3, 0), (487, .iconst 0, 1, 0), (488, .invokevirtual 83, 3, 0), (491, .istore 6, 2, 0), (493, .aload_n 2, 1, 0), (494, .invokevirtual 66, 3, 0), (497, .iload 5, 2, 0), (499, .if_icmp .eq 5, 3, 0), (502, .iconst 0, 1, 0), (503, .ireturn, 1, 0), (504, .iload 5, 2, 0), (506, .ifCond .ne 22, 3, 0), (509, .aload_n 3, 1, 0), (510, .iconst 0, 1, 0), (511, .laload, 1, 0), (512, .iload 6, 2, 0), (514, .ifCond .eq 7, 3, 0), (517, .lconst 1, 1, 0), (518, .goto 4, 3, 0), (521, .lconst 0, 1, 0), (522, .lcmp, 1, 0), (523, .ifCond .eq 5, 3, 0), (526, .iconst 0, 1, 0), (527, .ireturn, 1, 0), (528, .goto 360, 3, 0)]
set_option maxRecDepth 20000 in
theorem ok_Lw_law_424 : mm_ok M_Lw_law T_Lw_law_424 := by unfold mm_ok; decide +kernel
end
section
/-! code of the law by rows -/
def T_Lw_law_531 : mm_T := [(531, .aload_n 1, 1, 0), (532, .invokevirtual 84, 3, 0), (535, .aload_n 2, 1, 0), (536, .invokevirtual 87, 3, 0), (539, .if_icmp .eq 349, 3, 0), (542, .iconst 0, 1, 0), (543, .ireturn, 1, 0)]
set_option maxRecDepth 20000 in
theorem ok_Lw_law_531 : mm_ok M_Lw_law T_Lw_law_531 := by unfold mm_ok; decide +kernel
def T_Lw_law_544 : mm_T := [(544, .aload_n 1, 1, 0), (545, .aload_n 0, 1, 0), (546, .iload 4, 2, 0), (548, .iconst 1, 1, 1), (549, .iadd, 1, 0), (550, .iaload, 1, 0), (551, .aload_n 0, 1, 0), (552, .iload 4, 2, 0), (554, .iconst 2, 1, 2), (555, .iadd, 1, 0), (556, .iaload, 1, 0), (557, .aload_n 3, 1, 0), (558, .invokestatic 88, 3, 0), (561, .istore 5, 2, 0), (563, .aload_n 2, 1, 0), (564, .aload_n 0, 1, 0), (565, .iload 4, 2, 0), (567, .iconst 1, 1, 1), (568, .iadd, 1, 0), (569, .iaload, 1, 0), (570, .aload_n 0, 1, 0), (571, .iload 4, 2, 0), (573, .iconst 2, 1, 2), (574, .iadd, 1, 0), (575, .iaload, 1, 0), (576, .invokevirtual 91, 3, 0), (579, .istore 6, 2, 0), (581, .aload_n 2, 1, 0), (582, .invokevirtual 66, 3, 0), (585, .iload 5, 2, 0), (587, .if_icmp .eq 5, 3, 0), (590, .iconst 0, 1, 0), (591, .ireturn, 1, 0), (592, .iload 5, 2, 0), (594, .ifCond .ne 15, 3, 0), (597, .aload_n 3, 1, 0), (598, .iconst 0, 1, 0), (599, .laload, 1, 0), (600, .iload 6, 2, 0), (602, .i2l, 1, 0), (603, .lcmp, 1, 0), (604, .ifCond .eq 5, 3, 0), (607, .iconst 0, 1, 0), (608, .ireturn, 1, 0), (609, .goto 279, 3, 0)]
set_option maxRecDepth 20000 in
theorem ok_Lw_law_544 : mm_ok M_Lw_law T_Lw_law_544 := by unfold mm_ok; decide +kernel
end
section
/-! code of the law by rows -/
def T_Lw_law_612 : mm_T := [(612, .aload_n 1, 1, 0), (613, .aload_n 0, 1, 0), (614, .iload 4, 2, 0), (616, .iconst 1, 1, 1), (617, .iadd, 1, 0), (618, .iaload, 1, 0), (619, .aload_n 3, 1, 0), (620, .invokestatic 92, 3, 0), (623, .istore 5, 2, 0), (625, .aload_n 2, 1, 0), (626, .aload_n 0, 1, 0), (627, .iload 4, 2, 0), (629, .iconst 1, 1, 1), (630, .iadd, 1, 0), (631, .iaload, 1, 0), (632, .invokevirtual 95, 3, 0), (635, .istore 6, 2, 0), (637, .aload_n 2, 1, 0), (638, .invokevirtual 66, 3, 0), (641, .iload 5, 2, 0), (643, .if_icmp .eq 5, 3, 0), (646, .iconst 0, 1, 0), (647, .ireturn, 1, 0), (648, .iload 5, 2, 0), (650, .ifCond .ne 22, 3, 0), (653, .aload_n 3, 1, 0), (654, .iconst 0, 1, 0), (655, .laload, 1, 0), (656, .iload 6, 2, 0), (658, .ifCond .eq 7, 3, 0), (661, .lconst 1, 1, 0), (662, .goto 4, 3, 0), (665, .lconst 0, 1, 0), (666, .lcmp, 1, 0), (667, .ifCond .eq 5, 3, 0), (670, .iconst 0, 1, 0), (671, .ireturn, 1, 0), (672, .goto 216, 3, 0)]
set_option maxRecDepth 20000 in
theorem ok_Lw_law_612 : mm_ok M_Lw_law T_Lw_law_612 := by unfold mm_ok; decide +kernel
def T_Lw_law_675 : mm_T := [(675, .aload_n 1, 1, 0), (676, .aload_n 3, 1, 0), (677, .invokestatic 96, 3, 0), (680, .istore 5, 2, 0), (682, .aload_n 2, 1, 0), (683, .invokevirtual 99, 3, 0), (686, .istore 6, 2, 0), (688, .aload_n 2, 1, 0), (689, .invokevirtual 66, 3, 0), (692, .iload 5, 2, 0), (694, .if_icmp .eq 5, 3, 0), (697, .iconst 0, 1, 0), (698, .ireturn, 1, 0), (699, .iload 5, 2, 0), (701, .ifCond .ne 15, 3, 0), (704, .aload_n 3, 1, 0), (705, .iconst 0, 1, 0), (706, .laload, 1, 0), (707, .iload 6, 2, 0), (709, .i2l, 1, 0), (710, .lcmp, 1, 0), (711, .ifCond .eq 5, 3, 0), (714, .iconst 0, 1, 0), (715, .ireturn, 1, 0), (716, .goto 172, 3, 0)]
set_option maxRecDepth 20000 in
theorem ok_Lw_law_675 : mm_ok M_Lw_law T_Lw_law_675 := by unfold mm_ok; decide +kernel
end
section
/-! code of the law by rows -/
def T_Lw_law_719 : mm_T := [(719, .aload_n 1, 1, 0), (720, .aload_n 0, 1, 0), (721, .iload 4, 2, 0), (723, .iconst 1, 1, 1), (724, .iadd, 1, 0), (725, .iaload, 1, 0), (726, .aload_n 3, 1, 0), (727, .invokestatic 100, 3, 0), (730, .istore 5, 2, 0), (732, .aload_n 2, 1, 0), (733, .aload_n 0, 1, 0), (734, .iload 4, 2, 0), (736, .iconst 1, 1, 1), (737, .iadd, 1, 0), (738, .iaload, 1, 0), (739, .invokevirtual 102, 3, 0), (742, .istore 6, 2, 0), (744, .aload_n 2, 1, 0), (745, .invokevirtual 66, 3, 0), (748, .iload 5, 2, 0), (750, .if_icmp .eq 5, 3, 0), (753, .iconst 0, 1, 0), (754, .ireturn, 1, 0), (755, .iload 5, 2, 0), (757, .ifCond .ne 15, 3, 0), (760, .aload_n 3, 1, 0), (761, .iconst 0, 1, 0), (762, .laload, 1, 0), (763, .iload 6, 2, 0), (765, .i2l, 1, 0), (766, .lcmp, 1, 0), (767, .ifCond .eq 5, 3, 0), (770, .iconst 0, 1, 0), (771, .ireturn, 1, 0), (772, .goto 116, 3, 0)]
set_option maxRecDepth 20000 in
theorem ok_Lw_law_719 : mm_ok M_Lw_law T_Lw_law_719 := by unfold mm_ok; decide +kernel
def T_Lw_law_775 : mm_T := [(775, .aload_n 1, 1, 0), (776, .aload_n 3, 1, 0), (777, .invokestatic 103, 3, 0), (780, .istore 5, 2, 0), (782, .aload_n 2, 1, 0), (783, .invokevirtual 105, 3, 0), (786, .istore 6, 2, 0), (788, .aload_n 2, 1, 0), (789, .invokevirtual 66, 3, 0), (792, .iload 5, 2, 0), (794, .if_icmp .eq 5, 3, 0), (797, .iconst 0, 1, 0), (798, .ireturn, 1, 0), (799, .iload 5, 2, 0), (801, .ifCond .ne 15, 3, 0), (804, .aload_n 3, 1, 0), (805, .iconst 0, 1, 0), (806, .laload, 1, 0), (807, .iload 6, 2, 0), (809, .i2l, 1, 0), (810, .lcmp, 1, 0), (811, .ifCond .eq 5, 3, 0), (814, .iconst 0, 1, 0), (815, .ireturn, 1, 0), (816, .goto 72, 3, 0)]
set_option maxRecDepth 20000 in
theorem ok_Lw_law_775 : mm_ok M_Lw_law T_Lw_law_775 := by unfold mm_ok; decide +kernel
end
section
/-! code of the law by rows -/
def T_Lw_law_819 : mm_T := [(819, .aload_n 1, 1, 0), (820, .aload_n 0, 1, 0), (821, .iload 4, 2, 0), (823, .iconst 1, 1, 1), (824, .iadd, 1, 0), (825, .iaload, 1, 0), (826, .aload_n 3, 1, 0), (827, .invokestatic 106, 3, 0), (830, .istore 5, 2, 0), (832, .aload_n 2, 1, 0), (833, .aload_n 0, 1, 0), (834, .iload 4, 2, 0), (836, .iconst 1, 1, 1), (837, .iadd, 1, 0), (838, .iaload, 1, 0), (839, .invokevirtual 108, 3, 0), (842, .istore 6, 2, 0), (844, .aload_n 2, 1, 0), (845, .invokevirtual 66, 3, 0), (848, .iload 5, 2, 0), (850, .if_icmp .eq 5, 3, 0), (853, .iconst 0, 1, 0), (854, .ireturn, 1, 0), (855, .iload 5, 2, 0), (857, .ifCond .ne 15, 3, 0), (860, .aload_n 3, 1, 0), (861, .iconst 0, 1, 0), (862, .laload, 1, 0), (863, .iload 6, 2, 0), (865, .i2l, 1, 0), (866, .lcmp, 1, 0), (867, .ifCond .eq 5, 3, 0), (870, .iconst 0, 1, 0), (871, .ireturn, 1, 0), (872, .goto 16, 3, 0)]
set_option maxRecDepth 20000 in
theorem ok_Lw_law_819 : mm_ok M_Lw_law T_Lw_law_819 := by unfold mm_ok; decide +kernel
def T_Lw_law_875 : mm_T := [(875, .aload_n 1, 1, 0), (876, .invokevirtual 109, 3, 0), (879, .aload_n 2, 1, 0), (880, .invokevirtual 112, 3, 0), (883, .if_icmp .eq 5, 3, 0), (886, .iconst 0, 1, 0), (887, .ireturn, 1, 0)]
set_option maxRecDepth 20000 in
theorem ok_Lw_law_875 : mm_ok M_Lw_law T_Lw_law_875 := by unfold mm_ok; decide +kernel
def T_Lw_law_888 : mm_T := [(888, .iinc 4 5, 3, 5), (891, .goto (-868), 3, 0), (894, .iconst 1, 1, 1), (895, .ireturn, 1, 0)]
set_option maxRecDepth 20000 in
theorem ok_Lw_law_888 : mm_ok M_Lw_law T_Lw_law_888 := by unfold mm_ok; decide +kernel
end
section
/-! links, by a look at the words -/
theorem f_Dv_9 : mm_fok RX0 9 "ChainBench$Device" 1 0 = true := by decide +kernel
theorem f_Dv_15 : mm_fok RX0 15 "ChainBench$Device" 1 1 = true := by decide +kernel
theorem f_Dv_18 : mm_fok RX0 18 "ChainBench$Device" 1 2 = true := by decide +kernel
theorem f_Dv_21 : mm_fok RX0 21 "ChainBench$Device" 1 3 = true := by decide +kernel
theorem f_Dv_24 : mm_fok RX0 24 "ChainBench$Device" 1 7 = true := by decide +kernel
theorem f_Dv_27 : mm_fok RX0 27 "ChainBench$Device" 1 4 = true := by decide +kernel
theorem f_Dv_30 : mm_fok RX0 30 "ChainBench$Device" 1 6 = true := by decide +kernel
theorem f_Dv_33 : mm_fok RX0 33 "ChainBench$Device" 1 5 = true := by decide +kernel
theorem f_Dv_40 : mm_fok RX0 40 "ChainBench$Device" 1 9 = true := by decide +kernel
theorem f_Dv_51 : mm_fok RX0 51 "ChainBench$Device" 1 8 = true := by decide +kernel
theorem f_Nt_9 : mm_fok RX1 9 "ChainBench$Net" 2 0 = true := by decide +kernel
theorem f_Nt_15 : mm_fok RX1 15 "ChainBench$Net" 2 1 = true := by decide +kernel
theorem f_Nt_19 : mm_fok RX1 19 "ChainBench$Net" 2 2 = true := by decide +kernel
theorem f_Nt_22 : mm_fok RX1 22 "ChainBench$Net" 2 3 = true := by decide +kernel
theorem f_Nt_25 : mm_fok RX1 25 "ChainBench$Net" 2 4 = true := by decide +kernel
theorem f_Nt_34 : mm_fok RX1 34 "ChainBench$Net" 2 5 = true := by decide +kernel
theorem f_Cb_12 : mm_fok RX2 12 "ChainBench" 3 0 = true := by decide +kernel
theorem f_Cb_16 : mm_fok RX2 16 "ChainBench" 3 1 = true := by decide +kernel
theorem f_Cb_19 : mm_fok RX2 19 "ChainBench" 3 2 = true := by decide +kernel
theorem f_Cb_23 : mm_fok RX2 23 "ChainBench" 3 4 = true := by decide +kernel
theorem f_Cb_27 : mm_fok RX2 27 "ChainBench" 3 5 = true := by decide +kernel
theorem f_Cb_76 : mm_fok RX2 76 "ChainBench" 3 7 = true := by decide +kernel
theorem f_Cb_105 : mm_fok RX2 105 "ChainBench$Device" 1 7 = true := by decide +kernel
theorem f_Cb_108 : mm_fok RX2 108 "ChainBench$Device" 1 8 = true := by decide +kernel
theorem f_Cb_111 : mm_fok RX2 111 "ChainBench$Device" 1 5 = true := by decide +kernel
theorem f_Cb_131 : mm_fok RX2 131 "ChainBench" 3 6 = true := by decide +kernel
theorem f_Cb_157 : mm_fok RX2 157 "ChainBench$Net" 2 6 = true := by decide +kernel
theorem f_Cb_160 : mm_fok RX2 160 "ChainBench" 3 3 = true := by decide +kernel
theorem f_Cb_163 : mm_fok RX2 163 "ChainBench$Device" 1 2 = true := by decide +kernel
theorem f_Cb_197 : mm_fok RX2 197 "ChainBench$Net" 2 2 = true := by decide +kernel
theorem f_Cb_201 : mm_fok RX2 201 "ChainBench$Net" 2 3 = true := by decide +kernel
theorem f_Cb_204 : mm_fok RX2 204 "ChainBench$Device" 1 0 = true := by decide +kernel
theorem f_Cb_207 : mm_fok RX2 207 "ChainBench$Net" 2 0 = true := by decide +kernel
theorem f_Cb_210 : mm_fok RX2 210 "ChainBench$Net" 2 1 = true := by decide +kernel
theorem f_Md_7 : mm_fok RX3 7 "ChainBenchModel" 4 2 = true := by decide +kernel
theorem f_Md_13 : mm_fok RX3 13 "ChainBenchModel" 4 3 = true := by decide +kernel
theorem f_Md_16 : mm_fok RX3 16 "ChainBenchModel" 4 4 = true := by decide +kernel
theorem f_Md_19 : mm_fok RX3 19 "ChainBenchModel" 4 5 = true := by decide +kernel
theorem f_Md_22 : mm_fok RX3 22 "ChainBenchModel" 4 6 = true := by decide +kernel
theorem f_Md_25 : mm_fok RX3 25 "ChainBenchModel" 4 7 = true := by decide +kernel
theorem f_Md_28 : mm_fok RX3 28 "ChainBenchModel" 4 8 = true := by decide +kernel
theorem f_Md_31 : mm_fok RX3 31 "ChainBenchModel" 4 9 = true := by decide +kernel
theorem f_Md_34 : mm_fok RX3 34 "ChainBenchModel" 4 10 = true := by decide +kernel
theorem f_Md_38 : mm_fok RX3 38 "ChainBenchModel" 4 11 = true := by decide +kernel
theorem f_Md_41 : mm_fok RX3 41 "ChainBenchModel" 4 12 = true := by decide +kernel
theorem f_Md_44 : mm_fok RX3 44 "ChainBenchModel" 4 13 = true := by decide +kernel
theorem f_Md_47 : mm_fok RX3 47 "ChainBenchModel" 4 15 = true := by decide +kernel
theorem f_Md_50 : mm_fok RX3 50 "ChainBenchModel" 4 16 = true := by decide +kernel
theorem f_Md_53 : mm_fok RX3 53 "ChainBenchModel" 4 17 = true := by decide +kernel
theorem f_Md_56 : mm_fok RX3 56 "ChainBenchModel" 4 18 = true := by decide +kernel
theorem f_Md_59 : mm_fok RX3 59 "ChainBenchModel" 4 22 = true := by decide +kernel
theorem f_Md_62 : mm_fok RX3 62 "ChainBenchModel" 4 0 = true := by decide +kernel
theorem f_Md_66 : mm_fok RX3 66 "ChainBenchModel" 4 1 = true := by decide +kernel
theorem f_Md_69 : mm_fok RX3 69 "ChainBenchModel" 4 19 = true := by decide +kernel
theorem f_Md_72 : mm_fok RX3 72 "ChainBenchModel" 4 20 = true := by decide +kernel
theorem f_Md_75 : mm_fok RX3 75 "ChainBenchModel" 4 21 = true := by decide +kernel
theorem f_Md_78 : mm_fok RX3 78 "ChainBenchModel" 4 23 = true := by decide +kernel
theorem f_Md_89 : mm_fok RX3 89 "ChainBenchModel" 4 14 = true := by decide +kernel
theorem f_As_7 : mm_fok RJxc12de 7 "java/util/AbstractList" 0 0 = true := by decide +kernel
theorem f_Al_9 : mm_fok RJx4a65c 9 "java/util/ArrayList" 0 1 = true := by decide +kernel
theorem f_Al_48 : mm_fok RJx4a65c 48 "java/util/ArrayList" 0 2 = true := by decide +kernel
theorem f_Al_63 : mm_fok RJx4a65c 63 "java/util/ArrayList" 0 0 = true := by decide +kernel
theorem oi_Dv_3 : (mm_in (.methodLink RX0 3 objectInit) && mm_in (.instanceMethod objectInit) && mm_in (.code objectInit ⟨#[0xb1]⟩ 1 none)) = true := by decide +kernel
theorem k_Dv_dataLength_36 : mm_vok M_Dv_dataLength M_Dv_hasBoundary 36 0 = true := by decide +kernel
theorem k_Dv_captureData_36 : mm_vok M_Dv_captureData M_Dv_hasBoundary 36 0 = true := by decide +kernel
theorem k_Dv_shiftData_43 : mm_vok M_Dv_shiftData M_Dv_dataLength 43 0 = true := by decide +kernel
theorem k_Dv_shiftData_47 : mm_sok M_Dv_shiftData M_Dv_shiftedDown 47 3 = true := by decide +kernel
theorem k_Dv_shiftInstruction_47 : mm_sok M_Dv_shiftInstruction M_Dv_shiftedDown 47 3 = true := by decide +kernel
theorem k_Dv_updateData_36 : mm_vok M_Dv_updateData M_Dv_hasBoundary 36 0 = true := by decide +kernel
theorem oi_Nt_3 : (mm_in (.methodLink RX1 3 objectInit) && mm_in (.instanceMethod objectInit) && mm_in (.code objectInit ⟨#[0xb1]⟩ 1 none)) = true := by decide +kernel
theorem k_Nt_carries_28 : mm_vok M_Nt_carries M_Dv_outputs 28 0 = true := by decide +kernel
theorem k_Nt_breakAlone_38 : mm_vok M_Nt_breakAlone M_Nt_mend 38 0 = true := by decide +kernel
theorem k_Nt_breakWith_38 : mm_vok M_Nt_breakWith M_Nt_mend 38 0 = true := by decide +kernel
theorem oi_Cb_3 : (mm_in (.methodLink RX2 3 objectInit) && mm_in (.instanceMethod objectInit) && mm_in (.code objectInit ⟨#[0xb1]⟩ 1 none)) = true := by decide +kernel
theorem k_Cb_init_11 : mm_iok M_Cb_init M_Al_init 11 0 = true := by decide +kernel
theorem n_Cb_9 : mm_nok RX2 9 0 3 = true := by decide +kernel
theorem k_Cb_device_33 : mm_vok M_Cb_device M_Al_size 33 0 = true := by decide +kernel
theorem k_Cb_device_42 : mm_iok M_Cb_device M_Dv_init 42 4 = true := by decide +kernel
theorem k_Cb_device_45 : mm_vok M_Cb_device M_Al_add 45 1 = true := by decide +kernel
theorem k_Cb_device_49 : mm_vok M_Cb_device M_Cb_restartDevices 49 0 = true := by decide +kernel
theorem x_Cb_30_32 : mm_tok RX2 30 32 "java/lang/IllegalArgumentException" ["java/lang/RuntimeException", "java/lang/Exception"] = true := by decide +kernel
theorem x_Cb_37_39 : mm_tok RX2 37 39 "java/lang/IllegalStateException" ["java/lang/RuntimeException", "java/lang/Exception"] = true := by decide +kernel
theorem n_Cb_40 : mm_nok RX2 40 1 10 = true := by decide +kernel
theorem k_Cb_net_52 : mm_vok M_Cb_net M_Cb_isCell 52 2 = true := by decide +kernel
theorem k_Cb_net_56 : mm_vok M_Cb_net M_Al_get 56 1 = true := by decide +kernel
theorem k_Cb_net_60 : mm_vok M_Cb_net M_Dv_drives 60 1 = true := by decide +kernel
theorem k_Cb_net_64 : mm_vok M_Cb_net M_Dv_isWired 64 1 = true := by decide +kernel
theorem k_Cb_net_33 : mm_vok M_Cb_net M_Al_size 33 0 = true := by decide +kernel
theorem k_Cb_net_67 : mm_vok M_Cb_net M_Dv_wire 67 1 = true := by decide +kernel
theorem k_Cb_net_73 : mm_iok M_Cb_net M_Nt_init 73 4 = true := by decide +kernel
theorem k_Cb_net_45 : mm_vok M_Cb_net M_Al_add 45 1 = true := by decide +kernel
theorem cc_Cb_40 : mm_cok RX2 40 1 = true := by decide +kernel
theorem n_Cb_71 : mm_nok RX2 71 2 7 = true := by decide +kernel
theorem k_Cb_fault_80 : mm_vok M_Cb_fault M_Cb_isNet 80 1 = true := by decide +kernel
theorem k_Cb_fault_56 : mm_vok M_Cb_fault M_Al_get 56 1 = true := by decide +kernel
theorem k_Cb_fault_83 : mm_vok M_Cb_fault M_Nt_breakAlone 83 1 = true := by decide +kernel
theorem k_Cb_fault_86 : mm_vok M_Cb_fault M_Nt_breakWith 86 2 = true := by decide +kernel
theorem cc_Cb_71 : mm_cok RX2 71 2 = true := by decide +kernel
theorem k_Cb_core_52 : mm_vok M_Cb_core M_Cb_isCell 52 2 = true := by decide +kernel
theorem k_Cb_core_56 : mm_vok M_Cb_core M_Al_get 56 1 = true := by decide +kernel
theorem k_Cb_core_60 : mm_vok M_Cb_core M_Dv_drives 60 1 = true := by decide +kernel
theorem k_Cb_core_90 : mm_vok M_Cb_core M_Dv_setCore 90 2 = true := by decide +kernel
theorem k_Cb_clock_94 : mm_vok M_Cb_clock M_Al_isEmpty 94 0 = true := by decide +kernel
theorem k_Cb_clock_98 : mm_vok M_Cb_clock M_Cb_step 98 2 = true := by decide +kernel
theorem k_Cb_look_102 : mm_vok M_Cb_look M_Cb_isDevice 102 1 = true := by decide +kernel
theorem k_Cb_look_56 : mm_vok M_Cb_look M_Al_get 56 1 = true := by decide +kernel
theorem k_Cb_look_114 : mm_vok M_Cb_look M_Cb_signalsOf 114 1 = true := by decide +kernel
theorem k_Cb_value_80 : mm_vok M_Cb_value M_Cb_isNet 80 1 = true := by decide +kernel
theorem k_Cb_value_56 : mm_vok M_Cb_value M_Al_get 56 1 = true := by decide +kernel
theorem k_Cb_value_118 : mm_vok M_Cb_value M_Nt_carries 118 0 = true := by decide +kernel
theorem k_Cb_find_94 : mm_vok M_Cb_find M_Al_isEmpty 94 0 = true := by decide +kernel
theorem k_Cb_find_121 : mm_vok M_Cb_find M_Cb_goToIdle 121 0 = true := by decide +kernel
theorem k_Cb_find_124 : mm_vok M_Cb_find M_Cb_scan 124 2 = true := by decide +kernel
theorem k_Cb_find_128 : mm_vok M_Cb_find M_Cb_wordsBeforeAllOnes 128 0 = true := by decide +kernel
theorem x_Cb_134_136 : mm_tok RX2 134 136 "java/lang/IndexOutOfBoundsException" ["java/lang/RuntimeException", "java/lang/Exception"] = true := by decide +kernel
theorem k_Cb_test_94 : mm_vok M_Cb_test M_Al_isEmpty 94 0 = true := by decide +kernel
theorem k_Cb_test_121 : mm_vok M_Cb_test M_Cb_goToIdle 121 0 = true := by decide +kernel
theorem k_Cb_test_137 : mm_vok M_Cb_test M_Cb_giveAllExtest 137 0 = true := by decide +kernel
theorem k_Cb_test_140 : mm_vok M_Cb_test M_Cb_forgetSeen 140 0 = true := by decide +kernel
theorem k_Cb_test_33 : mm_vok M_Cb_test M_Al_size 33 0 = true := by decide +kernel
theorem k_Cb_test_143 : mm_vok M_Cb_test M_Cb_patternOfRound 143 1 = true := by decide +kernel
theorem k_Cb_test_147 : mm_vok M_Cb_test M_Cb_allCells 147 0 = true := by decide +kernel
theorem k_Cb_test_124 : mm_vok M_Cb_test M_Cb_scan 124 2 = true := by decide +kernel
theorem k_Cb_test_150 : mm_vok M_Cb_test M_Cb_noteSeen 150 2 = true := by decide +kernel
theorem k_Cb_test_154 : mm_vok M_Cb_test M_Cb_countFaulty 154 0 = true := by decide +kernel
theorem k_Cb_saw_80 : mm_vok M_Cb_saw M_Cb_isNet 80 1 = true := by decide +kernel
theorem k_Cb_saw_56 : mm_vok M_Cb_saw M_Al_get 56 1 = true := by decide +kernel
theorem k_Cb_isDevice_33 : mm_vok M_Cb_isDevice M_Al_size 33 0 = true := by decide +kernel
theorem k_Cb_isCell_102 : mm_vok M_Cb_isCell M_Cb_isDevice 102 1 = true := by decide +kernel
theorem k_Cb_isCell_56 : mm_vok M_Cb_isCell M_Al_get 56 1 = true := by decide +kernel
theorem k_Cb_isNet_33 : mm_vok M_Cb_isNet M_Al_size 33 0 = true := by decide +kernel
theorem k_Cb_restartDevices_166 : mm_vok M_Cb_restartDevices M_Cb_enterState 166 1 = true := by decide +kernel
theorem k_Cb_restartDevices_33 : mm_vok M_Cb_restartDevices M_Al_size 33 0 = true := by decide +kernel
theorem k_Cb_restartDevices_56 : mm_vok M_Cb_restartDevices M_Al_get 56 1 = true := by decide +kernel
theorem k_Cb_restartDevices_169 : mm_vok M_Cb_restartDevices M_Dv_clearOutputs 169 0 = true := by decide +kernel
theorem k_Cb_step_172 : mm_vok M_Cb_step M_Cb_doState 172 1 = true := by decide +kernel
theorem k_Cb_step_166 : mm_vok M_Cb_step M_Cb_enterState 166 1 = true := by decide +kernel
theorem gs_Cb_176 : mm_in (.fieldLink RX2 176 "ChainBench" "AFTER_TMS_1" "[I") = true := by decide +kernel
theorem gs_Cb_179 : mm_in (.fieldLink RX2 179 "ChainBench" "AFTER_TMS_0" "[I") = true := by decide +kernel
theorem k_Cb_enterState_33 : mm_vok M_Cb_enterState M_Al_size 33 0 = true := by decide +kernel
theorem k_Cb_enterState_56 : mm_vok M_Cb_enterState M_Al_get 56 1 = true := by decide +kernel
theorem k_Cb_doState_33 : mm_vok M_Cb_doState M_Al_size 33 0 = true := by decide +kernel
theorem k_Cb_doState_56 : mm_vok M_Cb_doState M_Al_get 56 1 = true := by decide +kernel
theorem k_Cb_doState_114 : mm_vok M_Cb_doState M_Cb_signalsOf 114 1 = true := by decide +kernel
theorem k_Cb_doState_182 : mm_vok M_Cb_doState M_Dv_captureData 182 1 = true := by decide +kernel
theorem k_Cb_doState_185 : mm_vok M_Cb_doState M_Dv_shiftData 185 1 = true := by decide +kernel
theorem k_Cb_doState_188 : mm_vok M_Cb_doState M_Dv_updateData 188 0 = true := by decide +kernel
theorem k_Cb_doState_191 : mm_vok M_Cb_doState M_Dv_shiftInstruction 191 1 = true := by decide +kernel
theorem k_Cb_signalsOf_194 : mm_vok M_Cb_signalsOf M_Dv_outputs 194 0 = true := by decide +kernel
theorem k_Cb_signalsOf_33 : mm_vok M_Cb_signalsOf M_Al_size 33 0 = true := by decide +kernel
theorem k_Cb_signalsOf_56 : mm_vok M_Cb_signalsOf M_Al_get 56 1 = true := by decide +kernel
theorem k_Cb_signalsOf_118 : mm_vok M_Cb_signalsOf M_Nt_carries 118 0 = true := by decide +kernel
theorem k_Cb_goToIdle_98 : mm_vok M_Cb_goToIdle M_Cb_step 98 2 = true := by decide +kernel
theorem k_Cb_scan_98 : mm_vok M_Cb_scan M_Cb_step 98 2 = true := by decide +kernel
theorem k_Cb_giveAllExtest_33 : mm_vok M_Cb_giveAllExtest M_Al_size 33 0 = true := by decide +kernel
theorem k_Cb_giveAllExtest_56 : mm_vok M_Cb_giveAllExtest M_Al_get 56 1 = true := by decide +kernel
theorem k_Cb_giveAllExtest_124 : mm_vok M_Cb_giveAllExtest M_Cb_scan 124 2 = true := by decide +kernel
theorem k_Cb_allCells_33 : mm_vok M_Cb_allCells M_Al_size 33 0 = true := by decide +kernel
theorem k_Cb_allCells_56 : mm_vok M_Cb_allCells M_Al_get 56 1 = true := by decide +kernel
theorem k_Cb_forgetSeen_33 : mm_vok M_Cb_forgetSeen M_Al_size 33 0 = true := by decide +kernel
theorem k_Cb_forgetSeen_56 : mm_vok M_Cb_forgetSeen M_Al_get 56 1 = true := by decide +kernel
theorem k_Cb_patternOfRound_33 : mm_vok M_Cb_patternOfRound M_Al_size 33 0 = true := by decide +kernel
theorem k_Cb_patternOfRound_56 : mm_vok M_Cb_patternOfRound M_Al_get 56 1 = true := by decide +kernel
theorem k_Cb_patternOfRound_213 : mm_vok M_Cb_patternOfRound M_Cb_placeInScan 213 2 = true := by decide +kernel
theorem k_Cb_noteSeen_33 : mm_vok M_Cb_noteSeen M_Al_size 33 0 = true := by decide +kernel
theorem k_Cb_noteSeen_56 : mm_vok M_Cb_noteSeen M_Al_get 56 1 = true := by decide +kernel
theorem k_Cb_noteSeen_213 : mm_vok M_Cb_noteSeen M_Cb_placeInScan 213 2 = true := by decide +kernel
theorem k_Cb_placeInScan_33 : mm_vok M_Cb_placeInScan M_Al_size 33 0 = true := by decide +kernel
theorem k_Cb_placeInScan_56 : mm_vok M_Cb_placeInScan M_Al_get 56 1 = true := by decide +kernel
theorem k_Cb_countFaulty_33 : mm_vok M_Cb_countFaulty M_Al_size 33 0 = true := by decide +kernel
theorem k_Cb_countFaulty_56 : mm_vok M_Cb_countFaulty M_Al_get 56 1 = true := by decide +kernel
theorem oi_Md_1 : (mm_in (.methodLink RX3 1 objectInit) && mm_in (.instanceMethod objectInit) && mm_in (.code objectInit ⟨#[0xb1]⟩ 1 none)) = true := by decide +kernel
theorem k_Md_isCell_82 : mm_sok M_Md_isCell M_Md_out 82 2 = true := by decide +kernel
theorem k_Md_net_86 : mm_vok M_Md_net M_Md_isCell 86 2 = true := by decide +kernel
theorem k_Md_fault_82 : mm_sok M_Md_fault M_Md_out 82 2 = true := by decide +kernel
theorem k_Md_fault_92 : mm_vok M_Md_fault M_Md_heal 92 1 = true := by decide +kernel
theorem k_Md_core_86 : mm_vok M_Md_core M_Md_isCell 86 2 = true := by decide +kernel
theorem k_Md_valueOf_96 : mm_vok M_Md_valueOf M_Md_output 96 1 = true := by decide +kernel
theorem k_Md_signal_96 : mm_vok M_Md_signal M_Md_output 96 1 = true := by decide +kernel
theorem k_Md_signal_100 : mm_vok M_Md_signal M_Md_valueOf 100 1 = true := by decide +kernel
theorem k_Md_shiftAll_103 : mm_sok M_Md_shiftAll M_Md_down 103 4 = true := by decide +kernel
theorem k_Md_capture_107 : mm_vok M_Md_capture M_Md_signal 107 1 = true := by decide +kernel
theorem k_Md_tick_110 : mm_vok M_Md_tick M_Md_shiftAll 110 2 = true := by decide +kernel
theorem k_Md_tick_114 : mm_vok M_Md_tick M_Md_capture 114 1 = true := by decide +kernel
theorem k_Md_tick_117 : mm_vok M_Md_tick M_Md_update 117 1 = true := by decide +kernel
theorem k_Md_tick_120 : mm_vok M_Md_tick M_Md_numberIn 120 1 = true := by decide +kernel
theorem k_Md_tick_123 : mm_sok M_Md_tick M_Md_after 123 2 = true := by decide +kernel
theorem k_Md_clock_127 : mm_vok M_Md_clock M_Md_tick 127 2 = true := by decide +kernel
theorem k_Md_goIdle_127 : mm_vok M_Md_goIdle M_Md_tick 127 2 = true := by decide +kernel
theorem k_Md_comeTo_127 : mm_vok M_Md_comeTo M_Md_tick 127 2 = true := by decide +kernel
theorem k_Md_leave_127 : mm_vok M_Md_leave M_Md_tick 127 2 = true := by decide +kernel
theorem k_Md_find_130 : mm_vok M_Md_find M_Md_goIdle 130 0 = true := by decide +kernel
theorem k_Md_find_133 : mm_vok M_Md_find M_Md_comeTo 133 1 = true := by decide +kernel
theorem k_Md_find_127 : mm_vok M_Md_find M_Md_tick 127 2 = true := by decide +kernel
theorem k_Md_find_137 : mm_vok M_Md_find M_Md_leave 137 0 = true := by decide +kernel
theorem k_Md_found_82 : mm_sok M_Md_found M_Md_out 82 2 = true := by decide +kernel
theorem k_Md_found_140 : mm_vok M_Md_found M_Md_fail 140 1 = true := by decide +kernel
theorem k_Md_round_133 : mm_vok M_Md_round M_Md_comeTo 133 1 = true := by decide +kernel
theorem k_Md_round_127 : mm_vok M_Md_round M_Md_tick 127 2 = true := by decide +kernel
theorem k_Md_round_137 : mm_vok M_Md_round M_Md_leave 137 0 = true := by decide +kernel
theorem k_Md_test_130 : mm_vok M_Md_test M_Md_goIdle 130 0 = true := by decide +kernel
theorem k_Md_test_133 : mm_vok M_Md_test M_Md_comeTo 133 1 = true := by decide +kernel
theorem k_Md_test_127 : mm_vok M_Md_test M_Md_tick 127 2 = true := by decide +kernel
theorem k_Md_test_137 : mm_vok M_Md_test M_Md_leave 137 0 = true := by decide +kernel
theorem k_Md_test_143 : mm_vok M_Md_test M_Md_round 143 2 = true := by decide +kernel
theorem k_Md_saw_82 : mm_sok M_Md_saw M_Md_out 82 2 = true := by decide +kernel
theorem k_Md_saw_140 : mm_vok M_Md_saw M_Md_fail 140 1 = true := by decide +kernel
theorem k_Md_look_82 : mm_sok M_Md_look M_Md_out 82 2 = true := by decide +kernel
theorem k_Md_look_140 : mm_vok M_Md_look M_Md_fail 140 1 = true := by decide +kernel
theorem k_Md_look_120 : mm_vok M_Md_look M_Md_numberIn 120 1 = true := by decide +kernel
theorem k_Md_look_107 : mm_vok M_Md_look M_Md_signal 107 1 = true := by decide +kernel
theorem k_Md_value_82 : mm_sok M_Md_value M_Md_out 82 2 = true := by decide +kernel
theorem k_Md_value_100 : mm_vok M_Md_value M_Md_valueOf 100 1 = true := by decide +kernel
theorem oi_Ac_1 : (mm_in (.methodLink RJxa1e45 1 objectInit) && mm_in (.instanceMethod objectInit) && mm_in (.code objectInit ⟨#[0xb1]⟩ 1 none)) = true := by decide +kernel
theorem k_As_init_1 : mm_iok M_As_init M_Ac_init 1 0 = true := by decide +kernel
theorem k_Al_init_1 : mm_iok M_Al_init M_As_init 1 0 = true := by decide +kernel
theorem gs_Al_39 : mm_in (.fieldLink RJx4a65c 39 "java/util/ArrayList" "DEFAULTCAPACITY_EMPTY_ELEMENTDATA" "[Ljava/lang/Object;") = true := by decide +kernel
theorem k_Al_grow1_79 : mm_sok M_Al_grow1 M_Mh_max 79 2 = true := by decide +kernel
theorem an_Al_7 : mm_in (.classLink RJx4a65c 7 "java/lang/Object") = true := by decide +kernel
theorem k_Al_grow0_69 : mm_vok M_Al_grow0 M_Al_grow1 69 1 = true := by decide +kernel
theorem k_Al_get_118 : mm_sok M_Al_get M_Ob_checkIndex 118 2 = true := by decide +kernel
theorem k_Al_get_123 : mm_vok M_Al_get M_Al_elementData 123 1 = true := by decide +kernel
theorem k_Al_add3_129 : mm_vok M_Al_add3 M_Al_grow0 129 0 = true := by decide +kernel
theorem k_Al_add_131 : mm_vok M_Al_add M_Al_add3 131 3 = true := by decide +kernel
theorem k_Ob_checkIndex_105 : mm_sok M_Ob_checkIndex M_Pc_checkIndex 105 3 = true := by decide +kernel
theorem k_Lw_device_7 : mm_vok M_Lw_device M_Cb_device 7 4 = true := by decide +kernel
theorem k_Lw_net_17 : mm_vok M_Lw_net M_Cb_net 17 4 = true := by decide +kernel
theorem k_Lw_fault_20 : mm_vok M_Lw_fault M_Cb_fault 20 3 = true := by decide +kernel
theorem k_Lw_core_24 : mm_vok M_Lw_core M_Cb_core 24 3 = true := by decide +kernel
theorem k_Lw_clock_28 : mm_vok M_Lw_clock M_Cb_clock 28 2 = true := by decide +kernel
theorem k_Lw_look_32 : mm_vok M_Lw_look M_Cb_look 32 2 = true := by decide +kernel
theorem k_Lw_value_36 : mm_vok M_Lw_value M_Cb_value 36 1 = true := by decide +kernel
theorem k_Lw_find_40 : mm_vok M_Lw_find M_Cb_find 40 0 = true := by decide +kernel
theorem k_Lw_found_44 : mm_vok M_Lw_found M_Cb_found 44 1 = true := by decide +kernel
theorem k_Lw_test_50 : mm_vok M_Lw_test M_Cb_test 50 0 = true := by decide +kernel
theorem k_Lw_saw_53 : mm_vok M_Lw_saw M_Cb_saw 53 1 = true := by decide +kernel
theorem k_Lw_law_56 : mm_iok M_Lw_law M_Cb_init 56 0 = true := by decide +kernel
theorem k_Lw_law_59 : mm_iok M_Lw_law M_Md_init 59 0 = true := by decide +kernel
theorem k_Lw_law_60 : mm_hok M_Lw_law M_Lw_device 60 6 = true := by decide +kernel
theorem k_Lw_law_65 : mm_vok M_Lw_law M_Md_device 65 4 = true := by decide +kernel
theorem k_Lw_law_66 : mm_vok M_Lw_law M_Md_thrown 66 0 = true := by decide +kernel
theorem k_Lw_law_69 : mm_hok M_Lw_law M_Lw_net 69 6 = true := by decide +kernel
theorem k_Lw_law_71 : mm_vok M_Lw_law M_Md_net 71 4 = true := by decide +kernel
theorem k_Lw_law_72 : mm_hok M_Lw_law M_Lw_fault 72 4 = true := by decide +kernel
theorem k_Lw_law_75 : mm_vok M_Lw_law M_Md_fault 75 3 = true := by decide +kernel
theorem k_Lw_law_76 : mm_hok M_Lw_law M_Lw_core 76 4 = true := by decide +kernel
theorem k_Lw_law_79 : mm_vok M_Lw_law M_Md_core 79 3 = true := by decide +kernel
theorem k_Lw_law_80 : mm_hok M_Lw_law M_Lw_clock 80 4 = true := by decide +kernel
theorem k_Lw_law_83 : mm_vok M_Lw_law M_Md_clock 83 2 = true := by decide +kernel
theorem k_Lw_law_84 : mm_vok M_Lw_law M_Cb_state 84 0 = true := by decide +kernel
theorem k_Lw_law_87 : mm_vok M_Lw_law M_Md_state 87 0 = true := by decide +kernel
theorem k_Lw_law_88 : mm_hok M_Lw_law M_Lw_look 88 4 = true := by decide +kernel
theorem k_Lw_law_91 : mm_vok M_Lw_law M_Md_look 91 2 = true := by decide +kernel
theorem k_Lw_law_92 : mm_hok M_Lw_law M_Lw_value 92 3 = true := by decide +kernel
theorem k_Lw_law_95 : mm_vok M_Lw_law M_Md_value 95 1 = true := by decide +kernel
theorem k_Lw_law_96 : mm_hok M_Lw_law M_Lw_find 96 2 = true := by decide +kernel
theorem k_Lw_law_99 : mm_vok M_Lw_law M_Md_find 99 0 = true := by decide +kernel
theorem k_Lw_law_100 : mm_hok M_Lw_law M_Lw_found 100 3 = true := by decide +kernel
theorem k_Lw_law_102 : mm_vok M_Lw_law M_Md_found 102 1 = true := by decide +kernel
theorem k_Lw_law_103 : mm_hok M_Lw_law M_Lw_test 103 2 = true := by decide +kernel
theorem k_Lw_law_105 : mm_vok M_Lw_law M_Md_test 105 0 = true := by decide +kernel
theorem k_Lw_law_106 : mm_hok M_Lw_law M_Lw_saw 106 3 = true := by decide +kernel
theorem k_Lw_law_108 : mm_vok M_Lw_law M_Md_saw 108 1 = true := by decide +kernel
theorem k_Lw_law_109 : mm_vok M_Lw_law M_Cb_clocks 109 0 = true := by decide +kernel
theorem k_Lw_law_112 : mm_vok M_Lw_law M_Md_clocks 112 0 = true := by decide +kernel
theorem n_Lw_8 : mm_nok RL 8 3 8 = true := by decide +kernel
theorem n_Lw_57 : mm_nok RL 57 4 24 = true := by decide +kernel
theorem ac_I : mm_in (.arrayClass .int) = true := by decide +kernel
theorem ac_Z : mm_in (.arrayClass .boolean) = true := by decide +kernel
theorem ac_J : mm_in (.arrayClass .long) = true := by decide +kernel
theorem co_Dv : mm_in (.castable "ChainBench$Device" "java/lang/Object") = true := by decide +kernel
theorem co_Nt : mm_in (.castable "ChainBench$Net" "java/lang/Object") = true := by decide +kernel
end
section
/-! exact ends; calls of methods with one; '? 1 : 0' -/
def mm_E (r : Option Value) (h1 : mm_Hp) : mm_O → mm_Hp → Prop := fun o h' => o = .inl r ∧ h' = h1
theorem mm_E_nx {r : Option Value} {h1 : mm_Hp} : ∀ E h', ¬ mm_E r h1 (.inr E) h' := fun _ _ z => by cases z.1
theorem mm_C_wk {G : mm_G} {M : mm_M} {av : List Value} {h : mm_Hp} {kc ks : Nat} {Q Q' : mm_O → mm_Hp → Prop} (hC : mm_C G M av h kc ks Q) (hQ : ∀ o h', Q o h' → Q' o h') : mm_C G M av h kc ks Q' := by
  intro l sz hl
  refine MetFree.mono (hC l sz hl) (fun _ _ z => z) (fun _ _ _ _ _ _ => trivial) (fun a s o t _ hq => ?_)
  rcases hq with ⟨⟨v, h', e1, e2, e3⟩, e4⟩ | ⟨q, e0, E, ce, L, ⟨h', hq', e3⟩, e4⟩
  · exact Or.inl ⟨⟨v, h', e1, hQ _ _ e2, e3⟩, e4⟩
  · exact Or.inr ⟨q, e0, E, ce, L, ⟨h', hQ _ _ hq', e3⟩, e4⟩
section MME
variable {G : mm_G} {M : mm_M} {pc : Nat} {L : List (Nat × Value)} {st : List Value} {h : mm_Hp} {kc ks : Nat} {Q : mm_O → mm_Hp → Prop} {T : mm_T}
theorem mm_V_wk {Q' : mm_O → mm_Hp → Prop} (hQ : ∀ o h', Q o h' → Q' o h') (k : mm_V G M pc L st h kc ks Q) : mm_V G M pc L st h kc ks Q' := by
  intro p l e R s m args below meth c H locs cells slots A ls hF hI hc hs hl
  intro T9 hT9 X9
  obtain ⟨t, a1, o9, b1, b2, b3⟩ := k p l e R s m args below meth c H locs cells slots A ls hF hI hc hs hl T9 hT9 X9
  refine ⟨t, a1, o9, b1, b2, ?_⟩
  rcases b3 with ⟨⟨v, h', e1, e2, e3⟩, e4⟩ | ⟨q, e0, E, ce, L, ⟨h', hq', e3⟩, e4⟩
  · exact Or.inl ⟨⟨v, h', e1, hQ _ _ e2, e3⟩, e4⟩
  · exact Or.inr ⟨q, e0, E, ce, L, ⟨h', hQ _ _ hq', e3⟩, e4⟩
theorem mm_cVE (hT : mm_ok M T) {Mc : mm_M} {idx b ci : Nat} {As fs stk : List Value} {c0 : Int32} {rv : Option Value} {h1 : mm_Hp} {r : vw_C} (hf : mm_ix T pc = some (.invokevirtual idx, 3, c0)) (hk : mm_vok M Mc idx As.length = true) (hb : h b = some (ci, fs)) (hr : mm_cl[ci]? = some r) (hrc : r.1 = Mc.1.cls)
    (hstk : stk = As.reverse ++ .ref b :: st) (hw : (st.map fun v => v.category).sum ≤ 8) (hC : mm_C G Mc (.ref b :: As) h 0 0 (mm_E rv h1)) (kk : mm_V G M (pc + 3) L (rv.toList ++ st) h1 kc ks Q) : mm_V G M pc L stk h kc ks Q := by
  have h9 := mm_callV (kc := kc) (ks := ks) (Q := Q) (L := L) hT hf hk hb hr hrc hstk hw hC mm_E_nx (fun v h' hq => by obtain ⟨e1, rfl⟩ := hq; cases e1; exact kk)
  rw [Nat.zero_add, Nat.zero_add] at h9
  exact h9
theorem mm_cSE (hT : mm_ok M T) {Mc : mm_M} {idx : Nat} {As stk : List Value} {c0 : Int32} {rv : Option Value} {h1 : mm_Hp} (hf : mm_ix T pc = some (.invokestatic idx, 3, c0)) (hk : mm_sok M Mc idx As.length = true)
    (hstk : stk = As.reverse ++ st) (hw : (st.map fun v => v.category).sum ≤ 8) (hC : mm_C G Mc As h 0 0 (mm_E rv h1)) (kk : mm_V G M (pc + 3) L (rv.toList ++ st) h1 kc ks Q) : mm_V G M pc L stk h kc ks Q := by
  have h9 := mm_callS (kc := kc) (ks := ks) (Q := Q) (L := L) hT hf hk hstk hw hC mm_E_nx (fun v h' hq => by obtain ⟨e1, rfl⟩ := hq; cases e1; exact kk)
  rw [Nat.zero_add, Nat.zero_add] at h9
  exact h9
theorem mm_cIE (hT : mm_ok M T) {Mc : mm_M} {idx b : Nat} {As stk : List Value} {c0 : Int32} {rv : Option Value} {h1 : mm_Hp} (hf : mm_ix T pc = some (.invokespecial idx, 3, c0)) (hk : mm_iok M Mc idx As.length = true)
    (hstk : stk = As.reverse ++ .ref b :: st) (hw : (st.map fun v => v.category).sum ≤ 8) (hC : mm_C G Mc (.ref b :: As) h 0 0 (mm_E rv h1)) (kk : mm_V G M (pc + 3) L (rv.toList ++ st) h1 kc ks Q) : mm_V G M pc L stk h kc ks Q := by
  have h9 := mm_callI (kc := kc) (ks := ks) (Q := Q) (L := L) hT hf hk hstk hw hC mm_E_nx (fun v h' hq => by obtain ⟨e1, rfl⟩ := hq; cases e1; exact kk)
  rw [Nat.zero_add, Nat.zero_add] at h9
  exact h9

theorem mm_ti_eq (hT : mm_ok M T) {x c0 c1 c2 c3 : Int32} {off off2 n1 n2 : Int} (tgt : Nat) (hf : mm_ix T pc = some (.ifCond .eq off, 3, c0)) (ht : (pc : Int) + off = (tgt : Int)) (h1 : mm_ix T (pc + 3) = some (.iconst n1, 1, c1)) (h2 : mm_ix T (pc + 4) = some (.goto off2, 3, c3)) (h3 : mm_ix T tgt = some (.iconst n2, 1, c2)) (he : ((pc + 4 : Nat) : Int) + off2 = ((tgt + 1 : Nat) : Int))
    (kk : mm_V G M (tgt + 1) L (.int (if x = 0 then c2 else c1) :: st) h kc ks Q) : mm_V G M pc L (.int x :: st) h kc ks Q := by
  have e1 : mm_cst (.iconst n1) = c1 := (hT _ (mm_ix_mem h1)).2
  have e2 : mm_cst (.iconst n2) = c2 := (hT _ (mm_ix_mem h3)).2
  refine mm_if_eq hT tgt hf ht (fun c => ?_) (fun c => ?_)
  · rw [if_pos c] at kk
    exact mm_ps_ok (mm_dec hT h3) (by rw [e2]; rfl) kk
  · rw [if_neg c] at kk
    refine mm_ps_ok (len := 1) (mm_dec hT h1) (by rw [e1]; rfl) (mm_goto (mm_dec hT h2) (by omega) ?_)
    rw [show (((pc + 3 + 1 : Nat) : Int) + off2).toNat = tgt + 1 by omega]
    exact kk

theorem mm_tc_eq (hT : mm_ok M T) {x y c0 c1 c2 c3 : Int32} {off off2 n1 n2 : Int} (tgt : Nat) (hf : mm_ix T pc = some (.if_icmp .eq off, 3, c0)) (ht : (pc : Int) + off = (tgt : Int)) (h1 : mm_ix T (pc + 3) = some (.iconst n1, 1, c1)) (h2 : mm_ix T (pc + 4) = some (.goto off2, 3, c3)) (h3 : mm_ix T tgt = some (.iconst n2, 1, c2)) (he : ((pc + 4 : Nat) : Int) + off2 = ((tgt + 1 : Nat) : Int))
    (kk : mm_V G M (tgt + 1) L (.int (if x = y then c2 else c1) :: st) h kc ks Q) : mm_V G M pc L (.int y :: .int x :: st) h kc ks Q := by
  have e1 : mm_cst (.iconst n1) = c1 := (hT _ (mm_ix_mem h1)).2
  have e2 : mm_cst (.iconst n2) = c2 := (hT _ (mm_ix_mem h3)).2
  refine mm_ic_eq hT tgt hf ht (fun c => ?_) (fun c => ?_)
  · rw [if_pos c] at kk
    exact mm_ps_ok (mm_dec hT h3) (by rw [e2]; rfl) kk
  · rw [if_neg c] at kk
    refine mm_ps_ok (len := 1) (mm_dec hT h1) (by rw [e1]; rfl) (mm_goto (mm_dec hT h2) (by omega) ?_)
    rw [show (((pc + 3 + 1 : Nat) : Int) + off2).toNat = tgt + 1 by omega]
    exact kk

theorem mm_ti_ne (hT : mm_ok M T) {x c0 c1 c2 c3 : Int32} {off off2 n1 n2 : Int} (tgt : Nat) (hf : mm_ix T pc = some (.ifCond .ne off, 3, c0)) (ht : (pc : Int) + off = (tgt : Int)) (h1 : mm_ix T (pc + 3) = some (.iconst n1, 1, c1)) (h2 : mm_ix T (pc + 4) = some (.goto off2, 3, c3)) (h3 : mm_ix T tgt = some (.iconst n2, 1, c2)) (he : ((pc + 4 : Nat) : Int) + off2 = ((tgt + 1 : Nat) : Int))
    (kk : mm_V G M (tgt + 1) L (.int (if x = 0 then c1 else c2) :: st) h kc ks Q) : mm_V G M pc L (.int x :: st) h kc ks Q := by
  have e1 : mm_cst (.iconst n1) = c1 := (hT _ (mm_ix_mem h1)).2
  have e2 : mm_cst (.iconst n2) = c2 := (hT _ (mm_ix_mem h3)).2
  refine mm_if_ne hT tgt hf ht (fun c => ?_) (fun c => ?_)
  · rw [if_neg c] at kk
    exact mm_ps_ok (mm_dec hT h3) (by rw [e2]; rfl) kk
  · rw [if_pos c] at kk
    refine mm_ps_ok (len := 1) (mm_dec hT h1) (by rw [e1]; rfl) (mm_goto (mm_dec hT h2) (by omega) ?_)
    rw [show (((pc + 3 + 1 : Nat) : Int) + off2).toNat = tgt + 1 by omega]
    exact kk

theorem mm_tc_ne (hT : mm_ok M T) {x y c0 c1 c2 c3 : Int32} {off off2 n1 n2 : Int} (tgt : Nat) (hf : mm_ix T pc = some (.if_icmp .ne off, 3, c0)) (ht : (pc : Int) + off = (tgt : Int)) (h1 : mm_ix T (pc + 3) = some (.iconst n1, 1, c1)) (h2 : mm_ix T (pc + 4) = some (.goto off2, 3, c3)) (h3 : mm_ix T tgt = some (.iconst n2, 1, c2)) (he : ((pc + 4 : Nat) : Int) + off2 = ((tgt + 1 : Nat) : Int))
    (kk : mm_V G M (tgt + 1) L (.int (if x = y then c1 else c2) :: st) h kc ks Q) : mm_V G M pc L (.int y :: .int x :: st) h kc ks Q := by
  have e1 : mm_cst (.iconst n1) = c1 := (hT _ (mm_ix_mem h1)).2
  have e2 : mm_cst (.iconst n2) = c2 := (hT _ (mm_ix_mem h3)).2
  refine mm_ic_ne hT tgt hf ht (fun c => ?_) (fun c => ?_)
  · rw [if_neg c] at kk
    exact mm_ps_ok (mm_dec hT h3) (by rw [e2]; rfl) kk
  · rw [if_pos c] at kk
    refine mm_ps_ok (len := 1) (mm_dec hT h1) (by rw [e1]; rfl) (mm_goto (mm_dec hT h2) (by omega) ?_)
    rw [show (((pc + 3 + 1 : Nat) : Int) + off2).toNat = tgt + 1 by omega]
    exact kk

theorem mm_ti_lt (hT : mm_ok M T) {x c0 c1 c2 c3 : Int32} {off off2 n1 n2 : Int} (tgt : Nat) (hf : mm_ix T pc = some (.ifCond .lt off, 3, c0)) (ht : (pc : Int) + off = (tgt : Int)) (h1 : mm_ix T (pc + 3) = some (.iconst n1, 1, c1)) (h2 : mm_ix T (pc + 4) = some (.goto off2, 3, c3)) (h3 : mm_ix T tgt = some (.iconst n2, 1, c2)) (he : ((pc + 4 : Nat) : Int) + off2 = ((tgt + 1 : Nat) : Int))
    (kk : mm_V G M (tgt + 1) L (.int (if x < 0 then c2 else c1) :: st) h kc ks Q) : mm_V G M pc L (.int x :: st) h kc ks Q := by
  have e1 : mm_cst (.iconst n1) = c1 := (hT _ (mm_ix_mem h1)).2
  have e2 : mm_cst (.iconst n2) = c2 := (hT _ (mm_ix_mem h3)).2
  refine mm_if_lt hT tgt hf ht (fun c => ?_) (fun c => ?_)
  · rw [if_pos c] at kk
    exact mm_ps_ok (mm_dec hT h3) (by rw [e2]; rfl) kk
  · rw [if_neg c] at kk
    refine mm_ps_ok (len := 1) (mm_dec hT h1) (by rw [e1]; rfl) (mm_goto (mm_dec hT h2) (by omega) ?_)
    rw [show (((pc + 3 + 1 : Nat) : Int) + off2).toNat = tgt + 1 by omega]
    exact kk

theorem mm_tc_lt (hT : mm_ok M T) {x y c0 c1 c2 c3 : Int32} {off off2 n1 n2 : Int} (tgt : Nat) (hf : mm_ix T pc = some (.if_icmp .lt off, 3, c0)) (ht : (pc : Int) + off = (tgt : Int)) (h1 : mm_ix T (pc + 3) = some (.iconst n1, 1, c1)) (h2 : mm_ix T (pc + 4) = some (.goto off2, 3, c3)) (h3 : mm_ix T tgt = some (.iconst n2, 1, c2)) (he : ((pc + 4 : Nat) : Int) + off2 = ((tgt + 1 : Nat) : Int))
    (kk : mm_V G M (tgt + 1) L (.int (if x < y then c2 else c1) :: st) h kc ks Q) : mm_V G M pc L (.int y :: .int x :: st) h kc ks Q := by
  have e1 : mm_cst (.iconst n1) = c1 := (hT _ (mm_ix_mem h1)).2
  have e2 : mm_cst (.iconst n2) = c2 := (hT _ (mm_ix_mem h3)).2
  refine mm_ic_lt hT tgt hf ht (fun c => ?_) (fun c => ?_)
  · rw [if_pos c] at kk
    exact mm_ps_ok (mm_dec hT h3) (by rw [e2]; rfl) kk
  · rw [if_neg c] at kk
    refine mm_ps_ok (len := 1) (mm_dec hT h1) (by rw [e1]; rfl) (mm_goto (mm_dec hT h2) (by omega) ?_)
    rw [show (((pc + 3 + 1 : Nat) : Int) + off2).toNat = tgt + 1 by omega]
    exact kk

theorem mm_ti_ge (hT : mm_ok M T) {x c0 c1 c2 c3 : Int32} {off off2 n1 n2 : Int} (tgt : Nat) (hf : mm_ix T pc = some (.ifCond .ge off, 3, c0)) (ht : (pc : Int) + off = (tgt : Int)) (h1 : mm_ix T (pc + 3) = some (.iconst n1, 1, c1)) (h2 : mm_ix T (pc + 4) = some (.goto off2, 3, c3)) (h3 : mm_ix T tgt = some (.iconst n2, 1, c2)) (he : ((pc + 4 : Nat) : Int) + off2 = ((tgt + 1 : Nat) : Int))
    (kk : mm_V G M (tgt + 1) L (.int (if 0 ≤ x then c2 else c1) :: st) h kc ks Q) : mm_V G M pc L (.int x :: st) h kc ks Q := by
  have e1 : mm_cst (.iconst n1) = c1 := (hT _ (mm_ix_mem h1)).2
  have e2 : mm_cst (.iconst n2) = c2 := (hT _ (mm_ix_mem h3)).2
  refine mm_if_ge hT tgt hf ht (fun c => ?_) (fun c => ?_)
  · rw [if_pos c] at kk
    exact mm_ps_ok (mm_dec hT h3) (by rw [e2]; rfl) kk
  · rw [if_neg c] at kk
    refine mm_ps_ok (len := 1) (mm_dec hT h1) (by rw [e1]; rfl) (mm_goto (mm_dec hT h2) (by omega) ?_)
    rw [show (((pc + 3 + 1 : Nat) : Int) + off2).toNat = tgt + 1 by omega]
    exact kk

theorem mm_tc_ge (hT : mm_ok M T) {x y c0 c1 c2 c3 : Int32} {off off2 n1 n2 : Int} (tgt : Nat) (hf : mm_ix T pc = some (.if_icmp .ge off, 3, c0)) (ht : (pc : Int) + off = (tgt : Int)) (h1 : mm_ix T (pc + 3) = some (.iconst n1, 1, c1)) (h2 : mm_ix T (pc + 4) = some (.goto off2, 3, c3)) (h3 : mm_ix T tgt = some (.iconst n2, 1, c2)) (he : ((pc + 4 : Nat) : Int) + off2 = ((tgt + 1 : Nat) : Int))
    (kk : mm_V G M (tgt + 1) L (.int (if y ≤ x then c2 else c1) :: st) h kc ks Q) : mm_V G M pc L (.int y :: .int x :: st) h kc ks Q := by
  have e1 : mm_cst (.iconst n1) = c1 := (hT _ (mm_ix_mem h1)).2
  have e2 : mm_cst (.iconst n2) = c2 := (hT _ (mm_ix_mem h3)).2
  refine mm_ic_ge hT tgt hf ht (fun c => ?_) (fun c => ?_)
  · rw [if_pos c] at kk
    exact mm_ps_ok (mm_dec hT h3) (by rw [e2]; rfl) kk
  · rw [if_neg c] at kk
    refine mm_ps_ok (len := 1) (mm_dec hT h1) (by rw [e1]; rfl) (mm_goto (mm_dec hT h2) (by omega) ?_)
    rw [show (((pc + 3 + 1 : Nat) : Int) + off2).toNat = tgt + 1 by omega]
    exact kk

theorem mm_ti_gt (hT : mm_ok M T) {x c0 c1 c2 c3 : Int32} {off off2 n1 n2 : Int} (tgt : Nat) (hf : mm_ix T pc = some (.ifCond .gt off, 3, c0)) (ht : (pc : Int) + off = (tgt : Int)) (h1 : mm_ix T (pc + 3) = some (.iconst n1, 1, c1)) (h2 : mm_ix T (pc + 4) = some (.goto off2, 3, c3)) (h3 : mm_ix T tgt = some (.iconst n2, 1, c2)) (he : ((pc + 4 : Nat) : Int) + off2 = ((tgt + 1 : Nat) : Int))
    (kk : mm_V G M (tgt + 1) L (.int (if 0 < x then c2 else c1) :: st) h kc ks Q) : mm_V G M pc L (.int x :: st) h kc ks Q := by
  have e1 : mm_cst (.iconst n1) = c1 := (hT _ (mm_ix_mem h1)).2
  have e2 : mm_cst (.iconst n2) = c2 := (hT _ (mm_ix_mem h3)).2
  refine mm_if_gt hT tgt hf ht (fun c => ?_) (fun c => ?_)
  · rw [if_pos c] at kk
    exact mm_ps_ok (mm_dec hT h3) (by rw [e2]; rfl) kk
  · rw [if_neg c] at kk
    refine mm_ps_ok (len := 1) (mm_dec hT h1) (by rw [e1]; rfl) (mm_goto (mm_dec hT h2) (by omega) ?_)
    rw [show (((pc + 3 + 1 : Nat) : Int) + off2).toNat = tgt + 1 by omega]
    exact kk

theorem mm_tc_gt (hT : mm_ok M T) {x y c0 c1 c2 c3 : Int32} {off off2 n1 n2 : Int} (tgt : Nat) (hf : mm_ix T pc = some (.if_icmp .gt off, 3, c0)) (ht : (pc : Int) + off = (tgt : Int)) (h1 : mm_ix T (pc + 3) = some (.iconst n1, 1, c1)) (h2 : mm_ix T (pc + 4) = some (.goto off2, 3, c3)) (h3 : mm_ix T tgt = some (.iconst n2, 1, c2)) (he : ((pc + 4 : Nat) : Int) + off2 = ((tgt + 1 : Nat) : Int))
    (kk : mm_V G M (tgt + 1) L (.int (if y < x then c2 else c1) :: st) h kc ks Q) : mm_V G M pc L (.int y :: .int x :: st) h kc ks Q := by
  have e1 : mm_cst (.iconst n1) = c1 := (hT _ (mm_ix_mem h1)).2
  have e2 : mm_cst (.iconst n2) = c2 := (hT _ (mm_ix_mem h3)).2
  refine mm_ic_gt hT tgt hf ht (fun c => ?_) (fun c => ?_)
  · rw [if_pos c] at kk
    exact mm_ps_ok (mm_dec hT h3) (by rw [e2]; rfl) kk
  · rw [if_neg c] at kk
    refine mm_ps_ok (len := 1) (mm_dec hT h1) (by rw [e1]; rfl) (mm_goto (mm_dec hT h2) (by omega) ?_)
    rw [show (((pc + 3 + 1 : Nat) : Int) + off2).toNat = tgt + 1 by omega]
    exact kk

theorem mm_ti_le (hT : mm_ok M T) {x c0 c1 c2 c3 : Int32} {off off2 n1 n2 : Int} (tgt : Nat) (hf : mm_ix T pc = some (.ifCond .le off, 3, c0)) (ht : (pc : Int) + off = (tgt : Int)) (h1 : mm_ix T (pc + 3) = some (.iconst n1, 1, c1)) (h2 : mm_ix T (pc + 4) = some (.goto off2, 3, c3)) (h3 : mm_ix T tgt = some (.iconst n2, 1, c2)) (he : ((pc + 4 : Nat) : Int) + off2 = ((tgt + 1 : Nat) : Int))
    (kk : mm_V G M (tgt + 1) L (.int (if x ≤ 0 then c2 else c1) :: st) h kc ks Q) : mm_V G M pc L (.int x :: st) h kc ks Q := by
  have e1 : mm_cst (.iconst n1) = c1 := (hT _ (mm_ix_mem h1)).2
  have e2 : mm_cst (.iconst n2) = c2 := (hT _ (mm_ix_mem h3)).2
  refine mm_if_le hT tgt hf ht (fun c => ?_) (fun c => ?_)
  · rw [if_pos c] at kk
    exact mm_ps_ok (mm_dec hT h3) (by rw [e2]; rfl) kk
  · rw [if_neg c] at kk
    refine mm_ps_ok (len := 1) (mm_dec hT h1) (by rw [e1]; rfl) (mm_goto (mm_dec hT h2) (by omega) ?_)
    rw [show (((pc + 3 + 1 : Nat) : Int) + off2).toNat = tgt + 1 by omega]
    exact kk

theorem mm_tc_le (hT : mm_ok M T) {x y c0 c1 c2 c3 : Int32} {off off2 n1 n2 : Int} (tgt : Nat) (hf : mm_ix T pc = some (.if_icmp .le off, 3, c0)) (ht : (pc : Int) + off = (tgt : Int)) (h1 : mm_ix T (pc + 3) = some (.iconst n1, 1, c1)) (h2 : mm_ix T (pc + 4) = some (.goto off2, 3, c3)) (h3 : mm_ix T tgt = some (.iconst n2, 1, c2)) (he : ((pc + 4 : Nat) : Int) + off2 = ((tgt + 1 : Nat) : Int))
    (kk : mm_V G M (tgt + 1) L (.int (if x ≤ y then c2 else c1) :: st) h kc ks Q) : mm_V G M pc L (.int y :: .int x :: st) h kc ks Q := by
  have e1 : mm_cst (.iconst n1) = c1 := (hT _ (mm_ix_mem h1)).2
  have e2 : mm_cst (.iconst n2) = c2 := (hT _ (mm_ix_mem h3)).2
  refine mm_ic_le hT tgt hf ht (fun c => ?_) (fun c => ?_)
  · rw [if_pos c] at kk
    exact mm_ps_ok (mm_dec hT h3) (by rw [e2]; rfl) kk
  · rw [if_neg c] at kk
    refine mm_ps_ok (len := 1) (mm_dec hT h1) (by rw [e1]; rfl) (mm_goto (mm_dec hT h2) (by omega) ?_)
    rw [show (((pc + 3 + 1 : Nat) : Int) + off2).toNat = tgt + 1 by omega]
    exact kk

end MME
end
section
/-! Device -/
theorem mm_nb {p : Prop} [Decidable p] : narrow .boolean (.int (if p then (1 : Int32) else 0)) = .int (if p then 1 else 0) := by split <;> rfl
theorem mm_nb0 : narrow .boolean (.int (0 : Int32)) = .int 0 := rfl
theorem mm_nb1 : narrow .boolean (.int (1 : Int32)) = .int 1 := rfl
/-- a device by its fields: 0 bits 1 identity 2 cells 3 drivers 4 wired 5 latches 6 cores 7 instruction 8 instructionShift 9 data -/
def oDv (d : Nat → Int32) : mm_Ob := (1, [.int (d 0), .int (d 1), .int (d 2), .int (d 3), .int (d 4), .int (d 5), .int (d 6), .int (d 7), .int (d 8), .int (d 9)])
def dv_out (d : Nat → Int32) : Int32 := if d 7 = 0 then d 5 else d 6
def dv_hb (d : Nat → Int32) : Prop := d 7 = 0 ∨ d 7 = 2
def dv_len (d : Nat → Int32) : Int32 := if d 7 = 0 ∨ d 7 = 2 then d 2 else if d 7 = 1 then 32 else 1
def dv_sd (r len i : Int32) : Int32 := if i = 0 then mm_ushr r 1 else mm_ushr r 1 ||| 1 <<< ((len - 1) &&& 31)
def dv_cap (d : Nat → Int32) (sg : Int32) : Int32 := if d 7 = 0 ∨ d 7 = 2 then sg else if d 7 = 1 then d 1 else 0
theorem mm_up_same {h : mm_Hp} {a : Nat} {o : mm_Ob} (ha : h a = some o) : mm_up h a o = h := by
  funext b
  unfold mm_up
  split
  · rename_i e; rw [e, ha]
  · rfl
section DV
variable {G : mm_G} {h : mm_Hp} {a : Nat} {d : Nat → Int32}

set_option maxHeartbeats 1000000 in
theorem c_Dv_drives (ha : h a = some (oDv d)) (k : Int32) : mm_C G M_Dv_drives [.ref a, .int k] h 0 0 (mm_E (some (.int (if (mm_ushr (d 3) k &&& 1) = 1 then 1 else 0))) h) := by
  refine mm_C_of (by decide +kernel) rfl (Nat.le_of_ble_eq_true rfl) rfl ?_
  refine mm_blk (pc' := 1) ok_Dv_drives 1 _ _ _ rfl ?_
  refine mm_getf ok_Dv_drives ha rfl f_Dv_21 rfl ?_
  refine mm_blk (pc' := 9) ok_Dv_drives 5 _ _ _ rfl ?_
  refine mm_tc_ne ok_Dv_drives 16 rfl (by decide) rfl rfl rfl (by decide) ?_
  exact mm_zret ok_Dv_drives rfl rfl mm_nb ⟨rfl, rfl⟩
set_option maxHeartbeats 1000000 in
theorem c_Dv_isWired (ha : h a = some (oDv d)) (k : Int32) : mm_C G M_Dv_isWired [.ref a, .int k] h 0 0 (mm_E (some (.int (if (mm_ushr (d 4) k &&& 1) = 1 then 1 else 0))) h) := by
  refine mm_C_of (by decide +kernel) rfl (Nat.le_of_ble_eq_true rfl) rfl ?_
  refine mm_blk (pc' := 1) ok_Dv_isWired 1 _ _ _ rfl ?_
  refine mm_getf ok_Dv_isWired ha rfl f_Dv_27 rfl ?_
  refine mm_blk (pc' := 9) ok_Dv_isWired 5 _ _ _ rfl ?_
  refine mm_tc_ne ok_Dv_isWired 16 rfl (by decide) rfl rfl rfl (by decide) ?_
  exact mm_zret ok_Dv_isWired rfl rfl mm_nb ⟨rfl, rfl⟩
set_option maxHeartbeats 1000000 in
theorem c_Dv_wire (ha : h a = some (oDv d)) (k : Int32) : mm_C G M_Dv_wire [.ref a, .int k] h 0 0 (mm_E none (mm_up h a (oDv (upd d 4 (d 4 ||| 1 <<< (k &&& 31)))))) := by
  refine mm_C_of (by decide +kernel) rfl (Nat.le_of_ble_eq_true rfl) rfl ?_
  refine mm_blk (pc' := 2) ok_Dv_wire 2 _ _ _ rfl ?_
  refine mm_getf ok_Dv_wire ha rfl f_Dv_27 rfl ?_
  refine mm_blk (pc' := 9) ok_Dv_wire 4 _ _ _ rfl ?_
  refine mm_putf ok_Dv_wire ha rfl f_Dv_27 (Or.inl rfl) (mm_fit_I _) ?_
  exact mm_vret ok_Dv_wire rfl rfl ⟨rfl, rfl⟩
set_option maxHeartbeats 1000000 in
theorem c_Dv_setCore (ha : h a = some (oDv d)) (k one : Int32) : mm_C G M_Dv_setCore [.ref a, .int k, .int one] h 0 0 (mm_E none (mm_up h a (oDv (upd d 6 (if one = 0 then d 6 &&& (1 <<< (k &&& 31) ^^^ -1) else d 6 ||| 1 <<< (k &&& 31)))))) := by
  refine mm_C_of (by decide +kernel) rfl (Nat.le_of_ble_eq_true rfl) rfl ?_
  refine mm_blk (pc' := 1) ok_Dv_setCore 1 _ _ _ rfl ?_
  refine mm_if_eq ok_Dv_setCore 19 rfl (by decide) (fun c1 => ?_) (fun c1 => ?_)
  · -- 19 t
    refine mm_blk (pc' := 21) ok_Dv_setCore 2 _ _ _ rfl ?_
    refine mm_getf ok_Dv_setCore ha rfl f_Dv_30 rfl ?_
    refine mm_blk (pc' := 30) ok_Dv_setCore 6 _ _ _ rfl ?_
    refine mm_putf ok_Dv_setCore ha rfl f_Dv_30 (Or.inl rfl) (mm_fit_I _) ?_
    exact mm_vret ok_Dv_setCore rfl rfl ⟨rfl, by simp only [c1, if_true, if_false]; rfl⟩
  · -- 4 f
    refine mm_blk (pc' := 6) ok_Dv_setCore 2 _ _ _ rfl ?_
    refine mm_getf ok_Dv_setCore ha rfl f_Dv_30 rfl ?_
    refine mm_blk (pc' := 13) ok_Dv_setCore 4 _ _ _ rfl ?_
    refine mm_putf ok_Dv_setCore ha rfl f_Dv_30 (Or.inl rfl) (mm_fit_I _) ?_
    refine mm_blk (pc' := 33) ok_Dv_setCore 1 _ _ _ rfl ?_
    exact mm_vret ok_Dv_setCore rfl rfl ⟨rfl, by simp only [c1, if_true, if_false]; rfl⟩
set_option maxHeartbeats 1000000 in
theorem c_Dv_clearOutputs (ha : h a = some (oDv d)) : mm_C G M_Dv_clearOutputs [.ref a] h 0 0 (mm_E none (mm_up h a (oDv (upd (upd d 5 0) 6 0)))) := by
  refine mm_C_of (by decide +kernel) rfl (Nat.le_of_ble_eq_true rfl) rfl ?_
  refine mm_blk (pc' := 2) ok_Dv_clearOutputs 2 _ _ _ rfl ?_
  refine mm_putf ok_Dv_clearOutputs ha rfl f_Dv_33 (Or.inl rfl) (mm_fit_I _) ?_
  refine mm_blk (pc' := 7) ok_Dv_clearOutputs 2 _ _ _ rfl ?_
  refine mm_putf ok_Dv_clearOutputs (mm_up_self _ _ _) rfl f_Dv_30 (Or.inl rfl) (mm_fit_I _) ?_
  exact mm_vret ok_Dv_clearOutputs rfl rfl ⟨rfl, by rw [mm_up_up]; rfl⟩
set_option maxHeartbeats 1000000 in
theorem c_Dv_outputs (ha : h a = some (oDv d)) : mm_C G M_Dv_outputs [.ref a] h 0 0 (mm_E (some (.int (dv_out d))) h) := by
  refine mm_C_of (by decide +kernel) rfl (Nat.le_of_ble_eq_true rfl) rfl ?_
  refine mm_blk (pc' := 1) ok_Dv_outputs 1 _ _ _ rfl ?_
  refine mm_getf ok_Dv_outputs ha rfl f_Dv_24 rfl ?_
  refine mm_if_ne ok_Dv_outputs 14 rfl (by decide) (fun c4 => ?_) (fun c4 => ?_)
  · -- 14 t
    refine mm_blk (pc' := 15) ok_Dv_outputs 1 _ _ _ rfl ?_
    refine mm_getf ok_Dv_outputs ha rfl f_Dv_30 rfl ?_
    exact mm_iret ok_Dv_outputs rfl rfl ⟨by unfold dv_out; simp only [c4, if_true, if_false], rfl⟩
  · -- 7 f
    refine mm_blk (pc' := 8) ok_Dv_outputs 1 _ _ _ rfl ?_
    refine mm_getf ok_Dv_outputs ha rfl f_Dv_33 rfl ?_
    refine mm_blk (pc' := 18) ok_Dv_outputs 1 _ _ _ rfl ?_
    exact mm_iret ok_Dv_outputs rfl rfl ⟨by unfold dv_out; simp only [c4, if_true, if_false], rfl⟩
set_option maxHeartbeats 1000000 in
theorem c_Dv_hasBoundary (ha : h a = some (oDv d)) : mm_C G M_Dv_hasBoundary [.ref a] h 0 0 (mm_E (some (.int (if d 7 = 0 ∨ d 7 = 2 then 1 else 0))) h) := by
  refine mm_C_of (by decide +kernel) rfl (Nat.le_of_ble_eq_true rfl) rfl ?_
  refine mm_blk (pc' := 1) ok_Dv_hasBoundary 1 _ _ _ rfl ?_
  refine mm_getf ok_Dv_hasBoundary ha rfl f_Dv_24 rfl ?_
  refine mm_if_eq ok_Dv_hasBoundary 15 rfl (by decide) (fun c4 => ?_) (fun c4 => ?_)
  · -- 15 t
    refine mm_blk (pc' := 20) ok_Dv_hasBoundary 2 _ _ _ rfl ?_
    exact mm_zret ok_Dv_hasBoundary rfl rfl rfl ⟨by simp [*], rfl⟩
  · -- 7 f
    refine mm_blk (pc' := 8) ok_Dv_hasBoundary 1 _ _ _ rfl ?_
    refine mm_getf ok_Dv_hasBoundary ha rfl f_Dv_24 rfl ?_
    refine mm_blk (pc' := 12) ok_Dv_hasBoundary 1 _ _ _ rfl ?_
    refine mm_ic_ne ok_Dv_hasBoundary 19 rfl (by decide) (fun c12 => ?_) (fun c12 => ?_)
    · -- 19 t
      refine mm_blk (pc' := 20) ok_Dv_hasBoundary 1 _ _ _ rfl ?_
      exact mm_zret ok_Dv_hasBoundary rfl rfl rfl ⟨by simp [*], rfl⟩
    · -- 15 f
      refine mm_blk (pc' := 20) ok_Dv_hasBoundary 2 _ _ _ rfl ?_
      exact mm_zret ok_Dv_hasBoundary rfl rfl rfl ⟨by simp [*], rfl⟩
set_option maxHeartbeats 1000000 in
theorem c_Dv_shiftedDown : ∀ (r n i : Int32), mm_C G M_Dv_shiftedDown [.int r, .int n, .int i] h 0 0 (mm_E (some (.int (dv_sd r n i))) h) := by
  intro r n i
  refine mm_C_of (by decide +kernel) rfl (Nat.le_of_ble_eq_true rfl) rfl ?_
  refine mm_blk (pc' := 5) ok_Dv_shiftedDown 5 _ _ _ rfl ?_
  refine mm_if_eq ok_Dv_shiftedDown 18 rfl (by decide) (fun c5 => ?_) (fun c5 => ?_)
  · -- 18 t
    refine mm_blk (pc' := 19) ok_Dv_shiftedDown 1 _ _ _ rfl ?_
    exact mm_iret ok_Dv_shiftedDown rfl rfl ⟨by unfold dv_sd; simp only [c5, if_true, if_false], rfl⟩
  · -- 8 f
    refine mm_blk (pc' := 19) ok_Dv_shiftedDown 8 _ _ _ rfl ?_
    exact mm_iret ok_Dv_shiftedDown rfl rfl ⟨by unfold dv_sd; simp only [c5, if_true, if_false], rfl⟩
set_option maxHeartbeats 1000000 in
theorem c_Dv_dataLength (ha : h a = some (oDv d)) : mm_C G M_Dv_dataLength [.ref a] h 0 0 (mm_E (some (.int (dv_len d))) h) := by
  refine mm_C_of (by decide +kernel) rfl (Nat.le_of_ble_eq_true rfl) rfl ?_
  refine mm_blk (pc' := 1) ok_Dv_dataLength 1 _ _ _ rfl ?_
  refine mm_cVE ok_Dv_dataLength (As := []) rfl k_Dv_dataLength_36 ha rfl rfl rfl (Nat.le_of_ble_eq_true rfl) (c_Dv_hasBoundary ha) ?_
  by_cases hb : d 7 = 0 ∨ d 7 = 2
  · simp only [hb, if_true]
    refine mm_if_eq ok_Dv_dataLength 12 rfl (by decide) (fun c4 => absurd c4 (by decide)) (fun _ => ?_)
    refine mm_blk (pc' := 8) ok_Dv_dataLength 1 _ _ _ rfl ?_
    refine mm_getf ok_Dv_dataLength ha rfl f_Dv_18 rfl ?_
    exact mm_iret ok_Dv_dataLength rfl rfl ⟨by unfold dv_len; simp only [hb, if_true], rfl⟩
  simp only [hb, if_false]
  refine mm_if_eq ok_Dv_dataLength 12 rfl (by decide) (fun c4 => ?_) (fun c4 => ?_)
  · -- 12 t
    refine mm_blk (pc' := 13) ok_Dv_dataLength 1 _ _ _ rfl ?_
    refine mm_getf ok_Dv_dataLength ha rfl f_Dv_24 rfl ?_
    refine mm_blk (pc' := 17) ok_Dv_dataLength 1 _ _ _ rfl ?_
    refine mm_ic_ne ok_Dv_dataLength 25 rfl (by decide) (fun c17 => ?_) (fun c17 => ?_)
    · -- 25 t
      refine mm_blk (pc' := 26) ok_Dv_dataLength 1 _ _ _ rfl ?_
      exact mm_iret ok_Dv_dataLength rfl rfl ⟨by unfold dv_len; rw [if_neg hb]; first | rw [if_pos c17] | rw [if_neg c17], rfl⟩
    · -- 20 f
      refine mm_blk (pc' := 26) ok_Dv_dataLength 2 _ _ _ rfl ?_
      exact mm_iret ok_Dv_dataLength rfl rfl ⟨by unfold dv_len; rw [if_neg hb]; first | rw [if_pos c17] | rw [if_neg c17], rfl⟩
  · -- 7 f
    exact absurd rfl c4
set_option maxHeartbeats 1000000 in
theorem c_Dv_captureData (ha : h a = some (oDv d)) (sg : Int32) : mm_C G M_Dv_captureData [.ref a, .int sg] h 0 0 (mm_E none (mm_up h a (oDv (upd d 9 (dv_cap d sg))))) := by
  refine mm_C_of (by decide +kernel) rfl (Nat.le_of_ble_eq_true rfl) rfl ?_
  refine mm_blk (pc' := 1) ok_Dv_captureData 1 _ _ _ rfl ?_
  refine mm_cVE ok_Dv_captureData (As := []) rfl k_Dv_captureData_36 ha rfl rfl rfl (Nat.le_of_ble_eq_true rfl) (c_Dv_hasBoundary ha) ?_
  by_cases hb : d 7 = 0 ∨ d 7 = 2
  · simp only [hb, if_true]
    refine mm_if_eq ok_Dv_captureData 15 rfl (by decide) (fun c4 => absurd c4 (by decide)) (fun _ => ?_)
    refine mm_blk (pc' := 9) ok_Dv_captureData 2 _ _ _ rfl ?_
    refine mm_putf ok_Dv_captureData ha rfl f_Dv_40 (Or.inl rfl) (mm_fit_I _) ?_
    refine mm_blk (pc' := 35) ok_Dv_captureData 1 _ _ _ rfl ?_
    exact mm_vret ok_Dv_captureData rfl rfl ⟨rfl, by unfold dv_cap; simp only [hb, if_true]; rfl⟩
  simp only [hb, if_false]
  refine mm_if_eq ok_Dv_captureData 15 rfl (by decide) (fun c4 => ?_) (fun c4 => ?_)
  · -- 15 t
    refine mm_blk (pc' := 17) ok_Dv_captureData 2 _ _ _ rfl ?_
    refine mm_getf ok_Dv_captureData ha rfl f_Dv_24 rfl ?_
    refine mm_blk (pc' := 21) ok_Dv_captureData 1 _ _ _ rfl ?_
    refine mm_ic_ne ok_Dv_captureData 31 rfl (by decide) (fun c21 => ?_) (fun c21 => ?_)
    · -- 31 t
      refine mm_blk (pc' := 32) ok_Dv_captureData 1 _ _ _ rfl ?_
      refine mm_putf ok_Dv_captureData ha rfl f_Dv_40 (Or.inl rfl) (mm_fit_I _) ?_
      exact mm_vret ok_Dv_captureData rfl rfl ⟨rfl, by unfold dv_cap; rw [if_neg hb]; first | (rw [if_pos c21]; rfl) | (rw [if_neg c21]; rfl)⟩
    · -- 24 f
      refine mm_blk (pc' := 25) ok_Dv_captureData 1 _ _ _ rfl ?_
      refine mm_getf ok_Dv_captureData ha rfl f_Dv_15 rfl ?_
      refine mm_blk (pc' := 32) ok_Dv_captureData 1 _ _ _ rfl ?_
      refine mm_putf ok_Dv_captureData ha rfl f_Dv_40 (Or.inl rfl) (mm_fit_I _) ?_
      exact mm_vret ok_Dv_captureData rfl rfl ⟨rfl, by unfold dv_cap; rw [if_neg hb]; first | (rw [if_pos c21]; rfl) | (rw [if_neg c21]; rfl)⟩
  · -- 7 f
    exact absurd rfl c4
set_option maxHeartbeats 1000000 in
theorem c_Dv_shiftData (ha : h a = some (oDv d)) (i : Int32) : mm_C G M_Dv_shiftData [.ref a, .int i] h 0 0 (mm_E (some (.int (if (d 9 &&& 1) = 1 then 1 else 0))) (mm_up h a (oDv (upd d 9 (dv_sd (d 9) (dv_len d) i))))) := by
  refine mm_C_of (by decide +kernel) rfl (Nat.le_of_ble_eq_true rfl) rfl ?_
  refine mm_blk (pc' := 1) ok_Dv_shiftData 1 _ _ _ rfl ?_
  refine mm_getf ok_Dv_shiftData ha rfl f_Dv_40 rfl ?_
  refine mm_blk (pc' := 7) ok_Dv_shiftData 3 _ _ _ rfl ?_
  refine mm_tc_ne ok_Dv_shiftData 14 rfl (by decide) rfl rfl rfl (by decide) ?_
  refine mm_blk (pc' := 18) ok_Dv_shiftData 3 _ _ _ rfl ?_
  refine mm_getf ok_Dv_shiftData ha rfl f_Dv_40 rfl ?_
  refine mm_blk (pc' := 22) ok_Dv_shiftData 1 _ _ _ rfl ?_
  refine mm_cVE ok_Dv_shiftData (As := []) rfl k_Dv_shiftData_43 ha rfl rfl rfl (Nat.le_of_ble_eq_true rfl) (c_Dv_dataLength ha) ?_
  refine mm_blk (pc' := 26) ok_Dv_shiftData 1 _ _ _ rfl ?_
  refine mm_cSE ok_Dv_shiftData (As := [.int (d 9), .int (dv_len d), .int i]) rfl k_Dv_shiftData_47 rfl (Nat.le_of_ble_eq_true rfl) (c_Dv_shiftedDown _ _ _) ?_
  refine mm_putf ok_Dv_shiftData ha rfl f_Dv_40 (Or.inl rfl) (mm_fit_I _) ?_
  refine mm_blk (pc' := 33) ok_Dv_shiftData 1 _ _ _ rfl ?_
  exact mm_zret ok_Dv_shiftData rfl rfl mm_nb ⟨rfl, rfl⟩
set_option maxHeartbeats 1000000 in
theorem c_Dv_shiftInstruction (ha : h a = some (oDv d)) (i : Int32) : mm_C G M_Dv_shiftInstruction [.ref a, .int i] h 0 0 (mm_E (some (.int (if (d 8 &&& 1) = 1 then 1 else 0))) (mm_up h a (oDv (upd d 8 (dv_sd (d 8) (d 0) i))))) := by
  refine mm_C_of (by decide +kernel) rfl (Nat.le_of_ble_eq_true rfl) rfl ?_
  refine mm_blk (pc' := 1) ok_Dv_shiftInstruction 1 _ _ _ rfl ?_
  refine mm_getf ok_Dv_shiftInstruction ha rfl f_Dv_51 rfl ?_
  refine mm_blk (pc' := 7) ok_Dv_shiftInstruction 3 _ _ _ rfl ?_
  refine mm_tc_ne ok_Dv_shiftInstruction 14 rfl (by decide) rfl rfl rfl (by decide) ?_
  refine mm_blk (pc' := 18) ok_Dv_shiftInstruction 3 _ _ _ rfl ?_
  refine mm_getf ok_Dv_shiftInstruction ha rfl f_Dv_51 rfl ?_
  refine mm_blk (pc' := 22) ok_Dv_shiftInstruction 1 _ _ _ rfl ?_
  refine mm_getf ok_Dv_shiftInstruction ha rfl f_Dv_9 rfl ?_
  refine mm_blk (pc' := 26) ok_Dv_shiftInstruction 1 _ _ _ rfl ?_
  refine mm_cSE ok_Dv_shiftInstruction (As := [.int (d 8), .int (d 0), .int i]) rfl k_Dv_shiftInstruction_47 rfl (Nat.le_of_ble_eq_true rfl) (c_Dv_shiftedDown _ _ _) ?_
  refine mm_putf ok_Dv_shiftInstruction ha rfl f_Dv_51 (Or.inl rfl) (mm_fit_I _) ?_
  refine mm_blk (pc' := 33) ok_Dv_shiftInstruction 1 _ _ _ rfl ?_
  exact mm_zret ok_Dv_shiftInstruction rfl rfl mm_nb ⟨rfl, rfl⟩
set_option maxHeartbeats 1000000 in
theorem c_Dv_updateData (ha : h a = some (oDv d)) : mm_C G M_Dv_updateData [.ref a] h 0 0 (mm_E none (mm_up h a (oDv (upd d 5 (if d 7 = 0 ∨ d 7 = 2 then d 9 &&& d 3 else d 5))))) := by
  refine mm_C_of (by decide +kernel) rfl (Nat.le_of_ble_eq_true rfl) rfl ?_
  refine mm_blk (pc' := 1) ok_Dv_updateData 1 _ _ _ rfl ?_
  refine mm_cVE ok_Dv_updateData (As := []) rfl k_Dv_updateData_36 ha rfl rfl rfl (Nat.le_of_ble_eq_true rfl) (c_Dv_hasBoundary ha) ?_
  by_cases hb : d 7 = 0 ∨ d 7 = 2
  · simp only [hb, if_true]
    refine mm_if_eq ok_Dv_updateData 20 rfl (by decide) (fun c4 => absurd c4 (by decide)) (fun _ => ?_)
    refine mm_blk (pc' := 9) ok_Dv_updateData 2 _ _ _ rfl ?_
    refine mm_getf ok_Dv_updateData ha rfl f_Dv_40 rfl ?_
    refine mm_blk (pc' := 13) ok_Dv_updateData 1 _ _ _ rfl ?_
    refine mm_getf ok_Dv_updateData ha rfl f_Dv_21 rfl ?_
    refine mm_blk (pc' := 17) ok_Dv_updateData 1 _ _ _ rfl ?_
    refine mm_putf ok_Dv_updateData ha rfl f_Dv_33 (Or.inl rfl) (mm_fit_I _) ?_
    exact mm_vret ok_Dv_updateData rfl rfl ⟨rfl, rfl⟩
  simp only [hb, if_false]
  refine mm_if_eq ok_Dv_updateData 20 rfl (by decide) (fun c4 => ?_) (fun c4 => ?_)
  · -- 20 t
    exact mm_vret ok_Dv_updateData rfl rfl ⟨rfl, (mm_up_same ha).symm⟩
  · -- 7 f
    exact absurd rfl c4
set_option maxHeartbeats 1000000 in
theorem c_Dv_init (ha : h a = some (1, mm_df 1)) (b i c dr : Int32) : mm_C G M_Dv_init [.ref a, .int b, .int i, .int c, .int dr] h 0 0 (mm_E none (mm_up h a (oDv (fun k => if k = 0 then b else if k = 1 then i else if k = 2 then c else if k = 3 then dr &&& (1 <<< (c &&& 31) - 1) else if k = 7 then 1 else 0)))) := by
  refine mm_C_of (by decide +kernel) rfl (Nat.le_of_ble_eq_true rfl) rfl ?_
  refine mm_blk (pc' := 1) ok_Dv_init 1 _ _ _ rfl ?_
  refine mm_oinit ok_Dv_init rfl oi_Dv_3 (Nat.le_of_ble_eq_true rfl) (by decide) (by decide) ?_
  refine mm_blk (pc' := 6) ok_Dv_init 2 _ _ _ rfl ?_
  refine mm_putf ok_Dv_init ha rfl f_Dv_9 (Or.inr ⟨rfl, rfl, rfl⟩) (mm_fit_I _) ?_
  refine mm_blk (pc' := 11) ok_Dv_init 2 _ _ _ rfl ?_
  refine mm_putf ok_Dv_init (mm_up_self _ _ _) rfl f_Dv_15 (Or.inr ⟨rfl, rfl, rfl⟩) (mm_fit_I _) ?_
  refine mm_blk (pc' := 16) ok_Dv_init 2 _ _ _ rfl ?_
  refine mm_putf ok_Dv_init (mm_up_self _ _ _) rfl f_Dv_18 (Or.inr ⟨rfl, rfl, rfl⟩) (mm_fit_I _) ?_
  refine mm_blk (pc' := 28) ok_Dv_init 8 _ _ _ rfl ?_
  refine mm_putf ok_Dv_init (mm_up_self _ _ _) rfl f_Dv_21 (Or.inr ⟨rfl, rfl, rfl⟩) (mm_fit_I _) ?_
  refine mm_blk (pc' := 33) ok_Dv_init 2 _ _ _ rfl ?_
  refine mm_putf ok_Dv_init (mm_up_self _ _ _) rfl f_Dv_24 (Or.inl rfl) (mm_fit_I _) ?_
  exact mm_vret ok_Dv_init rfl rfl ⟨rfl, by simp only [mm_up_up]; rfl⟩
end DV
end
section
/-! Net -/
/-- a net: the devices that it goes from and to, what it is shorted with, its numbers: 1 fromCell 3 toCell 4 faultKind 6 seen -/
def oNt (f t : Nat) (s : Option Nat) (n : Nat → Int32) : mm_Ob := (2, [.ref f, .int (n 1), .ref t, .int (n 3), .int (n 4), va_rf s, .int (n 6)])
section NT
variable {G : mm_G} {h : mm_Hp} {a f t : Nat} {n : Nat → Int32}
/-- the bit that a driver puts out -/
def nt_bit (d : Nat → Int32) (cell : Int32) : Int32 := mm_ushr (dv_out d) cell &&& 1
/-- what a net carries: its kind, its own driver's bit, the other one's -/
def nt_car (k own : Int32) (oth : Option Int32) : Int32 := if k = 0 then 0 else if k = 1 then 1 else match oth with
  | none => if own = 1 then 1 else 0
  | some o => if (if k = 2 then own &&& o else own ||| o) = 1 then 1 else 0

set_option maxHeartbeats 1000000 in
theorem c_Nt_init (ha : h a = some (2, mm_df 2)) (f t : Nat) (i j : Int32) : mm_C G M_Nt_init [.ref a, .ref f, .int i, .ref t, .int j] h 0 0 (mm_E none (mm_up h a (oNt f t none (fun k => if k = 1 then i else if k = 3 then j else if k = 4 then -1 else 0)))) := by
  refine mm_C_of (by decide +kernel) rfl (Nat.le_of_ble_eq_true rfl) rfl ?_
  refine mm_blk (pc' := 1) ok_Nt_init 1 _ _ _ rfl ?_
  refine mm_oinit ok_Nt_init rfl oi_Nt_3 (Nat.le_of_ble_eq_true rfl) (by decide) (by decide) ?_
  refine mm_blk (pc' := 6) ok_Nt_init 2 _ _ _ rfl ?_
  refine mm_putf ok_Nt_init ha rfl f_Nt_9 (Or.inr ⟨rfl, rfl, rfl⟩) (mm_fit_D _) ?_
  refine mm_blk (pc' := 11) ok_Nt_init 2 _ _ _ rfl ?_
  refine mm_putf ok_Nt_init (mm_up_self _ _ _) rfl f_Nt_15 (Or.inr ⟨rfl, rfl, rfl⟩) (mm_fit_I _) ?_
  refine mm_blk (pc' := 16) ok_Nt_init 2 _ _ _ rfl ?_
  refine mm_putf ok_Nt_init (mm_up_self _ _ _) rfl f_Nt_19 (Or.inr ⟨rfl, rfl, rfl⟩) (mm_fit_D _) ?_
  refine mm_blk (pc' := 22) ok_Nt_init 2 _ _ _ rfl ?_
  refine mm_putf ok_Nt_init (mm_up_self _ _ _) rfl f_Nt_22 (Or.inr ⟨rfl, rfl, rfl⟩) (mm_fit_I _) ?_
  refine mm_blk (pc' := 27) ok_Nt_init 2 _ _ _ rfl ?_
  refine mm_putf ok_Nt_init (mm_up_self _ _ _) rfl f_Nt_25 (Or.inl rfl) (mm_fit_I _) ?_
  exact mm_vret ok_Nt_init rfl rfl ⟨rfl, by simp only [mm_up_up]; rfl⟩
set_option maxHeartbeats 1000000 in
theorem c_Nt_carries0 {d : Nat → Int32} (ha : h a = some (oNt f t none n)) (hf : h f = some (oDv d)) : mm_C G M_Nt_carries [.ref a] h 0 0 (mm_E (some (.int (nt_car (n 4) (nt_bit d (n 1)) none))) h) := by
  refine mm_C_of (by decide +kernel) rfl (Nat.le_of_ble_eq_true rfl) rfl ?_
  refine mm_blk (pc' := 1) ok_Nt_carries 1 _ _ _ rfl ?_
  refine mm_getf ok_Nt_carries ha rfl f_Nt_25 rfl ?_
  refine mm_if_ne ok_Nt_carries 9 rfl (by decide) (fun c4 => ?_) (fun c4 => ?_)
  · -- 9 t
    refine mm_blk (pc' := 10) ok_Nt_carries 1 _ _ _ rfl ?_
    refine mm_getf ok_Nt_carries ha rfl f_Nt_25 rfl ?_
    refine mm_blk (pc' := 14) ok_Nt_carries 1 _ _ _ rfl ?_
    refine mm_ic_ne ok_Nt_carries 19 rfl (by decide) (fun c14 => ?_) (fun c14 => ?_)
    · -- 19 t
      refine mm_blk (pc' := 20) ok_Nt_carries 1 _ _ _ rfl ?_
      refine mm_getf ok_Nt_carries ha rfl f_Nt_9 rfl ?_
      refine mm_cVE ok_Nt_carries (As := []) rfl k_Nt_carries_28 hf rfl rfl rfl (Nat.le_of_ble_eq_true rfl) (c_Dv_outputs hf) ?_
      refine mm_blk (pc' := 27) ok_Nt_carries 1 _ _ _ rfl ?_
      refine mm_getf ok_Nt_carries ha rfl f_Nt_15 rfl ?_
      refine mm_blk (pc' := 35) ok_Nt_carries 5 _ _ _ rfl ?_
      refine mm_getf ok_Nt_carries ha rfl f_Nt_34 rfl ?_
      refine mm_ifnonnullN ok_Nt_carries rfl ?_
      refine mm_blk (pc' := 43) ok_Nt_carries 2 _ _ _ rfl ?_
      refine mm_tc_ne ok_Nt_carries 50 rfl (by decide) rfl rfl rfl (by decide) ?_
      exact mm_zret ok_Nt_carries rfl rfl mm_nb ⟨by unfold nt_car; rw [if_neg c4, if_neg c14]; rfl, rfl⟩
    · -- 17 f
      refine mm_blk (pc' := 18) ok_Nt_carries 1 _ _ _ rfl ?_
      exact mm_zret ok_Nt_carries rfl rfl rfl ⟨by unfold nt_car; rw [if_neg c4, if_pos c14], rfl⟩
  · -- 7 f
    refine mm_blk (pc' := 8) ok_Nt_carries 1 _ _ _ rfl ?_
    exact mm_zret ok_Nt_carries rfl rfl rfl ⟨by unfold nt_car; rw [if_pos c4], rfl⟩
set_option maxHeartbeats 1000000 in
theorem c_Nt_carries1 {d d2 : Nat → Int32} {b f2 t2 : Nat} {s2 : Option Nat} {n2 : Nat → Int32} (ha : h a = some (oNt f t (some b) n)) (hf : h f = some (oDv d)) (hb : h b = some (oNt f2 t2 s2 n2)) (hf2 : h f2 = some (oDv d2)) : mm_C G M_Nt_carries [.ref a] h 0 0 (mm_E (some (.int (nt_car (n 4) (nt_bit d (n 1)) (some (nt_bit d2 (n2 1)))))) h) := by
  refine mm_C_of (by decide +kernel) rfl (Nat.le_of_ble_eq_true rfl) rfl ?_
  refine mm_blk (pc' := 1) ok_Nt_carries 1 _ _ _ rfl ?_
  refine mm_getf ok_Nt_carries ha rfl f_Nt_25 rfl ?_
  refine mm_if_ne ok_Nt_carries 9 rfl (by decide) (fun c4 => ?_) (fun c4 => ?_)
  · -- 9 t
    refine mm_blk (pc' := 10) ok_Nt_carries 1 _ _ _ rfl ?_
    refine mm_getf ok_Nt_carries ha rfl f_Nt_25 rfl ?_
    refine mm_blk (pc' := 14) ok_Nt_carries 1 _ _ _ rfl ?_
    refine mm_ic_ne ok_Nt_carries 19 rfl (by decide) (fun c14 => ?_) (fun c14 => ?_)
    · -- 19 t
      refine mm_blk (pc' := 20) ok_Nt_carries 1 _ _ _ rfl ?_
      refine mm_getf ok_Nt_carries ha rfl f_Nt_9 rfl ?_
      refine mm_cVE ok_Nt_carries (As := []) rfl k_Nt_carries_28 hf rfl rfl rfl (Nat.le_of_ble_eq_true rfl) (c_Dv_outputs hf) ?_
      refine mm_blk (pc' := 27) ok_Nt_carries 1 _ _ _ rfl ?_
      refine mm_getf ok_Nt_carries ha rfl f_Nt_15 rfl ?_
      refine mm_blk (pc' := 35) ok_Nt_carries 5 _ _ _ rfl ?_
      refine mm_getf ok_Nt_carries ha rfl f_Nt_34 rfl ?_
      refine mm_ifnonnull ok_Nt_carries 52 rfl (by decide) ?_
      refine mm_blk (pc' := 53) ok_Nt_carries 1 _ _ _ rfl ?_
      refine mm_getf ok_Nt_carries ha rfl f_Nt_34 rfl ?_
      refine mm_getf ok_Nt_carries hb rfl f_Nt_9 rfl ?_
      refine mm_cVE ok_Nt_carries (As := []) rfl k_Nt_carries_28 hf2 rfl rfl rfl (Nat.le_of_ble_eq_true rfl) (c_Dv_outputs hf2) ?_
      refine mm_blk (pc' := 63) ok_Nt_carries 1 _ _ _ rfl ?_
      refine mm_getf ok_Nt_carries ha rfl f_Nt_34 rfl ?_
      refine mm_getf ok_Nt_carries hb rfl f_Nt_15 rfl ?_
      refine mm_blk (pc' := 74) ok_Nt_carries 5 _ _ _ rfl ?_
      refine mm_getf ok_Nt_carries ha rfl f_Nt_25 rfl ?_
      refine mm_blk (pc' := 78) ok_Nt_carries 1 _ _ _ rfl ?_
      refine mm_ic_ne ok_Nt_carries 87 rfl (by decide) (fun c78 => ?_) (fun c78 => ?_)
      · -- 87 t
        refine mm_blk (pc' := 91) ok_Nt_carries 4 _ _ _ rfl ?_
        refine mm_tc_ne ok_Nt_carries 98 rfl (by decide) rfl rfl rfl (by decide) ?_
        exact mm_zret ok_Nt_carries rfl rfl mm_nb ⟨by unfold nt_car; rw [if_neg c4, if_neg c14]; first | (simp only [if_pos c78]; rfl) | (simp only [if_neg c78]; rfl), rfl⟩
      · -- 81 f
        refine mm_blk (pc' := 91) ok_Nt_carries 5 _ _ _ rfl ?_
        refine mm_tc_ne ok_Nt_carries 98 rfl (by decide) rfl rfl rfl (by decide) ?_
        exact mm_zret ok_Nt_carries rfl rfl mm_nb ⟨by unfold nt_car; rw [if_neg c4, if_neg c14]; first | (simp only [if_pos c78]; rfl) | (simp only [if_neg c78]; rfl), rfl⟩
    · -- 17 f
      refine mm_blk (pc' := 18) ok_Nt_carries 1 _ _ _ rfl ?_
      exact mm_zret ok_Nt_carries rfl rfl rfl ⟨by unfold nt_car; rw [if_neg c4, if_pos c14], rfl⟩
  · -- 7 f
    refine mm_blk (pc' := 8) ok_Nt_carries 1 _ _ _ rfl ?_
    exact mm_zret ok_Nt_carries rfl rfl rfl ⟨by unfold nt_car; rw [if_pos c4], rfl⟩
set_option maxHeartbeats 1000000 in
theorem c_Nt_mend0 (ha : h a = some (oNt f t none n)) : mm_C G M_Nt_mend [.ref a] h 0 0 (mm_E none (mm_up h a (oNt f t none (upd n 4 (-1))))) := by
  refine mm_C_of (by decide +kernel) rfl (Nat.le_of_ble_eq_true rfl) rfl ?_
  refine mm_blk (pc' := 1) ok_Nt_mend 1 _ _ _ rfl ?_
  refine mm_getf ok_Nt_mend ha rfl f_Nt_34 rfl ?_
  refine mm_ifnullN ok_Nt_mend 23 rfl (by decide) ?_
  refine mm_blk (pc' := 25) ok_Nt_mend 2 _ _ _ rfl ?_
  refine mm_putf ok_Nt_mend ha rfl f_Nt_25 (Or.inl rfl) (mm_fit_I _) ?_
  refine mm_blk (pc' := 30) ok_Nt_mend 2 _ _ _ rfl ?_
  refine mm_putf ok_Nt_mend (mm_up_self _ _ _) rfl f_Nt_34 (Or.inl rfl) mm_fit_Nn ?_
  exact mm_vret ok_Nt_mend rfl rfl ⟨rfl, by simp only [mm_up_up]; rfl⟩
set_option maxHeartbeats 1000000 in
theorem c_Nt_mend1 {b f2 t2 : Nat} {s2 : Option Nat} {n2 : Nat → Int32} (ha : h a = some (oNt f t (some b) n)) (hb : h b = some (oNt f2 t2 s2 n2)) (hab : a ≠ b) : mm_C G M_Nt_mend [.ref a] h 0 0 (mm_E none (mm_up (mm_up h b (oNt f2 t2 none (upd n2 4 (-1)))) a (oNt f t none (upd n 4 (-1))))) := by
  refine mm_C_of (by decide +kernel) rfl (Nat.le_of_ble_eq_true rfl) rfl ?_
  refine mm_blk (pc' := 1) ok_Nt_mend 1 _ _ _ rfl ?_
  refine mm_getf ok_Nt_mend ha rfl f_Nt_34 rfl ?_
  refine mm_ifnull ok_Nt_mend rfl ?_
  refine mm_blk (pc' := 8) ok_Nt_mend 1 _ _ _ rfl ?_
  refine mm_getf ok_Nt_mend ha rfl f_Nt_34 rfl ?_
  refine mm_blk (pc' := 12) ok_Nt_mend 1 _ _ _ rfl ?_
  refine mm_putf ok_Nt_mend hb rfl f_Nt_25 (Or.inl rfl) (mm_fit_I _) ?_
  refine mm_blk (pc' := 16) ok_Nt_mend 1 _ _ _ rfl ?_
  refine mm_getf ok_Nt_mend ((mm_up_ne _ _ hab).trans ha) rfl f_Nt_34 rfl ?_
  refine mm_blk (pc' := 20) ok_Nt_mend 1 _ _ _ rfl ?_
  refine mm_putf ok_Nt_mend (mm_up_self _ _ _) rfl f_Nt_34 (Or.inl rfl) mm_fit_Nn ?_
  refine mm_blk (pc' := 25) ok_Nt_mend 2 _ _ _ rfl ?_
  refine mm_putf ok_Nt_mend ((mm_up_ne _ _ hab).trans ((mm_up_ne _ _ hab).trans ha)) rfl f_Nt_25 (Or.inl rfl) (mm_fit_I _) ?_
  refine mm_blk (pc' := 30) ok_Nt_mend 2 _ _ _ rfl ?_
  refine mm_putf ok_Nt_mend (mm_up_self _ _ _) rfl f_Nt_34 (Or.inl rfl) mm_fit_Nn ?_
  exact mm_vret ok_Nt_mend rfl rfl ⟨rfl, by simp only [mm_up_up]; rfl⟩
end NT
end
section
/-! ArrayList and what it calls -/
def oAl (mc : Int32) (e n : Nat) : mm_Ob := (0, [.int mc, .ref e, .int (nI n)])
theorem mm_max {G : mm_G} {M : mm_M} {pc : Nat} {L : List (Nat × Value)} {st : List Value} {h : mm_Hp} {kc ks : Nat} {Q : mm_O → mm_Hp → Prop} {T : mm_T} (hT : mm_ok M T) {idx : Nat} {x y c0 : Int32} (hf : mm_ix T pc = some (.invokestatic idx, 3, c0))
    (hk : (mm_in (.methodLink M.1.cls idx Lib.Math.max.name) && mm_in (.static Lib.Math.max.name) && mm_in (.initialized "java/lang/Math") && mm_in (.code Lib.Math.max.name Lib.Math.max.code 2 (some .int))) = true) (hfr : 1 ≤ M.2.2.2.2.1) (hlo : (st.map fun v => v.category).sum + 13 ≤ M.2.2.2.2.2.1)
    (kk : mm_V G M (pc + 3) L (.int (if x < y then y else x) :: st) h kc ks Q) : mm_V G M pc L (.int y :: .int x :: st) h kc ks Q := by
  intro p l e R s m args below meth c H locs cells slots A ls hF hI hc hs hl
  simp only [Bool.and_eq_true] at hk
  have hts := hF.2.2.2.2.2.2.1
  have hfr9 := hF.2.2.2.2.2.2.2.2.2.2.1
  have hlo9 := hF.2.2.2.2.2.2.2.2.2.2.2.1
  exact va_mmax hF.1 hF.2.1 (by rw [hF.2.2.2.2.1]; exact hl.1.symm) hF.2.2.2.2.2.1 (mm_in_of hts hk.1.1.1) (mm_in_of hts hk.1.1.2) (mm_in_of hts hk.1.2) (mm_in_of hts hk.2) (by omega) (by omega) (by omega) (by omega) (mm_dec hT hf) (kk p l e R s m args below meth c H locs cells slots A ls hF hI hc hs hl)
theorem mx_Al_79 : (mm_in (.methodLink RJx4a65c 79 Lib.Math.max.name) && mm_in (.static Lib.Math.max.name) && mm_in (.initialized "java/lang/Math") && mm_in (.code Lib.Math.max.name Lib.Math.max.code 2 (some .int))) = true := by decide +kernel
section AL
variable {G : mm_G} {h : mm_Hp} {a e n : Nat} {mc : Int32}

set_option maxHeartbeats 1000000 in
theorem c_Pc_checkIndex {j : Nat} (hj : j < n) (hn : n < 2147483648) : mm_C G M_Pc_checkIndex [.int (nI j), .int (nI n), .null] h 0 0 (mm_E (some (.int (nI j))) h) := by
  refine mm_C_of (by decide +kernel) rfl (Nat.le_of_ble_eq_true rfl) rfl ?_
  refine mm_blk (pc' := 1) ok_Pc_checkIndex 1 _ _ _ rfl ?_
  refine mm_if_lt ok_Pc_checkIndex 9 rfl (by decide) (fun c => ?_) (fun c => ?_)
  · exact absurd c (nI_pos (by omega))
  refine mm_blk (pc' := 6) ok_Pc_checkIndex 2 _ _ _ rfl ?_
  refine mm_ic_lt ok_Pc_checkIndex 16 rfl (by decide) (fun c => ?_) (fun c => ?_)
  rotate_left
  · exact absurd (nI_lt hj (by omega)) c
  refine mm_blk (pc' := 17) ok_Pc_checkIndex 1 _ _ _ rfl ?_
  exact mm_iret ok_Pc_checkIndex rfl rfl ⟨rfl, rfl⟩
set_option maxHeartbeats 1000000 in
theorem c_Ob_checkIndex {j : Nat} (hj : j < n) (hn : n < 2147483648) : mm_C G M_Ob_checkIndex [.int (nI j), .int (nI n)] h 0 0 (mm_E (some (.int (nI j))) h) := by
  refine mm_C_of (by decide +kernel) rfl (Nat.le_of_ble_eq_true rfl) rfl ?_
  refine mm_blk (pc' := 3) ok_Ob_checkIndex 3 _ _ _ rfl ?_
  refine mm_cSE ok_Ob_checkIndex (As := [.int (nI j), .int (nI n), .null]) rfl k_Ob_checkIndex_105 rfl (Nat.le_of_ble_eq_true rfl) (c_Pc_checkIndex hj hn) ?_
  exact mm_iret ok_Ob_checkIndex rfl rfl ⟨rfl, rfl⟩
set_option maxHeartbeats 1000000 in
theorem c_Al_size (ha : h a = some (oAl mc e n)) : mm_C G M_Al_size [.ref a] h 0 0 (mm_E (some (.int (nI n))) h) := by
  refine mm_C_of (by decide +kernel) rfl (Nat.le_of_ble_eq_true rfl) rfl ?_
  refine mm_blk (pc' := 1) ok_Al_size 1 _ _ _ rfl ?_
  refine mm_getf ok_Al_size ha rfl f_Al_48 rfl ?_
  exact mm_iret ok_Al_size rfl rfl ⟨rfl, rfl⟩
set_option maxHeartbeats 1000000 in
theorem c_Al_isEmpty (ha : h a = some (oAl mc e n)) : mm_C G M_Al_isEmpty [.ref a] h 0 0 (mm_E (some (.int (if nI n = 0 then 1 else 0))) h) := by
  refine mm_C_of (by decide +kernel) rfl (Nat.le_of_ble_eq_true rfl) rfl ?_
  refine mm_blk (pc' := 1) ok_Al_isEmpty 1 _ _ _ rfl ?_
  refine mm_getf ok_Al_isEmpty ha rfl f_Al_48 rfl ?_
  refine mm_ti_ne ok_Al_isEmpty 11 rfl (by decide) rfl rfl rfl (by decide) ?_
  exact mm_zret ok_Al_isEmpty rfl rfl mm_nb ⟨rfl, rfl⟩
set_option maxHeartbeats 1000000 in
theorem c_Al_elementData {j q : Nat} {vs : List Value} (ha : h a = some (oAl mc e n)) (he : h e = some (13, vs)) (hb : j < 2147483648) (hv : vs[j]? = some (.ref q)) : mm_C G M_Al_elementData [.ref a, .int (nI j)] h 0 0 (mm_E (some (.ref q)) h) := by
  refine mm_C_of (by decide +kernel) rfl (Nat.le_of_ble_eq_true rfl) rfl ?_
  refine mm_blk (pc' := 1) ok_Al_elementData 1 _ _ _ rfl ?_
  refine mm_getf ok_Al_elementData ha rfl f_Al_9 rfl ?_
  refine mm_blk (pc' := 5) ok_Al_elementData 1 _ _ _ rfl ?_
  refine mm_aald ok_Al_elementData he rfl rfl hb hv ?_
  exact mm_aret ok_Al_elementData rfl rfl (Or.inl ⟨_, rfl⟩) ⟨rfl, rfl⟩
set_option maxHeartbeats 1000000 in
theorem c_Al_get {j q : Nat} {vs : List Value} (ha : h a = some (oAl mc e n)) (he : h e = some (13, vs)) (hj : j < n) (hn : n < 2147483648) (hv : vs[j]? = some (.ref q)) : mm_C G M_Al_get [.ref a, .int (nI j)] h 0 0 (mm_E (some (.ref q)) h) := by
  refine mm_C_of (by decide +kernel) rfl (Nat.le_of_ble_eq_true rfl) rfl ?_
  refine mm_blk (pc' := 2) ok_Al_get 2 _ _ _ rfl ?_
  refine mm_getf ok_Al_get ha rfl f_Al_48 rfl ?_
  refine mm_cSE ok_Al_get (As := [.int (nI j), .int (nI n)]) rfl k_Al_get_118 rfl (Nat.le_of_ble_eq_true rfl) (c_Ob_checkIndex hj hn) ?_
  refine mm_blk (pc' := 11) ok_Al_get 3 _ _ _ rfl ?_
  refine mm_cVE ok_Al_get (As := [.int (nI j)]) rfl k_Al_get_123 ha rfl rfl rfl (Nat.le_of_ble_eq_true rfl) (c_Al_elementData ha he (by omega) hv) ?_
  exact mm_aret ok_Al_get rfl rfl (Or.inl ⟨_, rfl⟩) ⟨rfl, rfl⟩
set_option maxHeartbeats 1000000 in
theorem c_Ac_init : mm_C G M_Ac_init [.ref a] h 0 0 (mm_E none h) := by
  refine mm_C_of (by decide +kernel) rfl (Nat.le_of_ble_eq_true rfl) rfl ?_
  refine mm_blk (pc' := 1) ok_Ac_init 1 _ _ _ rfl ?_
  refine mm_oinit ok_Ac_init rfl oi_Ac_1 (Nat.le_of_ble_eq_true rfl) (by decide) (by decide) ?_
  exact mm_vret ok_Ac_init rfl rfl ⟨rfl, rfl⟩
set_option maxHeartbeats 1000000 in
theorem c_As_init {e0 v0 : Value} (ha : h a = some (0, [.int mc, e0, v0])) : mm_C G M_As_init [.ref a] h 0 0 (mm_E none (mm_up h a (0, [.int 0, e0, v0]))) := by
  refine mm_C_of (by decide +kernel) rfl (Nat.le_of_ble_eq_true rfl) rfl ?_
  refine mm_blk (pc' := 1) ok_As_init 1 _ _ _ rfl ?_
  refine mm_cIE ok_As_init (As := []) rfl k_As_init_1 rfl (Nat.le_of_ble_eq_true rfl) (c_Ac_init) ?_
  refine mm_blk (pc' := 6) ok_As_init 2 _ _ _ rfl ?_
  refine mm_putf ok_As_init ha rfl f_As_7 (Or.inl rfl) (mm_fit_I _) ?_
  exact mm_vret ok_As_init rfl rfl ⟨rfl, rfl⟩
set_option maxHeartbeats 1000000 in
theorem c_Al_init (ha : h a = some (0, mm_df 0)) : mm_C G M_Al_init [.ref a] h 0 0 (mm_E none (mm_up h a (oAl 0 (G.2.2.1 2) 0))) := by
  refine mm_C_of (by decide +kernel) rfl (Nat.le_of_ble_eq_true rfl) rfl ?_
  refine mm_blk (pc' := 1) ok_Al_init 1 _ _ _ rfl ?_
  refine mm_cIE ok_Al_init (As := []) rfl k_Al_init_1 rfl (Nat.le_of_ble_eq_true rfl) (c_As_init (mc := 0) (e0 := .null) (v0 := .int 0) ha) ?_
  refine mm_blk (pc' := 5) ok_Al_init 1 _ _ _ rfl ?_
  refine mm_gets ok_Al_init (k := 2) rfl gs_Al_39 rfl ?_
  refine mm_putf ok_Al_init (mm_up_self _ _ _) rfl f_Al_9 (Or.inl rfl) (mm_fit_AO _) ?_
  exact mm_vret ok_Al_init rfl rfl ⟨rfl, by simp only [mm_up_up]; rfl⟩
set_option maxHeartbeats 1000000 in
theorem c_Al_grow1 (ha : h a = some (oAl mc (G.2.2.1 2) 0)) : mm_C G M_Al_grow1 [.ref a, .int 1] h 1 10 (fun o h' => ∃ q, h q = none ∧ o = .inl (some (.ref q)) ∧ h' = mm_up (mm_up h q (13, List.replicate 10 .null)) a (oAl mc q 0)) := by
  refine mm_C_of (by decide +kernel) rfl (Nat.le_of_ble_eq_true rfl) rfl ?_
  refine mm_blk (pc' := 1) ok_Al_grow1 1 _ _ _ rfl ?_
  refine mm_getf ok_Al_grow1 ha rfl f_Al_9 rfl ?_
  refine mm_tlen (v := 0) ok_Al_grow1 (k := 2) rfl rfl rfl ?_
  refine mm_blk (pc' := 7) ok_Al_grow1 2 _ _ _ rfl ?_
  refine mm_if_gt ok_Al_grow1 20 rfl (by decide) (fun c => ?_) (fun c => ?_)
  · exact absurd c (by decide)
  refine mm_blk (pc' := 11) ok_Al_grow1 1 _ _ _ rfl ?_
  refine mm_getf ok_Al_grow1 ha rfl f_Al_9 rfl ?_
  refine mm_gets ok_Al_grow1 (k := 2) rfl gs_Al_39 rfl ?_
  refine mm_acmp_eq ok_Al_grow1 45 rfl (by decide) (fun _ => ?_) (fun c => absurd rfl c)
  refine mm_blk (pc' := 49) ok_Al_grow1 3 _ _ _ rfl ?_
  refine mm_max ok_Al_grow1 rfl mx_Al_79 (by decide) (Nat.le_of_ble_eq_true rfl) ?_
  refine mm_newO (kc := 0) (ks := 0) (N := 10) ok_Al_grow1 an_Al_7 rfl (by decide) (by decide) (fun q hq => ?_)
  have hne : a ≠ q := fun z => by rw [z, hq] at ha; cases ha
  refine mm_blk (pc' := 56) ok_Al_grow1 1 _ _ _ rfl ?_
  refine mm_putf ok_Al_grow1 ((mm_up_ne _ _ hne).trans ha) rfl f_Al_9 (Or.inl rfl) (mm_fit_AO _) ?_
  exact mm_aret ok_Al_grow1 rfl rfl (Or.inr ⟨_, rfl⟩) ⟨q, hq, rfl, rfl⟩
set_option maxHeartbeats 1000000 in
theorem c_Al_grow0 (ha : h a = some (oAl mc (G.2.2.1 2) 0)) : mm_C G M_Al_grow0 [.ref a] h 1 10 (fun o h' => ∃ q, h q = none ∧ o = .inl (some (.ref q)) ∧ h' = mm_up (mm_up h q (13, List.replicate 10 .null)) a (oAl mc q 0)) := by
  refine mm_C_of (by decide +kernel) rfl (Nat.le_of_ble_eq_true rfl) rfl ?_
  refine mm_blk (pc' := 2) ok_Al_grow0 2 _ _ _ rfl ?_
  refine mm_getf ok_Al_grow0 ha rfl f_Al_48 rfl ?_
  refine mm_blk (pc' := 7) ok_Al_grow0 2 _ _ _ rfl ?_
  refine mm_callV (kc := 0) (ks := 0) ok_Al_grow0 (As := [.int 1]) rfl k_Al_grow0_69 ha rfl rfl rfl (Nat.le_of_ble_eq_true rfl) (c_Al_grow1 ha) (fun E h' z => by obtain ⟨q, _, z, _⟩ := z; cases z) (fun v h' hq => ?_)
  obtain ⟨q, hq, e1, rfl⟩ := hq
  cases e1
  exact mm_aret ok_Al_grow0 rfl rfl (Or.inr ⟨_, rfl⟩) ⟨q, hq, rfl, rfl⟩
theorem mm_up_comm {h : mm_Hp} {a b : Nat} {o o' : mm_Ob} (hab : a ≠ b) : mm_up (mm_up h a o) b o' = mm_up (mm_up h b o') a o := by
  funext c
  unfold mm_up
  by_cases h1 : c = a
  · have h2 : ¬ c = b := fun z => hab (h1.symm.trans z)
    rw [if_neg h2, if_pos h1, if_pos h1]
  · rw [if_neg h1, if_neg h1]
set_option maxHeartbeats 1000000 in
theorem c_Al_add3_0 {b ci : Nat} {fs : List Value} {r : vw_C} (hb : h b = some (ci, fs)) (hr : mm_cl[ci]? = some r) (hca : mm_in (.castable r.1 "java/lang/Object") = true) (ha : h a = some (oAl mc (G.2.2.1 2) 0)) : mm_C G M_Al_add3 [.ref a, .ref b, .ref (G.2.2.1 2), .int 0] h 1 10 (fun o h' => ∃ q, h q = none ∧ o = .inl none ∧ h' = mm_up (mm_up h q (13, Value.ref b :: List.replicate 9 .null)) a (oAl mc q 1)) := by
  refine mm_C_of (by decide +kernel) rfl (Nat.le_of_ble_eq_true rfl) rfl ?_
  refine mm_blk (pc' := 2) ok_Al_add3 2 _ _ _ rfl ?_
  refine mm_tlen (v := 0) ok_Al_add3 (k := 2) rfl rfl rfl ?_
  refine mm_ic_ne ok_Al_add3 11 rfl (by decide) (fun c => ?_) (fun c => ?_)
  · exact absurd rfl c
  refine mm_blk (pc' := 7) ok_Al_add3 1 _ _ _ rfl ?_
  refine mm_callV (kc := 0) (ks := 0) ok_Al_add3 (As := []) rfl k_Al_add3_129 ha rfl rfl rfl (Nat.le_of_ble_eq_true rfl) (c_Al_grow0 ha) (fun E h' z => by obtain ⟨q, _, z, _⟩ := z; cases z) (fun v h' hq => ?_)
  obtain ⟨q, hq, e1, rfl⟩ := hq
  cases e1
  have hne : a ≠ q := fun z => by rw [z, hq] at ha; cases ha
  have hnb : b ≠ q := fun z => by rw [z, hq] at hb; cases hb
  refine mm_blk (pc' := 14) ok_Al_add3 4 _ _ _ rfl ?_
  have hab : h b = some (ci, fs) := hb
  by_cases hba : b = a
  · exfalso; rw [hba, ha] at hb; cases hb; cases hr; exact absurd hca (by decide +kernel)
  refine mm_aast (j := 0) ok_Al_add3 ((mm_up_ne _ _ (Ne.symm hne)).trans (mm_up_self _ _ _)) ((mm_up_ne _ _ hba).trans ((mm_up_ne _ _ hnb).trans hb)) hr hca rfl rfl (by decide) (by decide) ?_
  refine mm_blk (pc' := 19) ok_Al_add3 4 _ _ _ rfl ?_
  refine mm_putf ok_Al_add3 ((mm_up_ne _ _ hne).trans (mm_up_self _ _ _)) rfl f_Al_48 (Or.inl rfl) (mm_fit_I _) ?_
  exact mm_vret ok_Al_add3 rfl rfl ⟨q, hq, rfl, by rw [mm_up_comm (Ne.symm hne), mm_up_up, mm_up_comm hne, mm_up_up]; rfl⟩
set_option maxHeartbeats 1000000 in
theorem c_Al_add3_1 {b ci : Nat} {fs : List Value} {r : vw_C} (hb : h b = some (ci, fs)) (hr : mm_cl[ci]? = some r) (hca : mm_in (.castable r.1 "java/lang/Object") = true) {vs : List Value} (ha : h a = some (oAl mc e n)) (he : h e = some (13, vs)) (hl : vs.length = 10) (hn : n < 10) : mm_C G M_Al_add3 [.ref a, .ref b, .ref e, .int (nI n)] h 0 0 (mm_E none (mm_up (mm_up h e (13, vs.set n (.ref b))) a (oAl mc e (n + 1)))) := by
  refine mm_C_of (by decide +kernel) rfl (Nat.le_of_ble_eq_true rfl) rfl ?_
  refine mm_blk (pc' := 2) ok_Al_add3 2 _ _ _ rfl ?_
  refine mm_alen (v := nI 10) ok_Al_add3 he (Or.inr rfl) rfl (by rw [hl]) ?_
  refine mm_ic_ne ok_Al_add3 11 rfl (by decide) (fun c => ?_) (fun c => ?_)
  rotate_left
  · exact absurd c (fun z => by have := (nI_eq (by omega) (by omega)).mp z; omega)
  refine mm_blk (pc' := 14) ok_Al_add3 3 _ _ _ rfl ?_
  have hne : a ≠ e := fun z => by rw [z, he] at ha; cases ha
  refine mm_aast (j := n) ok_Al_add3 he hb hr hca rfl rfl (by omega) (by omega) ?_
  refine mm_blk (pc' := 19) ok_Al_add3 4 _ _ _ rfl ?_
  refine mm_putf ok_Al_add3 ((mm_up_ne _ _ hne).trans ha) rfl f_Al_48 (Or.inl rfl) (mm_fit_I _) ?_
  exact mm_vret ok_Al_add3 rfl rfl ⟨rfl, by unfold oAl; rw [← nI_1]; rfl⟩
set_option maxHeartbeats 1000000 in
theorem c_Al_add_0 {b ci : Nat} {fs : List Value} {r : vw_C} (hb : h b = some (ci, fs)) (hr : mm_cl[ci]? = some r) (hca : mm_in (.castable r.1 "java/lang/Object") = true) (ha : h a = some (oAl mc (G.2.2.1 2) 0)) (hba : b ≠ a) : mm_C G M_Al_add [.ref a, .ref b] h 1 10 (fun o h' => ∃ q, h q = none ∧ o = .inl (some (.int 1)) ∧ h' = mm_up (mm_up h q (13, Value.ref b :: List.replicate 9 .null)) a (oAl (mc + 1) q 1)) := by
  refine mm_C_of (by decide +kernel) rfl (Nat.le_of_ble_eq_true rfl) rfl ?_
  refine mm_blk (pc' := 2) ok_Al_add 2 _ _ _ rfl ?_
  refine mm_getf ok_Al_add ha rfl f_Al_63 rfl ?_
  refine mm_blk (pc' := 7) ok_Al_add 2 _ _ _ rfl ?_
  refine mm_putf ok_Al_add ha rfl f_Al_63 (Or.inl rfl) (mm_fit_I _) ?_
  refine mm_blk (pc' := 13) ok_Al_add 3 _ _ _ rfl ?_
  refine mm_getf ok_Al_add (mm_up_self _ _ _) rfl f_Al_9 rfl ?_
  refine mm_blk (pc' := 17) ok_Al_add 1 _ _ _ rfl ?_
  refine mm_getf ok_Al_add (mm_up_self _ _ _) rfl f_Al_48 rfl ?_
  refine mm_callV (kc := 0) (ks := 0) ok_Al_add (As := [.ref b, .ref (G.2.2.1 2), .int 0]) rfl k_Al_add_131 (mm_up_self _ _ _) rfl rfl rfl (Nat.le_of_ble_eq_true rfl) (c_Al_add3_0 (mc := mc + 1) ((mm_up_ne _ _ hba).trans hb) hr hca (mm_up_self _ _ _)) (fun E h' z => by obtain ⟨q, _, z, _⟩ := z; cases z) (fun v h' hq => ?_)
  obtain ⟨q, hq, e1, rfl⟩ := hq
  cases e1
  have hqa : q ≠ a := fun z => by rw [z, mm_up_self] at hq; cases hq
  refine mm_blk (pc' := 24) ok_Al_add 1 _ _ _ rfl ?_
  exact mm_zret ok_Al_add rfl rfl rfl ⟨q, by rw [mm_up_ne _ _ hqa] at hq; exact hq, rfl, by rw [mm_up_comm (Ne.symm hqa), mm_up_up]⟩
set_option maxHeartbeats 1000000 in
theorem c_Al_add_1 {b ci : Nat} {fs : List Value} {r : vw_C} (hb : h b = some (ci, fs)) (hr : mm_cl[ci]? = some r) (hca : mm_in (.castable r.1 "java/lang/Object") = true) {vs : List Value} (ha : h a = some (oAl mc e n)) (he : h e = some (13, vs)) (hl : vs.length = 10) (hn : n < 10) (hba : b ≠ a) : mm_C G M_Al_add [.ref a, .ref b] h 0 0 (mm_E (some (.int 1)) (mm_up (mm_up h e (13, vs.set n (.ref b))) a (oAl (mc + 1) e (n + 1)))) := by
  refine mm_C_of (by decide +kernel) rfl (Nat.le_of_ble_eq_true rfl) rfl ?_
  have hne : a ≠ e := fun z => by rw [z, he] at ha; cases ha
  refine mm_blk (pc' := 2) ok_Al_add 2 _ _ _ rfl ?_
  refine mm_getf ok_Al_add ha rfl f_Al_63 rfl ?_
  refine mm_blk (pc' := 7) ok_Al_add 2 _ _ _ rfl ?_
  refine mm_putf ok_Al_add ha rfl f_Al_63 (Or.inl rfl) (mm_fit_I _) ?_
  refine mm_blk (pc' := 13) ok_Al_add 3 _ _ _ rfl ?_
  refine mm_getf ok_Al_add (mm_up_self _ _ _) rfl f_Al_9 rfl ?_
  refine mm_blk (pc' := 17) ok_Al_add 1 _ _ _ rfl ?_
  refine mm_getf ok_Al_add (mm_up_self _ _ _) rfl f_Al_48 rfl ?_
  refine mm_cVE ok_Al_add (As := [.ref b, .ref e, .int (nI n)]) rfl k_Al_add_131 (mm_up_self _ _ _) rfl rfl rfl (Nat.le_of_ble_eq_true rfl) (c_Al_add3_1 (mc := mc + 1) ((mm_up_ne _ _ hba).trans hb) hr hca (mm_up_self _ _ _) ((mm_up_ne _ _ (Ne.symm hne)).trans he) hl hn) ?_
  refine mm_blk (pc' := 24) ok_Al_add 1 _ _ _ rfl ?_
  exact mm_zret ok_Al_add rfl rfl rfl ⟨rfl, by rw [mm_up_comm hne, mm_up_up]⟩
end AL
end
section
/-! things by numbers: number n lies at K n and is f n; all else is h -/
def mm_pl (dom : List Nat) (K : Nat → Nat) (f : Nat → mm_Ob) (h : mm_Hp) : mm_Hp := fun b => match dom.find? (fun n => K n == b) with
  | some n => some (f n)
  | none => h b
def mm_inj (dom : List Nat) (K : Nat → Nat) : Prop := ∀ m ∈ dom, ∀ n ∈ dom, K m = K n → m = n
theorem mm_find {dom : List Nat} {K : Nat → Nat} (hi : mm_inj dom K) {n : Nat} (hn : n ∈ dom) : dom.find? (fun m => K m == K n) = some n := by
  cases e : dom.find? (fun m => K m == K n) with
  | none =>
    have := List.find?_eq_none.mp e n hn
    simp at this
  | some m =>
    have h1 := List.find?_some e
    have h2 := List.mem_of_find?_eq_some e
    rw [hi m h2 n hn (by simpa using h1)]
theorem mm_find_no {dom : List Nat} {K : Nat → Nat} {b : Nat} (hb : ∀ n ∈ dom, K n ≠ b) : dom.find? (fun m => K m == b) = none :=
  List.find?_eq_none.mpr fun n hn => by simpa using hb n hn
theorem mm_pl_at {dom : List Nat} {K : Nat → Nat} {f : Nat → mm_Ob} {h : mm_Hp} (hi : mm_inj dom K) {n : Nat} (hn : n ∈ dom) : mm_pl dom K f h (K n) = some (f n) := by
  unfold mm_pl
  rw [mm_find hi hn]
theorem mm_pl_no {dom : List Nat} {K : Nat → Nat} {f : Nat → mm_Ob} {h : mm_Hp} {b : Nat} (hb : ∀ n ∈ dom, K n ≠ b) : mm_pl dom K f h b = h b := by
  unfold mm_pl
  rw [mm_find_no hb]
theorem mm_pl_cases {dom : List Nat} {K : Nat → Nat} (b : Nat) : (∃ n, n ∈ dom ∧ b = K n) ∨ ∀ n ∈ dom, K n ≠ b := by
  by_cases e : ∃ n, n ∈ dom ∧ b = K n
  · exact Or.inl e
  · exact Or.inr fun n hn z => e ⟨n, hn, z.symm⟩
theorem mm_pl_congr {dom : List Nat} {K K' : Nat → Nat} {f g : Nat → mm_Ob} {h : mm_Hp} (hi : mm_inj dom K) (hK : ∀ n ∈ dom, K n = K' n) (hf : ∀ n ∈ dom, f n = g n) : mm_pl dom K f h = mm_pl dom K' g h := by
  funext b
  have hi' : mm_inj dom K' := fun m hm n hn z => hi m hm n hn (by rw [hK m hm, hK n hn]; exact z)
  rcases mm_pl_cases (dom := dom) (K := K) b with ⟨n, hn, rfl⟩ | hb
  · rw [mm_pl_at hi hn, hK n hn, mm_pl_at hi' hn, hf n hn]
  · rw [mm_pl_no hb, mm_pl_no (fun n hn => by rw [← hK n hn]; exact hb n hn)]
theorem mm_pl_up {dom : List Nat} {K : Nat → Nat} {f g : Nat → mm_Ob} {h : mm_Hp} (hi : mm_inj dom K) {n : Nat} (hn : n ∈ dom) {o : mm_Ob} (ho : g n = o) (hg : ∀ m ∈ dom, m ≠ n → g m = f m) : mm_up (mm_pl dom K f h) (K n) o = mm_pl dom K g h := by
  funext b
  by_cases e : b = K n
  · rw [e, mm_up_self, mm_pl_at hi hn, ho]
  · rw [mm_up_ne _ _ e]
    rcases mm_pl_cases (dom := dom) (K := K) b with ⟨m, hm, rfl⟩ | hb
    · rw [mm_pl_at hi hm, mm_pl_at hi hm, hg m hm (fun z => e (by rw [z]))]
    · rw [mm_pl_no hb, mm_pl_no hb]
/-- a thing elsewhere is written: that is the rest's business -/
theorem mm_pl_out {dom : List Nat} {K : Nat → Nat} {f : Nat → mm_Ob} {h : mm_Hp} {a : Nat} {o : mm_Ob} (ha : ∀ n ∈ dom, K n ≠ a) : mm_up (mm_pl dom K f h) a o = mm_pl dom K f (mm_up h a o) := by
  funext b
  by_cases e : b = a
  · rw [e, mm_up_self, mm_pl_no ha, mm_up_self]
  · rw [mm_up_ne _ _ e]
    unfold mm_pl
    split
    · rfl
    · rw [mm_up_ne _ _ e]
/-- one thing more -/
theorem mm_pl_new {dom dom' : List Nat} {K K' : Nat → Nat} {f g : Nat → mm_Ob} {h : mm_Hp} {q n : Nat} {o : mm_Ob} (hi : mm_inj dom K) (hq : ∀ m ∈ dom, K m ≠ q) (hd : ∀ m, m ∈ dom' ↔ m ∈ dom ∨ m = n) (hn : n ∉ dom) (hK : ∀ m ∈ dom, K' m = K m) (hKn : K' n = q) (ho : g n = o) (hg : ∀ m ∈ dom, g m = f m) :
    mm_inj dom' K' ∧ mm_up (mm_pl dom K f h) q o = mm_pl dom' K' g h := by
  have hi' : mm_inj dom' K' := by
    intro a ha b hb z
    rcases (hd a).mp ha with ha | rfl <;> rcases (hd b).mp hb with hb | rfl
    · exact hi a ha b hb (by rw [← hK a ha, ← hK b hb]; exact z)
    · rw [hK a ha, hKn] at z
      exact absurd z (hq a ha)
    · rw [hK b hb, hKn] at z
      exact absurd z.symm (hq b hb)
    · rfl
  refine ⟨hi', ?_⟩
  funext b
  by_cases e : b = q
  · rw [e, mm_up_self, ← hKn, mm_pl_at hi' ((hd n).mpr (Or.inr rfl)), ho]
  · rw [mm_up_ne _ _ e]
    rcases mm_pl_cases (dom := dom) (K := K) b with ⟨m, hm, rfl⟩ | hb
    · rw [mm_pl_at hi hm, ← hK m hm, mm_pl_at hi' ((hd m).mpr (Or.inl hm)), hg m hm]
    · rw [mm_pl_no hb, mm_pl_no]
      intro m hm
      rcases (hd m).mp hm with hm | rfl
      · rw [hK m hm]; exact hb m hm
      · rw [hKn]; exact Ne.symm e
/-- two pools side by side -/
theorem mm_pl_comm {d1 d2 : List Nat} {K1 K2 : Nat → Nat} {f1 f2 : Nat → mm_Ob} {h : mm_Hp} (hd : ∀ m ∈ d1, ∀ n ∈ d2, K1 m ≠ K2 n) : mm_pl d1 K1 f1 (mm_pl d2 K2 f2 h) = mm_pl d2 K2 f2 (mm_pl d1 K1 f1 h) := by
  funext b
  unfold mm_pl
  cases e1 : d1.find? (fun n => K1 n == b) with
  | none => rfl
  | some m =>
    have h1 := List.mem_of_find?_eq_some e1
    have h2 : K1 m = b := by simpa using List.find?_some e1
    have e2 : d2.find? (fun n => K2 n == b) = none := mm_find_no fun n hn z => hd m h1 n hn (h2.trans z.symm)
    rw [e2]
/-! loops that count -/
def lp {α : Type} (f : Nat → α → α) : Nat → α → α
  | 0, a => a
  | n + 1, a => f n (lp f n a)
/-! THE CLASS'S STATE: how many devices, nets; fields of devices; numbers of nets; from, to, shorted with; 0 the bench's numbers, 1 the row of a scan, 2 the identities found, 3 the lists' counts of changes -/
abbrev cS : Type := (Nat × Nat) × (Nat → Nat → Int32) × (Nat → Nat → Int32) × (Nat → Nat × Nat × Option Nat) × (Nat → Nat → Int32)
abbrev c_nd (S : cS) : Nat := S.1.1
abbrev c_nn (S : cS) : Nat := S.1.2
abbrev c_D (S : cS) : Nat → Nat → Int32 := S.2.1
abbrev c_N (S : cS) : Nat → Nat → Int32 := S.2.2.1
abbrev c_R (S : cS) : Nat → Nat × Nat × Option Nat := S.2.2.2.1
abbrev c_Z (S : cS) : Nat → Nat → Int32 := S.2.2.2.2
def s_D (S : cS) (i : Nat) (d : Nat → Int32) : cS := (S.1, va_up S.2.1 i d, S.2.2)
def s_N (S : cS) (j : Nat) (n : Nat → Int32) : cS := (S.1, S.2.1, va_up S.2.2.1 j n, S.2.2.2)
def s_R (S : cS) (j : Nat) (r : Nat × Nat × Option Nat) : cS := (S.1, S.2.1, S.2.2.1, va_up S.2.2.2.1 j r, S.2.2.2.2)
def s_Z (S : cS) (i k : Nat) (x : Int32) : cS := (S.1, S.2.1, S.2.2.1, S.2.2.2.1, va_up S.2.2.2.2 i (upd (S.2.2.2.2 i) k x))
def oCb (K : Nat → Nat) (z : Nat → Int32) : mm_Ob := (3, [.ref (K 1), .ref (K 3), .int (z 2), .int (z 3), .ref (K 5), .ref (K 6), .int (z 6), .int (z 7)])
def oAr (K : Nat → Nat) (b n : Nat) : mm_Ob := (13, (List.range 10).map (fun i => if i < n then Value.ref (K (b + i)) else .null))
def oIs (n : Nat) (z : Nat → Int32) : mm_Ob := (10, (List.range n).map (fun k => Value.int (z k)))
def oNK (K : Nat → Nat) (r : Nat × Nat × Option Nat) (n : Nat → Int32) : mm_Ob := oNt (K (10 + r.1)) (K (10 + r.2.1)) (r.2.2.map (fun j => K (20 + j))) n
def cdom (nd nn : Nat) : List Nat := [0, 1, 3, 5, 6] ++ (if nd = 0 then [] else [2]) ++ (if nn = 0 then [] else [4]) ++ (List.range nd).map (fun i => 10 + i) ++ (List.range nn).map (fun i => 20 + i)
def cob (K : Nat → Nat) (S : cS) (n : Nat) : mm_Ob :=
  if n = 0 then oCb K (c_Z S 0) else if n = 1 then oAl (c_Z S 3 0) (K 2) (c_nd S) else if n = 2 then oAr K 10 (c_nd S) else if n = 3 then oAl (c_Z S 3 1) (K 4) (c_nn S) else if n = 4 then oAr K 20 (c_nn S) else if n = 5 then oIs 5 (c_Z S 1) else if n = 6 then oIs 4 (c_Z S 2) else
  if n < 20 then oDv (c_D S (n - 10)) else oNK K (c_R S (n - 20)) (c_N S (n - 20))
def c_wf (G : mm_G) (K : Nat → Nat) (S : cS) : Prop := c_nd S ≤ 4 ∧ c_nn S ≤ 8 ∧ mm_inj (cdom (c_nd S) (c_nn S)) K ∧ (c_nd S = 0 → K 2 = G.2.2.1 2) ∧ (c_nn S = 0 → K 4 = G.2.2.1 2) ∧ ∀ j, j < c_nn S → (c_R S j).1 < c_nd S ∧ (c_R S j).2.1 < c_nd S ∧ ∀ k, (c_R S j).2.2 = some k → k < c_nn S ∧ k ≠ j
def CP (K : Nat → Nat) (S : cS) (h : mm_Hp) : mm_Hp := mm_pl (cdom (c_nd S) (c_nn S)) K (cob K S) h
theorem cd_dev {nd nn i : Nat} (hi : i < nd) : 10 + i ∈ cdom nd nn := by
  unfold cdom
  refine List.mem_append_left _ (List.mem_append_right _ (List.mem_map.mpr ⟨i, List.mem_range.mpr hi, rfl⟩))
theorem cd_net {nd nn j : Nat} (hj : j < nn) : 20 + j ∈ cdom nd nn := List.mem_append_right _ (List.mem_map.mpr ⟨j, List.mem_range.mpr hj, rfl⟩)
theorem cd_fix {nd nn n : Nat} (hn : n ∈ [0, 1, 3, 5, 6]) : n ∈ cdom nd nn := List.mem_append_left _ (List.mem_append_left _ (List.mem_append_left _ (List.mem_append_left _ hn)))
theorem cd_2 {nd nn : Nat} (h : 0 < nd) : 2 ∈ cdom nd nn := by
  refine List.mem_append_left _ (List.mem_append_left _ (List.mem_append_left _ (List.mem_append_right _ ?_)))
  rw [if_neg (by omega)]; exact List.mem_singleton.mpr rfl
theorem cd_4 {nd nn : Nat} (h : 0 < nn) : 4 ∈ cdom nd nn := by
  refine List.mem_append_left _ (List.mem_append_left _ (List.mem_append_right _ ?_))
  rw [if_neg (by omega)]; exact List.mem_singleton.mpr rfl
theorem cd_cases {nd nn n : Nat} (h : n ∈ cdom nd nn) : n ∈ [0, 1, 3, 5, 6] ∨ (n = 2 ∧ 0 < nd) ∨ (n = 4 ∧ 0 < nn) ∨ (∃ i, i < nd ∧ n = 10 + i) ∨ ∃ j, j < nn ∧ n = 20 + j := by
  unfold cdom at h
  rcases List.mem_append.mp h with h | h
  · rcases List.mem_append.mp h with h | h
    · rcases List.mem_append.mp h with h | h
      · rcases List.mem_append.mp h with h | h
        · exact Or.inl h
        · split at h
          · cases h
          · exact Or.inr (Or.inl ⟨List.mem_singleton.mp h, by omega⟩)
      · split at h
        · cases h
        · exact Or.inr (Or.inr (Or.inl ⟨List.mem_singleton.mp h, by omega⟩))
    · obtain ⟨i, hi, rfl⟩ := List.mem_map.mp h
      exact Or.inr (Or.inr (Or.inr (Or.inl ⟨i, List.mem_range.mp hi, rfl⟩)))
  · obtain ⟨i, hi, rfl⟩ := List.mem_map.mp h
    exact Or.inr (Or.inr (Or.inr (Or.inr ⟨i, List.mem_range.mp hi, rfl⟩)))
theorem cob_dev {K : Nat → Nat} {S : cS} {i : Nat} (hi : i < 10) : cob K S (10 + i) = oDv (c_D S i) := by
  unfold cob
  rw [if_neg (by omega), if_neg (by omega), if_neg (by omega), if_neg (by omega), if_neg (by omega), if_neg (by omega), if_neg (by omega), if_pos (by omega), show 10 + i - 10 = i by omega]
theorem cob_net {K : Nat → Nat} {S : cS} {j : Nat} : cob K S (20 + j) = oNK K (c_R S j) (c_N S j) := by
  unfold cob
  rw [if_neg (by omega), if_neg (by omega), if_neg (by omega), if_neg (by omega), if_neg (by omega), if_neg (by omega), if_neg (by omega), if_neg (by omega), show 20 + j - 20 = j by omega]
section CPS
variable {G : mm_G} {K : Nat → Nat} {S : cS} {h : mm_Hp}
theorem cp_0 (w : c_wf G K S) : CP K S h (K 0) = some (oCb K (c_Z S 0)) := mm_pl_at w.2.2.1 (cd_fix (by simp))
theorem cp_1 (w : c_wf G K S) : CP K S h (K 1) = some (oAl (c_Z S 3 0) (K 2) (c_nd S)) := mm_pl_at w.2.2.1 (cd_fix (by simp))
theorem cp_3 (w : c_wf G K S) : CP K S h (K 3) = some (oAl (c_Z S 3 1) (K 4) (c_nn S)) := mm_pl_at w.2.2.1 (cd_fix (by simp))
theorem cp_5 (w : c_wf G K S) : CP K S h (K 5) = some (oIs 5 (c_Z S 1)) := mm_pl_at w.2.2.1 (cd_fix (by simp))
theorem cp_6 (w : c_wf G K S) : CP K S h (K 6) = some (oIs 4 (c_Z S 2)) := mm_pl_at w.2.2.1 (cd_fix (by simp))
theorem cp_2 (w : c_wf G K S) (hd : 0 < c_nd S) : CP K S h (K 2) = some (oAr K 10 (c_nd S)) := mm_pl_at w.2.2.1 (cd_2 hd)
theorem cp_4 (w : c_wf G K S) (hd : 0 < c_nn S) : CP K S h (K 4) = some (oAr K 20 (c_nn S)) := mm_pl_at w.2.2.1 (cd_4 hd)
theorem cp_dev (w : c_wf G K S) {i : Nat} (hi : i < c_nd S) : CP K S h (K (10 + i)) = some (oDv (c_D S i)) := by
  rw [← cob_dev (K := K) (by have := w.1; omega)]
  exact mm_pl_at w.2.2.1 (cd_dev hi)
theorem cp_net (w : c_wf G K S) {j : Nat} (hj : j < c_nn S) : CP K S h (K (20 + j)) = some (oNK K (c_R S j) (c_N S j)) := by
  rw [← cob_net]
  exact mm_pl_at w.2.2.1 (cd_net hj)
theorem cu_dev (w : c_wf G K S) {i : Nat} (hi : i < c_nd S) (d : Nat → Int32) : mm_up (CP K S h) (K (10 + i)) (oDv d) = CP K (s_D S i d) h := by
  refine mm_pl_up w.2.2.1 (cd_dev hi) ?_ (fun m hm hne => ?_)
  · rw [cob_dev (by have := w.1; omega)]
    show oDv (va_up S.2.1 i d i) = _
    rw [va_up_self]
  · rcases cd_cases hm with hm | ⟨rfl, -⟩ | ⟨rfl, -⟩ | ⟨k, hk, rfl⟩ | ⟨k, hk, rfl⟩
    · simp only [List.mem_cons, List.not_mem_nil, or_false] at hm
      rcases hm with rfl | rfl | rfl | rfl | rfl <;> rfl
    · rfl
    · rfl
    · have h4 := w.1
      have hk9 : k < c_nd S := hk
      rw [cob_dev (by omega), cob_dev (by omega)]
      show oDv (va_up S.2.1 i d k) = _
      rw [va_up_ne _ _ (fun z => hne (by rw [z]))]
    · rw [cob_net, cob_net]; rfl
theorem cu_net (w : c_wf G K S) {j : Nat} (hj : j < c_nn S) (r : Nat × Nat × Option Nat) (n : Nat → Int32) : mm_up (CP K S h) (K (20 + j)) (oNK K r n) = CP K (s_R (s_N S j n) j r) h := by
  refine mm_pl_up w.2.2.1 (cd_net hj) ?_ (fun m hm hne => ?_)
  · rw [cob_net]
    show oNK K (va_up S.2.2.2.1 j r j) (va_up S.2.2.1 j n j) = _
    rw [va_up_self, va_up_self]
  · rcases cd_cases hm with hm | ⟨rfl, -⟩ | ⟨rfl, -⟩ | ⟨k, hk, rfl⟩ | ⟨k, hk, rfl⟩
    · simp only [List.mem_cons, List.not_mem_nil, or_false] at hm
      rcases hm with rfl | rfl | rfl | rfl | rfl <;> rfl
    · rfl
    · rfl
    · have h4 := w.1
      have hk9 : k < c_nd S := hk
      rw [cob_dev (by omega), cob_dev (by omega)]; rfl
    · rw [cob_net, cob_net]
      show oNK K (va_up S.2.2.2.1 j r k) (va_up S.2.2.1 j n k) = _
      rw [va_up_ne _ _ (fun z => hne (by rw [z])), va_up_ne _ _ (fun z => hne (by rw [z]))]
/-- the bench's own numbers, the two rows -/
theorem cu_fix (w : c_wf G K S) {g i : Nat} (hg : (g = 0 ∧ i = 0) ∨ (g = 5 ∧ i = 1) ∨ (g = 6 ∧ i = 2)) {k : Nat} {x : Int32} {o : mm_Ob} (ho : cob K (s_Z S i k x) g = o) : mm_up (CP K S h) (K g) o = CP K (s_Z S i k x) h := by
  refine mm_pl_up w.2.2.1 (cd_fix (by rcases hg with ⟨rfl, -⟩ | ⟨rfl, -⟩ | ⟨rfl, -⟩ <;> simp)) ho (fun m hm hne => ?_)
  have hz : ∀ q, q ≠ i → c_Z (s_Z S i k x) q = c_Z S q := fun q hq => va_up_ne _ _ hq
  have e0 : g ≠ 0 → c_Z (s_Z S i k x) 0 = c_Z S 0 := fun z => hz 0 (by omega)
  have e1 : g ≠ 5 → c_Z (s_Z S i k x) 1 = c_Z S 1 := fun z => hz 1 (by omega)
  have e2 : g ≠ 6 → c_Z (s_Z S i k x) 2 = c_Z S 2 := fun z => hz 2 (by omega)
  have e3 : c_Z (s_Z S i k x) 3 = c_Z S 3 := hz 3 (by omega)
  rcases cd_cases hm with hm | ⟨rfl, -⟩ | ⟨rfl, -⟩ | ⟨k2, hk, rfl⟩ | ⟨k2, hk, rfl⟩
  · simp only [List.mem_cons, List.not_mem_nil, or_false] at hm
    rcases hm with rfl | rfl | rfl | rfl | rfl
    · show oCb K (c_Z (s_Z S i k x) 0) = oCb K (c_Z S 0); rw [e0 (Ne.symm hne)]
    · show oAl (c_Z (s_Z S i k x) 3 0) _ _ = oAl (c_Z S 3 0) _ _; rw [e3]; rfl
    · show oAl (c_Z (s_Z S i k x) 3 1) _ _ = oAl (c_Z S 3 1) _ _; rw [e3]; rfl
    · show oIs 5 (c_Z (s_Z S i k x) 1) = oIs 5 (c_Z S 1); rw [e1 (Ne.symm hne)]
    · show oIs 4 (c_Z (s_Z S i k x) 2) = oIs 4 (c_Z S 2); rw [e2 (Ne.symm hne)]
  · rfl
  · rfl
  · have h4 := w.1
    have hk9 : k2 < c_nd S := hk
    rw [cob_dev (by omega), cob_dev (by omega)]; rfl
  · rw [cob_net, cob_net]; rfl
theorem cu_0 (w : c_wf G K S) (k : Nat) (x : Int32) : mm_up (CP K S h) (K 0) (oCb K (upd (c_Z S 0) k x)) = CP K (s_Z S 0 k x) h := cu_fix w (Or.inl ⟨rfl, rfl⟩) (by show oCb K (va_up S.2.2.2.2 0 (upd (S.2.2.2.2 0) k x) 0) = _; rw [va_up_self])
theorem oIs_set {n j : Nat} (hj : j < n) (z : Nat → Int32) (x : Int32) : ((List.range n).map (fun k => Value.int (z k))).set j (.int x) = (List.range n).map (fun k => Value.int (upd z j x k)) := by
  apply List.ext_getElem?
  intro i
  rw [List.getElem?_set, List.length_map, List.length_range, List.getElem?_map, List.getElem?_map]
  by_cases hi : i < n
  · rw [List.getElem?_range hi]
    by_cases e : j = i
    · subst e; rw [if_pos rfl, if_pos hi]; simp [upd]
    · rw [if_neg e]; simp [upd, Ne.symm e]
  · rw [List.getElem?_eq_none (by rw [List.length_range]; omega)]
    by_cases e : j = i
    · omega
    · rw [if_neg e]; rfl
theorem oIs_get {n j : Nat} (hj : j < n) (z : Nat → Int32) : ((List.range n).map (fun k => Value.int (z k)))[j]? = some (.int (z j)) := by
  rw [List.getElem?_map, List.getElem?_range hj]; rfl
theorem cu_5 (w : c_wf G K S) {j : Nat} (hj : j < 5) (x : Int32) : mm_up (CP K S h) (K 5) (10, ((List.range 5).map (fun k => Value.int (c_Z S 1 k))).set j (.int x)) = CP K (s_Z S 1 j x) h := cu_fix w (Or.inr (Or.inl ⟨rfl, rfl⟩)) (by rw [oIs_set hj]; show oIs 5 (va_up S.2.2.2.2 1 (upd (S.2.2.2.2 1) j x) 1) = _; rw [va_up_self]; rfl)
theorem cu_6 (w : c_wf G K S) {j : Nat} (hj : j < 4) (x : Int32) : mm_up (CP K S h) (K 6) (10, ((List.range 4).map (fun k => Value.int (c_Z S 2 k))).set j (.int x)) = CP K (s_Z S 2 j x) h := cu_fix w (Or.inr (Or.inr ⟨rfl, rfl⟩)) (by rw [oIs_set hj]; show oIs 4 (va_up S.2.2.2.2 2 (upd (S.2.2.2.2 2) j x) 2) = _; rw [va_up_self]; rfl)
theorem oAr_get {b n j : Nat} (hj : j < n) (hn : n ≤ 10) : ((List.range 10).map (fun i => if i < n then Value.ref (K (b + i)) else .null))[j]? = some (.ref (K (b + j))) := by
  rw [List.getElem?_map, List.getElem?_range (by omega)]
  simp [hj]
/-- an element of the lists -/
theorem c_getD (w : c_wf G K S) {i : Nat} (hi : i < c_nd S) : mm_C G M_Al_get [.ref (K 1), .int (nI i)] (CP K S h) 0 0 (mm_E (some (.ref (K (10 + i)))) (CP K S h)) := c_Al_get (cp_1 w) (cp_2 w (by omega)) hi (by have := w.1; omega) (oAr_get hi (by have := w.1; omega))
theorem c_getN (w : c_wf G K S) {i : Nat} (hi : i < c_nn S) : mm_C G M_Al_get [.ref (K 3), .int (nI i)] (CP K S h) 0 0 (mm_E (some (.ref (K (20 + i)))) (CP K S h)) := c_Al_get (cp_3 w) (cp_4 w (by omega)) hi (by have := w.2.1; omega) (oAr_get hi (by have := w.2.1; omega))
theorem k_dev_eq (w : c_wf G K S) {i j : Nat} (hi : i < c_nd S) (hj : j < c_nd S) : K (10 + i) = K (10 + j) ↔ i = j := ⟨fun z => by have := w.2.2.1 _ (cd_dev hi) _ (cd_dev hj) z; omega, fun z => by rw [z]⟩
theorem k_net_ne (w : c_wf G K S) {i j : Nat} (hi : i < c_nn S) (hj : j < c_nn S) (hij : i ≠ j) : K (20 + i) ≠ K (20 + j) := fun z => hij (by have := w.2.2.1 _ (cd_net hi) _ (cd_net hj) z; omega)
end CPS
section CPS2
variable {G : mm_G} {K : Nat → Nat} {S : cS} {h : mm_Hp}
theorem mm_V_heap {M : mm_M} {pc : Nat} {L : List (Nat × Value)} {st : List Value} {h h' : mm_Hp} {kc ks : Nat} {Q : mm_O → mm_Hp → Prop} (e : h = h') (k : mm_V G M pc L st h' kc ks Q) : mm_V G M pc L st h kc ks Q := e ▸ k
/-- one number of a net -/
theorem cu_netN (w : c_wf G K S) {j : Nat} (hj : j < c_nn S) (k : Nat) (x : Int32) : mm_up (CP K S h) (K (20 + j)) (oNK K (c_R S j) (upd (c_N S j) k x)) = CP K (s_N S j (upd (c_N S j) k x)) h := by
  rw [cu_net w hj]
  have e : s_R (s_N S j (upd (c_N S j) k x)) j (c_R S j) = s_N S j (upd (c_N S j) k x) := by
    unfold s_R s_N
    have : va_up S.2.2.2.1 j (S.2.2.2.1 j) = S.2.2.2.1 := by
      funext q
      by_cases hq : q = j
      · rw [hq, va_up_self]
      · rw [va_up_ne _ _ hq]
    show (S.1, S.2.1, va_up S.2.2.1 j (upd (c_N S j) k x), va_up S.2.2.2.1 j (S.2.2.2.1 j), S.2.2.2.2) = _
    rw [this]
  rw [e]
end CPS2
end
section
/-! the class: questions, loops over devices and nets -/
def up {α : Type} (f : Nat → α → α) : Nat → Nat → α → α
  | 0, _, a => a
  | n + 1, i, a => up f n (i + 1) (f i a)
def inR (x : Int32) (n : Nat) : Prop := ¬ x < 0 ∧ ¬ nI n ≤ x
theorem inR_iff {x : Int32} {n : Nat} (hn : n < 2147483648) : inR x n ↔ ∃ j, j < n ∧ x = nI j := by
  constructor
  · intro hx
    rcases pk_ix x (n := n) hn with h1 | h1 | h1
    · exact absurd h1 hx.1
    · exact absurd h1 hx.2
    · exact h1
  · rintro ⟨j, hj, rfl⟩
    exact ⟨nI_pos (by omega), nI_ge hj (by omega)⟩
/-- is there such a cell -/
def isC (S : cS) (x c : Int32) : Prop := inR x (c_nd S) ∧ ¬ c < 0 ∧ ¬ c_D S x.toNatClampNeg 2 ≤ c
/-- what net j carries -/
def c_bit (S : cS) (j : Nat) : Int32 := nt_bit (c_D S (c_R S j).1) (c_N S j 1)
def c_car (S : cS) (j : Nat) : Int32 := nt_car (c_N S j 4) (c_bit S j) ((c_R S j).2.2.map (c_bit S))
/-- the signals of device i's cells -/
def c_sig (S : cS) (i : Nat) : Int32 := up (fun j a => if (c_R S j).2.1 = i then (if c_car S j = 0 then a else a ||| 1 <<< (c_N S j 3 &&& 31)) else a) (c_nn S) 0 (dv_out (c_D S i))
def c_sumC (S : cS) : Int32 := up (fun i a => a + c_D S i 2) (c_nd S) 0 0
def c_sumB (S : cS) : Int32 := up (fun i a => a + c_D S i 0) (c_nd S) 0 0
def c_ent (S : cS) (x : Int32) : cS := if x = 0 then up (fun i S => s_D S i (upd (c_D S i) 7 1)) (c_nd S) 0 (s_Z S 0 2 x) else s_Z S 0 2 x
def c_forget (S : cS) : cS := up (fun j S => s_N S j (upd (c_N S j) 6 0)) (c_nn S) 0 S
def c_faulty (S : cS) : Int32 := up (fun j a => if c_N S j 6 = nI j + 1 then a else a + 1) (c_nn S) 0 0
/-- the cells of the devices i .. behind device o, from the last one on -/
def c_place (S : cS) (o : Nat) : Nat → Int32 → Int32
  | 0, a => a
  | i + 1, a => if i = o then a else c_place S o i (a + c_D S i 2)
def c_pat (S : cS) (r : Int32) : Int32 := up (fun j a => a ||| ((mm_ushr (nI (j + 1)) r &&& 1) <<< (c_place S (c_R S j).1 (c_nd S) (c_N S j 1) &&& 31))) (c_nn S) 0 0
def c_note (S : cS) (r came : Int32) : cS := up (fun j S => s_N S j (upd (c_N S j) 6 (c_N S j 6 ||| ((mm_ushr came (c_place S (c_R S j).2.1 (c_nd S) (c_N S j 3)) &&& 1) <<< (r &&& 31))))) (c_nn S) 0 S
def c_words (S : cS) : Nat → Nat → Nat
  | 0, i => i
  | n + 1, i => if c_Z S 1 i = -1 then i else c_words S n (i + 1)
def c_restart (S : cS) : cS := s_Z (s_Z (s_Z (up (fun i S => s_D S i (upd (upd (c_D S i) 5 0) 6 0)) (c_nd S) 0 (c_ent S 0)) 0 3 0) 0 6 0) 0 7 0
section CB
variable {G : mm_G} {K : Nat → Nat} {S : cS} {h : mm_Hp}

theorem c_carr (w : c_wf G K S) {j : Nat} (hj : j < c_nn S) : mm_C G M_Nt_carries [.ref (K (20 + j))] (CP K S h) 0 0 (mm_E (some (.int (c_car S j))) (CP K S h)) := by
  obtain ⟨h1, h2, h3⟩ := w.2.2.2.2.2 j hj
  have hn := cp_net (h := h) w hj
  unfold oNK at hn
  unfold c_car
  cases e : (c_R S j).2.2 with
  | none =>
    rw [e] at hn
    exact c_Nt_carries0 hn (cp_dev w h1)
  | some k =>
    rw [e] at hn
    obtain ⟨hk, -⟩ := h3 k e
    exact c_Nt_carries1 hn (cp_dev w h1) (cp_net w hk) (cp_dev w (w.2.2.2.2.2 k hk).1)
set_option maxHeartbeats 1000000 in
theorem c_Cb_isDevice (w : c_wf G K S) (x : Int32) : mm_C G M_Cb_isDevice [.ref (K 0), .int x] (CP K S h) 0 0 (fun o h' => o = .inl (some (.int (if (¬ x < 0 ∧ ¬ nI (c_nd S) ≤ x) then 1 else 0))) ∧ h' = CP K S h) := by
  refine mm_C_of (by decide +kernel) rfl (Nat.le_of_ble_eq_true rfl) rfl ?_
  refine mm_blk (pc' := 1) ok_Cb_isDevice 1 _ _ _ rfl ?_
  refine mm_if_lt ok_Cb_isDevice 19 rfl (by decide) (fun c1 => ?_) (fun c1 => ?_)
  · -- 19 t
    refine mm_blk (pc' := 20) ok_Cb_isDevice 1 _ _ _ rfl ?_
    exact mm_zret ok_Cb_isDevice rfl rfl rfl ⟨by simp [*], rfl⟩
  · -- 4 f
    refine mm_blk (pc' := 6) ok_Cb_isDevice 2 _ _ _ rfl ?_
    refine mm_getf ok_Cb_isDevice (cp_0 w) rfl f_Cb_12 rfl ?_
    refine mm_cVE ok_Cb_isDevice (As := []) rfl k_Cb_isDevice_33 (cp_1 w) rfl rfl rfl (Nat.le_of_ble_eq_true rfl) (c_Al_size (cp_1 w)) ?_
    refine mm_ic_ge ok_Cb_isDevice 19 rfl (by decide) (fun c12 => ?_) (fun c12 => ?_)
    · -- 19 t
      refine mm_blk (pc' := 20) ok_Cb_isDevice 1 _ _ _ rfl ?_
      exact mm_zret ok_Cb_isDevice rfl rfl rfl ⟨by simp [*], rfl⟩
    · -- 15 f
      refine mm_blk (pc' := 20) ok_Cb_isDevice 2 _ _ _ rfl ?_
      exact mm_zret ok_Cb_isDevice rfl rfl rfl ⟨by simp [*], rfl⟩
set_option maxHeartbeats 1000000 in
theorem c_Cb_isNet (w : c_wf G K S) (x : Int32) : mm_C G M_Cb_isNet [.ref (K 0), .int x] (CP K S h) 0 0 (fun o h' => o = .inl (some (.int (if (¬ x < 0 ∧ ¬ nI (c_nn S) ≤ x) then 1 else 0))) ∧ h' = CP K S h) := by
  refine mm_C_of (by decide +kernel) rfl (Nat.le_of_ble_eq_true rfl) rfl ?_
  refine mm_blk (pc' := 1) ok_Cb_isNet 1 _ _ _ rfl ?_
  refine mm_if_lt ok_Cb_isNet 19 rfl (by decide) (fun c1 => ?_) (fun c1 => ?_)
  · -- 19 t
    refine mm_blk (pc' := 20) ok_Cb_isNet 1 _ _ _ rfl ?_
    exact mm_zret ok_Cb_isNet rfl rfl rfl ⟨by simp [*], rfl⟩
  · -- 4 f
    refine mm_blk (pc' := 6) ok_Cb_isNet 2 _ _ _ rfl ?_
    refine mm_getf ok_Cb_isNet (cp_0 w) rfl f_Cb_16 rfl ?_
    refine mm_cVE ok_Cb_isNet (As := []) rfl k_Cb_isNet_33 (cp_3 w) rfl rfl rfl (Nat.le_of_ble_eq_true rfl) (c_Al_size (cp_3 w)) ?_
    refine mm_ic_ge ok_Cb_isNet 19 rfl (by decide) (fun c12 => ?_) (fun c12 => ?_)
    · -- 19 t
      refine mm_blk (pc' := 20) ok_Cb_isNet 1 _ _ _ rfl ?_
      exact mm_zret ok_Cb_isNet rfl rfl rfl ⟨by simp [*], rfl⟩
    · -- 15 f
      refine mm_blk (pc' := 20) ok_Cb_isNet 2 _ _ _ rfl ?_
      exact mm_zret ok_Cb_isNet rfl rfl rfl ⟨by simp [*], rfl⟩
set_option maxHeartbeats 1000000 in
theorem c_Cb_isCell (w : c_wf G K S) (x c : Int32) : mm_C G M_Cb_isCell [.ref (K 0), .int x, .int c] (CP K S h) 0 0 (fun o h' => ∃ r, o = .inl (some (.int r)) ∧ h' = CP K S h ∧ ((r = 1 ∧ isC S x c) ∨ (r = 0 ∧ ¬ isC S x c))) := by
  refine mm_C_of (by decide +kernel) rfl (Nat.le_of_ble_eq_true rfl) rfl ?_
  by_cases hx : ¬ x < 0 ∧ ¬ nI (c_nd S) ≤ x
  · obtain ⟨j, hj, rfl⟩ := (inR_iff (by have := w.1; omega)).mp hx
    have hjj : (nI j).toNatClampNeg = j := nI_clamp (by have := w.1; omega)
    refine mm_blk (pc' := 2) ok_Cb_isCell 2 _ _ _ rfl ?_
    refine mm_cVE ok_Cb_isCell (As := [.int (nI j)]) (rv := some (.int 1)) (h1 := CP K S h) rfl k_Cb_isCell_102 (cp_0 w) rfl rfl rfl (Nat.le_of_ble_eq_true rfl) (mm_C_wk (c_Cb_isDevice w (nI j)) (fun o h' z => ⟨by rw [z.1, if_pos hx], z.2⟩)) ?_
    refine mm_if_eq ok_Cb_isCell 34 rfl (by decide) (fun c => absurd c (by decide)) (fun _ => ?_)
    refine mm_blk (pc' := 9) ok_Cb_isCell 1 _ _ _ rfl ?_
    refine mm_if_lt ok_Cb_isCell 34 rfl (by decide) (fun c9 => ?_) (fun c9 => ?_)
    · -- 34 t
      refine mm_blk (pc' := 35) ok_Cb_isCell 1 _ _ _ rfl ?_
      exact mm_zret ok_Cb_isCell rfl rfl rfl ⟨_, rfl, rfl, by unfold isC inR; rw [hjj]; simp [*]⟩
    · -- 12 f
      refine mm_blk (pc' := 14) ok_Cb_isCell 2 _ _ _ rfl ?_
      refine mm_getf ok_Cb_isCell (cp_0 w) rfl f_Cb_12 rfl ?_
      refine mm_blk (pc' := 18) ok_Cb_isCell 1 _ _ _ rfl ?_
      refine mm_cVE ok_Cb_isCell (As := [.int (nI j)]) rfl k_Cb_isCell_56 (cp_1 w) rfl rfl rfl (Nat.le_of_ble_eq_true rfl) (c_getD w hj) ?_
      refine mm_cast ok_Cb_isCell (cp_dev w hj) cc_Cb_40 rfl ?_
      refine mm_getf ok_Cb_isCell (cp_dev w hj) rfl f_Cb_163 rfl ?_
      refine mm_ic_ge ok_Cb_isCell 34 rfl (by decide) (fun c27 => ?_) (fun c27 => ?_)
      · -- 34 t
        refine mm_blk (pc' := 35) ok_Cb_isCell 1 _ _ _ rfl ?_
        exact mm_zret ok_Cb_isCell rfl rfl rfl ⟨_, rfl, rfl, by unfold isC inR; rw [hjj]; simp [*]⟩
      · -- 30 f
        refine mm_blk (pc' := 35) ok_Cb_isCell 2 _ _ _ rfl ?_
        exact mm_zret ok_Cb_isCell rfl rfl rfl ⟨_, rfl, rfl, by unfold isC inR; rw [hjj]; simp [*]⟩
  · refine mm_blk (pc' := 2) ok_Cb_isCell 2 _ _ _ rfl ?_
    refine mm_cVE ok_Cb_isCell (As := [.int x]) (rv := some (.int 0)) (h1 := CP K S h) rfl k_Cb_isCell_102 (cp_0 w) rfl rfl rfl (Nat.le_of_ble_eq_true rfl) (mm_C_wk (c_Cb_isDevice w x) (fun o h' z => ⟨by rw [z.1, if_neg hx], z.2⟩)) ?_
    refine mm_if_eq ok_Cb_isCell 34 rfl (by decide) (fun _ => ?_) (fun c => absurd rfl c)
    refine mm_blk (pc' := 35) ok_Cb_isCell 1 _ _ _ rfl ?_
    exact mm_zret ok_Cb_isCell rfl rfl rfl ⟨_, rfl, rfl, Or.inr ⟨rfl, fun z => hx z.1⟩⟩
set_option maxHeartbeats 1000000 in
theorem l_Cb_allCells (w : c_wf G K S) : ∀ (n i : Nat) (x : Int32), i + n = c_nd S → mm_V G M_Cb_allCells 4 [(0, .ref (K 0)), (1, .int x), (2, .int (nI i))] [] (CP K S h) 0 0 (mm_E (some (.int (up (fun i a => a + c_D S i 2) n i x))) (CP K S h)) := by
  intro n
  induction n with
  | zero =>
    intro i x hi
    refine mm_blk (pc' := 6) ok_Cb_allCells 2 _ _ _ rfl ?_
    refine mm_getf ok_Cb_allCells (cp_0 w) rfl f_Cb_12 rfl ?_
    refine mm_cVE ok_Cb_allCells (As := []) rfl k_Cb_allCells_33 (cp_1 w) rfl rfl rfl (Nat.le_of_ble_eq_true rfl) (c_Al_size (cp_1 w)) ?_
    refine mm_ic_ge ok_Cb_allCells 38 rfl (by decide) (fun c => ?_) (fun c => ?_)
    rotate_left
    · exact absurd (nI_le (by omega) (by have := w.1; omega)) c
    refine mm_blk (pc' := 39) ok_Cb_allCells 1 _ _ _ rfl ?_
    exact mm_iret ok_Cb_allCells rfl rfl ⟨rfl, rfl⟩
  | succ n ih =>
    intro i x hi
    have hlt : i < c_nd S := by omega
    refine mm_blk (pc' := 6) ok_Cb_allCells 2 _ _ _ rfl ?_
    refine mm_getf ok_Cb_allCells (cp_0 w) rfl f_Cb_12 rfl ?_
    refine mm_cVE ok_Cb_allCells (As := []) rfl k_Cb_allCells_33 (cp_1 w) rfl rfl rfl (Nat.le_of_ble_eq_true rfl) (c_Al_size (cp_1 w)) ?_
    refine mm_ic_ge ok_Cb_allCells 38 rfl (by decide) (fun c => ?_) (fun c => ?_)
    · exact absurd c (nI_ge (by omega) (by have := w.1; omega))
    refine mm_blk (pc' := 17) ok_Cb_allCells 2 _ _ _ rfl ?_
    refine mm_getf ok_Cb_allCells (cp_0 w) rfl f_Cb_12 rfl ?_
    refine mm_blk (pc' := 21) ok_Cb_allCells 1 _ _ _ rfl ?_
    refine mm_cVE ok_Cb_allCells (As := [.int (nI i)]) rfl k_Cb_allCells_56 (cp_1 w) rfl rfl rfl (Nat.le_of_ble_eq_true rfl) (c_getD w hlt) ?_
    refine mm_cast ok_Cb_allCells (cp_dev w hlt) cc_Cb_40 rfl ?_
    refine mm_getf ok_Cb_allCells (cp_dev w hlt) rfl f_Cb_163 rfl ?_
    refine mm_blk (pc' := 4) ok_Cb_allCells 4 _ _ _ rfl ?_
    rw [nI_1]
    exact ih (i + 1) _ (by omega)
set_option maxHeartbeats 1000000 in
theorem c_Cb_allCells (w : c_wf G K S) : mm_C G M_Cb_allCells [.ref (K 0)] (CP K S h) 0 0 (mm_E (some (.int (c_sumC S))) (CP K S h)) := by
  refine mm_C_of (by decide +kernel) rfl (Nat.le_of_ble_eq_true rfl) rfl ?_
  refine mm_blk (pc' := 4) ok_Cb_allCells 4 _ _ _ rfl ?_
  exact l_Cb_allCells w (c_nd S) 0 0 (by omega)
set_option maxHeartbeats 1000000 in
theorem l_Cb_countFaulty (w : c_wf G K S) : ∀ (n i : Nat) (x : Int32), i + n = c_nn S → mm_V G M_Cb_countFaulty 4 [(0, .ref (K 0)), (1, .int x), (2, .int (nI i))] [] (CP K S h) 0 0 (mm_E (some (.int (up (fun j a => if c_N S j 6 = nI j + 1 then a else a + 1) n i x))) (CP K S h)) := by
  intro n
  induction n with
  | zero =>
    intro i x hi
    refine mm_blk (pc' := 6) ok_Cb_countFaulty 2 _ _ _ rfl ?_
    refine mm_getf ok_Cb_countFaulty (cp_0 w) rfl f_Cb_16 rfl ?_
    refine mm_cVE ok_Cb_countFaulty (As := []) rfl k_Cb_countFaulty_33 (cp_3 w) rfl rfl rfl (Nat.le_of_ble_eq_true rfl) (c_Al_size (cp_3 w)) ?_
    refine mm_ic_ge ok_Cb_countFaulty 44 rfl (by decide) (fun c => ?_) (fun c => ?_)
    rotate_left
    · exact absurd (nI_le (by omega) (by have := w.2.1; omega)) c
    refine mm_blk (pc' := 45) ok_Cb_countFaulty 1 _ _ _ rfl ?_
    exact mm_iret ok_Cb_countFaulty rfl rfl ⟨rfl, rfl⟩
  | succ n ih =>
    intro i x hi
    have hlt : i < c_nn S := by omega
    refine mm_blk (pc' := 6) ok_Cb_countFaulty 2 _ _ _ rfl ?_
    refine mm_getf ok_Cb_countFaulty (cp_0 w) rfl f_Cb_16 rfl ?_
    refine mm_cVE ok_Cb_countFaulty (As := []) rfl k_Cb_countFaulty_33 (cp_3 w) rfl rfl rfl (Nat.le_of_ble_eq_true rfl) (c_Al_size (cp_3 w)) ?_
    refine mm_ic_ge ok_Cb_countFaulty 44 rfl (by decide) (fun c => ?_) (fun c => ?_)
    · exact absurd c (nI_ge (by omega) (by have := w.2.1; omega))
    refine mm_blk (pc' := 16) ok_Cb_countFaulty 1 _ _ _ rfl ?_
    refine mm_getf ok_Cb_countFaulty (cp_0 w) rfl f_Cb_16 rfl ?_
    refine mm_blk (pc' := 20) ok_Cb_countFaulty 1 _ _ _ rfl ?_
    refine mm_cVE ok_Cb_countFaulty (As := [.int (nI i)]) rfl k_Cb_countFaulty_56 (cp_3 w) rfl rfl rfl (Nat.le_of_ble_eq_true rfl) (c_getN w hlt) ?_
    refine mm_cast ok_Cb_countFaulty (cp_net w hlt) cc_Cb_71 rfl ?_
    refine mm_getf ok_Cb_countFaulty (cp_net w hlt) rfl f_Cb_157 rfl ?_
    refine mm_blk (pc' := 32) ok_Cb_countFaulty 3 _ _ _ rfl ?_
    refine mm_ic_eq ok_Cb_countFaulty 38 rfl (by decide) (fun c32 => ?_) (fun c32 => ?_)
    · -- 38 t
      refine mm_blk (pc' := 4) ok_Cb_countFaulty 2 _ _ _ rfl ?_
      rw [nI_1]
      unfold up
      first | rw [if_pos c32] | rw [if_neg c32]
      exact ih (i + 1) _ (by omega)
    · -- 35 f
      refine mm_blk (pc' := 4) ok_Cb_countFaulty 3 _ _ _ rfl ?_
      rw [nI_1]
      unfold up
      first | rw [if_pos c32] | rw [if_neg c32]
      exact ih (i + 1) _ (by omega)
set_option maxHeartbeats 1000000 in
theorem c_Cb_countFaulty (w : c_wf G K S) : mm_C G M_Cb_countFaulty [.ref (K 0)] (CP K S h) 0 0 (mm_E (some (.int (c_faulty S))) (CP K S h)) := by
  refine mm_C_of (by decide +kernel) rfl (Nat.le_of_ble_eq_true rfl) rfl ?_
  refine mm_blk (pc' := 4) ok_Cb_countFaulty 4 _ _ _ rfl ?_
  exact l_Cb_countFaulty w (c_nn S) 0 0 (by omega)
set_option maxHeartbeats 1000000 in
theorem l_Cb_forgetSeen : ∀ (n i : Nat) (S : cS), c_wf G K S → i + n = c_nn S → mm_V G M_Cb_forgetSeen 2 [(0, .ref (K 0)), (1, .int (nI i))] [] (CP K S h) 0 0 (mm_E none (CP K (up (fun j S => s_N S j (upd (c_N S j) 6 0)) n i S) h)) := by
  intro n
  induction n with
  | zero =>
    intro i S w hi
    refine mm_blk (pc' := 4) ok_Cb_forgetSeen 2 _ _ _ rfl ?_
    refine mm_getf ok_Cb_forgetSeen (cp_0 w) rfl f_Cb_16 rfl ?_
    refine mm_cVE ok_Cb_forgetSeen (As := []) rfl k_Cb_forgetSeen_33 (cp_3 w) rfl rfl rfl (Nat.le_of_ble_eq_true rfl) (c_Al_size (cp_3 w)) ?_
    refine mm_ic_ge ok_Cb_forgetSeen 34 rfl (by decide) (fun c => ?_) (fun c => ?_)
    rotate_left
    · exact absurd (nI_le (by omega) (by have := w.2.1; omega)) c
    exact mm_vret ok_Cb_forgetSeen rfl rfl ⟨rfl, rfl⟩
  | succ n ih =>
    intro i S w hi
    have hlt : i < c_nn S := by omega
    refine mm_blk (pc' := 4) ok_Cb_forgetSeen 2 _ _ _ rfl ?_
    refine mm_getf ok_Cb_forgetSeen (cp_0 w) rfl f_Cb_16 rfl ?_
    refine mm_cVE ok_Cb_forgetSeen (As := []) rfl k_Cb_forgetSeen_33 (cp_3 w) rfl rfl rfl (Nat.le_of_ble_eq_true rfl) (c_Al_size (cp_3 w)) ?_
    refine mm_ic_ge ok_Cb_forgetSeen 34 rfl (by decide) (fun c => ?_) (fun c => ?_)
    · exact absurd c (nI_ge (by omega) (by have := w.2.1; omega))
    refine mm_blk (pc' := 14) ok_Cb_forgetSeen 1 _ _ _ rfl ?_
    refine mm_getf ok_Cb_forgetSeen (cp_0 w) rfl f_Cb_16 rfl ?_
    refine mm_blk (pc' := 18) ok_Cb_forgetSeen 1 _ _ _ rfl ?_
    refine mm_cVE ok_Cb_forgetSeen (As := [.int (nI i)]) rfl k_Cb_forgetSeen_56 (cp_3 w) rfl rfl rfl (Nat.le_of_ble_eq_true rfl) (c_getN w hlt) ?_
    refine mm_cast ok_Cb_forgetSeen (cp_net w hlt) cc_Cb_71 rfl ?_
    refine mm_blk (pc' := 25) ok_Cb_forgetSeen 1 _ _ _ rfl ?_
    refine mm_putf ok_Cb_forgetSeen (cp_net w hlt) rfl f_Cb_157 (Or.inl rfl) (mm_fit_I _) ?_
    refine mm_blk (pc' := 2) ok_Cb_forgetSeen 2 _ _ _ rfl ?_
    rw [nI_1]
    refine mm_V_heap (cu_netN w hlt 6 0) ?_
    exact ih (i + 1) (s_N S i (upd (c_N S i) 6 0)) w (by show i + 1 + n = c_nn S; omega)
set_option maxHeartbeats 1000000 in
theorem c_Cb_forgetSeen (w : c_wf G K S) : mm_C G M_Cb_forgetSeen [.ref (K 0)] (CP K S h) 0 0 (mm_E none (CP K (c_forget S) h)) := by
  refine mm_C_of (by decide +kernel) rfl (Nat.le_of_ble_eq_true rfl) rfl ?_
  refine mm_blk (pc' := 2) ok_Cb_forgetSeen 2 _ _ _ rfl ?_
  exact l_Cb_forgetSeen (c_nn S) 0 S w (by omega)
end CB
end
section
/-! the class: more loops -/
section CB2
variable {G : mm_G} {K : Nat → Nat} {S : cS} {h : mm_Hp}

set_option maxHeartbeats 1000000 in
theorem l_Cb_placeInScan (w : c_wf G K S) {ow : Nat} (how : ow < c_nd S) (cell : Int32) : ∀ (i : Nat) (x : Int32), i ≤ c_nd S → mm_V G M_Cb_placeInScan 13 [(0, .ref (K 0)), (1, .ref (K (10 + ow))), (2, .int cell), (3, .int x), (4, .int (nI i - 1))] [] (CP K S h) 0 0 (mm_E (some (.int (c_place S ow i x))) (CP K S h)) := by
  intro i
  induction i with
  | zero =>
    intro x hi
    refine mm_blk (pc' := 15) ok_Cb_placeInScan 1 _ _ _ rfl ?_
    refine mm_if_lt ok_Cb_placeInScan 55 rfl (by decide) (fun c => ?_) (fun c => ?_)
    rotate_left
    · exact absurd (by decide) c
    refine mm_blk (pc' := 56) ok_Cb_placeInScan 1 _ _ _ rfl ?_
    exact mm_iret ok_Cb_placeInScan rfl rfl ⟨rfl, rfl⟩
  | succ i ih =>
    intro x hi
    have hlt : i < c_nd S := by omega
    rw [nI_pred]
    refine mm_blk (pc' := 15) ok_Cb_placeInScan 1 _ _ _ rfl ?_
    refine mm_if_lt ok_Cb_placeInScan 55 rfl (by decide) (fun c => ?_) (fun c => ?_)
    · exact absurd c (nI_pos (by have := w.1; omega))
    refine mm_blk (pc' := 19) ok_Cb_placeInScan 1 _ _ _ rfl ?_
    refine mm_getf ok_Cb_placeInScan (cp_0 w) rfl f_Cb_12 rfl ?_
    refine mm_blk (pc' := 24) ok_Cb_placeInScan 1 _ _ _ rfl ?_
    refine mm_cVE ok_Cb_placeInScan (As := [.int (nI i)]) rfl k_Cb_placeInScan_56 (cp_1 w) rfl rfl rfl (Nat.le_of_ble_eq_true rfl) (c_getD w hlt) ?_
    refine mm_blk (pc' := 28) ok_Cb_placeInScan 1 _ _ _ rfl ?_
    refine mm_acmp_eq ok_Cb_placeInScan 55 rfl (by decide) (fun c => ?_) (fun c => ?_)
    · refine mm_blk (pc' := 56) ok_Cb_placeInScan 1 _ _ _ rfl ?_
      have e : i = ow := (k_dev_eq w hlt how).mp c
      exact mm_iret ok_Cb_placeInScan rfl rfl ⟨by show _ = Sum.inl (some (Value.int (if i = ow then x else _))); rw [if_pos e], rfl⟩
    have hio : ¬ i = ow := fun z => c ((k_dev_eq w hlt how).mpr z)
    refine mm_blk (pc' := 33) ok_Cb_placeInScan 2 _ _ _ rfl ?_
    refine mm_getf ok_Cb_placeInScan (cp_0 w) rfl f_Cb_12 rfl ?_
    refine mm_blk (pc' := 38) ok_Cb_placeInScan 1 _ _ _ rfl ?_
    refine mm_cVE ok_Cb_placeInScan (As := [.int (nI i)]) rfl k_Cb_placeInScan_56 (cp_1 w) rfl rfl rfl (Nat.le_of_ble_eq_true rfl) (c_getD w hlt) ?_
    refine mm_cast ok_Cb_placeInScan (cp_dev w hlt) cc_Cb_40 rfl ?_
    refine mm_getf ok_Cb_placeInScan (cp_dev w hlt) rfl f_Cb_163 rfl ?_
    refine mm_blk (pc' := 13) ok_Cb_placeInScan 4 _ _ _ rfl ?_
    have e9 : c_place S ow (i + 1) x = c_place S ow i (x + c_D S i 2) := if_neg hio
    rw [e9, show nI i + (-1) = nI i - 1 from (Int32.sub_eq_add_neg _ _).symm]
    exact ih _ (by omega)
set_option maxHeartbeats 1000000 in
theorem c_Cb_placeInScan (w : c_wf G K S) {ow : Nat} (how : ow < c_nd S) (cell : Int32) : mm_C G M_Cb_placeInScan [.ref (K 0), .ref (K (10 + ow)), .int cell] (CP K S h) 0 0 (mm_E (some (.int (c_place S ow (c_nd S) cell))) (CP K S h)) := by
  refine mm_C_of (by decide +kernel) rfl (Nat.le_of_ble_eq_true rfl) rfl ?_
  refine mm_blk (pc' := 3) ok_Cb_placeInScan 3 _ _ _ rfl ?_
  refine mm_getf ok_Cb_placeInScan (cp_0 w) rfl f_Cb_12 rfl ?_
  refine mm_cVE ok_Cb_placeInScan (As := []) rfl k_Cb_placeInScan_33 (cp_1 w) rfl rfl rfl (Nat.le_of_ble_eq_true rfl) (c_Al_size (cp_1 w)) ?_
  refine mm_blk (pc' := 13) ok_Cb_placeInScan 3 _ _ _ rfl ?_
  exact l_Cb_placeInScan w how cell (c_nd S) cell (Nat.le_refl _)
set_option maxHeartbeats 1000000 in
theorem l_Cb_patternOfRound (w : c_wf G K S) (r : Int32) : ∀ (n i : Nat) (x : Int32), i + n = c_nn S → mm_V G M_Cb_patternOfRound 4 [(0, .ref (K 0)), (1, .int r), (2, .int x), (3, .int (nI i))] [] (CP K S h) 0 0 (mm_E (some (.int (up (fun j a => a ||| ((mm_ushr (nI (j + 1)) r &&& 1) <<< (c_place S (c_R S j).1 (c_nd S) (c_N S j 1) &&& 31))) n i x))) (CP K S h)) := by
  intro n
  induction n with
  | zero =>
    intro i x hi
    refine mm_blk (pc' := 6) ok_Cb_patternOfRound 2 _ _ _ rfl ?_
    refine mm_getf ok_Cb_patternOfRound (cp_0 w) rfl f_Cb_16 rfl ?_
    refine mm_cVE ok_Cb_patternOfRound (As := []) rfl k_Cb_patternOfRound_33 (cp_3 w) rfl rfl rfl (Nat.le_of_ble_eq_true rfl) (c_Al_size (cp_3 w)) ?_
    refine mm_ic_ge ok_Cb_patternOfRound 59 rfl (by decide) (fun c => ?_) (fun c => ?_)
    rotate_left
    · exact absurd (nI_le (by omega) (by have := w.2.1; omega)) c
    refine mm_blk (pc' := 60) ok_Cb_patternOfRound 1 _ _ _ rfl ?_
    exact mm_iret ok_Cb_patternOfRound rfl rfl ⟨rfl, rfl⟩
  | succ n ih =>
    intro i x hi
    have hlt : i < c_nn S := by omega
    obtain ⟨q1, q2, -⟩ := w.2.2.2.2.2 i hlt
    refine mm_blk (pc' := 6) ok_Cb_patternOfRound 2 _ _ _ rfl ?_
    refine mm_getf ok_Cb_patternOfRound (cp_0 w) rfl f_Cb_16 rfl ?_
    refine mm_cVE ok_Cb_patternOfRound (As := []) rfl k_Cb_patternOfRound_33 (cp_3 w) rfl rfl rfl (Nat.le_of_ble_eq_true rfl) (c_Al_size (cp_3 w)) ?_
    refine mm_ic_ge ok_Cb_patternOfRound 59 rfl (by decide) (fun c => ?_) (fun c => ?_)
    · exact absurd c (nI_ge (by omega) (by have := w.2.1; omega))
    refine mm_blk (pc' := 16) ok_Cb_patternOfRound 1 _ _ _ rfl ?_
    refine mm_getf ok_Cb_patternOfRound (cp_0 w) rfl f_Cb_16 rfl ?_
    refine mm_blk (pc' := 20) ok_Cb_patternOfRound 1 _ _ _ rfl ?_
    refine mm_cVE ok_Cb_patternOfRound (As := [.int (nI i)]) rfl k_Cb_patternOfRound_56 (cp_3 w) rfl rfl rfl (Nat.le_of_ble_eq_true rfl) (c_getN w hlt) ?_
    refine mm_cast ok_Cb_patternOfRound (cp_net w hlt) cc_Cb_71 rfl ?_
    refine mm_blk (pc' := 39) ok_Cb_patternOfRound 11 _ _ _ rfl ?_
    refine mm_getf ok_Cb_patternOfRound (cp_net w hlt) rfl f_Cb_207 rfl ?_
    refine mm_blk (pc' := 44) ok_Cb_patternOfRound 1 _ _ _ rfl ?_
    refine mm_getf ok_Cb_patternOfRound (cp_net w hlt) rfl f_Cb_210 rfl ?_
    refine mm_cVE ok_Cb_patternOfRound (As := [.ref (K (10 + (c_R S i).1)), .int (c_N S i 1)]) rfl k_Cb_patternOfRound_213 (cp_0 w) rfl rfl rfl (Nat.le_of_ble_eq_true rfl) (c_Cb_placeInScan w q1 _) ?_
    refine mm_blk (pc' := 4) ok_Cb_patternOfRound 5 _ _ _ rfl ?_
    rw [nI_1]
    refine mm_V_pick [0, 1, 2, 3] rfl ?_
    exact ih (i + 1) _ (by omega)
set_option maxHeartbeats 1000000 in
theorem c_Cb_patternOfRound (w : c_wf G K S) (r : Int32) : mm_C G M_Cb_patternOfRound [.ref (K 0), .int r] (CP K S h) 0 0 (mm_E (some (.int (c_pat S r))) (CP K S h)) := by
  refine mm_C_of (by decide +kernel) rfl (Nat.le_of_ble_eq_true rfl) rfl ?_
  refine mm_blk (pc' := 4) ok_Cb_patternOfRound 4 _ _ _ rfl ?_
  exact l_Cb_patternOfRound w r (c_nn S) 0 0 (by omega)
set_option maxHeartbeats 1000000 in
theorem l_Cb_noteSeen (r came : Int32) : ∀ (n i : Nat) (S : cS), c_wf G K S → i + n = c_nn S → mm_V G M_Cb_noteSeen 2 [(0, .ref (K 0)), (1, .int r), (2, .int came), (3, .int (nI i))] [] (CP K S h) 0 0 (mm_E none (CP K (up (fun j S => s_N S j (upd (c_N S j) 6 (c_N S j 6 ||| ((mm_ushr came (c_place S (c_R S j).2.1 (c_nd S) (c_N S j 3)) &&& 1) <<< (r &&& 31))))) n i S) h)) := by
  intro n
  induction n with
  | zero =>
    intro i S w hi
    refine mm_blk (pc' := 4) ok_Cb_noteSeen 2 _ _ _ rfl ?_
    refine mm_getf ok_Cb_noteSeen (cp_0 w) rfl f_Cb_16 rfl ?_
    refine mm_cVE ok_Cb_noteSeen (As := []) rfl k_Cb_noteSeen_33 (cp_3 w) rfl rfl rfl (Nat.le_of_ble_eq_true rfl) (c_Al_size (cp_3 w)) ?_
    refine mm_ic_ge ok_Cb_noteSeen 62 rfl (by decide) (fun c => ?_) (fun c => ?_)
    rotate_left
    · exact absurd (nI_le (by omega) (by have := w.2.1; omega)) c
    exact mm_vret ok_Cb_noteSeen rfl rfl ⟨rfl, rfl⟩
  | succ n ih =>
    intro i S w hi
    have hlt : i < c_nn S := by omega
    obtain ⟨q1, q2, -⟩ := w.2.2.2.2.2 i hlt
    refine mm_blk (pc' := 4) ok_Cb_noteSeen 2 _ _ _ rfl ?_
    refine mm_getf ok_Cb_noteSeen (cp_0 w) rfl f_Cb_16 rfl ?_
    refine mm_cVE ok_Cb_noteSeen (As := []) rfl k_Cb_noteSeen_33 (cp_3 w) rfl rfl rfl (Nat.le_of_ble_eq_true rfl) (c_Al_size (cp_3 w)) ?_
    refine mm_ic_ge ok_Cb_noteSeen 62 rfl (by decide) (fun c => ?_) (fun c => ?_)
    · exact absurd c (nI_ge (by omega) (by have := w.2.1; omega))
    refine mm_blk (pc' := 14) ok_Cb_noteSeen 1 _ _ _ rfl ?_
    refine mm_getf ok_Cb_noteSeen (cp_0 w) rfl f_Cb_16 rfl ?_
    refine mm_blk (pc' := 18) ok_Cb_noteSeen 1 _ _ _ rfl ?_
    refine mm_cVE ok_Cb_noteSeen (As := [.int (nI i)]) rfl k_Cb_noteSeen_56 (cp_3 w) rfl rfl rfl (Nat.le_of_ble_eq_true rfl) (c_getN w hlt) ?_
    refine mm_cast ok_Cb_noteSeen (cp_net w hlt) cc_Cb_71 rfl ?_
    refine mm_blk (pc' := 29) ok_Cb_noteSeen 3 _ _ _ rfl ?_
    refine mm_getf ok_Cb_noteSeen (cp_net w hlt) rfl f_Cb_157 rfl ?_
    refine mm_blk (pc' := 36) ok_Cb_noteSeen 3 _ _ _ rfl ?_
    refine mm_getf ok_Cb_noteSeen (cp_net w hlt) rfl f_Cb_197 rfl ?_
    refine mm_blk (pc' := 41) ok_Cb_noteSeen 1 _ _ _ rfl ?_
    refine mm_getf ok_Cb_noteSeen (cp_net w hlt) rfl f_Cb_201 rfl ?_
    refine mm_cVE ok_Cb_noteSeen (As := [.ref (K (10 + (c_R S i).2.1)), .int (c_N S i 3)]) rfl k_Cb_noteSeen_213 (cp_0 w) rfl rfl rfl (Nat.le_of_ble_eq_true rfl) (c_Cb_placeInScan w q2 _) ?_
    refine mm_blk (pc' := 53) ok_Cb_noteSeen 6 _ _ _ rfl ?_
    refine mm_putf ok_Cb_noteSeen (cp_net w hlt) rfl f_Cb_157 (Or.inl rfl) (mm_fit_I _) ?_
    refine mm_blk (pc' := 2) ok_Cb_noteSeen 2 _ _ _ rfl ?_
    rw [nI_1]
    refine mm_V_pick [0, 1, 2, 3] rfl ?_
    refine mm_V_heap (cu_netN w hlt 6 _) ?_
    exact ih (i + 1) (s_N S i _) w (by show i + 1 + n = c_nn S; omega)
set_option maxHeartbeats 1000000 in
theorem c_Cb_noteSeen (w : c_wf G K S) (r came : Int32) : mm_C G M_Cb_noteSeen [.ref (K 0), .int r, .int came] (CP K S h) 0 0 (mm_E none (CP K (c_note S r came) h)) := by
  refine mm_C_of (by decide +kernel) rfl (Nat.le_of_ble_eq_true rfl) rfl ?_
  refine mm_blk (pc' := 2) ok_Cb_noteSeen 2 _ _ _ rfl ?_
  exact l_Cb_noteSeen r came (c_nn S) 0 S w (by omega)
set_option maxHeartbeats 1000000 in
theorem l_Cb_words (w : c_wf G K S) : ∀ (n i : Nat), i + n = 4 → mm_V G M_Cb_wordsBeforeAllOnes 2 [(0, .ref (K 0)), (1, .int (nI i))] [] (CP K S h) 0 0 (mm_E (some (.int (nI (c_words S n i)))) (CP K S h)) := by
  intro n
  induction n with
  | zero =>
    intro i hi
    refine mm_blk (pc' := 4) ok_Cb_wordsBeforeAllOnes 2 _ _ _ rfl ?_
    refine mm_ic_ge ok_Cb_wordsBeforeAllOnes 23 rfl (by decide) (fun c => ?_) (fun c => ?_)
    rotate_left
    · exact absurd (show nI 4 ≤ nI i from nI_le (by omega) (by omega)) c
    refine mm_blk (pc' := 24) ok_Cb_wordsBeforeAllOnes 1 _ _ _ rfl ?_
    exact mm_iret ok_Cb_wordsBeforeAllOnes rfl rfl ⟨rfl, rfl⟩
  | succ n ih =>
    intro i hi
    refine mm_blk (pc' := 4) ok_Cb_wordsBeforeAllOnes 2 _ _ _ rfl ?_
    refine mm_ic_ge ok_Cb_wordsBeforeAllOnes 23 rfl (by decide) (fun c => ?_) (fun c => ?_)
    · exact absurd c (show ¬ nI 4 ≤ nI i from nI_ge (by omega) (by omega))
    refine mm_blk (pc' := 8) ok_Cb_wordsBeforeAllOnes 1 _ _ _ rfl ?_
    refine mm_getf ok_Cb_wordsBeforeAllOnes (cp_0 w) rfl f_Cb_23 rfl ?_
    refine mm_blk (pc' := 12) ok_Cb_wordsBeforeAllOnes 1 _ _ _ rfl ?_
    refine mm_iald ok_Cb_wordsBeforeAllOnes (cp_5 w) rfl rfl (by omega) (oIs_get (by omega) _) ?_
    refine mm_blk (pc' := 14) ok_Cb_wordsBeforeAllOnes 1 _ _ _ rfl ?_
    refine mm_ic_eq ok_Cb_wordsBeforeAllOnes 23 rfl (by decide) (fun c14 => ?_) (fun c14 => ?_)
    · -- 23 t
      refine mm_blk (pc' := 24) ok_Cb_wordsBeforeAllOnes 1 _ _ _ rfl ?_
      exact mm_iret ok_Cb_wordsBeforeAllOnes rfl rfl ⟨by rw [show c_words S (n + 1) i = i from if_pos c14], rfl⟩
    · -- 17 f
      refine mm_blk (pc' := 2) ok_Cb_wordsBeforeAllOnes 2 _ _ _ rfl ?_
      rw [nI_1]
      have e9 : c_words S (n + 1) i = c_words S n (i + 1) := if_neg c14
      rw [e9]
      exact ih (i + 1) (by omega)
set_option maxHeartbeats 1000000 in
theorem c_Cb_words (w : c_wf G K S) : mm_C G M_Cb_wordsBeforeAllOnes [.ref (K 0)] (CP K S h) 0 0 (mm_E (some (.int (nI (c_words S 4 0)))) (CP K S h)) := by
  refine mm_C_of (by decide +kernel) rfl (Nat.le_of_ble_eq_true rfl) rfl ?_
  refine mm_blk (pc' := 2) ok_Cb_wordsBeforeAllOnes 2 _ _ _ rfl ?_
  exact l_Cb_words w 4 0 (by omega)
set_option maxHeartbeats 1000000 in
theorem l_Cb_enterState (x : Int32) : ∀ (n i : Nat) (S : cS), c_wf G K S → i + n = c_nd S → mm_V G M_Cb_enterState 11 [(0, .ref (K 0)), (1, .int x), (2, .int (nI i))] [] (CP K S h) 0 0 (mm_E none (CP K (up (fun i S => s_D S i (upd (c_D S i) 7 1)) n i S) h)) := by
  intro n
  induction n with
  | zero =>
    intro i S w hi
    refine mm_blk (pc' := 13) ok_Cb_enterState 2 _ _ _ rfl ?_
    refine mm_getf ok_Cb_enterState (cp_0 w) rfl f_Cb_12 rfl ?_
    refine mm_cVE ok_Cb_enterState (As := []) rfl k_Cb_enterState_33 (cp_1 w) rfl rfl rfl (Nat.le_of_ble_eq_true rfl) (c_Al_size (cp_1 w)) ?_
    refine mm_ic_ge ok_Cb_enterState 43 rfl (by decide) (fun c => ?_) (fun c => ?_)
    rotate_left
    · exact absurd (nI_le (by omega) (by have := w.1; omega)) c
    exact mm_vret ok_Cb_enterState rfl rfl ⟨rfl, rfl⟩
  | succ n ih =>
    intro i S w hi
    have hlt : i < c_nd S := by omega
    refine mm_blk (pc' := 13) ok_Cb_enterState 2 _ _ _ rfl ?_
    refine mm_getf ok_Cb_enterState (cp_0 w) rfl f_Cb_12 rfl ?_
    refine mm_cVE ok_Cb_enterState (As := []) rfl k_Cb_enterState_33 (cp_1 w) rfl rfl rfl (Nat.le_of_ble_eq_true rfl) (c_Al_size (cp_1 w)) ?_
    refine mm_ic_ge ok_Cb_enterState 43 rfl (by decide) (fun c => ?_) (fun c => ?_)
    · exact absurd c (nI_ge (by omega) (by have := w.1; omega))
    refine mm_blk (pc' := 23) ok_Cb_enterState 1 _ _ _ rfl ?_
    refine mm_getf ok_Cb_enterState (cp_0 w) rfl f_Cb_12 rfl ?_
    refine mm_blk (pc' := 27) ok_Cb_enterState 1 _ _ _ rfl ?_
    refine mm_cVE ok_Cb_enterState (As := [.int (nI i)]) rfl k_Cb_enterState_56 (cp_1 w) rfl rfl rfl (Nat.le_of_ble_eq_true rfl) (c_getD w hlt) ?_
    refine mm_cast ok_Cb_enterState (cp_dev w hlt) cc_Cb_40 rfl ?_
    refine mm_blk (pc' := 34) ok_Cb_enterState 1 _ _ _ rfl ?_
    refine mm_putf ok_Cb_enterState (cp_dev w hlt) rfl f_Cb_105 (Or.inl rfl) (mm_fit_I _) ?_
    refine mm_blk (pc' := 11) ok_Cb_enterState 2 _ _ _ rfl ?_
    rw [nI_1]
    refine mm_V_heap (cu_dev w hlt (upd (c_D S i) 7 1)) ?_
    exact ih (i + 1) (s_D S i _) w (by show i + 1 + n = c_nd S; omega)
set_option maxHeartbeats 1000000 in
theorem c_Cb_enterState (w : c_wf G K S) (x : Int32) : mm_C G M_Cb_enterState [.ref (K 0), .int x] (CP K S h) 0 0 (mm_E none (CP K (c_ent S x) h)) := by
  refine mm_C_of (by decide +kernel) rfl (Nat.le_of_ble_eq_true rfl) rfl ?_
  refine mm_blk (pc' := 2) ok_Cb_enterState 2 _ _ _ rfl ?_
  refine mm_putf ok_Cb_enterState (cp_0 w) rfl f_Cb_19 (Or.inl rfl) (mm_fit_I _) ?_
  refine mm_blk (pc' := 6) ok_Cb_enterState 1 _ _ _ rfl ?_
  refine mm_V_heap (cu_0 w 2 x) ?_
  refine mm_if_ne ok_Cb_enterState 43 rfl (by decide) (fun c6 => ?_) (fun c6 => ?_)
  · -- 43 t
    exact mm_vret ok_Cb_enterState rfl rfl ⟨rfl, by rw [show c_ent S x = s_Z S 0 2 x from if_neg c6]⟩
  · -- 9 f
    refine mm_blk (pc' := 11) ok_Cb_enterState 2 _ _ _ rfl ?_
    have e9 : c_ent S x = up (fun i S => s_D S i (upd (c_D S i) 7 1)) (c_nd S) 0 (s_Z S 0 2 x) := if_pos c6
    rw [e9]
    exact l_Cb_enterState x (c_nd S) 0 (s_Z S 0 2 x) w (by show 0 + c_nd S = c_nd S; omega)
set_option maxHeartbeats 1000000 in
theorem l_Cb_signalsOf (w : c_wf G K S) {d : Nat} (hd : d < c_nd S) : ∀ (n i : Nat) (x : Int32), i + n = c_nn S → mm_V G M_Cb_signalsOf 7 [(0, .ref (K 0)), (1, .ref (K (10 + d))), (2, .int x), (3, .int (nI i))] [] (CP K S h) 0 0 (mm_E (some (.int (up (fun j a => if (c_R S j).2.1 = d then (if c_car S j = 0 then a else a ||| 1 <<< (c_N S j 3 &&& 31)) else a) n i x))) (CP K S h)) := by
  intro n
  induction n with
  | zero =>
    intro i x hi
    refine mm_blk (pc' := 9) ok_Cb_signalsOf 2 _ _ _ rfl ?_
    refine mm_getf ok_Cb_signalsOf (cp_0 w) rfl f_Cb_16 rfl ?_
    refine mm_cVE ok_Cb_signalsOf (As := []) rfl k_Cb_signalsOf_33 (cp_3 w) rfl rfl rfl (Nat.le_of_ble_eq_true rfl) (c_Al_size (cp_3 w)) ?_
    refine mm_ic_ge ok_Cb_signalsOf 64 rfl (by decide) (fun c => ?_) (fun c => ?_)
    rotate_left
    · exact absurd (nI_le (by omega) (by have := w.2.1; omega)) c
    refine mm_blk (pc' := 65) ok_Cb_signalsOf 1 _ _ _ rfl ?_
    exact mm_iret ok_Cb_signalsOf rfl rfl ⟨rfl, rfl⟩
  | succ n ih =>
    intro i x hi
    have hlt : i < c_nn S := by omega
    obtain ⟨q1, q2, -⟩ := w.2.2.2.2.2 i hlt
    refine mm_blk (pc' := 9) ok_Cb_signalsOf 2 _ _ _ rfl ?_
    refine mm_getf ok_Cb_signalsOf (cp_0 w) rfl f_Cb_16 rfl ?_
    refine mm_cVE ok_Cb_signalsOf (As := []) rfl k_Cb_signalsOf_33 (cp_3 w) rfl rfl rfl (Nat.le_of_ble_eq_true rfl) (c_Al_size (cp_3 w)) ?_
    refine mm_ic_ge ok_Cb_signalsOf 64 rfl (by decide) (fun c => ?_) (fun c => ?_)
    · exact absurd c (nI_ge (by omega) (by have := w.2.1; omega))
    refine mm_blk (pc' := 19) ok_Cb_signalsOf 1 _ _ _ rfl ?_
    refine mm_getf ok_Cb_signalsOf (cp_0 w) rfl f_Cb_16 rfl ?_
    refine mm_blk (pc' := 23) ok_Cb_signalsOf 1 _ _ _ rfl ?_
    refine mm_cVE ok_Cb_signalsOf (As := [.int (nI i)]) rfl k_Cb_signalsOf_56 (cp_3 w) rfl rfl rfl (Nat.le_of_ble_eq_true rfl) (c_getN w hlt) ?_
    refine mm_cast ok_Cb_signalsOf (cp_net w hlt) cc_Cb_71 rfl ?_
    refine mm_blk (pc' := 33) ok_Cb_signalsOf 2 _ _ _ rfl ?_
    refine mm_getf ok_Cb_signalsOf (cp_net w hlt) rfl f_Cb_197 rfl ?_
    refine mm_blk (pc' := 37) ok_Cb_signalsOf 1 _ _ _ rfl ?_
    refine mm_acmp_ne ok_Cb_signalsOf 58 rfl (by decide) (fun c => ?_) (fun c => ?_)
    · refine mm_blk (pc' := 7) ok_Cb_signalsOf 2 _ _ _ rfl ?_
      have e : ¬ (c_R S i).2.1 = d := fun z => c ((k_dev_eq w q2 hd).mpr z)
      rw [nI_1]
      refine mm_V_pick [0, 1, 2, 3] rfl ?_
      unfold up
      rw [if_neg e]
      exact ih (i + 1) _ (by omega)
    have e : (c_R S i).2.1 = d := (k_dev_eq w q2 hd).mp c
    refine mm_blk (pc' := 42) ok_Cb_signalsOf 1 _ _ _ rfl ?_
    refine mm_cVE ok_Cb_signalsOf (As := []) rfl k_Cb_signalsOf_118 (cp_net w hlt) rfl rfl rfl (Nat.le_of_ble_eq_true rfl) (c_carr w hlt) ?_
    refine mm_if_eq ok_Cb_signalsOf 58 rfl (by decide) (fun c45 => ?_) (fun c45 => ?_)
    · -- 58 t
      refine mm_blk (pc' := 7) ok_Cb_signalsOf 2 _ _ _ rfl ?_
      rw [nI_1]
      refine mm_V_pick [0, 1, 2, 3] rfl ?_
      unfold up
      rw [if_pos e]
      first | rw [if_pos c45] | rw [if_neg c45]
      exact ih (i + 1) _ (by omega)
    · -- 48 f
      refine mm_blk (pc' := 52) ok_Cb_signalsOf 3 _ _ _ rfl ?_
      refine mm_getf ok_Cb_signalsOf (cp_net w hlt) rfl f_Cb_201 rfl ?_
      refine mm_blk (pc' := 7) ok_Cb_signalsOf 5 _ _ _ rfl ?_
      rw [nI_1]
      refine mm_V_pick [0, 1, 2, 3] rfl ?_
      unfold up
      rw [if_pos e]
      first | rw [if_pos c45] | rw [if_neg c45]
      exact ih (i + 1) _ (by omega)
set_option maxHeartbeats 1000000 in
theorem c_Cb_signalsOf (w : c_wf G K S) {d : Nat} (hd : d < c_nd S) : mm_C G M_Cb_signalsOf [.ref (K 0), .ref (K (10 + d))] (CP K S h) 0 0 (mm_E (some (.int (c_sig S d))) (CP K S h)) := by
  refine mm_C_of (by decide +kernel) rfl (Nat.le_of_ble_eq_true rfl) rfl ?_
  refine mm_blk (pc' := 1) ok_Cb_signalsOf 1 _ _ _ rfl ?_
  refine mm_cVE ok_Cb_signalsOf (As := []) rfl k_Cb_signalsOf_194 (cp_dev w hd) rfl rfl rfl (Nat.le_of_ble_eq_true rfl) (c_Dv_outputs (cp_dev w hd)) ?_
  refine mm_blk (pc' := 7) ok_Cb_signalsOf 3 _ _ _ rfl ?_
  exact l_Cb_signalsOf w hd (c_nn S) 0 _ (by omega)
end CB2
end
section
/-! the class: a clock -/
def c_dsb (p : Int32) (i : Nat) (x : Int32 × cS) : Int32 × cS :=
  if p = 3 then (x.1, s_D x.2 i (upd (c_D x.2 i) 9 (dv_cap (c_D x.2 i) (c_sig x.2 i))))
  else if p = 4 then (if (c_D x.2 i 9 &&& 1) = 1 then 1 else 0, s_D x.2 i (upd (c_D x.2 i) 9 (dv_sd (c_D x.2 i 9) (dv_len (c_D x.2 i)) x.1)))
  else if p = 8 then (x.1, s_D x.2 i (upd (c_D x.2 i) 5 (if c_D x.2 i 7 = 0 ∨ c_D x.2 i 7 = 2 then c_D x.2 i 9 &&& c_D x.2 i 3 else c_D x.2 i 5)))
  else if p = 10 then (x.1, s_D x.2 i (upd (c_D x.2 i) 8 1))
  else if p = 11 then (if (c_D x.2 i 8 &&& 1) = 1 then 1 else 0, s_D x.2 i (upd (c_D x.2 i) 8 (dv_sd (c_D x.2 i 8) (c_D x.2 i 0) x.1)))
  else if p = 15 then (x.1, s_D x.2 i (upd (c_D x.2 i) 7 (c_D x.2 i 8)))
  else x
def c_dout (p q : Int32) : Int32 := if q = 0 then 0 else if p = 4 then 1 else if p = 11 then 1 else 0
def c_run (S : cS) (tdi : Int32) : Int32 × cS := up (c_dsb (c_Z S 0 2)) (c_nd S) 0 (tdi, S)
def c_nx (S : cS) (tms : Int32) : Int32 := if tms = 0 then mm_t0.getD (c_Z S 0 2).toNatClampNeg 0 else mm_t1.getD (c_Z S 0 2).toNatClampNeg 0
/-- a clock: the state behind it -/
def c_stp (S : cS) (tms tdi : Int32) : cS := s_Z (c_ent (c_run S tdi).2 (c_nx S tms)) 0 3 (c_Z (c_ent (c_run S tdi).2 (c_nx S tms)) 0 3 + 1)
def c_ans (S : cS) (tdi : Int32) : Int32 := c_dout (c_Z S 0 2) (c_run S tdi).1
/-- the ports' state is one of the sixteen -/
def c_ps (S : cS) : Prop := ∃ k, k < 16 ∧ c_Z S 0 2 = nI k
/-- what a clock leaves alone -/
def c_same (S S' : cS) : Prop := S'.1 = S.1 ∧ c_R S' = c_R S ∧ c_N S' = c_N S
theorem c_wf_same {G : mm_G} {K : Nat → Nat} {S S' : cS} (w : c_wf G K S) (h1 : S'.1 = S.1) (h2 : c_R S' = c_R S) : c_wf G K S' := by
  unfold c_wf at *
  rw [show c_nd S' = c_nd S from congrArg Prod.fst h1, show c_nn S' = c_nn S from congrArg Prod.snd h1, h2]
  exact w
section CB3
variable {G : mm_G} {K : Nat → Nat} {S : cS} {h : mm_Hp}
theorem dsb_keep (p : Int32) (i : Nat) (x : Int32 × cS) : c_same x.2 (c_dsb p i x).2 ∧ c_Z (c_dsb p i x).2 = c_Z x.2 := by
  unfold c_dsb
  repeat' split
  all_goals exact ⟨⟨rfl, rfl, rfl⟩, rfl⟩
theorem run_keep (p : Int32) : ∀ (n i : Nat) (x : Int32 × cS), c_same x.2 (up (c_dsb p) n i x).2 ∧ c_Z (up (c_dsb p) n i x).2 = c_Z x.2 := by
  intro n
  induction n with
  | zero => intro i x; exact ⟨⟨rfl, rfl, rfl⟩, rfl⟩
  | succ n ih =>
    intro i x
    obtain ⟨⟨a1, a2, a3⟩, a4⟩ := ih (i + 1) (c_dsb p i x)
    obtain ⟨⟨b1, b2, b3⟩, b4⟩ := dsb_keep p i x
    exact ⟨⟨a1.trans b1, a2.trans b2, a3.trans b3⟩, a4.trans b4⟩
theorem ent_keep (S : cS) (x : Int32) : c_same S (c_ent S x) ∧ c_Z (c_ent S x) = c_Z (s_Z S 0 2 x) := by
  have key : ∀ (n i : Nat) (S : cS), c_same S (up (fun i S => s_D S i (upd (c_D S i) 7 1)) n i S) ∧ c_Z (up (fun i S => s_D S i (upd (c_D S i) 7 1)) n i S) = c_Z S := by
    intro n
    induction n with
    | zero => intro i S; exact ⟨⟨rfl, rfl, rfl⟩, rfl⟩
    | succ n ih =>
      intro i S
      obtain ⟨⟨a1, a2, a3⟩, a4⟩ := ih (i + 1) (s_D S i (upd (c_D S i) 7 1))
      exact ⟨⟨a1, a2, a3⟩, a4⟩
  unfold c_ent
  split
  · obtain ⟨⟨a1, a2, a3⟩, a4⟩ := key (c_nd S) 0 (s_Z S 0 2 x)
    exact ⟨⟨a1, a2, a3⟩, a4⟩
  · exact ⟨⟨rfl, rfl, rfl⟩, rfl⟩
theorem stp_keep (S : cS) (tms tdi : Int32) : c_same S (c_stp S tms tdi) := by
  obtain ⟨⟨a1, a2, a3⟩, -⟩ := ent_keep (c_run S tdi).2 (c_nx S tms)
  obtain ⟨⟨b1, b2, b3⟩, -⟩ := run_keep (c_Z S 0 2) (c_nd S) 0 (tdi, S)
  exact ⟨a1.trans b1, a2.trans b2, a3.trans b3⟩
theorem stp_Z (S : cS) (tms tdi : Int32) : c_Z (c_stp S tms tdi) 0 2 = c_nx S tms ∧ c_Z (c_stp S tms tdi) 0 3 = c_Z S 0 3 + 1 ∧ c_Z (c_stp S tms tdi) 0 6 = c_Z S 0 6 ∧ c_Z (c_stp S tms tdi) 0 7 = c_Z S 0 7 ∧ c_Z (c_stp S tms tdi) 1 = c_Z S 1 ∧ c_Z (c_stp S tms tdi) 2 = c_Z S 2 ∧ c_Z (c_stp S tms tdi) 3 = c_Z S 3 := by
  obtain ⟨-, a4⟩ := ent_keep (c_run S tdi).2 (c_nx S tms)
  obtain ⟨-, b4⟩ := run_keep (c_Z S 0 2) (c_nd S) 0 (tdi, S)
  have b5 : c_Z (c_run S tdi).2 = c_Z S := b4
  have key : c_Z (c_stp S tms tdi) = va_up (c_Z (c_ent (c_run S tdi).2 (c_nx S tms))) 0 (upd (c_Z (c_ent (c_run S tdi).2 (c_nx S tms)) 0) 3 (c_Z (c_ent (c_run S tdi).2 (c_nx S tms)) 0 3 + 1)) := rfl
  have key2 : c_Z (c_ent (c_run S tdi).2 (c_nx S tms)) = va_up (c_Z S) 0 (upd (c_Z S 0) 2 (c_nx S tms)) := by
    rw [a4]
    show va_up (c_Z (c_run S tdi).2) 0 (upd (c_Z (c_run S tdi).2 0) 2 (c_nx S tms)) = _
    rw [b5]
  rw [key, key2]
  refine ⟨rfl, rfl, rfl, rfl, rfl, rfl, rfl⟩
theorem nx_ps (hp : c_ps S) (tms : Int32) : ∃ k, k < 16 ∧ c_nx S tms = nI k := by
  obtain ⟨k, hk, e⟩ := hp
  have key : ∀ k, k < 16 → (∃ j, j < 16 ∧ mm_t0.getD k 0 = nI j) ∧ ∃ j, j < 16 ∧ mm_t1.getD k 0 = nI j := by decide +kernel
  unfold c_nx
  rw [e, nI_clamp (by omega)]
  split
  · exact (key k hk).1
  · exact (key k hk).2
theorem stp_ps (hp : c_ps S) (tms tdi : Int32) : c_ps (c_stp S tms tdi) := by
  obtain ⟨k, hk, e⟩ := nx_ps hp tms
  exact ⟨k, hk, by rw [(stp_Z S tms tdi).1]; exact e⟩
theorem stp_wf (w : c_wf G K S) (tms tdi : Int32) : c_wf G K (c_stp S tms tdi) := c_wf_same w (stp_keep S tms tdi).1 (stp_keep S tms tdi).2.1

set_option maxHeartbeats 4000000 in
theorem l_Cb_doState {tdi : Int32} {k : Nat} (hk : k < 16) : ∀ (n i : Nat) (q : Int32) (S : cS), c_wf G K S → c_Z S 0 2 = nI k → i + n = c_nd S → mm_V G M_Cb_doState 4 [(0, .ref (K 0)), (1, .int tdi), (2, .int q), (3, .int (nI i))] [] (CP K S h) 0 0 (mm_E (some (.int (c_dout (nI k) (up (c_dsb (nI k)) n i (q, S)).1))) (CP K (up (c_dsb (nI k)) n i (q, S)).2 h)) := by
  intro n
  induction n with
  | zero =>
    intro i q S w hp hi
    refine mm_blk (pc' := 6) ok_Cb_doState 2 _ _ _ rfl ?_
    refine mm_getf ok_Cb_doState (cp_0 w) rfl f_Cb_12 rfl ?_
    refine mm_cVE ok_Cb_doState (As := []) rfl k_Cb_doState_33 (cp_1 w) rfl rfl rfl (Nat.le_of_ble_eq_true rfl) (c_Al_size (cp_1 w)) ?_
    refine mm_ic_ge ok_Cb_doState 170 rfl (by decide) (fun c => ?_) (fun c => ?_)
    rotate_left
    · exact absurd (nI_le (by omega) (by have := w.1; omega)) c
    refine mm_blk (pc' := 171) ok_Cb_doState 1 _ _ _ rfl ?_
    refine mm_if_eq ok_Cb_doState 195 rfl (by decide) (fun c1 => ?_) (fun c1 => ?_)
    · -- 195 t
      refine mm_blk (pc' := 196) ok_Cb_doState 1 _ _ _ rfl ?_
      exact mm_zret ok_Cb_doState rfl rfl rfl ⟨by rw [← hp]; show Sum.inl (some (Value.int _)) = Sum.inl (some (Value.int (c_dout (c_Z S 0 2) q))); unfold c_dout; first | rw [if_pos c1] | (rw [if_neg c1]; first | rw [if_pos c2] | (rw [if_neg c2]; first | rw [if_pos c3] | rw [if_neg c3])), rfl⟩
    · -- 174 f
      refine mm_blk (pc' := 175) ok_Cb_doState 1 _ _ _ rfl ?_
      refine mm_getf ok_Cb_doState (cp_0 w) rfl f_Cb_19 rfl ?_
      refine mm_blk (pc' := 179) ok_Cb_doState 1 _ _ _ rfl ?_
      refine mm_ic_eq ok_Cb_doState 191 rfl (by decide) (fun c2 => ?_) (fun c2 => ?_)
      · -- 191 t
        refine mm_blk (pc' := 196) ok_Cb_doState 2 _ _ _ rfl ?_
        exact mm_zret ok_Cb_doState rfl rfl rfl ⟨by rw [← hp]; show Sum.inl (some (Value.int _)) = Sum.inl (some (Value.int (c_dout (c_Z S 0 2) q))); unfold c_dout; first | rw [if_pos c1] | (rw [if_neg c1]; first | rw [if_pos c2] | (rw [if_neg c2]; first | rw [if_pos c3] | rw [if_neg c3])), rfl⟩
      · -- 182 f
        refine mm_blk (pc' := 183) ok_Cb_doState 1 _ _ _ rfl ?_
        refine mm_getf ok_Cb_doState (cp_0 w) rfl f_Cb_19 rfl ?_
        refine mm_blk (pc' := 188) ok_Cb_doState 1 _ _ _ rfl ?_
        refine mm_ic_ne ok_Cb_doState 195 rfl (by decide) (fun c3 => ?_) (fun c3 => ?_)
        · -- 195 t
          refine mm_blk (pc' := 196) ok_Cb_doState 1 _ _ _ rfl ?_
          exact mm_zret ok_Cb_doState rfl rfl rfl ⟨by rw [← hp]; show Sum.inl (some (Value.int _)) = Sum.inl (some (Value.int (c_dout (c_Z S 0 2) q))); unfold c_dout; first | rw [if_pos c1] | (rw [if_neg c1]; first | rw [if_pos c2] | (rw [if_neg c2]; first | rw [if_pos c3] | rw [if_neg c3])), rfl⟩
        · -- 191 f
          refine mm_blk (pc' := 196) ok_Cb_doState 2 _ _ _ rfl ?_
          exact mm_zret ok_Cb_doState rfl rfl rfl ⟨by rw [← hp]; show Sum.inl (some (Value.int _)) = Sum.inl (some (Value.int (c_dout (c_Z S 0 2) q))); unfold c_dout; first | rw [if_pos c1] | (rw [if_neg c1]; first | rw [if_pos c2] | (rw [if_neg c2]; first | rw [if_pos c3] | rw [if_neg c3])), rfl⟩
  | succ n ih =>
    intro i q S w hp hi
    have hlt : i < c_nd S := by omega
    refine mm_blk (pc' := 6) ok_Cb_doState 2 _ _ _ rfl ?_
    refine mm_getf ok_Cb_doState (cp_0 w) rfl f_Cb_12 rfl ?_
    refine mm_cVE ok_Cb_doState (As := []) rfl k_Cb_doState_33 (cp_1 w) rfl rfl rfl (Nat.le_of_ble_eq_true rfl) (c_Al_size (cp_1 w)) ?_
    refine mm_ic_ge ok_Cb_doState 170 rfl (by decide) (fun c => ?_) (fun c => ?_)
    · exact absurd c (nI_ge (by omega) (by have := w.1; omega))
    refine mm_blk (pc' := 16) ok_Cb_doState 1 _ _ _ rfl ?_
    refine mm_getf ok_Cb_doState (cp_0 w) rfl f_Cb_12 rfl ?_
    refine mm_blk (pc' := 20) ok_Cb_doState 1 _ _ _ rfl ?_
    refine mm_cVE ok_Cb_doState (As := [.int (nI i)]) rfl k_Cb_doState_56 (cp_1 w) rfl rfl rfl (Nat.le_of_ble_eq_true rfl) (c_getD w hlt) ?_
    refine mm_cast ok_Cb_doState (cp_dev w hlt) cc_Cb_40 rfl ?_
    refine mm_blk (pc' := 29) ok_Cb_doState 2 _ _ _ rfl ?_
    refine mm_getf ok_Cb_doState (cp_0 w) rfl f_Cb_19 rfl ?_
    rcases (show k = 0 ∨ k = 1 ∨ k = 2 ∨ k = 3 ∨ k = 4 ∨ k = 5 ∨ k = 6 ∨ k = 7 ∨ k = 8 ∨ k = 9 ∨ k = 10 ∨ k = 11 ∨ k = 12 ∨ k = 13 ∨ k = 14 ∨ k = 15 by omega) with rfl | rfl | rfl | rfl | rfl | rfl | rfl | rfl | rfl | rfl | rfl | rfl | rfl | rfl | rfl | rfl
    · refine mm_tabOut ok_Cb_doState 164 rfl (by rw [hp]; decide) (by decide) ?_
      refine mm_blk (pc' := 4) ok_Cb_doState 2 _ _ _ rfl ?_
      rw [nI_1]
      refine mm_V_pick [0, 1, 2, 3] rfl ?_
      have e : c_dsb (nI 0) i (q, S) = (q, S) := by unfold c_dsb; rw [if_neg (by decide), if_neg (by decide), if_neg (by decide), if_neg (by decide), if_neg (by decide), if_neg (by decide)]
      show mm_V _ _ _ _ _ _ _ _ (mm_E (some (.int (c_dout (nI 0) (up (c_dsb (nI 0)) n (i + 1) (c_dsb (nI 0) i (q, S))).1))) (CP K (up (c_dsb (nI 0)) n (i + 1) (c_dsb (nI 0) i (q, S))).2 h))
      rw [e]
      exact ih (i + 1) _ S w hp (by omega)
    · refine mm_tabOut ok_Cb_doState 164 rfl (by rw [hp]; decide) (by decide) ?_
      refine mm_blk (pc' := 4) ok_Cb_doState 2 _ _ _ rfl ?_
      rw [nI_1]
      refine mm_V_pick [0, 1, 2, 3] rfl ?_
      have e : c_dsb (nI 1) i (q, S) = (q, S) := by unfold c_dsb; rw [if_neg (by decide), if_neg (by decide), if_neg (by decide), if_neg (by decide), if_neg (by decide), if_neg (by decide)]
      show mm_V _ _ _ _ _ _ _ _ (mm_E (some (.int (c_dout (nI 1) (up (c_dsb (nI 1)) n (i + 1) (c_dsb (nI 1) i (q, S))).1))) (CP K (up (c_dsb (nI 1)) n (i + 1) (c_dsb (nI 1) i (q, S))).2 h))
      rw [e]
      exact ih (i + 1) _ S w hp (by omega)
    · refine mm_tabOut ok_Cb_doState 164 rfl (by rw [hp]; decide) (by decide) ?_
      refine mm_blk (pc' := 4) ok_Cb_doState 2 _ _ _ rfl ?_
      rw [nI_1]
      refine mm_V_pick [0, 1, 2, 3] rfl ?_
      have e : c_dsb (nI 2) i (q, S) = (q, S) := by unfold c_dsb; rw [if_neg (by decide), if_neg (by decide), if_neg (by decide), if_neg (by decide), if_neg (by decide), if_neg (by decide)]
      show mm_V _ _ _ _ _ _ _ _ (mm_E (some (.int (c_dout (nI 2) (up (c_dsb (nI 2)) n (i + 1) (c_dsb (nI 2) i (q, S))).1))) (CP K (up (c_dsb (nI 2)) n (i + 1) (c_dsb (nI 2) i (q, S))).2 h))
      rw [e]
      exact ih (i + 1) _ S w hp (by omega)
    · refine mm_tabIn (off := 68) ok_Cb_doState 100 rfl (by rw [hp]; decide) (by rw [hp]; decide) (by rw [hp]; rfl) (by decide) ?_
      refine mm_blk (pc' := 105) ok_Cb_doState 3 _ _ _ rfl ?_
      refine mm_cVE ok_Cb_doState (As := [.ref (K (10 + i))]) rfl k_Cb_doState_114 (cp_0 w) rfl rfl rfl (Nat.le_of_ble_eq_true rfl) (c_Cb_signalsOf w hlt) ?_
      refine mm_cVE ok_Cb_doState (As := [.int (c_sig S i)]) rfl k_Cb_doState_182 (cp_dev w hlt) rfl rfl rfl (Nat.le_of_ble_eq_true rfl) (c_Dv_captureData (cp_dev w hlt) _) ?_
      refine mm_blk (pc' := 4) ok_Cb_doState 3 _ _ _ rfl ?_
      rw [nI_1]
      refine mm_V_pick [0, 1, 2, 3] rfl ?_
      have e : c_dsb (nI 3) i (q, S) = (q, s_D S i (upd (c_D S i) 9 (dv_cap (c_D S i) (c_sig S i)))) := by unfold c_dsb; rw [if_pos (by decide)]
      show mm_V _ _ _ _ _ _ _ _ (mm_E (some (.int (c_dout (nI 3) (up (c_dsb (nI 3)) n (i + 1) (c_dsb (nI 3) i (q, S))).1))) (CP K (up (c_dsb (nI 3)) n (i + 1) (c_dsb (nI 3) i (q, S))).2 h))
      rw [e]
      refine mm_V_heap (cu_dev w hlt _) ?_
      exact ih (i + 1) _ (s_D S i _) w hp (by show i + 1 + n = c_nd S; omega)
    · refine mm_tabIn (off := 82) ok_Cb_doState 114 rfl (by rw [hp]; decide) (by rw [hp]; decide) (by rw [hp]; rfl) (by decide) ?_
      refine mm_blk (pc' := 117) ok_Cb_doState 2 _ _ _ rfl ?_
      refine mm_cVE ok_Cb_doState (As := [.int q]) rfl k_Cb_doState_185 (cp_dev w hlt) rfl rfl rfl (Nat.le_of_ble_eq_true rfl) (c_Dv_shiftData (cp_dev w hlt) _) ?_
      refine mm_blk (pc' := 4) ok_Cb_doState 4 _ _ _ rfl ?_
      rw [nI_1]
      refine mm_V_pick [0, 1, 2, 3] rfl ?_
      have e : c_dsb (nI 4) i (q, S) = (if (c_D S i 9 &&& 1) = 1 then 1 else 0, s_D S i (upd (c_D S i) 9 (dv_sd (c_D S i 9) (dv_len (c_D S i)) q))) := by unfold c_dsb; rw [if_neg (by decide), if_pos (by decide)]
      show mm_V _ _ _ _ _ _ _ _ (mm_E (some (.int (c_dout (nI 4) (up (c_dsb (nI 4)) n (i + 1) (c_dsb (nI 4) i (q, S))).1))) (CP K (up (c_dsb (nI 4)) n (i + 1) (c_dsb (nI 4) i (q, S))).2 h))
      rw [e]
      refine mm_V_heap (cu_dev w hlt _) ?_
      exact ih (i + 1) _ (s_D S i _) w hp (by show i + 1 + n = c_nd S; omega)
    · refine mm_tabIn (off := 132) ok_Cb_doState 164 rfl (by rw [hp]; decide) (by rw [hp]; decide) (by rw [hp]; rfl) (by decide) ?_
      refine mm_blk (pc' := 4) ok_Cb_doState 2 _ _ _ rfl ?_
      rw [nI_1]
      refine mm_V_pick [0, 1, 2, 3] rfl ?_
      have e : c_dsb (nI 5) i (q, S) = (q, S) := by unfold c_dsb; rw [if_neg (by decide), if_neg (by decide), if_neg (by decide), if_neg (by decide), if_neg (by decide), if_neg (by decide)]
      show mm_V _ _ _ _ _ _ _ _ (mm_E (some (.int (c_dout (nI 5) (up (c_dsb (nI 5)) n (i + 1) (c_dsb (nI 5) i (q, S))).1))) (CP K (up (c_dsb (nI 5)) n (i + 1) (c_dsb (nI 5) i (q, S))).2 h))
      rw [e]
      exact ih (i + 1) _ S w hp (by omega)
    · refine mm_tabIn (off := 132) ok_Cb_doState 164 rfl (by rw [hp]; decide) (by rw [hp]; decide) (by rw [hp]; rfl) (by decide) ?_
      refine mm_blk (pc' := 4) ok_Cb_doState 2 _ _ _ rfl ?_
      rw [nI_1]
      refine mm_V_pick [0, 1, 2, 3] rfl ?_
      have e : c_dsb (nI 6) i (q, S) = (q, S) := by unfold c_dsb; rw [if_neg (by decide), if_neg (by decide), if_neg (by decide), if_neg (by decide), if_neg (by decide), if_neg (by decide)]
      show mm_V _ _ _ _ _ _ _ _ (mm_E (some (.int (c_dout (nI 6) (up (c_dsb (nI 6)) n (i + 1) (c_dsb (nI 6) i (q, S))).1))) (CP K (up (c_dsb (nI 6)) n (i + 1) (c_dsb (nI 6) i (q, S))).2 h))
      rw [e]
      exact ih (i + 1) _ S w hp (by omega)
    · refine mm_tabIn (off := 132) ok_Cb_doState 164 rfl (by rw [hp]; decide) (by rw [hp]; decide) (by rw [hp]; rfl) (by decide) ?_
      refine mm_blk (pc' := 4) ok_Cb_doState 2 _ _ _ rfl ?_
      rw [nI_1]
      refine mm_V_pick [0, 1, 2, 3] rfl ?_
      have e : c_dsb (nI 7) i (q, S) = (q, S) := by unfold c_dsb; rw [if_neg (by decide), if_neg (by decide), if_neg (by decide), if_neg (by decide), if_neg (by decide), if_neg (by decide)]
      show mm_V _ _ _ _ _ _ _ _ (mm_E (some (.int (c_dout (nI 7) (up (c_dsb (nI 7)) n (i + 1) (c_dsb (nI 7) i (q, S))).1))) (CP K (up (c_dsb (nI 7)) n (i + 1) (c_dsb (nI 7) i (q, S))).2 h))
      rw [e]
      exact ih (i + 1) _ S w hp (by omega)
    · refine mm_tabIn (off := 92) ok_Cb_doState 124 rfl (by rw [hp]; decide) (by rw [hp]; decide) (by rw [hp]; rfl) (by decide) ?_
      refine mm_blk (pc' := 126) ok_Cb_doState 1 _ _ _ rfl ?_
      refine mm_cVE ok_Cb_doState (As := []) rfl k_Cb_doState_188 (cp_dev w hlt) rfl rfl rfl (Nat.le_of_ble_eq_true rfl) (c_Dv_updateData (cp_dev w hlt)) ?_
      refine mm_blk (pc' := 4) ok_Cb_doState 3 _ _ _ rfl ?_
      rw [nI_1]
      refine mm_V_pick [0, 1, 2, 3] rfl ?_
      have e : c_dsb (nI 8) i (q, S) = (q, s_D S i (upd (c_D S i) 5 (if c_D S i 7 = 0 ∨ c_D S i 7 = 2 then c_D S i 9 &&& c_D S i 3 else c_D S i 5))) := by unfold c_dsb; rw [if_neg (by decide), if_neg (by decide), if_pos (by decide)]
      show mm_V _ _ _ _ _ _ _ _ (mm_E (some (.int (c_dout (nI 8) (up (c_dsb (nI 8)) n (i + 1) (c_dsb (nI 8) i (q, S))).1))) (CP K (up (c_dsb (nI 8)) n (i + 1) (c_dsb (nI 8) i (q, S))).2 h))
      rw [e]
      refine mm_V_heap (cu_dev w hlt _) ?_
      exact ih (i + 1) _ (s_D S i _) w hp (by show i + 1 + n = c_nd S; omega)
    · refine mm_tabIn (off := 132) ok_Cb_doState 164 rfl (by rw [hp]; decide) (by rw [hp]; decide) (by rw [hp]; rfl) (by decide) ?_
      refine mm_blk (pc' := 4) ok_Cb_doState 2 _ _ _ rfl ?_
      rw [nI_1]
      refine mm_V_pick [0, 1, 2, 3] rfl ?_
      have e : c_dsb (nI 9) i (q, S) = (q, S) := by unfold c_dsb; rw [if_neg (by decide), if_neg (by decide), if_neg (by decide), if_neg (by decide), if_neg (by decide), if_neg (by decide)]
      show mm_V _ _ _ _ _ _ _ _ (mm_E (some (.int (c_dout (nI 9) (up (c_dsb (nI 9)) n (i + 1) (c_dsb (nI 9) i (q, S))).1))) (CP K (up (c_dsb (nI 9)) n (i + 1) (c_dsb (nI 9) i (q, S))).2 h))
      rw [e]
      exact ih (i + 1) _ S w hp (by omega)
    · refine mm_tabIn (off := 100) ok_Cb_doState 132 rfl (by rw [hp]; decide) (by rw [hp]; decide) (by rw [hp]; rfl) (by decide) ?_
      refine mm_blk (pc' := 135) ok_Cb_doState 2 _ _ _ rfl ?_
      refine mm_putf ok_Cb_doState (cp_dev w hlt) rfl f_Cb_108 (Or.inl rfl) (mm_fit_I _) ?_
      refine mm_blk (pc' := 4) ok_Cb_doState 3 _ _ _ rfl ?_
      rw [nI_1]
      refine mm_V_pick [0, 1, 2, 3] rfl ?_
      have e : c_dsb (nI 10) i (q, S) = (q, s_D S i (upd (c_D S i) 8 1)) := by unfold c_dsb; rw [if_neg (by decide), if_neg (by decide), if_neg (by decide), if_pos (by decide)]
      show mm_V _ _ _ _ _ _ _ _ (mm_E (some (.int (c_dout (nI 10) (up (c_dsb (nI 10)) n (i + 1) (c_dsb (nI 10) i (q, S))).1))) (CP K (up (c_dsb (nI 10)) n (i + 1) (c_dsb (nI 10) i (q, S))).2 h))
      rw [e]
      refine mm_V_heap (cu_dev w hlt (upd (c_D S i) 8 1)) ?_
      exact ih (i + 1) _ (s_D S i _) w hp (by show i + 1 + n = c_nd S; omega)
    · refine mm_tabIn (off := 109) ok_Cb_doState 141 rfl (by rw [hp]; decide) (by rw [hp]; decide) (by rw [hp]; rfl) (by decide) ?_
      refine mm_blk (pc' := 144) ok_Cb_doState 2 _ _ _ rfl ?_
      refine mm_cVE ok_Cb_doState (As := [.int q]) rfl k_Cb_doState_191 (cp_dev w hlt) rfl rfl rfl (Nat.le_of_ble_eq_true rfl) (c_Dv_shiftInstruction (cp_dev w hlt) _) ?_
      refine mm_blk (pc' := 4) ok_Cb_doState 4 _ _ _ rfl ?_
      rw [nI_1]
      refine mm_V_pick [0, 1, 2, 3] rfl ?_
      have e : c_dsb (nI 11) i (q, S) = (if (c_D S i 8 &&& 1) = 1 then 1 else 0, s_D S i (upd (c_D S i) 8 (dv_sd (c_D S i 8) (c_D S i 0) q))) := by unfold c_dsb; rw [if_neg (by decide), if_neg (by decide), if_neg (by decide), if_neg (by decide), if_pos (by decide)]
      show mm_V _ _ _ _ _ _ _ _ (mm_E (some (.int (c_dout (nI 11) (up (c_dsb (nI 11)) n (i + 1) (c_dsb (nI 11) i (q, S))).1))) (CP K (up (c_dsb (nI 11)) n (i + 1) (c_dsb (nI 11) i (q, S))).2 h))
      rw [e]
      refine mm_V_heap (cu_dev w hlt _) ?_
      exact ih (i + 1) _ (s_D S i _) w hp (by show i + 1 + n = c_nd S; omega)
    · refine mm_tabIn (off := 132) ok_Cb_doState 164 rfl (by rw [hp]; decide) (by rw [hp]; decide) (by rw [hp]; rfl) (by decide) ?_
      refine mm_blk (pc' := 4) ok_Cb_doState 2 _ _ _ rfl ?_
      rw [nI_1]
      refine mm_V_pick [0, 1, 2, 3] rfl ?_
      have e : c_dsb (nI 12) i (q, S) = (q, S) := by unfold c_dsb; rw [if_neg (by decide), if_neg (by decide), if_neg (by decide), if_neg (by decide), if_neg (by decide), if_neg (by decide)]
      show mm_V _ _ _ _ _ _ _ _ (mm_E (some (.int (c_dout (nI 12) (up (c_dsb (nI 12)) n (i + 1) (c_dsb (nI 12) i (q, S))).1))) (CP K (up (c_dsb (nI 12)) n (i + 1) (c_dsb (nI 12) i (q, S))).2 h))
      rw [e]
      exact ih (i + 1) _ S w hp (by omega)
    · refine mm_tabIn (off := 132) ok_Cb_doState 164 rfl (by rw [hp]; decide) (by rw [hp]; decide) (by rw [hp]; rfl) (by decide) ?_
      refine mm_blk (pc' := 4) ok_Cb_doState 2 _ _ _ rfl ?_
      rw [nI_1]
      refine mm_V_pick [0, 1, 2, 3] rfl ?_
      have e : c_dsb (nI 13) i (q, S) = (q, S) := by unfold c_dsb; rw [if_neg (by decide), if_neg (by decide), if_neg (by decide), if_neg (by decide), if_neg (by decide), if_neg (by decide)]
      show mm_V _ _ _ _ _ _ _ _ (mm_E (some (.int (c_dout (nI 13) (up (c_dsb (nI 13)) n (i + 1) (c_dsb (nI 13) i (q, S))).1))) (CP K (up (c_dsb (nI 13)) n (i + 1) (c_dsb (nI 13) i (q, S))).2 h))
      rw [e]
      exact ih (i + 1) _ S w hp (by omega)
    · refine mm_tabIn (off := 132) ok_Cb_doState 164 rfl (by rw [hp]; decide) (by rw [hp]; decide) (by rw [hp]; rfl) (by decide) ?_
      refine mm_blk (pc' := 4) ok_Cb_doState 2 _ _ _ rfl ?_
      rw [nI_1]
      refine mm_V_pick [0, 1, 2, 3] rfl ?_
      have e : c_dsb (nI 14) i (q, S) = (q, S) := by unfold c_dsb; rw [if_neg (by decide), if_neg (by decide), if_neg (by decide), if_neg (by decide), if_neg (by decide), if_neg (by decide)]
      show mm_V _ _ _ _ _ _ _ _ (mm_E (some (.int (c_dout (nI 14) (up (c_dsb (nI 14)) n (i + 1) (c_dsb (nI 14) i (q, S))).1))) (CP K (up (c_dsb (nI 14)) n (i + 1) (c_dsb (nI 14) i (q, S))).2 h))
      rw [e]
      exact ih (i + 1) _ S w hp (by omega)
    · refine mm_tabIn (off := 119) ok_Cb_doState 151 rfl (by rw [hp]; decide) (by rw [hp]; decide) (by rw [hp]; rfl) (by decide) ?_
      refine mm_blk (pc' := 155) ok_Cb_doState 2 _ _ _ rfl ?_
      refine mm_getf ok_Cb_doState (cp_dev w hlt) rfl f_Cb_108 rfl ?_
      refine mm_putf ok_Cb_doState (cp_dev w hlt) rfl f_Cb_105 (Or.inl rfl) (mm_fit_I _) ?_
      refine mm_blk (pc' := 4) ok_Cb_doState 3 _ _ _ rfl ?_
      rw [nI_1]
      refine mm_V_pick [0, 1, 2, 3] rfl ?_
      have e : c_dsb (nI 15) i (q, S) = (q, s_D S i (upd (c_D S i) 7 (c_D S i 8))) := by unfold c_dsb; rw [if_neg (by decide), if_neg (by decide), if_neg (by decide), if_neg (by decide), if_neg (by decide), if_pos (by decide)]
      show mm_V _ _ _ _ _ _ _ _ (mm_E (some (.int (c_dout (nI 15) (up (c_dsb (nI 15)) n (i + 1) (c_dsb (nI 15) i (q, S))).1))) (CP K (up (c_dsb (nI 15)) n (i + 1) (c_dsb (nI 15) i (q, S))).2 h))
      rw [e]
      refine mm_V_heap (cu_dev w hlt (upd (c_D S i) 7 (c_D S i 8))) ?_
      exact ih (i + 1) _ (s_D S i _) w hp (by show i + 1 + n = c_nd S; omega)
set_option maxHeartbeats 1000000 in
theorem c_Cb_doState (w : c_wf G K S) (hp : c_ps S) (tdi : Int32) : mm_C G M_Cb_doState [.ref (K 0), .int tdi] (CP K S h) 0 0 (mm_E (some (.int (c_ans S tdi))) (CP K (c_run S tdi).2 h)) := by
  obtain ⟨k, hk, hp⟩ := hp
  unfold c_ans c_run
  rw [hp]
  refine mm_C_of (by decide +kernel) rfl (Nat.le_of_ble_eq_true rfl) rfl ?_
  refine mm_blk (pc' := 4) ok_Cb_doState 4 _ _ _ rfl ?_
  exact l_Cb_doState hk (c_nd S) 0 tdi S w hp (by omega)
end CB3
end
section
/-! the class: clocks, scans, restart -/
abbrev c_ok (G : mm_G) (K : Nat → Nat) (S : cS) : Prop := c_wf G K S ∧ c_ps S
theorem stp_ok {G : mm_G} {K : Nat → Nat} {S : cS} (w : c_ok G K S) (tms tdi : Int32) : c_ok G K (c_stp S tms tdi) := ⟨stp_wf w.1 tms tdi, stp_ps w.2 tms tdi⟩
/-- a bit of a scan: the bit's mask, what goes in, what stands in the row's word behind it -/
def c_msk (i : Nat) : Int32 := 1 <<< (nI (i % 32) &&& 31)
def c_din (S : cS) (i : Nat) : Int32 := if (c_Z S 1 (i / 32) &&& c_msk i) = 0 then 0 else 1
def c_wrd (z m a : Int32) : Int32 := if a = 0 then z &&& (m ^^^ -1) else z ||| m
def c_scb (S : cS) (tms : Int32) (i : Nat) : cS := s_Z (c_stp S tms (c_din S i)) 1 (i / 32) (c_wrd (c_Z S 1 (i / 32)) (c_msk i) (c_ans S (c_din S i)))
def c_go5 (S : cS) : cS := c_stp (up (fun _ S => c_stp S 1 0) 5 0 S) 0 0
def c_in3 (S : cS) : cS := c_stp (c_stp (c_stp S 1 0) 0 0) 0 0
def c_lv2 (S : cS) : cS := c_stp (c_stp S 1 0) 0 0
def c_scl (n : Nat) : Nat → Nat → cS → cS := up (fun i S => c_scb S (if i + 1 = n then 1 else 0) i)
def c_scan (ins : Int32) (n : Nat) (S : cS) : cS := c_lv2 (c_scl n n 0 (c_in3 (if ins = 0 then S else c_stp S 1 0)))
section CB4
variable {G : mm_G} {K : Nat → Nat} {S : cS} {h : mm_Hp}
theorem sZ_wf (w : c_wf G K S) (i k : Nat) (x : Int32) : c_wf G K (s_Z S i k x) := w
theorem sZ1_ps (w : c_ps S) (i k : Nat) (x : Int32) (hi : i ≠ 0) : c_ps (s_Z S i k x) := by
  obtain ⟨j, hj, e⟩ := w
  refine ⟨j, hj, ?_⟩
  rw [← e]
  show va_up S.2.2.2.2 i (upd (S.2.2.2.2 i) k x) 0 2 = _
  rw [va_up_ne _ _ (Ne.symm hi)]
theorem scb_ok (w : c_ok G K S) (tms : Int32) (i : Nat) : c_ok G K (c_scb S tms i) := ⟨sZ_wf (stp_ok w tms _).1 _ _ _, sZ1_ps (stp_ok w tms _).2 _ _ _ (by decide)⟩
theorem in3_ok (w : c_ok G K S) : c_ok G K (c_in3 S) := stp_ok (stp_ok (stp_ok w _ _) _ _) _ _
theorem lv2_ok (w : c_ok G K S) : c_ok G K (c_lv2 S) := stp_ok (stp_ok w _ _) _ _
theorem up_ok {P : cS → Prop} {f : Nat → cS → cS} (hf : ∀ i S, P S → P (f i S)) : ∀ (n i : Nat) (S : cS), P S → P (up f n i S) := by
  intro n
  induction n with
  | zero => intro i S w; exact w
  | succ n ih => intro i S w; exact ih _ _ (hf i S w)
theorem go5_ok (w : c_ok G K S) : c_ok G K (c_go5 S) := stp_ok (up_ok (P := c_ok G K) (fun _ S w => stp_ok w 1 0) 5 0 S w) _ _
theorem scl_ok (m n i : Nat) (w : c_ok G K S) : c_ok G K (c_scl m n i S) := up_ok (P := c_ok G K) (fun _ S w => scb_ok w _ _) n i S w
theorem scan_ok (ins : Int32) (n : Nat) (w : c_ok G K S) : c_ok G K (c_scan ins n S) := by
  unfold c_scan
  split
  · exact lv2_ok (scl_ok _ _ _ (in3_ok w))
  · exact lv2_ok (scl_ok _ _ _ (in3_ok (stp_ok w _ _)))
theorem run_Z (S : cS) (tdi : Int32) : c_Z (c_run S tdi).2 = c_Z S := (run_keep (c_Z S 0 2) (c_nd S) 0 (tdi, S)).2
theorem run_wf (w : c_wf G K S) (tdi : Int32) : c_wf G K (c_run S tdi).2 := c_wf_same w (run_keep (c_Z S 0 2) (c_nd S) 0 (tdi, S)).1.1 (run_keep (c_Z S 0 2) (c_nd S) 0 (tdi, S)).1.2.1
theorem ent_wf (w : c_wf G K S) (x : Int32) : c_wf G K (c_ent S x) := c_wf_same w (ent_keep S x).1.1 (ent_keep S x).1.2.1

set_option maxHeartbeats 1000000 in
theorem c_Cb_step (w : c_ok G K S) (tms tdi : Int32) : mm_C G M_Cb_step [.ref (K 0), .int tms, .int tdi] (CP K S h) 0 0 (mm_E (some (.int (c_ans S tdi))) (CP K (c_stp S tms tdi) h)) := by
  obtain ⟨k, hk, hp⟩ := id w.2
  have w1 := run_wf w.1 tdi
  have w2 := ent_wf w1 (c_nx S tms)
  have hp1 : c_Z (c_run S tdi).2 0 2 = nI k := by rw [run_Z]; exact hp
  have hx0 : tms = 0 → mm_t0.getD k 0 = c_nx S tms := fun z => by unfold c_nx; rw [if_pos z, hp, nI_clamp (by omega)]
  have hx1 : ¬ tms = 0 → mm_t1.getD k 0 = c_nx S tms := fun z => by unfold c_nx; rw [if_neg z, hp, nI_clamp (by omega)]
  have hna : narrow .boolean (.int (c_ans S tdi)) = .int (c_ans S tdi) := by
    unfold c_ans c_dout
    repeat' split
    all_goals rfl
  refine mm_C_of (by decide +kernel) rfl (Nat.le_of_ble_eq_true rfl) rfl ?_
  refine mm_blk (pc' := 2) ok_Cb_step 2 _ _ _ rfl ?_
  refine mm_cVE ok_Cb_step (As := [.int tdi]) rfl k_Cb_step_172 (cp_0 w.1) rfl rfl rfl (Nat.le_of_ble_eq_true rfl) (c_Cb_doState w.1 w.2 tdi) ?_
  refine mm_blk (pc' := 8) ok_Cb_step 3 _ _ _ rfl ?_
  refine mm_if_eq ok_Cb_step 22 rfl (by decide) (fun c8 => ?_) (fun c8 => ?_)
  · -- 22 t
    refine mm_gets ok_Cb_step (k := 0) rfl gs_Cb_179 rfl ?_
    refine mm_blk (pc' := 26) ok_Cb_step 1 _ _ _ rfl ?_
    refine mm_getf ok_Cb_step (cp_0 w1) rfl f_Cb_19 rfl ?_
    refine mm_tald ok_Cb_step (k := 0) rfl rfl hp1 (by omega) hk rfl ?_
    first | rw [hx0 c8] | rw [hx1 c8]
    refine mm_cVE ok_Cb_step (As := [.int (c_nx S tms)]) rfl k_Cb_step_166 (cp_0 w1) rfl rfl rfl (Nat.le_of_ble_eq_true rfl) (c_Cb_enterState w1 (c_nx S tms)) ?_
    refine mm_blk (pc' := 35) ok_Cb_step 2 _ _ _ rfl ?_
    refine mm_getf ok_Cb_step (cp_0 w2) rfl f_Cb_160 rfl ?_
    refine mm_blk (pc' := 40) ok_Cb_step 2 _ _ _ rfl ?_
    refine mm_putf ok_Cb_step (cp_0 w2) rfl f_Cb_160 (Or.inl rfl) (mm_fit_I _) ?_
    refine mm_blk (pc' := 44) ok_Cb_step 1 _ _ _ rfl ?_
    exact mm_zret ok_Cb_step rfl rfl hna ⟨rfl, cu_0 w2 3 _⟩
  · -- 11 f
    refine mm_gets ok_Cb_step (k := 1) rfl gs_Cb_176 rfl ?_
    refine mm_blk (pc' := 15) ok_Cb_step 1 _ _ _ rfl ?_
    refine mm_getf ok_Cb_step (cp_0 w1) rfl f_Cb_19 rfl ?_
    refine mm_tald ok_Cb_step (k := 1) rfl rfl hp1 (by omega) hk rfl ?_
    refine mm_blk (pc' := 30) ok_Cb_step 1 _ _ _ rfl ?_
    first | rw [hx0 c8] | rw [hx1 c8]
    refine mm_cVE ok_Cb_step (As := [.int (c_nx S tms)]) rfl k_Cb_step_166 (cp_0 w1) rfl rfl rfl (Nat.le_of_ble_eq_true rfl) (c_Cb_enterState w1 (c_nx S tms)) ?_
    refine mm_blk (pc' := 35) ok_Cb_step 2 _ _ _ rfl ?_
    refine mm_getf ok_Cb_step (cp_0 w2) rfl f_Cb_160 rfl ?_
    refine mm_blk (pc' := 40) ok_Cb_step 2 _ _ _ rfl ?_
    refine mm_putf ok_Cb_step (cp_0 w2) rfl f_Cb_160 (Or.inl rfl) (mm_fit_I _) ?_
    refine mm_blk (pc' := 44) ok_Cb_step 1 _ _ _ rfl ?_
    exact mm_zret ok_Cb_step rfl rfl hna ⟨rfl, cu_0 w2 3 _⟩
set_option maxHeartbeats 1000000 in
theorem l_Cb_goToIdle : ∀ (n i : Nat) (S : cS), c_ok G K S → i + n = 5 → mm_V G M_Cb_goToIdle 2 [(0, .ref (K 0)), (1, .int (nI i))] [] (CP K S h) 0 0 (mm_E none (CP K (c_stp (up (fun _ S => c_stp S 1 0) n i S) 0 0) h)) := by
  intro n
  induction n with
  | zero =>
    intro i S w hi
    refine mm_blk (pc' := 4) ok_Cb_goToIdle 2 _ _ _ rfl ?_
    refine mm_ic_ge ok_Cb_goToIdle 20 rfl (by decide) (fun c => ?_) (fun c => ?_)
    rotate_left
    · exact absurd (show nI 5 ≤ nI i from nI_le (by omega) (by omega)) c
    refine mm_blk (pc' := 23) ok_Cb_goToIdle 3 _ _ _ rfl ?_
    refine mm_cVE ok_Cb_goToIdle (As := [.int 0, .int 0]) rfl k_Cb_goToIdle_98 (cp_0 w.1) rfl rfl rfl (Nat.le_of_ble_eq_true rfl) (c_Cb_step w 0 0) ?_
    refine mm_blk (pc' := 27) ok_Cb_goToIdle 1 _ _ _ rfl ?_
    exact mm_vret ok_Cb_goToIdle rfl rfl ⟨rfl, rfl⟩
  | succ n ih =>
    intro i S w hi
    refine mm_blk (pc' := 4) ok_Cb_goToIdle 2 _ _ _ rfl ?_
    refine mm_ic_ge ok_Cb_goToIdle 20 rfl (by decide) (fun c => ?_) (fun c => ?_)
    · exact absurd c (show ¬ nI 5 ≤ nI i from nI_ge (by omega) (by omega))
    refine mm_blk (pc' := 10) ok_Cb_goToIdle 3 _ _ _ rfl ?_
    refine mm_cVE ok_Cb_goToIdle (As := [.int 1, .int 0]) rfl k_Cb_goToIdle_98 (cp_0 w.1) rfl rfl rfl (Nat.le_of_ble_eq_true rfl) (c_Cb_step w 1 0) ?_
    refine mm_blk (pc' := 2) ok_Cb_goToIdle 3 _ _ _ rfl ?_
    rw [nI_1]
    exact ih (i + 1) _ (stp_ok w 1 0) (by omega)
set_option maxHeartbeats 1000000 in
theorem c_Cb_goToIdle (w : c_ok G K S) : mm_C G M_Cb_goToIdle [.ref (K 0)] (CP K S h) 0 0 (mm_E none (CP K (c_go5 S) h)) := by
  refine mm_C_of (by decide +kernel) rfl (Nat.le_of_ble_eq_true rfl) rfl ?_
  refine mm_blk (pc' := 2) ok_Cb_goToIdle 2 _ _ _ rfl ?_
  exact l_Cb_goToIdle 5 0 S w (by omega)
set_option maxHeartbeats 2000000 in
theorem l_Cb_scan {ins : Int32} {cnt : Nat} (hc : cnt < 160) : ∀ (n i : Nat) (S : cS), c_ok G K S → i + n = cnt + 1 → mm_V G M_Cb_scan 34 [(0, .ref (K 0)), (1, .int ins), (2, .int (nI (cnt + 1))), (3, .int (nI i))] [] (CP K S h) 0 0 (mm_E none (CP K (c_lv2 (c_scl (cnt + 1) n i S)) h)) := by
  intro n
  induction n with
  | zero =>
    intro i S w hi
    refine mm_blk (pc' := 36) ok_Cb_scan 2 _ _ _ rfl ?_
    refine mm_ic_ge ok_Cb_scan 132 rfl (by decide) (fun c => ?_) (fun c => ?_)
    rotate_left
    · exact absurd (nI_le (by omega) (by omega)) c
    refine mm_blk (pc' := 135) ok_Cb_scan 3 _ _ _ rfl ?_
    refine mm_cVE ok_Cb_scan (As := [.int 1, .int 0]) rfl k_Cb_scan_98 (cp_0 w.1) rfl rfl rfl (Nat.le_of_ble_eq_true rfl) (c_Cb_step w 1 0) ?_
    refine mm_blk (pc' := 142) ok_Cb_scan 4 _ _ _ rfl ?_
    refine mm_cVE ok_Cb_scan (As := [.int 0, .int 0]) rfl k_Cb_scan_98 (cp_0 (stp_ok w 1 0).1) rfl rfl rfl (Nat.le_of_ble_eq_true rfl) (c_Cb_step (stp_ok w 1 0) 0 0) ?_
    refine mm_blk (pc' := 146) ok_Cb_scan 1 _ _ _ rfl ?_
    exact mm_vret ok_Cb_scan rfl rfl ⟨rfl, rfl⟩
  | succ n ih =>
    intro i S w hi
    obtain ⟨tms, htms⟩ : ∃ tms : Int32, tms = if i + 1 = cnt + 1 then 1 else 0 := ⟨_, rfl⟩
    have etms : (if nI i = nI cnt then (1:Int32) else 0) = tms := by
      rw [htms]
      by_cases e : i = cnt
      · rw [if_pos (by rw [e]), if_pos (by omega)]
      · rw [if_neg (fun z => e ((nI_eq (by omega) (by omega)).mp z)), if_neg (by omega)]
    refine mm_blk (pc' := 36) ok_Cb_scan 2 _ _ _ rfl ?_
    refine mm_ic_ge ok_Cb_scan 132 rfl (by decide) (fun c => ?_) (fun c => ?_)
    · exact absurd c (nI_ge (by omega) (by omega))
    refine mm_blk (pc' := 42) ok_Cb_scan 2 _ _ _ rfl ?_
    refine mm_idiv ok_Cb_scan rfl (by decide) ?_
    rw [show nI i / 32 = nI (i / 32) from pk_div (d := 32) (by omega) (by decide) (by decide)]
    refine mm_blk (pc' := 49) ok_Cb_scan 4 _ _ _ rfl ?_
    refine mm_irem ok_Cb_scan rfl (by decide) ?_
    rw [show nI i - nI i / 32 * 32 = nI (i % 32) from pk_rem (d := 32) (by omega) (by decide) (by decide)]
    refine mm_blk (pc' := 58) ok_Cb_scan 7 _ _ _ rfl ?_
    rw [nI_pred]
    refine mm_tc_ne ok_Cb_scan 65 rfl (by decide) rfl rfl rfl (by decide) ?_
    refine mm_blk (pc' := 67) ok_Cb_scan 1 _ _ _ rfl ?_
    refine mm_getf ok_Cb_scan (cp_0 w.1) rfl f_Cb_23 rfl ?_
    refine mm_blk (pc' := 72) ok_Cb_scan 1 _ _ _ rfl ?_
    refine mm_iald ok_Cb_scan (cp_5 w.1) rfl rfl (by omega) (oIs_get (by omega) _) ?_
    refine mm_blk (pc' := 76) ok_Cb_scan 2 _ _ _ rfl ?_
    refine mm_ti_eq ok_Cb_scan 83 rfl (by decide) rfl rfl rfl (by decide) ?_
    rw [show (if nI i = nI cnt then (1:Int32) else 0) = tms from etms]
    refine mm_cVE ok_Cb_scan (As := [.int tms, .int (c_din S i)]) rfl k_Cb_scan_98 (cp_0 w.1) rfl rfl rfl (Nat.le_of_ble_eq_true rfl) (c_Cb_step w tms (c_din S i)) ?_
    have w1 := stp_ok w tms (c_din S i)
    refine mm_blk (pc' := 90) ok_Cb_scan 2 _ _ _ rfl ?_
    refine mm_getf ok_Cb_scan (cp_0 w1.1) rfl f_Cb_23 rfl ?_
    refine mm_blk (pc' := 97) ok_Cb_scan 2 _ _ _ rfl ?_
    refine mm_if_eq ok_Cb_scan 113 rfl (by decide) (fun c97 => ?_) (fun c97 => ?_)
    · -- 113 t
      refine mm_blk (pc' := 114) ok_Cb_scan 1 _ _ _ rfl ?_
      refine mm_getf ok_Cb_scan (cp_0 w1.1) rfl f_Cb_23 rfl ?_
      refine mm_blk (pc' := 119) ok_Cb_scan 1 _ _ _ rfl ?_
      refine mm_iald ok_Cb_scan (cp_5 w1.1) rfl rfl (by omega) (oIs_get (by omega) _) ?_
      refine mm_blk (pc' := 125) ok_Cb_scan 4 _ _ _ rfl ?_
      refine mm_iast ok_Cb_scan (cp_5 w1.1) rfl rfl (by omega) (by rw [List.length_map, List.length_range]; omega) ?_
      refine mm_blk (pc' := 34) ok_Cb_scan 2 _ _ _ rfl ?_
      rw [nI_1]
      refine mm_V_pick [0, 1, 2, 3] rfl ?_
      refine mm_V_heap (cu_5 w1.1 (by omega) _) ?_
      have e7 : c_Z (c_stp S tms (c_din S i)) 1 (i / 32) = c_Z S 1 (i / 32) := by rw [(stp_Z S tms (c_din S i)).2.2.2.2.1]
      rw [e7]
      have e5 : c_scl (cnt + 1) (n + 1) i S = c_scl (cnt + 1) n (i + 1) (c_scb S tms i) := by show up _ n (i + 1) (c_scb S (if i + 1 = cnt + 1 then 1 else 0) i) = _; rw [← htms]; rfl
      rw [e5]
      unfold c_scb c_wrd
      first | rw [if_pos c97] | rw [if_neg c97]
      refine ih (i + 1) _ ?_ (by omega)
      exact ⟨sZ_wf w1.1 _ _ _, sZ1_ps w1.2 _ _ _ (by decide)⟩
    · -- 100 f
      refine mm_blk (pc' := 101) ok_Cb_scan 1 _ _ _ rfl ?_
      refine mm_getf ok_Cb_scan (cp_0 w1.1) rfl f_Cb_23 rfl ?_
      refine mm_blk (pc' := 106) ok_Cb_scan 1 _ _ _ rfl ?_
      refine mm_iald ok_Cb_scan (cp_5 w1.1) rfl rfl (by omega) (oIs_get (by omega) _) ?_
      refine mm_blk (pc' := 125) ok_Cb_scan 3 _ _ _ rfl ?_
      refine mm_iast ok_Cb_scan (cp_5 w1.1) rfl rfl (by omega) (by rw [List.length_map, List.length_range]; omega) ?_
      refine mm_blk (pc' := 34) ok_Cb_scan 2 _ _ _ rfl ?_
      rw [nI_1]
      refine mm_V_pick [0, 1, 2, 3] rfl ?_
      refine mm_V_heap (cu_5 w1.1 (by omega) _) ?_
      have e7 : c_Z (c_stp S tms (c_din S i)) 1 (i / 32) = c_Z S 1 (i / 32) := by rw [(stp_Z S tms (c_din S i)).2.2.2.2.1]
      rw [e7]
      have e5 : c_scl (cnt + 1) (n + 1) i S = c_scl (cnt + 1) n (i + 1) (c_scb S tms i) := by show up _ n (i + 1) (c_scb S (if i + 1 = cnt + 1 then 1 else 0) i) = _; rw [← htms]; rfl
      rw [e5]
      unfold c_scb c_wrd
      first | rw [if_pos c97] | rw [if_neg c97]
      refine ih (i + 1) _ ?_ (by omega)
      exact ⟨sZ_wf w1.1 _ _ _, sZ1_ps w1.2 _ _ _ (by decide)⟩
set_option maxHeartbeats 1000000 in
theorem c_Cb_scan {ins : Int32} {cnt : Nat} (hc : cnt < 160) (w : c_ok G K S) : mm_C G M_Cb_scan [.ref (K 0), .int ins, .int (nI (cnt + 1))] (CP K S h) 0 0 (mm_E none (CP K (c_scan ins (cnt + 1) S) h)) := by
  refine mm_C_of (by decide +kernel) rfl (Nat.le_of_ble_eq_true rfl) rfl ?_
  refine mm_blk (pc' := 1) ok_Cb_scan 1 _ _ _ rfl ?_
  refine mm_if_eq ok_Cb_scan 11 rfl (by decide) (fun c1 => ?_) (fun c1 => ?_)
  · -- 11 t
    refine mm_blk (pc' := 14) ok_Cb_scan 3 _ _ _ rfl ?_
    refine mm_cVE ok_Cb_scan (As := [.int 1, .int 0]) rfl k_Cb_scan_98 (cp_0 w.1) rfl rfl rfl (Nat.le_of_ble_eq_true rfl) (c_Cb_step w 1 0) ?_
    have v1 := stp_ok w 1 0
    refine mm_blk (pc' := 21) ok_Cb_scan 4 _ _ _ rfl ?_
    refine mm_cVE ok_Cb_scan (As := [.int 0, .int 0]) rfl k_Cb_scan_98 (cp_0 v1.1) rfl rfl rfl (Nat.le_of_ble_eq_true rfl) (c_Cb_step v1 0 0) ?_
    have v2 := stp_ok v1 0 0
    refine mm_blk (pc' := 28) ok_Cb_scan 4 _ _ _ rfl ?_
    refine mm_cVE ok_Cb_scan (As := [.int 0, .int 0]) rfl k_Cb_scan_98 (cp_0 v2.1) rfl rfl rfl (Nat.le_of_ble_eq_true rfl) (c_Cb_step v2 0 0) ?_
    have v3 := stp_ok v2 0 0
    refine mm_blk (pc' := 34) ok_Cb_scan 3 _ _ _ rfl ?_
    rw [show c_scan ins (cnt + 1) S = c_lv2 (c_scl (cnt + 1) (cnt + 1) 0 (c_in3 S)) by unfold c_scan; rw [if_pos c1]]
    exact l_Cb_scan hc (cnt + 1) 0 _ v3 (by omega)
  · -- 4 f
    refine mm_blk (pc' := 7) ok_Cb_scan 3 _ _ _ rfl ?_
    refine mm_cVE ok_Cb_scan (As := [.int 1, .int 0]) rfl k_Cb_scan_98 (cp_0 w.1) rfl rfl rfl (Nat.le_of_ble_eq_true rfl) (c_Cb_step w 1 0) ?_
    have v0 := stp_ok w 1 0
    refine mm_blk (pc' := 11) ok_Cb_scan 1 _ _ _ rfl ?_
    refine mm_blk (pc' := 14) ok_Cb_scan 3 _ _ _ rfl ?_
    refine mm_cVE ok_Cb_scan (As := [.int 1, .int 0]) rfl k_Cb_scan_98 (cp_0 v0.1) rfl rfl rfl (Nat.le_of_ble_eq_true rfl) (c_Cb_step v0 1 0) ?_
    have v1 := stp_ok v0 1 0
    refine mm_blk (pc' := 21) ok_Cb_scan 4 _ _ _ rfl ?_
    refine mm_cVE ok_Cb_scan (As := [.int 0, .int 0]) rfl k_Cb_scan_98 (cp_0 v1.1) rfl rfl rfl (Nat.le_of_ble_eq_true rfl) (c_Cb_step v1 0 0) ?_
    have v2 := stp_ok v1 0 0
    refine mm_blk (pc' := 28) ok_Cb_scan 4 _ _ _ rfl ?_
    refine mm_cVE ok_Cb_scan (As := [.int 0, .int 0]) rfl k_Cb_scan_98 (cp_0 v2.1) rfl rfl rfl (Nat.le_of_ble_eq_true rfl) (c_Cb_step v2 0 0) ?_
    have v3 := stp_ok v2 0 0
    refine mm_blk (pc' := 34) ok_Cb_scan 3 _ _ _ rfl ?_
    rw [show c_scan ins (cnt + 1) S = c_lv2 (c_scl (cnt + 1) (cnt + 1) 0 (c_in3 (c_stp S 1 0))) by unfold c_scan; rw [if_neg c1]]
    exact l_Cb_scan hc (cnt + 1) 0 _ v3 (by omega)
set_option maxHeartbeats 1000000 in
theorem l_Cb_giveAllExtest (w : c_ok G K S) {cnt : Nat} (hc : cnt < 160) (hs : c_sumB S = nI (cnt + 1)) : ∀ (n i : Nat) (x : Int32), i + n = c_nd S → up (fun i a => a + c_D S i 0) n i x = nI (cnt + 1) → mm_V G M_Cb_giveAllExtest 4 [(0, .ref (K 0)), (1, .int x), (2, .int (nI i))] [] (CP K S h) 0 0 (mm_E none (CP K (c_scan 1 (cnt + 1) (s_Z S 1 0 0)) h)) := by
  intro n
  induction n with
  | zero =>
    intro i x hi hx
    have hx : x = nI (cnt + 1) := hx
    refine mm_blk (pc' := 6) ok_Cb_giveAllExtest 2 _ _ _ rfl ?_
    refine mm_getf ok_Cb_giveAllExtest (cp_0 w.1) rfl f_Cb_12 rfl ?_
    refine mm_cVE ok_Cb_giveAllExtest (As := []) rfl k_Cb_giveAllExtest_33 (cp_1 w.1) rfl rfl rfl (Nat.le_of_ble_eq_true rfl) (c_Al_size (cp_1 w.1)) ?_
    refine mm_ic_ge ok_Cb_giveAllExtest 38 rfl (by decide) (fun c => ?_) (fun c => ?_)
    rotate_left
    · exact absurd (nI_le (by omega) (by have := w.1.1; omega)) c
    refine mm_blk (pc' := 39) ok_Cb_giveAllExtest 1 _ _ _ rfl ?_
    refine mm_getf ok_Cb_giveAllExtest (cp_0 w.1) rfl f_Cb_23 rfl ?_
    refine mm_blk (pc' := 44) ok_Cb_giveAllExtest 2 _ _ _ rfl ?_
    refine mm_iast ok_Cb_giveAllExtest (cp_5 w.1) rfl rfl (show 0 < 2147483648 by decide) (by rw [List.length_map, List.length_range]; decide) ?_
    refine mm_blk (pc' := 48) ok_Cb_giveAllExtest 3 _ _ _ rfl ?_
    refine mm_V_heap (cu_5 w.1 (by decide) 0) ?_
    rw [hx]
    refine mm_cVE ok_Cb_giveAllExtest (As := [.int 1, .int (nI (cnt + 1))]) rfl k_Cb_giveAllExtest_124 (cp_0 (S := s_Z S 1 0 0) w.1) rfl rfl rfl (Nat.le_of_ble_eq_true rfl) (c_Cb_scan (S := s_Z S 1 0 0) hc ⟨w.1, sZ1_ps w.2 1 0 0 (by decide)⟩) ?_
    exact mm_vret ok_Cb_giveAllExtest rfl rfl ⟨rfl, rfl⟩
  | succ n ih =>
    intro i x hi hx
    have hlt : i < c_nd S := by omega
    refine mm_blk (pc' := 6) ok_Cb_giveAllExtest 2 _ _ _ rfl ?_
    refine mm_getf ok_Cb_giveAllExtest (cp_0 w.1) rfl f_Cb_12 rfl ?_
    refine mm_cVE ok_Cb_giveAllExtest (As := []) rfl k_Cb_giveAllExtest_33 (cp_1 w.1) rfl rfl rfl (Nat.le_of_ble_eq_true rfl) (c_Al_size (cp_1 w.1)) ?_
    refine mm_ic_ge ok_Cb_giveAllExtest 38 rfl (by decide) (fun c => ?_) (fun c => ?_)
    · exact absurd c (nI_ge (by omega) (by have := w.1.1; omega))
    refine mm_blk (pc' := 17) ok_Cb_giveAllExtest 2 _ _ _ rfl ?_
    refine mm_getf ok_Cb_giveAllExtest (cp_0 w.1) rfl f_Cb_12 rfl ?_
    refine mm_blk (pc' := 21) ok_Cb_giveAllExtest 1 _ _ _ rfl ?_
    refine mm_cVE ok_Cb_giveAllExtest (As := [.int (nI i)]) rfl k_Cb_giveAllExtest_56 (cp_1 w.1) rfl rfl rfl (Nat.le_of_ble_eq_true rfl) (c_getD w.1 hlt) ?_
    refine mm_cast ok_Cb_giveAllExtest (cp_dev w.1 hlt) cc_Cb_40 rfl ?_
    refine mm_getf ok_Cb_giveAllExtest (cp_dev w.1 hlt) rfl f_Cb_204 rfl ?_
    refine mm_blk (pc' := 4) ok_Cb_giveAllExtest 4 _ _ _ rfl ?_
    rw [nI_1]
    exact ih (i + 1) _ (by omega) hx
set_option maxHeartbeats 1000000 in
theorem c_Cb_giveAllExtest (w : c_ok G K S) {cnt : Nat} (hc : cnt < 160) (hs : c_sumB S = nI (cnt + 1)) : mm_C G M_Cb_giveAllExtest [.ref (K 0)] (CP K S h) 0 0 (mm_E none (CP K (c_scan 1 (cnt + 1) (s_Z S 1 0 0)) h)) := by
  refine mm_C_of (by decide +kernel) rfl (Nat.le_of_ble_eq_true rfl) rfl ?_
  refine mm_blk (pc' := 4) ok_Cb_giveAllExtest 4 _ _ _ rfl ?_
  exact l_Cb_giveAllExtest w hc hs (c_nd S) 0 0 (by omega) hs
set_option maxHeartbeats 1000000 in
theorem l_Cb_restart : ∀ (n i : Nat) (S : cS), c_wf G K S → i + n = c_nd S → mm_V G M_Cb_restartDevices 7 [(0, .ref (K 0)), (1, .int (nI i))] [] (CP K S h) 0 0 (mm_E none (CP K (s_Z (s_Z (s_Z (up (fun i S => s_D S i (upd (upd (c_D S i) 5 0) 6 0)) n i S) 0 3 0) 0 6 0) 0 7 0) h)) := by
  intro n
  induction n with
  | zero =>
    intro i S w hi
    refine mm_blk (pc' := 9) ok_Cb_restartDevices 2 _ _ _ rfl ?_
    refine mm_getf ok_Cb_restartDevices (cp_0 w) rfl f_Cb_12 rfl ?_
    refine mm_cVE ok_Cb_restartDevices (As := []) rfl k_Cb_restartDevices_33 (cp_1 w) rfl rfl rfl (Nat.le_of_ble_eq_true rfl) (c_Al_size (cp_1 w)) ?_
    refine mm_ic_ge ok_Cb_restartDevices 38 rfl (by decide) (fun c => ?_) (fun c => ?_)
    rotate_left
    · exact absurd (nI_le (by omega) (by have := w.1; omega)) c
    refine mm_blk (pc' := 40) ok_Cb_restartDevices 2 _ _ _ rfl ?_
    refine mm_putf ok_Cb_restartDevices (cp_0 w) rfl f_Cb_160 (Or.inl rfl) (mm_fit_I _) ?_
    refine mm_V_heap (cu_0 w 3 0) ?_
    refine mm_blk (pc' := 45) ok_Cb_restartDevices 2 _ _ _ rfl ?_
    refine mm_putf ok_Cb_restartDevices (cp_0 (S := s_Z S 0 3 0) w) rfl f_Cb_131 (Or.inl rfl) (mm_fit_I _) ?_
    refine mm_V_heap (cu_0 (S := s_Z S 0 3 0) w 6 0) ?_
    refine mm_blk (pc' := 50) ok_Cb_restartDevices 2 _ _ _ rfl ?_
    refine mm_putf ok_Cb_restartDevices (cp_0 (S := s_Z (s_Z S 0 3 0) 0 6 0) w) rfl f_Cb_76 (Or.inl rfl) mm_fit_Z0 ?_
    exact mm_vret ok_Cb_restartDevices rfl rfl ⟨rfl, cu_0 (S := s_Z (s_Z S 0 3 0) 0 6 0) w 7 0⟩
  | succ n ih =>
    intro i S w hi
    have hlt : i < c_nd S := by omega
    refine mm_blk (pc' := 9) ok_Cb_restartDevices 2 _ _ _ rfl ?_
    refine mm_getf ok_Cb_restartDevices (cp_0 w) rfl f_Cb_12 rfl ?_
    refine mm_cVE ok_Cb_restartDevices (As := []) rfl k_Cb_restartDevices_33 (cp_1 w) rfl rfl rfl (Nat.le_of_ble_eq_true rfl) (c_Al_size (cp_1 w)) ?_
    refine mm_ic_ge ok_Cb_restartDevices 38 rfl (by decide) (fun c => ?_) (fun c => ?_)
    · exact absurd c (nI_ge (by omega) (by have := w.1; omega))
    refine mm_blk (pc' := 19) ok_Cb_restartDevices 1 _ _ _ rfl ?_
    refine mm_getf ok_Cb_restartDevices (cp_0 w) rfl f_Cb_12 rfl ?_
    refine mm_blk (pc' := 23) ok_Cb_restartDevices 1 _ _ _ rfl ?_
    refine mm_cVE ok_Cb_restartDevices (As := [.int (nI i)]) rfl k_Cb_restartDevices_56 (cp_1 w) rfl rfl rfl (Nat.le_of_ble_eq_true rfl) (c_getD w hlt) ?_
    refine mm_cast ok_Cb_restartDevices (cp_dev w hlt) cc_Cb_40 rfl ?_
    refine mm_cVE ok_Cb_restartDevices (As := []) rfl k_Cb_restartDevices_169 (cp_dev w hlt) rfl rfl rfl (Nat.le_of_ble_eq_true rfl) (c_Dv_clearOutputs (cp_dev w hlt)) ?_
    refine mm_blk (pc' := 7) ok_Cb_restartDevices 2 _ _ _ rfl ?_
    rw [nI_1]
    refine mm_V_heap (cu_dev w hlt _) ?_
    exact ih (i + 1) (s_D S i _) w (by show i + 1 + n = c_nd S; omega)
set_option maxHeartbeats 1000000 in
theorem c_Cb_restart (w : c_wf G K S) : mm_C G M_Cb_restartDevices [.ref (K 0)] (CP K S h) 0 0 (mm_E none (CP K (c_restart S) h)) := by
  refine mm_C_of (by decide +kernel) rfl (Nat.le_of_ble_eq_true rfl) rfl ?_
  refine mm_blk (pc' := 2) ok_Cb_restartDevices 2 _ _ _ rfl ?_
  refine mm_cVE ok_Cb_restartDevices (As := [.int 0]) rfl k_Cb_restartDevices_166 (cp_0 w) rfl rfl rfl (Nat.le_of_ble_eq_true rfl) (c_Cb_enterState w 0) ?_
  refine mm_blk (pc' := 7) ok_Cb_restartDevices 2 _ _ _ rfl ?_
  exact l_Cb_restart (c_nd S) 0 (c_ent S 0) (ent_wf w 0) (by rw [show c_nd (c_ent S 0) = c_nd S from congrArg Prod.fst (ent_keep S 0).1.1]; omega)
end CB4
end
section
/-! pools that grow; the class's own objects -/
theorem inj_grow {dom dom' : List Nat} {K K' : Nat → Nat} {f : Nat → mm_Ob} {h : mm_Hp} (hi : mm_inj dom K) (hK : ∀ n ∈ dom, K' n = K n) (hN : ∀ n ∈ dom', n ∉ dom → mm_pl dom K f h (K' n) = none) (hNN : ∀ m ∈ dom', ∀ n ∈ dom', m ∉ dom → n ∉ dom → K' m = K' n → m = n) : mm_inj dom' K' := by
  intro m hm n hn e
  by_cases h1 : m ∈ dom
  · by_cases h2 : n ∈ dom
    · exact hi m h1 n h2 (by rw [← hK m h1, ← hK n h2]; exact e)
    · have := hN n hn h2
      rw [← e, hK m h1, mm_pl_at hi h1] at this
      cases this
  · by_cases h2 : n ∈ dom
    · have := hN m hm h1
      rw [e, hK n h2, mm_pl_at hi h2] at this
      cases this
    · exact hNN m hm n hn h1 h2 e
theorem pl_ext {dom' : List Nat} {K' : Nat → Nat} {g : Nat → mm_Ob} {h X : mm_Hp} (hi' : mm_inj dom' K') (h1 : ∀ n ∈ dom', X (K' n) = some (g n)) (h2 : ∀ b, (∀ n ∈ dom', K' n ≠ b) → X b = h b) : X = mm_pl dom' K' g h := by
  funext b
  rcases mm_pl_cases (dom := dom') (K := K') b with ⟨n, hn, rfl⟩ | hb
  · rw [mm_pl_at hi' hn, h1 n hn]
  · rw [mm_pl_no hb, h2 b hb]
theorem pl_grow {dom dom' : List Nat} {K K' : Nat → Nat} {f g : Nat → mm_Ob} {h X : mm_Hp} (p : Nat → Prop) (hi : mm_inj dom K) (hi' : mm_inj dom' K') (hK : ∀ n ∈ dom, K' n = K n) (hsub : ∀ n ∈ dom, n ∈ dom') (hp : ∀ n, p n → n ∈ dom' ∧ X (K' n) = some (g n)) (hg : ∀ n ∈ dom', ¬ p n → n ∈ dom ∧ g n = f n)
    (hXo : ∀ b, (∀ n, p n → b ≠ K' n) → X b = mm_pl dom K f h b) : X = mm_pl dom' K' g h := by
  refine pl_ext hi' (fun n hn => ?_) (fun b hb => ?_)
  · by_cases e : p n
    · exact (hp n e).2
    · obtain ⟨h1, h2⟩ := hg n hn e
      rw [hXo (K' n) (fun m hm z => e (by rw [hi' n hn m (hp m hm).1 z]; exact hm)), hK n h1, mm_pl_at hi h1, h2]
  · rw [hXo b (fun n hn z => hb n (hp n hn).1 z.symm), mm_pl_no (fun n hn => by rw [← hK n hn]; exact hb n (hsub n hn))]
def c_devA (S : cS) (d : Nat → Int32) : cS := ((c_nd S + 1, c_nn S), va_up (c_D S) (c_nd S) d, c_N S, c_R S, va_up (c_Z S) 3 (upd (c_Z S 3) 0 (c_Z S 3 0 + 1)))
def c_netA (S : cS) (r : Nat × Nat × Option Nat) (n : Nat → Int32) : cS := ((c_nd S, c_nn S + 1), c_D S, va_up (c_N S) (c_nn S) n, va_up (c_R S) (c_nn S) r, va_up (c_Z S) 3 (upd (c_Z S 3) 1 (c_Z S 3 1 + 1)))
theorem cd_subD {nd nn n : Nat} (h : n ∈ cdom nd nn) : n ∈ cdom (nd + 1) nn := by
  rcases cd_cases h with h | ⟨rfl, h0⟩ | ⟨rfl, h0⟩ | ⟨i, hi, rfl⟩ | ⟨j, hj, rfl⟩
  · exact cd_fix h
  · exact cd_2 (by omega)
  · exact cd_4 h0
  · exact cd_dev (by omega)
  · exact cd_net hj
theorem cd_subN {nd nn n : Nat} (h : n ∈ cdom nd nn) : n ∈ cdom nd (nn + 1) := by
  rcases cd_cases h with h | ⟨rfl, h0⟩ | ⟨rfl, h0⟩ | ⟨i, hi, rfl⟩ | ⟨j, hj, rfl⟩
  · exact cd_fix h
  · exact cd_2 h0
  · exact cd_4 (by omega)
  · exact cd_dev hi
  · exact cd_net (by omega)
theorem oAr_set {K K' : Nat → Nat} {b n q : Nat} (hn : n < 10) (h1 : ∀ i, i < n → K' (b + i) = K (b + i)) (h2 : K' (b + n) = q) : ((List.range 10).map (fun i => if i < n then Value.ref (K (b + i)) else .null)).set n (.ref q) = (List.range 10).map (fun i => if i < n + 1 then Value.ref (K' (b + i)) else .null) := by
  apply List.ext_getElem?
  intro i
  rw [List.getElem?_set, List.length_map, List.length_range, List.getElem?_map, List.getElem?_map]
  by_cases hi : i < 10
  · rw [List.getElem?_range hi]
    by_cases e : n = i
    · subst e; rw [if_pos rfl, if_pos hi]; simp [h2]
    · rw [if_neg e]
      show some (if i < n then Value.ref (K (b + i)) else .null) = some (if i < n + 1 then Value.ref (K' (b + i)) else .null)
      by_cases e2 : i < n
      · rw [if_pos e2, if_pos (by omega), h1 i e2]
      · rw [if_neg e2, if_neg (by omega)]
  · rw [List.getElem?_eq_none (by rw [List.length_range]; omega)]
    by_cases e : n = i
    · omega
    · rw [if_neg e]; rfl
theorem cp_ne {h : mm_Hp} {q b : Nat} {o : mm_Ob} (hq : h q = none) (hb : h b = some o) : b ≠ q := fun z => by rw [z, hq] at hb; cases hb
section GROW
variable {G : mm_G} {K : Nat → Nat} {S : cS} {h : mm_Hp}
theorem grow_dev (w : c_wf G K S) (hnd : c_nd S < 4) (d : Nat → Int32) {q a2 : Nat} {X : mm_Hp} (hq : CP K S h q = none) (ha2 : (c_nd S = 0 ∧ CP K S h a2 = none ∧ a2 ≠ q) ∨ (0 < c_nd S ∧ a2 = K 2))
    (hX1 : X (K 1) = some (oAl (c_Z S 3 0 + 1) a2 (c_nd S + 1))) (hXq : X q = some (oDv d)) (hXa : ∀ K' : Nat → Nat, (∀ i, i < c_nd S → K' (10 + i) = K (10 + i)) → K' (10 + c_nd S) = q → X a2 = some (oAr K' 10 (c_nd S + 1))) (hXo : ∀ b, b ≠ K 1 → b ≠ q → b ≠ a2 → X b = CP K S h b) :
    ∃ K', c_wf G K' (c_devA S d) ∧ (∀ n ∈ cdom (c_nd S) (c_nn S), K' n = K n) ∧ (∀ n ∈ cdom (c_nd S + 1) (c_nn S), n ∉ cdom (c_nd S) (c_nn S) → CP K S h (K' n) = none) ∧ X = CP K' (c_devA S d) h := by
  obtain ⟨K', hK'⟩ : ∃ K' : Nat → Nat, K' = fun n => if n = 10 + c_nd S then q else if n = 2 then a2 else K n := ⟨_, rfl⟩
  have kq : K' (10 + c_nd S) = q := by rw [hK']; exact if_pos rfl
  have k2 : K' 2 = a2 := by rw [hK']; show (if 2 = 10 + c_nd S then q else if 2 = 2 then a2 else K 2) = a2; rw [if_neg (by omega), if_pos rfl]
  have ko : ∀ n, n ≠ 10 + c_nd S → n ≠ 2 → K' n = K n := fun n h1 h2 => by rw [hK']; show (if n = 10 + c_nd S then q else if n = 2 then a2 else K n) = K n; rw [if_neg h1, if_neg h2]
  have hK : ∀ n ∈ cdom (c_nd S) (c_nn S), K' n = K n := by
    intro n hn
    rcases cd_cases hn with h1 | ⟨rfl, h0⟩ | ⟨rfl, h0⟩ | ⟨i, hi, rfl⟩ | ⟨j, hj, rfl⟩
    · simp only [List.mem_cons, List.not_mem_nil, or_false] at h1
      exact ko n (by omega) (by omega)
    · rcases ha2 with ⟨z, -⟩ | ⟨-, z⟩
      · omega
      · rw [k2, z]
    · exact ko 4 (by omega) (by omega)
    · exact ko _ (by omega) (by omega)
    · exact ko _ (by omega) (by omega)
  have hnew : ∀ n ∈ cdom (c_nd S + 1) (c_nn S), n ∉ cdom (c_nd S) (c_nn S) → n = 10 + c_nd S ∨ (n = 2 ∧ c_nd S = 0) := by
    intro n hn hno
    rcases cd_cases hn with h1 | ⟨rfl, h0⟩ | ⟨rfl, h0⟩ | ⟨i, hi, rfl⟩ | ⟨j, hj, rfl⟩
    · exact absurd (cd_fix h1) hno
    · by_cases z : c_nd S = 0
      · exact Or.inr ⟨rfl, z⟩
      · exact absurd (cd_2 (by omega)) hno
    · exact absurd (cd_4 h0) hno
    · by_cases z : i = c_nd S
      · exact Or.inl (by rw [z])
      · exact absurd (cd_dev (by omega)) hno
    · exact absurd (cd_net hj) hno
  have hN : ∀ n ∈ cdom (c_nd S + 1) (c_nn S), n ∉ cdom (c_nd S) (c_nn S) → CP K S h (K' n) = none := by
    intro n hn hno
    rcases hnew n hn hno with rfl | ⟨rfl, z⟩
    · rw [kq]; exact hq
    · rw [k2]
      rcases ha2 with ⟨-, h1, -⟩ | ⟨z1, -⟩
      · exact h1
      · omega
  have hi' : mm_inj (cdom (c_nd S + 1) (c_nn S)) K' := by
    refine inj_grow w.2.2.1 hK hN (fun m hm n hn h1 h2 e => ?_)
    rcases hnew m hm h1 with rfl | ⟨rfl, z⟩ <;> rcases hnew n hn h2 with rfl | ⟨rfl, z2⟩
    · rfl
    · rw [kq, k2] at e
      rcases ha2 with ⟨-, -, h3⟩ | ⟨z1, -⟩
      · exact absurd e.symm h3
      · omega
    · rw [kq, k2] at e
      rcases ha2 with ⟨-, -, h3⟩ | ⟨z1, -⟩
      · exact absurd e h3
      · omega
    · rfl
  refine ⟨K', ⟨hnd, w.2.1, hi', fun z => absurd z (Nat.succ_ne_zero _), fun z => ?_, fun j hj => ?_⟩, hK, hN, ?_⟩
  · rw [ko 4 (by omega) (by omega)]; exact w.2.2.2.2.1 z
  · obtain ⟨h1, h2, h3⟩ := w.2.2.2.2.2 j hj
    exact ⟨Nat.lt_succ_of_lt h1, Nat.lt_succ_of_lt h2, h3⟩
  · refine pl_grow (f := cob K S) (dom' := cdom (c_nd S + 1) (c_nn S)) (fun n => n = 1 ∨ n = 2 ∨ n = 10 + c_nd S) w.2.2.1 hi' hK (fun n hn => cd_subD hn) (fun n hn => ?_) (fun n hn hno => ?_) (fun b hb => ?_)
    · rcases hn with rfl | rfl | rfl
      · refine ⟨cd_fix (by simp), ?_⟩
        rw [ko 1 (by omega) (by omega), hX1]
        show some (oAl (c_Z S 3 0 + 1) a2 (c_nd S + 1)) = some (oAl (c_Z S 3 0 + 1) (K' 2) (c_nd S + 1))
        rw [k2]
      · refine ⟨cd_2 (by omega), ?_⟩
        rw [k2, hXa K' (fun i hi => ko _ (by omega) (by omega)) kq]; rfl
      · refine ⟨cd_dev (by omega), ?_⟩
        rw [kq, hXq, cob_dev (by omega)]
        show some (oDv d) = some (oDv (va_up (c_D S) (c_nd S) d (c_nd S)))
        rw [va_up_self]
    · have h4 := w.1
      have h8 := w.2.1
      rcases cd_cases hn with h1 | ⟨rfl, h0⟩ | ⟨rfl, h0⟩ | ⟨i, hi, rfl⟩ | ⟨j, hj, rfl⟩
      · refine ⟨cd_fix h1, ?_⟩
        simp only [List.mem_cons, List.not_mem_nil, or_false] at h1
        rcases h1 with rfl | rfl | rfl | rfl | rfl
        · show oCb K' (c_Z S 0) = oCb K (c_Z S 0)
          unfold oCb
          rw [ko 1 (by omega) (by omega), ko 3 (by omega) (by omega), ko 5 (by omega) (by omega), ko 6 (by omega) (by omega)]
        · exact absurd (Or.inl rfl) hno
        · show oAl (c_Z S 3 1) (K' 4) (c_nn S) = oAl (c_Z S 3 1) (K 4) (c_nn S)
          rw [ko 4 (by omega) (by omega)]
        · rfl
        · rfl
      · exact absurd (Or.inr (Or.inl rfl)) hno
      · refine ⟨cd_4 h0, ?_⟩
        show oAr K' 20 (c_nn S) = oAr K 20 (c_nn S)
        unfold oAr
        congr 1
        refine List.map_congr_left fun i hi => ?_
        rw [ko (20 + i) (by omega) (by omega)]
      · have hi9 : i < c_nd S := by
          by_cases z : i = c_nd S
          · exact absurd (Or.inr (Or.inr (by rw [z]))) hno
          · omega
        refine ⟨cd_dev hi9, ?_⟩
        rw [cob_dev (by omega), cob_dev (by omega)]
        show oDv (va_up (c_D S) (c_nd S) d i) = oDv (c_D S i)
        rw [va_up_ne _ _ (by omega)]
      · refine ⟨cd_net hj, ?_⟩
        rw [cob_net, cob_net]
        show oNK K' (c_R S j) (c_N S j) = oNK K (c_R S j) (c_N S j)
        obtain ⟨h1, h2, h3⟩ := w.2.2.2.2.2 j hj
        unfold oNK
        rw [ko _ (by omega) (by omega), ko _ (by omega) (by omega)]
        congr 1
        cases e : (c_R S j).2.2 with
        | none => rfl
        | some k => show some (K' (20 + k)) = some (K (20 + k)); rw [ko _ (by omega) (by omega)]
    · have h1 := hb 1 (Or.inl rfl)
      have h2 := hb 2 (Or.inr (Or.inl rfl))
      have h3 := hb _ (Or.inr (Or.inr rfl))
      rw [ko 1 (by omega) (by omega)] at h1
      rw [k2] at h2
      rw [kq] at h3
      exact hXo b h1 h3 h2
theorem grow_net (w : c_wf G K S) (hnn : c_nn S < 8) (f t : Nat) (hf : f < c_nd S) (ht : t < c_nd S) (d : Nat → Int32) {q a2 : Nat} {X : mm_Hp} (hq : CP K S h q = none) (ha2 : (c_nn S = 0 ∧ CP K S h a2 = none ∧ a2 ≠ q) ∨ (0 < c_nn S ∧ a2 = K 4))
    (hX1 : X (K 3) = some (oAl (c_Z S 3 1 + 1) a2 (c_nn S + 1))) (hXq : X q = some (oNt (K (10 + f)) (K (10 + t)) none d)) (hXa : ∀ K' : Nat → Nat, (∀ i, i < c_nn S → K' (20 + i) = K (20 + i)) → K' (20 + c_nn S) = q → X a2 = some (oAr K' 20 (c_nn S + 1))) (hXo : ∀ b, b ≠ K 3 → b ≠ q → b ≠ a2 → X b = CP K S h b) :
    ∃ K', c_wf G K' (c_netA S (f, t, none) d) ∧ (∀ n ∈ cdom (c_nd S) (c_nn S), K' n = K n) ∧ (∀ n ∈ cdom (c_nd S) (c_nn S + 1), n ∉ cdom (c_nd S) (c_nn S) → CP K S h (K' n) = none) ∧ X = CP K' (c_netA S (f, t, none) d) h := by
  have h4 := w.1
  obtain ⟨K', hK'⟩ : ∃ K' : Nat → Nat, K' = fun n => if n = 20 + c_nn S then q else if n = 4 then a2 else K n := ⟨_, rfl⟩
  have kq : K' (20 + c_nn S) = q := by rw [hK']; exact if_pos rfl
  have k2 : K' 4 = a2 := by rw [hK']; show (if 4 = 20 + c_nn S then q else if 4 = 4 then a2 else K 4) = a2; rw [if_neg (by omega), if_pos rfl]
  have ko : ∀ n, n ≠ 20 + c_nn S → n ≠ 4 → K' n = K n := fun n h1 h2 => by rw [hK']; show (if n = 20 + c_nn S then q else if n = 4 then a2 else K n) = K n; rw [if_neg h1, if_neg h2]
  have hK : ∀ n ∈ cdom (c_nd S) (c_nn S), K' n = K n := by
    intro n hn
    rcases cd_cases hn with h1 | ⟨rfl, h0⟩ | ⟨rfl, h0⟩ | ⟨i, hi, rfl⟩ | ⟨j, hj, rfl⟩
    · simp only [List.mem_cons, List.not_mem_nil, or_false] at h1
      exact ko n (by omega) (by omega)
    · exact ko 2 (by omega) (by omega)
    · rcases ha2 with ⟨z, -⟩ | ⟨-, z⟩
      · omega
      · rw [k2, z]
    · exact ko _ (by omega) (by omega)
    · exact ko _ (by omega) (by omega)
  have hnew : ∀ n ∈ cdom (c_nd S) (c_nn S + 1), n ∉ cdom (c_nd S) (c_nn S) → n = 20 + c_nn S ∨ (n = 4 ∧ c_nn S = 0) := by
    intro n hn hno
    rcases cd_cases hn with h1 | ⟨rfl, h0⟩ | ⟨rfl, h0⟩ | ⟨i, hi, rfl⟩ | ⟨j, hj, rfl⟩
    · exact absurd (cd_fix h1) hno
    · exact absurd (cd_2 h0) hno
    · by_cases z : c_nn S = 0
      · exact Or.inr ⟨rfl, z⟩
      · exact absurd (cd_4 (by omega)) hno
    · exact absurd (cd_dev hi) hno
    · by_cases z : j = c_nn S
      · exact Or.inl (by rw [z])
      · exact absurd (cd_net (by omega)) hno
  have hN : ∀ n ∈ cdom (c_nd S) (c_nn S + 1), n ∉ cdom (c_nd S) (c_nn S) → CP K S h (K' n) = none := by
    intro n hn hno
    rcases hnew n hn hno with rfl | ⟨rfl, z⟩
    · rw [kq]; exact hq
    · rw [k2]
      rcases ha2 with ⟨-, h1, -⟩ | ⟨z1, -⟩
      · exact h1
      · omega
  have hi' : mm_inj (cdom (c_nd S) (c_nn S + 1)) K' := by
    refine inj_grow w.2.2.1 hK hN (fun m hm n hn h1 h2 e => ?_)
    rcases hnew m hm h1 with rfl | ⟨rfl, z⟩ <;> rcases hnew n hn h2 with rfl | ⟨rfl, z2⟩
    · rfl
    · rw [kq, k2] at e
      rcases ha2 with ⟨-, -, h3⟩ | ⟨z1, -⟩
      · exact absurd e.symm h3
      · omega
    · rw [kq, k2] at e
      rcases ha2 with ⟨-, -, h3⟩ | ⟨z1, -⟩
      · exact absurd e h3
      · omega
    · rfl
  refine ⟨K', ⟨w.1, hnn, hi', fun z => ?_, fun z => absurd z (Nat.succ_ne_zero _), fun j hj => ?_⟩, hK, hN, ?_⟩
  · rw [ko 2 (by omega) (by omega)]; exact w.2.2.2.1 z
  · show (va_up (c_R S) (c_nn S) (f, t, none) j).1 < c_nd S ∧ (va_up (c_R S) (c_nn S) (f, t, none) j).2.1 < c_nd S ∧ ∀ k, (va_up (c_R S) (c_nn S) (f, t, none) j).2.2 = some k → k < c_nn S + 1 ∧ k ≠ j
    by_cases z : j = c_nn S
    · rw [z, va_up_self]
      exact ⟨hf, ht, fun k e => by cases e⟩
    · have hj9 : j < c_nn S := by
        have : j < c_nn S + 1 := hj
        omega
      rw [va_up_ne _ _ z]
      obtain ⟨h1, h2, h3⟩ := w.2.2.2.2.2 j hj9
      exact ⟨h1, h2, fun k e => ⟨Nat.lt_succ_of_lt (h3 k e).1, (h3 k e).2⟩⟩
  · refine pl_grow (f := cob K S) (dom' := cdom (c_nd S) (c_nn S + 1)) (fun n => n = 3 ∨ n = 4 ∨ n = 20 + c_nn S) w.2.2.1 hi' hK (fun n hn => cd_subN hn) (fun n hn => ?_) (fun n hn hno => ?_) (fun b hb => ?_)
    · rcases hn with rfl | rfl | rfl
      · refine ⟨cd_fix (by simp), ?_⟩
        rw [ko 3 (by omega) (by omega), hX1]
        show some (oAl (c_Z S 3 1 + 1) a2 (c_nn S + 1)) = some (oAl (c_Z S 3 1 + 1) (K' 4) (c_nn S + 1))
        rw [k2]
      · refine ⟨cd_4 (by omega), ?_⟩
        rw [k2, hXa K' (fun i hi => ko _ (by omega) (by omega)) kq]; rfl
      · refine ⟨cd_net (by omega), ?_⟩
        rw [kq, hXq, cob_net]
        show _ = some (oNK K' (va_up (c_R S) (c_nn S) (f, t, none) (c_nn S)) (va_up (c_N S) (c_nn S) d (c_nn S)))
        rw [va_up_self, va_up_self]
        show _ = some (oNt (K' (10 + f)) (K' (10 + t)) none d)
        rw [ko (10 + f) (by omega) (by omega), ko (10 + t) (by omega) (by omega)]
    · have h8 := w.2.1
      rcases cd_cases hn with h1 | ⟨rfl, h0⟩ | ⟨rfl, h0⟩ | ⟨i, hi, rfl⟩ | ⟨j, hj, rfl⟩
      · refine ⟨cd_fix h1, ?_⟩
        simp only [List.mem_cons, List.not_mem_nil, or_false] at h1
        rcases h1 with rfl | rfl | rfl | rfl | rfl
        · show oCb K' (c_Z S 0) = oCb K (c_Z S 0)
          unfold oCb
          rw [ko 1 (by omega) (by omega), ko 3 (by omega) (by omega), ko 5 (by omega) (by omega), ko 6 (by omega) (by omega)]
        · show oAl (c_Z S 3 0) (K' 2) (c_nd S) = oAl (c_Z S 3 0) (K 2) (c_nd S)
          rw [ko 2 (by omega) (by omega)]
        · exact absurd (Or.inl rfl) hno
        · rfl
        · rfl
      · refine ⟨cd_2 h0, ?_⟩
        show oAr K' 10 (c_nd S) = oAr K 10 (c_nd S)
        unfold oAr
        congr 1
        refine List.map_congr_left fun i hi => ?_
        split
        · rw [ko (10 + i) (by omega) (by omega)]
        · rfl
      · exact absurd (Or.inr (Or.inl rfl)) hno
      · refine ⟨cd_dev hi, ?_⟩
        rw [cob_dev (by omega), cob_dev (by omega)]
        rfl
      · have hj9 : j < c_nn S := by
          by_cases z : j = c_nn S
          · exact absurd (Or.inr (Or.inr (by rw [z]))) hno
          · omega
        refine ⟨cd_net hj9, ?_⟩
        rw [cob_net, cob_net]
        show oNK K' (va_up (c_R S) (c_nn S) (f, t, none) j) (va_up (c_N S) (c_nn S) d j) = oNK K (c_R S j) (c_N S j)
        rw [va_up_ne _ _ (by omega), va_up_ne _ _ (by omega)]
        obtain ⟨h1, h2, h3⟩ := w.2.2.2.2.2 j hj9
        unfold oNK
        rw [ko _ (by omega) (by omega), ko _ (by omega) (by omega)]
        congr 1
        cases e : (c_R S j).2.2 with
        | none => rfl
        | some k =>
          have := (h3 k e).1
          show some (K' (20 + k)) = some (K (20 + k)); rw [ko _ (by omega) (by omega)]
    · have h1 := hb 3 (Or.inl rfl)
      have h2 := hb 4 (Or.inr (Or.inl rfl))
      have h3 := hb _ (Or.inr (Or.inr rfl))
      rw [ko 3 (by omega) (by omega)] at h1
      rw [k2] at h2
      rw [kq] at h3
      exact hXo b h1 h3 h2
end GROW
end
section
/-! the class: faults, the short public methods -/
def mm_X (E : String) (h1 : mm_Hp) : mm_O → mm_Hp → Prop := fun o h' => o = .inr E ∧ h' = h1
abbrev xIA : String := "java/lang/IllegalArgumentException"
abbrev xIS : String := "java/lang/IllegalStateException"
abbrev xIO : String := "java/lang/IndexOutOfBoundsException"
def c_cut (S : cS) (j : Nat) : cS := s_R (s_N S j (upd (c_N S j) 4 (-1))) j ((c_R S j).1, (c_R S j).2.1, none)
def c_mend (S : cS) (j : Nat) : cS := match (c_R S j).2.2 with
  | none => c_cut S j
  | some k => s_R (s_N (c_cut S k) j (upd (c_N S j) 4 (-1))) j ((c_R S j).1, (c_R S j).2.1, none)
def c_alone (S : cS) (j : Nat) (kd : Int32) : cS := s_N (c_mend S j) j (upd (c_N (c_mend S j) j) 4 kd)
def c_tie (S : cS) (j k : Nat) (kd : Int32) : cS := s_R (s_N S j (upd (c_N S j) 4 kd)) j ((c_R S j).1, (c_R S j).2.1, some k)
def c_with (S : cS) (j k : Nat) (kd : Int32) : cS := c_tie (c_tie (c_mend (c_mend S j) k) j k kd) k j kd
section CB5
variable {G : mm_G} {K : Nat → Nat} {S : cS} {h : mm_Hp}
theorem sR_wf (w : c_wf G K S) {j : Nat} (hj : j < c_nn S) (n : Nat → Int32) (s : Option Nat) (hs : ∀ k, s = some k → k < c_nn S ∧ k ≠ j) : c_wf G K (s_R (s_N S j n) j ((c_R S j).1, (c_R S j).2.1, s)) := by
  refine ⟨w.1, w.2.1, w.2.2.1, w.2.2.2.1, w.2.2.2.2.1, fun i hi => ?_⟩
  show (va_up (c_R S) j ((c_R S j).1, (c_R S j).2.1, s) i).1 < c_nd S ∧ (va_up (c_R S) j ((c_R S j).1, (c_R S j).2.1, s) i).2.1 < c_nd S ∧ ∀ k, (va_up (c_R S) j ((c_R S j).1, (c_R S j).2.1, s) i).2.2 = some k → k < c_nn S ∧ k ≠ i
  by_cases e : i = j
  · rw [e, va_up_self]
    exact ⟨(w.2.2.2.2.2 j hj).1, (w.2.2.2.2.2 j hj).2.1, hs⟩
  · rw [va_up_ne _ _ e]
    exact w.2.2.2.2.2 i hi
theorem cut_wf (w : c_wf G K S) {j : Nat} (hj : j < c_nn S) : c_wf G K (c_cut S j) := sR_wf w hj _ none (fun k z => by cases z)
theorem mend_wf (w : c_wf G K S) {j : Nat} (hj : j < c_nn S) : c_wf G K (c_mend S j) := by
  unfold c_mend
  split
  · exact cut_wf w hj
  · rename_i k e
    have h1 := (w.2.2.2.2.2 j hj).2.2 k e
    have hr : c_R (c_cut S k) j = c_R S j := va_up_ne _ _ (Ne.symm h1.2)
    have h2 := sR_wf (cut_wf w h1.1) (j := j) hj (upd (c_N S j) 4 (-1)) none (fun k z => by cases z)
    rw [hr] at h2
    exact h2
theorem mend_1 (S : cS) (j : Nat) : (c_mend S j).1 = S.1 := by unfold c_mend; split <;> rfl
theorem alone_wf (w : c_wf G K S) {j : Nat} (hj : j < c_nn S) (kd : Int32) : c_wf G K (c_alone S j kd) := mend_wf w hj
theorem tie_wf (w : c_wf G K S) {j k : Nat} (hj : j < c_nn S) (hk : k < c_nn S) (hjk : k ≠ j) (kd : Int32) : c_wf G K (c_tie S j k kd) := sR_wf w hj _ (some k) (fun i z => by cases z; exact ⟨hk, hjk⟩)
theorem with_wf (w : c_wf G K S) {j k : Nat} (hj : j < c_nn S) (hk : k < c_nn S) (hjk : k ≠ j) (kd : Int32) : c_wf G K (c_with S j k kd) := by
  have e1 : c_nn (c_mend S j) = c_nn S := congrArg Prod.snd (mend_1 S j)
  have e2 : c_nn (c_mend (c_mend S j) k) = c_nn S := (congrArg Prod.snd (mend_1 _ k)).trans e1
  have w1 := mend_wf (mend_wf w hj) (j := k) (by rw [e1]; exact hk)
  exact tie_wf (tie_wf w1 (by rw [e2]; exact hj) (by rw [e2]; exact hk) hjk kd) (j := k) (k := j) (by show k < c_nn (c_mend (c_mend S j) k); rw [e2]; exact hk) (by show j < c_nn (c_mend (c_mend S j) k); rw [e2]; exact hj) (Ne.symm hjk) kd

set_option maxHeartbeats 1000000 in
theorem c_mendS (w : c_wf G K S) {j : Nat} (hj : j < c_nn S) : mm_C G M_Nt_mend [.ref (K (20 + j))] (CP K S h) 0 0 (mm_E none (CP K (c_mend S j) h)) := by
  have hn := cp_net (h := h) w hj
  unfold oNK at hn
  unfold c_mend
  split
  · rename_i e
    rw [e] at hn
    have h1 := c_Nt_mend0 (G := G) hn
    rw [show oNt (K (10 + (c_R S j).1)) (K (10 + (c_R S j).2.1)) none (upd (c_N S j) 4 (-1)) = oNK K ((c_R S j).1, (c_R S j).2.1, none) (upd (c_N S j) 4 (-1)) from rfl, cu_net w hj] at h1
    exact h1
  · rename_i k e
    rw [e] at hn
    have hk := (w.2.2.2.2.2 j hj).2.2 k e
    have h1 := c_Nt_mend1 (G := G) hn (cp_net w hk.1) (k_net_ne w hj hk.1 (Ne.symm hk.2))
    rw [show oNt (K (10 + (c_R S k).1)) (K (10 + (c_R S k).2.1)) none (upd (c_N S k) 4 (-1)) = oNK K ((c_R S k).1, (c_R S k).2.1, none) (upd (c_N S k) 4 (-1)) from rfl, cu_net w hk.1] at h1
    rw [show oNt (K (10 + (c_R S j).1)) (K (10 + (c_R S j).2.1)) none (upd (c_N S j) 4 (-1)) = oNK K ((c_R S j).1, (c_R S j).2.1, none) (upd (c_N S j) 4 (-1)) from rfl, cu_net (S := s_R (s_N S k (upd (c_N S k) 4 (-1))) k ((c_R S k).1, (c_R S k).2.1, none)) (cut_wf w hk.1) (j := j) hj] at h1
    exact h1
set_option maxHeartbeats 1000000 in
theorem c_Nt_breakAlone (w : c_wf G K S) {j : Nat} (hj : j < c_nn S) (kd : Int32) : mm_C G M_Nt_breakAlone [.ref (K (20 + j)), .int kd] (CP K S h) 0 0 (mm_E none (CP K (c_alone S j kd) h)) := by
  have w1 := mend_wf w hj
  have e1 : c_nn (c_mend S j) = c_nn S := congrArg Prod.snd (mend_1 S j)
  have hj1 : j < c_nn (c_mend S j) := by rw [e1]; exact hj
  refine mm_C_of (by decide +kernel) rfl (Nat.le_of_ble_eq_true rfl) rfl ?_
  refine mm_blk (pc' := 1) ok_Nt_breakAlone 1 _ _ _ rfl ?_
  refine mm_cVE ok_Nt_breakAlone (As := []) rfl k_Nt_breakAlone_38 (cp_net w hj) rfl rfl rfl (Nat.le_of_ble_eq_true rfl) (c_mendS w hj) ?_
  refine mm_blk (pc' := 6) ok_Nt_breakAlone 2 _ _ _ rfl ?_
  refine mm_putf ok_Nt_breakAlone (cp_net w1 hj1) rfl f_Nt_25 (Or.inl rfl) (mm_fit_I _) ?_
  exact mm_vret ok_Nt_breakAlone rfl rfl ⟨rfl, cu_netN w1 hj1 4 kd⟩
set_option maxHeartbeats 1000000 in
theorem c_Nt_breakWith (w : c_wf G K S) {j k : Nat} (hj : j < c_nn S) (hk : k < c_nn S) (hjk : k ≠ j) (kd : Int32) : mm_C G M_Nt_breakWith [.ref (K (20 + j)), .ref (K (20 + k)), .int kd] (CP K S h) 0 0 (mm_E none (CP K (c_with S j k kd) h)) := by
  have w1 := mend_wf w hj
  have e1 : c_nn (c_mend S j) = c_nn S := congrArg Prod.snd (mend_1 S j)
  have hk1 : k < c_nn (c_mend S j) := by rw [e1]; exact hk
  have w2 := mend_wf w1 hk1
  have e2 : c_nn (c_mend (c_mend S j) k) = c_nn S := (congrArg Prod.snd (mend_1 _ k)).trans e1
  have hj2 : j < c_nn (c_mend (c_mend S j) k) := by rw [e2]; exact hj
  have hk2 : k < c_nn (c_mend (c_mend S j) k) := by rw [e2]; exact hk
  have w3 := tie_wf w2 hj2 hk2 hjk kd
  have nf : ∀ a : Nat, mm_fit "LChainBench$Net;" (.ref a) := mm_fit_N
  refine mm_C_of (by decide +kernel) rfl (Nat.le_of_ble_eq_true rfl) rfl ?_
  refine mm_blk (pc' := 1) ok_Nt_breakWith 1 _ _ _ rfl ?_
  refine mm_cVE ok_Nt_breakWith (As := []) rfl k_Nt_breakWith_38 (cp_net w hj) rfl rfl rfl (Nat.le_of_ble_eq_true rfl) (c_mendS w hj) ?_
  refine mm_blk (pc' := 5) ok_Nt_breakWith 1 _ _ _ rfl ?_
  refine mm_cVE ok_Nt_breakWith (As := []) rfl k_Nt_breakWith_38 (cp_net w1 hk1) rfl rfl rfl (Nat.le_of_ble_eq_true rfl) (c_mendS w1 hk1) ?_
  refine mm_blk (pc' := 10) ok_Nt_breakWith 2 _ _ _ rfl ?_
  refine mm_putf ok_Nt_breakWith (cp_net w2 hj2) rfl f_Nt_25 (Or.inl rfl) (mm_fit_I _) ?_
  refine mm_blk (pc' := 15) ok_Nt_breakWith 2 _ _ _ rfl ?_
  refine mm_putf ok_Nt_breakWith (mm_up_self _ _ _) rfl f_Nt_34 (Or.inl rfl) (mm_fit_N _) ?_
  rw [mm_up_up]
  refine mm_V_heap (cu_net w2 hj2 ((c_R (c_mend (c_mend S j) k) j).1, (c_R (c_mend (c_mend S j) k) j).2.1, some k) (upd (c_N (c_mend (c_mend S j) k) j) 4 kd)) ?_
  refine mm_blk (pc' := 20) ok_Nt_breakWith 2 _ _ _ rfl ?_
  refine mm_putf ok_Nt_breakWith (cp_net w3 hk2) rfl f_Nt_25 (Or.inl rfl) (mm_fit_I _) ?_
  refine mm_blk (pc' := 25) ok_Nt_breakWith 2 _ _ _ rfl ?_
  refine mm_putf ok_Nt_breakWith (mm_up_self _ _ _) rfl f_Nt_34 (Or.inl rfl) (mm_fit_N _) ?_
  exact mm_vret ok_Nt_breakWith rfl rfl ⟨rfl, by rw [mm_up_up]; exact cu_net w3 hk2 ((c_R (c_tie (c_mend (c_mend S j) k) j k kd) k).1, (c_R (c_tie (c_mend (c_mend S j) k) j k kd) k).2.1, some j) (upd (c_N (c_tie (c_mend (c_mend S j) k) j k kd) k) 4 kd)⟩
theorem c_Cb_isDevice1 (w : c_wf G K S) {j : Nat} (hj : j < c_nd S) : mm_C G M_Cb_isDevice [.ref (K 0), .int (nI j)] (CP K S h) 0 0 (mm_E (some (.int 1)) (CP K S h)) :=
  mm_C_wk (c_Cb_isDevice w (nI j)) (fun o h' z => ⟨by rw [z.1, if_pos (show ¬ nI j < 0 ∧ ¬ nI (c_nd S) ≤ nI j from (inR_iff (by have := w.1; have := w.2.1; omega)).mpr ⟨j, hj, rfl⟩)], z.2⟩)
theorem c_Cb_isDevice0 (w : c_wf G K S) {x : Int32} (hx : ¬ inR x (c_nd S)) : mm_C G M_Cb_isDevice [.ref (K 0), .int x] (CP K S h) 0 0 (mm_E (some (.int 0)) (CP K S h)) :=
  mm_C_wk (c_Cb_isDevice w x) (fun o h' z => ⟨by rw [z.1, if_neg (show ¬ (¬ x < 0 ∧ ¬ nI (c_nd S) ≤ x) from hx)], z.2⟩)
theorem c_Cb_isNet1 (w : c_wf G K S) {j : Nat} (hj : j < c_nn S) : mm_C G M_Cb_isNet [.ref (K 0), .int (nI j)] (CP K S h) 0 0 (mm_E (some (.int 1)) (CP K S h)) :=
  mm_C_wk (c_Cb_isNet w (nI j)) (fun o h' z => ⟨by rw [z.1, if_pos (show ¬ nI j < 0 ∧ ¬ nI (c_nn S) ≤ nI j from (inR_iff (by have := w.1; have := w.2.1; omega)).mpr ⟨j, hj, rfl⟩)], z.2⟩)
theorem c_Cb_isNet0 (w : c_wf G K S) {x : Int32} (hx : ¬ inR x (c_nn S)) : mm_C G M_Cb_isNet [.ref (K 0), .int x] (CP K S h) 0 0 (mm_E (some (.int 0)) (CP K S h)) :=
  mm_C_wk (c_Cb_isNet w x) (fun o h' z => ⟨by rw [z.1, if_neg (show ¬ (¬ x < 0 ∧ ¬ nI (c_nn S) ≤ x) from hx)], z.2⟩)
theorem c_Cb_isCell1 (w : c_wf G K S) {x c : Int32} (hx : isC S x c) : mm_C G M_Cb_isCell [.ref (K 0), .int x, .int c] (CP K S h) 0 0 (mm_E (some (.int 1)) (CP K S h)) :=
  mm_C_wk (c_Cb_isCell w x c) (fun o h' z => by
    obtain ⟨r, z1, z2, z3⟩ := z
    rcases z3 with ⟨z3, -⟩ | ⟨-, z3⟩
    · rw [z3] at z1; exact ⟨z1, z2⟩
    · exact absurd hx z3)
theorem c_Cb_isCell0 (w : c_wf G K S) {x c : Int32} (hx : ¬ isC S x c) : mm_C G M_Cb_isCell [.ref (K 0), .int x, .int c] (CP K S h) 0 0 (mm_E (some (.int 0)) (CP K S h)) :=
  mm_C_wk (c_Cb_isCell w x c) (fun o h' z => by
    obtain ⟨r, z1, z2, z3⟩ := z
    rcases z3 with ⟨-, z3⟩ | ⟨z3, -⟩
    · exact absurd z3 hx
    · rw [z3] at z1; exact ⟨z1, z2⟩)
theorem isC_dev (w : c_wf G K S) {x c : Int32} (hx : isC S x c) : ∃ i, i < c_nd S ∧ x = nI i := (inR_iff (by have := w.1; omega)).mp hx.1
set_option maxHeartbeats 1000000 in
theorem c_Cb_state (w : c_wf G K S) : mm_C G M_Cb_state [.ref (K 0)] (CP K S h) 0 0 (mm_E (some (.int (c_Z S 0 2))) (CP K S h)) := by
  refine mm_C_of (by decide +kernel) rfl (Nat.le_of_ble_eq_true rfl) rfl ?_
  refine mm_blk (pc' := 1) ok_Cb_state 1 _ _ _ rfl ?_
  refine mm_getf ok_Cb_state (cp_0 w) rfl f_Cb_19 rfl ?_
  exact mm_iret ok_Cb_state rfl rfl ⟨rfl, rfl⟩
set_option maxHeartbeats 1000000 in
theorem c_Cb_clocks (w : c_wf G K S) : mm_C G M_Cb_clocks [.ref (K 0)] (CP K S h) 0 0 (mm_E (some (.int (c_Z S 0 3))) (CP K S h)) := by
  refine mm_C_of (by decide +kernel) rfl (Nat.le_of_ble_eq_true rfl) rfl ?_
  refine mm_blk (pc' := 1) ok_Cb_clocks 1 _ _ _ rfl ?_
  refine mm_getf ok_Cb_clocks (cp_0 w) rfl f_Cb_160 rfl ?_
  exact mm_iret ok_Cb_clocks rfl rfl ⟨rfl, rfl⟩
theorem car_b (S : cS) (j : Nat) : narrow .boolean (.int (c_car S j)) = .int (c_car S j) := by
  unfold c_car nt_car
  repeat' split
  all_goals rfl
set_option maxHeartbeats 1000000 in
theorem c_Cb_value_x (w : c_wf G K S) {x : Int32} (hx : ¬ inR x (c_nn S)) : mm_C G M_Cb_value [.ref (K 0), .int x] (CP K S h) 1 6 (mm_X xIA (CP K S h)) := by
  refine mm_C_of (by decide +kernel) rfl (Nat.le_of_ble_eq_true rfl) rfl ?_
  refine mm_blk (pc' := 2) ok_Cb_value 2 _ _ _ rfl ?_
  refine mm_cVE ok_Cb_value (As := [.int x]) rfl k_Cb_value_80 (cp_0 w) rfl rfl rfl (Nat.le_of_ble_eq_true rfl) (c_Cb_isNet0 w hx) ?_
  refine mm_if_ne ok_Cb_value 16 rfl (by decide) (fun c => ?_) (fun c => ?_)
  · exact absurd rfl c
  exact mm_V_wid (k1 := 1) (k2 := 6) (by omega) (by omega) (mm_throw (kc := 0) (ks := 0) ok_Cb_value rfl rfl rfl rfl x_Cb_30_32 rfl (by decide) (Nat.le_of_ble_eq_true rfl) ⟨rfl, rfl⟩)
set_option maxHeartbeats 1000000 in
theorem c_Cb_value_r (w : c_wf G K S) {j : Nat} (hj : j < c_nn S) : mm_C G M_Cb_value [.ref (K 0), .int (nI j)] (CP K S h) 0 0 (mm_E (some (.int (c_car S j))) (CP K S h)) := by
  refine mm_C_of (by decide +kernel) rfl (Nat.le_of_ble_eq_true rfl) rfl ?_
  refine mm_blk (pc' := 2) ok_Cb_value 2 _ _ _ rfl ?_
  refine mm_cVE ok_Cb_value (As := [.int (nI j)]) rfl k_Cb_value_80 (cp_0 w) rfl rfl rfl (Nat.le_of_ble_eq_true rfl) (c_Cb_isNet1 w hj) ?_
  refine mm_if_ne ok_Cb_value 16 rfl (by decide) (fun c => ?_) (fun c => ?_)
  rotate_left
  · exact absurd c (by decide)
  refine mm_blk (pc' := 17) ok_Cb_value 1 _ _ _ rfl ?_
  refine mm_getf ok_Cb_value (cp_0 w) rfl f_Cb_16 rfl ?_
  refine mm_blk (pc' := 21) ok_Cb_value 1 _ _ _ rfl ?_
  refine mm_cVE ok_Cb_value (As := [.int (nI j)]) rfl k_Cb_value_56 (cp_3 w) rfl rfl rfl (Nat.le_of_ble_eq_true rfl) (c_getN w hj) ?_
  refine mm_cast ok_Cb_value (cp_net w hj) cc_Cb_71 rfl ?_
  refine mm_cVE ok_Cb_value (As := []) rfl k_Cb_value_118 (cp_net w hj) rfl rfl rfl (Nat.le_of_ble_eq_true rfl) (c_carr w hj) ?_
  exact mm_zret ok_Cb_value rfl rfl (car_b S j) ⟨rfl, rfl⟩
set_option maxHeartbeats 1000000 in
theorem c_Cb_saw_x (w : c_wf G K S) {x : Int32} (hx : c_Z S 0 7 = 0 ∨ ¬ inR x (c_nn S)) : mm_C G M_Cb_saw [.ref (K 0), .int x] (CP K S h) 1 6 (mm_X xIO (CP K S h)) := by
  refine mm_C_of (by decide +kernel) rfl (Nat.le_of_ble_eq_true rfl) rfl ?_
  refine mm_blk (pc' := 1) ok_Cb_saw 1 _ _ _ rfl ?_
  refine mm_getf ok_Cb_saw (cp_0 w) rfl f_Cb_76 rfl ?_
  refine mm_if_eq ok_Cb_saw 15 rfl (by decide) (fun c4 => ?_) (fun c4 => ?_)
  · -- 15 t
    exact mm_V_wid (k1 := 1) (k2 := 6) (by omega) (by omega) (mm_throw (kc := 0) (ks := 0) ok_Cb_saw rfl rfl rfl rfl x_Cb_134_136 rfl (by decide) (Nat.le_of_ble_eq_true rfl) ⟨rfl, rfl⟩)
  · -- 7 f
    refine mm_blk (pc' := 9) ok_Cb_saw 2 _ _ _ rfl ?_
    refine mm_cVE ok_Cb_saw (As := [.int x]) rfl k_Cb_saw_80 (cp_0 w) rfl rfl rfl (Nat.le_of_ble_eq_true rfl) (c_Cb_isNet0 w (hx.resolve_left c4)) ?_
    refine mm_if_ne ok_Cb_saw 23 rfl (by decide) (fun c => ?_) (fun c => ?_)
    · exact absurd rfl c
    exact mm_V_wid (k1 := 1) (k2 := 6) (by omega) (by omega) (mm_throw (kc := 0) (ks := 0) ok_Cb_saw rfl rfl rfl rfl x_Cb_134_136 rfl (by decide) (Nat.le_of_ble_eq_true rfl) ⟨rfl, rfl⟩)
set_option maxHeartbeats 1000000 in
theorem c_Cb_saw_r (w : c_wf G K S) {j : Nat} (ht : ¬ c_Z S 0 7 = 0) (hj : j < c_nn S) : mm_C G M_Cb_saw [.ref (K 0), .int (nI j)] (CP K S h) 0 0 (mm_E (some (.int (c_N S j 6))) (CP K S h)) := by
  refine mm_C_of (by decide +kernel) rfl (Nat.le_of_ble_eq_true rfl) rfl ?_
  refine mm_blk (pc' := 1) ok_Cb_saw 1 _ _ _ rfl ?_
  refine mm_getf ok_Cb_saw (cp_0 w) rfl f_Cb_76 rfl ?_
  refine mm_if_eq ok_Cb_saw 15 rfl (by decide) (fun c => ?_) (fun c => ?_)
  · exact absurd c ht
  refine mm_blk (pc' := 9) ok_Cb_saw 2 _ _ _ rfl ?_
  refine mm_cVE ok_Cb_saw (As := [.int (nI j)]) rfl k_Cb_saw_80 (cp_0 w) rfl rfl rfl (Nat.le_of_ble_eq_true rfl) (c_Cb_isNet1 w hj) ?_
  refine mm_if_ne ok_Cb_saw 23 rfl (by decide) (fun c => ?_) (fun c => ?_)
  rotate_left
  · exact absurd c (by decide)
  refine mm_blk (pc' := 24) ok_Cb_saw 1 _ _ _ rfl ?_
  refine mm_getf ok_Cb_saw (cp_0 w) rfl f_Cb_16 rfl ?_
  refine mm_blk (pc' := 28) ok_Cb_saw 1 _ _ _ rfl ?_
  refine mm_cVE ok_Cb_saw (As := [.int (nI j)]) rfl k_Cb_saw_56 (cp_3 w) rfl rfl rfl (Nat.le_of_ble_eq_true rfl) (c_getN w hj) ?_
  refine mm_cast ok_Cb_saw (cp_net w hj) cc_Cb_71 rfl ?_
  refine mm_getf ok_Cb_saw (cp_net w hj) rfl f_Cb_157 rfl ?_
  exact mm_iret ok_Cb_saw rfl rfl ⟨rfl, rfl⟩
set_option maxHeartbeats 1000000 in
theorem c_Cb_found_x (w : c_wf G K S) {x : Int32} (hx : x < 0 ∨ ¬ x < c_Z S 0 6) : mm_C G M_Cb_found [.ref (K 0), .int x] (CP K S h) 1 6 (mm_X xIO (CP K S h)) := by
  refine mm_C_of (by decide +kernel) rfl (Nat.le_of_ble_eq_true rfl) rfl ?_
  refine mm_blk (pc' := 1) ok_Cb_found 1 _ _ _ rfl ?_
  refine mm_if_lt ok_Cb_found 12 rfl (by decide) (fun c1 => ?_) (fun c1 => ?_)
  · -- 12 t
    exact mm_V_wid (k1 := 1) (k2 := 6) (by omega) (by omega) (mm_throw (kc := 0) (ks := 0) ok_Cb_found rfl rfl rfl rfl x_Cb_134_136 rfl (by decide) (Nat.le_of_ble_eq_true rfl) ⟨rfl, rfl⟩)
  · -- 4 f
    refine mm_blk (pc' := 6) ok_Cb_found 2 _ _ _ rfl ?_
    refine mm_getf ok_Cb_found (cp_0 w) rfl f_Cb_131 rfl ?_
    refine mm_ic_lt ok_Cb_found 20 rfl (by decide) (fun c => ?_) (fun c => ?_)
    · exact absurd c (hx.resolve_left c1)
    exact mm_V_wid (k1 := 1) (k2 := 6) (by omega) (by omega) (mm_throw (kc := 0) (ks := 0) ok_Cb_found rfl rfl rfl rfl x_Cb_134_136 rfl (by decide) (Nat.le_of_ble_eq_true rfl) ⟨rfl, rfl⟩)
set_option maxHeartbeats 1000000 in
theorem c_Cb_found_r (w : c_wf G K S) {j : Nat} (hj : j < 4) (hx : nI j < c_Z S 0 6) : mm_C G M_Cb_found [.ref (K 0), .int (nI j)] (CP K S h) 0 0 (mm_E (some (.int (c_Z S 2 j))) (CP K S h)) := by
  refine mm_C_of (by decide +kernel) rfl (Nat.le_of_ble_eq_true rfl) rfl ?_
  refine mm_blk (pc' := 1) ok_Cb_found 1 _ _ _ rfl ?_
  refine mm_if_lt ok_Cb_found 12 rfl (by decide) (fun c => ?_) (fun c => ?_)
  · exact absurd c (nI_pos (by omega))
  refine mm_blk (pc' := 6) ok_Cb_found 2 _ _ _ rfl ?_
  refine mm_getf ok_Cb_found (cp_0 w) rfl f_Cb_131 rfl ?_
  refine mm_ic_lt ok_Cb_found 20 rfl (by decide) (fun c => ?_) (fun c => ?_)
  rotate_left
  · exact absurd hx c
  refine mm_blk (pc' := 21) ok_Cb_found 1 _ _ _ rfl ?_
  refine mm_getf ok_Cb_found (cp_0 w) rfl f_Cb_27 rfl ?_
  refine mm_blk (pc' := 25) ok_Cb_found 1 _ _ _ rfl ?_
  refine mm_iald ok_Cb_found (cp_6 w) rfl rfl (by omega) (oIs_get hj _) ?_
  exact mm_iret ok_Cb_found rfl rfl ⟨rfl, rfl⟩
theorem ans_b (S : cS) (b : Int32) : narrow .boolean (.int (c_ans S b)) = .int (c_ans S b) := by
  unfold c_ans c_dout
  repeat' split
  all_goals rfl
set_option maxHeartbeats 1000000 in
theorem c_Cb_clock_x (w : c_wf G K S) {a b : Int32} (hx : c_nd S = 0) : mm_C G M_Cb_clock [.ref (K 0), .int a, .int b] (CP K S h) 1 6 (mm_X xIS (CP K S h)) := by
  refine mm_C_of (by decide +kernel) rfl (Nat.le_of_ble_eq_true rfl) rfl ?_
  refine mm_blk (pc' := 1) ok_Cb_clock 1 _ _ _ rfl ?_
  refine mm_getf ok_Cb_clock (cp_0 w) rfl f_Cb_12 rfl ?_
  refine mm_cVE ok_Cb_clock (As := []) rfl k_Cb_clock_94 (cp_1 w) rfl rfl rfl (Nat.le_of_ble_eq_true rfl) (c_Al_isEmpty (cp_1 w)) ?_
  refine mm_if_eq ok_Cb_clock 18 rfl (by decide) (fun c => ?_) (fun c => ?_)
  · rw [hx] at c; exact absurd c (by decide)
  exact mm_V_wid (k1 := 1) (k2 := 6) (by omega) (by omega) (mm_throw (kc := 0) (ks := 0) ok_Cb_clock rfl rfl rfl rfl x_Cb_37_39 rfl (by decide) (Nat.le_of_ble_eq_true rfl) ⟨rfl, rfl⟩)
set_option maxHeartbeats 1000000 in
theorem c_Cb_clock_r (v : c_ok G K S) (a b : Int32) (hx : 0 < c_nd S) : mm_C G M_Cb_clock [.ref (K 0), .int a, .int b] (CP K S h) 0 0 (mm_E (some (.int (c_ans S b))) (CP K (c_stp S a b) h)) := by
  have w := v.1
  have hn : (if nI (c_nd S) = 0 then (1 : Int32) else 0) = 0 := if_neg (nI_ne0 hx (by have := w.1; omega))
  refine mm_C_of (by decide +kernel) rfl (Nat.le_of_ble_eq_true rfl) rfl ?_
  refine mm_blk (pc' := 1) ok_Cb_clock 1 _ _ _ rfl ?_
  refine mm_getf ok_Cb_clock (cp_0 w) rfl f_Cb_12 rfl ?_
  refine mm_cVE ok_Cb_clock (As := []) rfl k_Cb_clock_94 (cp_1 w) rfl rfl rfl (Nat.le_of_ble_eq_true rfl) (c_Al_isEmpty (cp_1 w)) ?_
  refine mm_if_eq ok_Cb_clock 18 rfl (by decide) (fun c => ?_) (fun c => ?_)
  rotate_left
  · exact absurd hn c
  refine mm_blk (pc' := 21) ok_Cb_clock 3 _ _ _ rfl ?_
  refine mm_cVE ok_Cb_clock (As := [.int a, .int b]) rfl k_Cb_clock_98 (cp_0 w) rfl rfl rfl (Nat.le_of_ble_eq_true rfl) (c_Cb_step v a b) ?_
  exact mm_zret ok_Cb_clock rfl rfl (ans_b S b) ⟨rfl, rfl⟩
set_option maxHeartbeats 1000000 in
theorem c_Cb_core_x (w : c_wf G K S) {x cl one : Int32} (hx : ¬ isC S x cl) : mm_C G M_Cb_core [.ref (K 0), .int x, .int cl, .int one] (CP K S h) 1 6 (mm_X xIA (CP K S h)) := by
  refine mm_C_of (by decide +kernel) rfl (Nat.le_of_ble_eq_true rfl) rfl ?_
  refine mm_blk (pc' := 3) ok_Cb_core 3 _ _ _ rfl ?_
  refine mm_cVE ok_Cb_core (As := [.int x, .int cl]) rfl k_Cb_core_52 (cp_0 w) rfl rfl rfl (Nat.le_of_ble_eq_true rfl) (c_Cb_isCell0 w hx) ?_
  refine mm_if_eq ok_Cb_core 27 rfl (by decide) (fun c => ?_) (fun c => ?_)
  rotate_left
  · exact absurd rfl c
  exact mm_V_wid (k1 := 1) (k2 := 6) (by omega) (by omega) (mm_throw (kc := 0) (ks := 0) ok_Cb_core rfl rfl rfl rfl x_Cb_30_32 rfl (by decide) (Nat.le_of_ble_eq_true rfl) ⟨rfl, rfl⟩)
set_option maxHeartbeats 1000000 in
theorem c_Cb_core_y (w : c_wf G K S) {i : Nat} (hi : i < c_nd S) {cl one : Int32} (hx : isC S (nI i) cl) (hd : ¬ (mm_ushr (c_D S i 3) cl &&& 1) = 1) : mm_C G M_Cb_core [.ref (K 0), .int (nI i), .int cl, .int one] (CP K S h) 1 6 (mm_X xIA (CP K S h)) := by
  refine mm_C_of (by decide +kernel) rfl (Nat.le_of_ble_eq_true rfl) rfl ?_
  refine mm_blk (pc' := 3) ok_Cb_core 3 _ _ _ rfl ?_
  refine mm_cVE ok_Cb_core (As := [.int (nI i), .int cl]) rfl k_Cb_core_52 (cp_0 w) rfl rfl rfl (Nat.le_of_ble_eq_true rfl) (c_Cb_isCell1 w hx) ?_
  refine mm_if_eq ok_Cb_core 27 rfl (by decide) (fun c => ?_) (fun c => ?_)
  · exact absurd c (by decide)
  refine mm_blk (pc' := 10) ok_Cb_core 1 _ _ _ rfl ?_
  refine mm_getf ok_Cb_core (cp_0 w) rfl f_Cb_12 rfl ?_
  refine mm_blk (pc' := 14) ok_Cb_core 1 _ _ _ rfl ?_
  refine mm_cVE ok_Cb_core (As := [.int (nI i)]) rfl k_Cb_core_56 (cp_1 w) rfl rfl rfl (Nat.le_of_ble_eq_true rfl) (c_getD w hi) ?_
  refine mm_cast ok_Cb_core (cp_dev w hi) cc_Cb_40 rfl ?_
  refine mm_blk (pc' := 21) ok_Cb_core 1 _ _ _ rfl ?_
  refine mm_cVE ok_Cb_core (As := [.int cl]) rfl k_Cb_core_60 (cp_dev w hi) rfl rfl rfl (Nat.le_of_ble_eq_true rfl) (c_Dv_drives (cp_dev w hi) cl) ?_
  refine mm_if_ne ok_Cb_core 35 rfl (by decide) (fun c => ?_) (fun c => ?_)
  · exact absurd (if_neg hd) c
  exact mm_V_wid (k1 := 1) (k2 := 6) (by omega) (by omega) (mm_throw (kc := 0) (ks := 0) ok_Cb_core rfl rfl rfl rfl x_Cb_30_32 rfl (by decide) (Nat.le_of_ble_eq_true rfl) ⟨rfl, rfl⟩)
set_option maxHeartbeats 1000000 in
theorem c_Cb_core_r (w : c_wf G K S) {i : Nat} (hi : i < c_nd S) {cl one : Int32} (hx : isC S (nI i) cl) (hd : (mm_ushr (c_D S i 3) cl &&& 1) = 1) : mm_C G M_Cb_core [.ref (K 0), .int (nI i), .int cl, .int one] (CP K S h) 0 0 (mm_E none (CP K (s_D S i (upd (c_D S i) 6 (if one = 0 then c_D S i 6 &&& (1 <<< (cl &&& 31) ^^^ -1) else c_D S i 6 ||| 1 <<< (cl &&& 31)))) h)) := by
  refine mm_C_of (by decide +kernel) rfl (Nat.le_of_ble_eq_true rfl) rfl ?_
  refine mm_blk (pc' := 3) ok_Cb_core 3 _ _ _ rfl ?_
  refine mm_cVE ok_Cb_core (As := [.int (nI i), .int cl]) rfl k_Cb_core_52 (cp_0 w) rfl rfl rfl (Nat.le_of_ble_eq_true rfl) (c_Cb_isCell1 w hx) ?_
  refine mm_if_eq ok_Cb_core 27 rfl (by decide) (fun c => ?_) (fun c => ?_)
  · exact absurd c (by decide)
  refine mm_blk (pc' := 10) ok_Cb_core 1 _ _ _ rfl ?_
  refine mm_getf ok_Cb_core (cp_0 w) rfl f_Cb_12 rfl ?_
  refine mm_blk (pc' := 14) ok_Cb_core 1 _ _ _ rfl ?_
  refine mm_cVE ok_Cb_core (As := [.int (nI i)]) rfl k_Cb_core_56 (cp_1 w) rfl rfl rfl (Nat.le_of_ble_eq_true rfl) (c_getD w hi) ?_
  refine mm_cast ok_Cb_core (cp_dev w hi) cc_Cb_40 rfl ?_
  refine mm_blk (pc' := 21) ok_Cb_core 1 _ _ _ rfl ?_
  refine mm_cVE ok_Cb_core (As := [.int cl]) rfl k_Cb_core_60 (cp_dev w hi) rfl rfl rfl (Nat.le_of_ble_eq_true rfl) (c_Dv_drives (cp_dev w hi) cl) ?_
  refine mm_if_ne ok_Cb_core 35 rfl (by decide) (fun c => ?_) (fun c => ?_)
  rotate_left
  · rw [if_pos hd] at c; exact absurd c (by decide)
  refine mm_blk (pc' := 36) ok_Cb_core 1 _ _ _ rfl ?_
  refine mm_getf ok_Cb_core (cp_0 w) rfl f_Cb_12 rfl ?_
  refine mm_blk (pc' := 40) ok_Cb_core 1 _ _ _ rfl ?_
  refine mm_cVE ok_Cb_core (As := [.int (nI i)]) rfl k_Cb_core_56 (cp_1 w) rfl rfl rfl (Nat.le_of_ble_eq_true rfl) (c_getD w hi) ?_
  refine mm_cast ok_Cb_core (cp_dev w hi) cc_Cb_40 rfl ?_
  refine mm_blk (pc' := 48) ok_Cb_core 2 _ _ _ rfl ?_
  refine mm_cVE ok_Cb_core (As := [.int cl, .int one]) rfl k_Cb_core_90 (cp_dev w hi) rfl rfl rfl (Nat.le_of_ble_eq_true rfl) (c_Dv_setCore (cp_dev w hi) cl one) ?_
  exact mm_vret ok_Cb_core rfl rfl ⟨rfl, cu_dev w hi _⟩
set_option maxHeartbeats 1000000 in
theorem c_Cb_look_x (w : c_wf G K S) {x k : Int32} (hx : ¬ inR x (c_nd S)) : mm_C G M_Cb_look [.ref (K 0), .int x, .int k] (CP K S h) 1 6 (mm_X xIA (CP K S h)) := by
  refine mm_C_of (by decide +kernel) rfl (Nat.le_of_ble_eq_true rfl) rfl ?_
  refine mm_blk (pc' := 2) ok_Cb_look 2 _ _ _ rfl ?_
  refine mm_cVE ok_Cb_look (As := [.int x]) rfl k_Cb_look_102 (cp_0 w) rfl rfl rfl (Nat.le_of_ble_eq_true rfl) (c_Cb_isDevice0 w hx) ?_
  refine mm_if_ne ok_Cb_look 16 rfl (by decide) (fun c => ?_) (fun c => ?_)
  · exact absurd rfl c
  exact mm_V_wid (k1 := 1) (k2 := 6) (by omega) (by omega) (mm_throw (kc := 0) (ks := 0) ok_Cb_look rfl rfl rfl rfl x_Cb_30_32 rfl (by decide) (Nat.le_of_ble_eq_true rfl) ⟨rfl, rfl⟩)
set_option maxHeartbeats 1000000 in
theorem c_Cb_look_y (w : c_wf G K S) {i : Nat} (hi : i < c_nd S) {k : Int32} (hk : ¬ inR k 4) : mm_C G M_Cb_look [.ref (K 0), .int (nI i), .int k] (CP K S h) 1 6 (mm_X xIA (CP K S h)) := by
  have hk9 : k.toInt < 0 ∨ 3 < k.toInt := by
    unfold inR at hk
    rw [Int32.lt_iff_toInt_lt, Int32.le_iff_toInt_le, nI_toInt (by omega)] at hk
    have : (0 : Int32).toInt = 0 := rfl
    omega
  refine mm_C_of (by decide +kernel) rfl (Nat.le_of_ble_eq_true rfl) rfl ?_
  refine mm_blk (pc' := 2) ok_Cb_look 2 _ _ _ rfl ?_
  refine mm_cVE ok_Cb_look (As := [.int (nI i)]) rfl k_Cb_look_102 (cp_0 w) rfl rfl rfl (Nat.le_of_ble_eq_true rfl) (c_Cb_isDevice1 w hi) ?_
  refine mm_if_ne ok_Cb_look 16 rfl (by decide) (fun c => ?_) (fun c => ?_)
  rotate_left
  · exact absurd c (by decide)
  refine mm_blk (pc' := 17) ok_Cb_look 1 _ _ _ rfl ?_
  refine mm_getf ok_Cb_look (cp_0 w) rfl f_Cb_12 rfl ?_
  refine mm_blk (pc' := 21) ok_Cb_look 1 _ _ _ rfl ?_
  refine mm_cVE ok_Cb_look (As := [.int (nI i)]) rfl k_Cb_look_56 (cp_1 w) rfl rfl rfl (Nat.le_of_ble_eq_true rfl) (c_getD w hi) ?_
  refine mm_cast ok_Cb_look (cp_dev w hi) cc_Cb_40 rfl ?_
  refine mm_blk (pc' := 29) ok_Cb_look 2 _ _ _ rfl ?_
  refine mm_tabOut ok_Cb_look 81 rfl hk9 (by decide) ?_
  exact mm_V_wid (k1 := 1) (k2 := 6) (by omega) (by omega) (mm_throw (kc := 0) (ks := 0) ok_Cb_look rfl rfl rfl rfl x_Cb_30_32 rfl (by decide) (Nat.le_of_ble_eq_true rfl) ⟨rfl, rfl⟩)
set_option maxHeartbeats 1000000 in
theorem c_Cb_look_0 (w : c_wf G K S) {i : Nat} (hi : i < c_nd S) : mm_C G M_Cb_look [.ref (K 0), .int (nI i), .int (nI 0)] (CP K S h) 0 0 (mm_E (some (.int (c_D S i 7))) (CP K S h)) := by
  refine mm_C_of (by decide +kernel) rfl (Nat.le_of_ble_eq_true rfl) rfl ?_
  refine mm_blk (pc' := 2) ok_Cb_look 2 _ _ _ rfl ?_
  refine mm_cVE ok_Cb_look (As := [.int (nI i)]) rfl k_Cb_look_102 (cp_0 w) rfl rfl rfl (Nat.le_of_ble_eq_true rfl) (c_Cb_isDevice1 w hi) ?_
  refine mm_if_ne ok_Cb_look 16 rfl (by decide) (fun c => ?_) (fun c => ?_)
  rotate_left
  · exact absurd c (by decide)
  refine mm_blk (pc' := 17) ok_Cb_look 1 _ _ _ rfl ?_
  refine mm_getf ok_Cb_look (cp_0 w) rfl f_Cb_12 rfl ?_
  refine mm_blk (pc' := 21) ok_Cb_look 1 _ _ _ rfl ?_
  refine mm_cVE ok_Cb_look (As := [.int (nI i)]) rfl k_Cb_look_56 (cp_1 w) rfl rfl rfl (Nat.le_of_ble_eq_true rfl) (c_getD w hi) ?_
  refine mm_cast ok_Cb_look (cp_dev w hi) cc_Cb_40 rfl ?_
  refine mm_blk (pc' := 29) ok_Cb_look 2 _ _ _ rfl ?_
  refine mm_tabIn (off := 31) ok_Cb_look 60 rfl (by decide) (by decide) rfl (by decide) ?_
  refine mm_blk (pc' := 61) ok_Cb_look 1 _ _ _ rfl ?_
  refine mm_getf ok_Cb_look (cp_dev w hi) rfl f_Cb_105 rfl ?_
  exact mm_iret ok_Cb_look rfl rfl ⟨rfl, rfl⟩
set_option maxHeartbeats 1000000 in
theorem c_Cb_look_1 (w : c_wf G K S) {i : Nat} (hi : i < c_nd S) : mm_C G M_Cb_look [.ref (K 0), .int (nI i), .int (nI 1)] (CP K S h) 0 0 (mm_E (some (.int (c_D S i 8))) (CP K S h)) := by
  refine mm_C_of (by decide +kernel) rfl (Nat.le_of_ble_eq_true rfl) rfl ?_
  refine mm_blk (pc' := 2) ok_Cb_look 2 _ _ _ rfl ?_
  refine mm_cVE ok_Cb_look (As := [.int (nI i)]) rfl k_Cb_look_102 (cp_0 w) rfl rfl rfl (Nat.le_of_ble_eq_true rfl) (c_Cb_isDevice1 w hi) ?_
  refine mm_if_ne ok_Cb_look 16 rfl (by decide) (fun c => ?_) (fun c => ?_)
  rotate_left
  · exact absurd c (by decide)
  refine mm_blk (pc' := 17) ok_Cb_look 1 _ _ _ rfl ?_
  refine mm_getf ok_Cb_look (cp_0 w) rfl f_Cb_12 rfl ?_
  refine mm_blk (pc' := 21) ok_Cb_look 1 _ _ _ rfl ?_
  refine mm_cVE ok_Cb_look (As := [.int (nI i)]) rfl k_Cb_look_56 (cp_1 w) rfl rfl rfl (Nat.le_of_ble_eq_true rfl) (c_getD w hi) ?_
  refine mm_cast ok_Cb_look (cp_dev w hi) cc_Cb_40 rfl ?_
  refine mm_blk (pc' := 29) ok_Cb_look 2 _ _ _ rfl ?_
  refine mm_tabIn (off := 36) ok_Cb_look 65 rfl (by decide) (by decide) rfl (by decide) ?_
  refine mm_blk (pc' := 66) ok_Cb_look 1 _ _ _ rfl ?_
  refine mm_getf ok_Cb_look (cp_dev w hi) rfl f_Cb_108 rfl ?_
  exact mm_iret ok_Cb_look rfl rfl ⟨rfl, rfl⟩
set_option maxHeartbeats 1000000 in
theorem c_Cb_look_2 (w : c_wf G K S) {i : Nat} (hi : i < c_nd S) : mm_C G M_Cb_look [.ref (K 0), .int (nI i), .int (nI 2)] (CP K S h) 0 0 (mm_E (some (.int (c_D S i 5))) (CP K S h)) := by
  refine mm_C_of (by decide +kernel) rfl (Nat.le_of_ble_eq_true rfl) rfl ?_
  refine mm_blk (pc' := 2) ok_Cb_look 2 _ _ _ rfl ?_
  refine mm_cVE ok_Cb_look (As := [.int (nI i)]) rfl k_Cb_look_102 (cp_0 w) rfl rfl rfl (Nat.le_of_ble_eq_true rfl) (c_Cb_isDevice1 w hi) ?_
  refine mm_if_ne ok_Cb_look 16 rfl (by decide) (fun c => ?_) (fun c => ?_)
  rotate_left
  · exact absurd c (by decide)
  refine mm_blk (pc' := 17) ok_Cb_look 1 _ _ _ rfl ?_
  refine mm_getf ok_Cb_look (cp_0 w) rfl f_Cb_12 rfl ?_
  refine mm_blk (pc' := 21) ok_Cb_look 1 _ _ _ rfl ?_
  refine mm_cVE ok_Cb_look (As := [.int (nI i)]) rfl k_Cb_look_56 (cp_1 w) rfl rfl rfl (Nat.le_of_ble_eq_true rfl) (c_getD w hi) ?_
  refine mm_cast ok_Cb_look (cp_dev w hi) cc_Cb_40 rfl ?_
  refine mm_blk (pc' := 29) ok_Cb_look 2 _ _ _ rfl ?_
  refine mm_tabIn (off := 41) ok_Cb_look 70 rfl (by decide) (by decide) rfl (by decide) ?_
  refine mm_blk (pc' := 71) ok_Cb_look 1 _ _ _ rfl ?_
  refine mm_getf ok_Cb_look (cp_dev w hi) rfl f_Cb_111 rfl ?_
  exact mm_iret ok_Cb_look rfl rfl ⟨rfl, rfl⟩
set_option maxHeartbeats 1000000 in
theorem c_Cb_look_3 (w : c_wf G K S) {i : Nat} (hi : i < c_nd S) : mm_C G M_Cb_look [.ref (K 0), .int (nI i), .int (nI 3)] (CP K S h) 0 0 (mm_E (some (.int (c_sig S i))) (CP K S h)) := by
  refine mm_C_of (by decide +kernel) rfl (Nat.le_of_ble_eq_true rfl) rfl ?_
  refine mm_blk (pc' := 2) ok_Cb_look 2 _ _ _ rfl ?_
  refine mm_cVE ok_Cb_look (As := [.int (nI i)]) rfl k_Cb_look_102 (cp_0 w) rfl rfl rfl (Nat.le_of_ble_eq_true rfl) (c_Cb_isDevice1 w hi) ?_
  refine mm_if_ne ok_Cb_look 16 rfl (by decide) (fun c => ?_) (fun c => ?_)
  rotate_left
  · exact absurd c (by decide)
  refine mm_blk (pc' := 17) ok_Cb_look 1 _ _ _ rfl ?_
  refine mm_getf ok_Cb_look (cp_0 w) rfl f_Cb_12 rfl ?_
  refine mm_blk (pc' := 21) ok_Cb_look 1 _ _ _ rfl ?_
  refine mm_cVE ok_Cb_look (As := [.int (nI i)]) rfl k_Cb_look_56 (cp_1 w) rfl rfl rfl (Nat.le_of_ble_eq_true rfl) (c_getD w hi) ?_
  refine mm_cast ok_Cb_look (cp_dev w hi) cc_Cb_40 rfl ?_
  refine mm_blk (pc' := 29) ok_Cb_look 2 _ _ _ rfl ?_
  refine mm_tabIn (off := 46) ok_Cb_look 75 rfl (by decide) (by decide) rfl (by decide) ?_
  refine mm_blk (pc' := 77) ok_Cb_look 2 _ _ _ rfl ?_
  refine mm_cVE ok_Cb_look (As := [.ref (K (10 + i))]) rfl k_Cb_look_114 (cp_0 w) rfl rfl rfl (Nat.le_of_ble_eq_true rfl) (c_Cb_signalsOf w hi) ?_
  exact mm_iret ok_Cb_look rfl rfl ⟨rfl, rfl⟩
set_option maxHeartbeats 1000000 in
theorem c_Cb_fault_x (w : c_wf G K S) {x k y : Int32} (hx : ¬ inR x (c_nn S)) : mm_C G M_Cb_fault [.ref (K 0), .int x, .int k, .int y] (CP K S h) 1 6 (mm_X xIA (CP K S h)) := by
  refine mm_C_of (by decide +kernel) rfl (Nat.le_of_ble_eq_true rfl) rfl ?_
  refine mm_blk (pc' := 2) ok_Cb_fault 2 _ _ _ rfl ?_
  refine mm_cVE ok_Cb_fault (As := [.int x]) rfl k_Cb_fault_80 (cp_0 w) rfl rfl rfl (Nat.le_of_ble_eq_true rfl) (c_Cb_isNet0 w hx) ?_
  refine mm_if_eq ok_Cb_fault 18 rfl (by decide) (fun c => ?_) (fun c => ?_)
  rotate_left
  · exact absurd rfl c
  exact mm_V_wid (k1 := 1) (k2 := 6) (by omega) (by omega) (mm_throw (kc := 0) (ks := 0) ok_Cb_fault rfl rfl rfl rfl x_Cb_30_32 rfl (by decide) (Nat.le_of_ble_eq_true rfl) ⟨rfl, rfl⟩)
set_option maxHeartbeats 1000000 in
theorem c_Cb_fault_k (w : c_wf G K S) {j : Nat} (hj : j < c_nn S) {k y : Int32} (hk : k < -1 ∨ ¬ k ≤ 3) : mm_C G M_Cb_fault [.ref (K 0), .int (nI j), .int k, .int y] (CP K S h) 1 6 (mm_X xIA (CP K S h)) := by
  refine mm_C_of (by decide +kernel) rfl (Nat.le_of_ble_eq_true rfl) rfl ?_
  refine mm_blk (pc' := 2) ok_Cb_fault 2 _ _ _ rfl ?_
  refine mm_cVE ok_Cb_fault (As := [.int (nI j)]) rfl k_Cb_fault_80 (cp_0 w) rfl rfl rfl (Nat.le_of_ble_eq_true rfl) (c_Cb_isNet1 w hj) ?_
  refine mm_if_eq ok_Cb_fault 18 rfl (by decide) (fun c => ?_) (fun c => ?_)
  · exact absurd c (by decide)
  refine mm_blk (pc' := 10) ok_Cb_fault 2 _ _ _ rfl ?_
  refine mm_ic_lt ok_Cb_fault 18 rfl (by decide) (fun c10 => ?_) (fun c10 => ?_)
  · -- 18 t
    exact mm_V_wid (k1 := 1) (k2 := 6) (by omega) (by omega) (mm_throw (kc := 0) (ks := 0) ok_Cb_fault rfl rfl rfl rfl x_Cb_30_32 rfl (by decide) (Nat.le_of_ble_eq_true rfl) ⟨rfl, rfl⟩)
  · -- 13 f
    refine mm_blk (pc' := 15) ok_Cb_fault 2 _ _ _ rfl ?_
    refine mm_ic_le ok_Cb_fault 26 rfl (by decide) (fun c => ?_) (fun c => ?_)
    · exact absurd c (hk.resolve_left c10)
    exact mm_V_wid (k1 := 1) (k2 := 6) (by omega) (by omega) (mm_throw (kc := 0) (ks := 0) ok_Cb_fault rfl rfl rfl rfl x_Cb_30_32 rfl (by decide) (Nat.le_of_ble_eq_true rfl) ⟨rfl, rfl⟩)
set_option maxHeartbeats 1000000 in
theorem c_Cb_fault_1 (w : c_wf G K S) {j : Nat} (hj : j < c_nn S) {k y : Int32} (hk : ¬ k < -1) (hk3 : k ≤ 3) (h2 : ¬ k = 2) (h3 : ¬ k = 3) : mm_C G M_Cb_fault [.ref (K 0), .int (nI j), .int k, .int y] (CP K S h) 0 0 (mm_E none (CP K (c_alone S j k) h)) := by
  refine mm_C_of (by decide +kernel) rfl (Nat.le_of_ble_eq_true rfl) rfl ?_
  refine mm_blk (pc' := 2) ok_Cb_fault 2 _ _ _ rfl ?_
  refine mm_cVE ok_Cb_fault (As := [.int (nI j)]) rfl k_Cb_fault_80 (cp_0 w) rfl rfl rfl (Nat.le_of_ble_eq_true rfl) (c_Cb_isNet1 w hj) ?_
  refine mm_if_eq ok_Cb_fault 18 rfl (by decide) (fun c => ?_) (fun c => ?_)
  · exact absurd c (by decide)
  refine mm_blk (pc' := 10) ok_Cb_fault 2 _ _ _ rfl ?_
  refine mm_ic_lt ok_Cb_fault 18 rfl (by decide) (fun c => ?_) (fun c => ?_)
  · exact absurd c hk
  refine mm_blk (pc' := 15) ok_Cb_fault 2 _ _ _ rfl ?_
  refine mm_ic_le ok_Cb_fault 26 rfl (by decide) (fun c => ?_) (fun c => ?_)
  rotate_left
  · exact absurd hk3 c
  refine mm_blk (pc' := 28) ok_Cb_fault 2 _ _ _ rfl ?_
  refine mm_ic_eq ok_Cb_fault 52 rfl (by decide) (fun c => ?_) (fun c => ?_)
  · exact absurd c h2
  refine mm_blk (pc' := 33) ok_Cb_fault 2 _ _ _ rfl ?_
  refine mm_ic_eq ok_Cb_fault 52 rfl (by decide) (fun c => ?_) (fun c => ?_)
  · exact absurd c h3
  refine mm_blk (pc' := 37) ok_Cb_fault 1 _ _ _ rfl ?_
  refine mm_getf ok_Cb_fault (cp_0 w) rfl f_Cb_16 rfl ?_
  refine mm_blk (pc' := 41) ok_Cb_fault 1 _ _ _ rfl ?_
  refine mm_cVE ok_Cb_fault (As := [.int (nI j)]) rfl k_Cb_fault_56 (cp_3 w) rfl rfl rfl (Nat.le_of_ble_eq_true rfl) (c_getN w hj) ?_
  refine mm_cast ok_Cb_fault (cp_net w hj) cc_Cb_71 rfl ?_
  refine mm_blk (pc' := 48) ok_Cb_fault 1 _ _ _ rfl ?_
  refine mm_cVE ok_Cb_fault (As := [.int k]) rfl k_Cb_fault_83 (cp_net w hj) rfl rfl rfl (Nat.le_of_ble_eq_true rfl) (c_Nt_breakAlone w hj k) ?_
  exact mm_vret ok_Cb_fault rfl rfl ⟨rfl, rfl⟩
set_option maxHeartbeats 1000000 in
theorem c_Cb_fault_y (w : c_wf G K S) {j : Nat} (hj : j < c_nn S) {k : Int32} (hk : ¬ k < -1) (hk3 : k ≤ 3) (h23 : k = 2 ∨ k = 3) {y : Int32} (hy : ¬ inR y (c_nn S)) : mm_C G M_Cb_fault [.ref (K 0), .int (nI j), .int k, .int y] (CP K S h) 1 6 (mm_X xIA (CP K S h)) := by
  refine mm_C_of (by decide +kernel) rfl (Nat.le_of_ble_eq_true rfl) rfl ?_
  refine mm_blk (pc' := 2) ok_Cb_fault 2 _ _ _ rfl ?_
  refine mm_cVE ok_Cb_fault (As := [.int (nI j)]) rfl k_Cb_fault_80 (cp_0 w) rfl rfl rfl (Nat.le_of_ble_eq_true rfl) (c_Cb_isNet1 w hj) ?_
  refine mm_if_eq ok_Cb_fault 18 rfl (by decide) (fun c => ?_) (fun c => ?_)
  · exact absurd c (by decide)
  refine mm_blk (pc' := 10) ok_Cb_fault 2 _ _ _ rfl ?_
  refine mm_ic_lt ok_Cb_fault 18 rfl (by decide) (fun c => ?_) (fun c => ?_)
  · exact absurd c hk
  refine mm_blk (pc' := 15) ok_Cb_fault 2 _ _ _ rfl ?_
  refine mm_ic_le ok_Cb_fault 26 rfl (by decide) (fun c => ?_) (fun c => ?_)
  rotate_left
  · exact absurd hk3 c
  refine mm_blk (pc' := 28) ok_Cb_fault 2 _ _ _ rfl ?_
  refine mm_ic_eq ok_Cb_fault 52 rfl (by decide) (fun c28 => ?_) (fun c28 => ?_)
  · -- 52 t
    refine mm_blk (pc' := 54) ok_Cb_fault 2 _ _ _ rfl ?_
    refine mm_cVE ok_Cb_fault (As := [.int y]) rfl k_Cb_fault_80 (cp_0 w) rfl rfl rfl (Nat.le_of_ble_eq_true rfl) (c_Cb_isNet0 w hy) ?_
    refine mm_if_eq ok_Cb_fault 65 rfl (by decide) (fun c => ?_) (fun c => ?_)
    rotate_left
    · exact absurd rfl c
    exact mm_V_wid (k1 := 1) (k2 := 6) (by omega) (by omega) (mm_throw (kc := 0) (ks := 0) ok_Cb_fault rfl rfl rfl rfl x_Cb_30_32 rfl (by decide) (Nat.le_of_ble_eq_true rfl) ⟨rfl, rfl⟩)
  · -- 31 f
    refine mm_blk (pc' := 33) ok_Cb_fault 2 _ _ _ rfl ?_
    refine mm_ic_eq ok_Cb_fault 52 rfl (by decide) (fun c => ?_) (fun c => ?_)
    rotate_left
    · exact absurd (h23.resolve_left c28) c
    refine mm_blk (pc' := 54) ok_Cb_fault 2 _ _ _ rfl ?_
    refine mm_cVE ok_Cb_fault (As := [.int y]) rfl k_Cb_fault_80 (cp_0 w) rfl rfl rfl (Nat.le_of_ble_eq_true rfl) (c_Cb_isNet0 w hy) ?_
    refine mm_if_eq ok_Cb_fault 65 rfl (by decide) (fun c => ?_) (fun c => ?_)
    rotate_left
    · exact absurd rfl c
    exact mm_V_wid (k1 := 1) (k2 := 6) (by omega) (by omega) (mm_throw (kc := 0) (ks := 0) ok_Cb_fault rfl rfl rfl rfl x_Cb_30_32 rfl (by decide) (Nat.le_of_ble_eq_true rfl) ⟨rfl, rfl⟩)
set_option maxHeartbeats 1000000 in
theorem c_Cb_fault_z (w : c_wf G K S) {j : Nat} (hj : j < c_nn S) {k : Int32} (hk : ¬ k < -1) (hk3 : k ≤ 3) (h23 : k = 2 ∨ k = 3) {y : Int32} (hy : y = nI j) : mm_C G M_Cb_fault [.ref (K 0), .int (nI j), .int k, .int y] (CP K S h) 1 6 (mm_X xIA (CP K S h)) := by
  refine mm_C_of (by decide +kernel) rfl (Nat.le_of_ble_eq_true rfl) rfl ?_
  refine mm_blk (pc' := 2) ok_Cb_fault 2 _ _ _ rfl ?_
  refine mm_cVE ok_Cb_fault (As := [.int (nI j)]) rfl k_Cb_fault_80 (cp_0 w) rfl rfl rfl (Nat.le_of_ble_eq_true rfl) (c_Cb_isNet1 w hj) ?_
  refine mm_if_eq ok_Cb_fault 18 rfl (by decide) (fun c => ?_) (fun c => ?_)
  · exact absurd c (by decide)
  refine mm_blk (pc' := 10) ok_Cb_fault 2 _ _ _ rfl ?_
  refine mm_ic_lt ok_Cb_fault 18 rfl (by decide) (fun c => ?_) (fun c => ?_)
  · exact absurd c hk
  refine mm_blk (pc' := 15) ok_Cb_fault 2 _ _ _ rfl ?_
  refine mm_ic_le ok_Cb_fault 26 rfl (by decide) (fun c => ?_) (fun c => ?_)
  rotate_left
  · exact absurd hk3 c
  refine mm_blk (pc' := 28) ok_Cb_fault 2 _ _ _ rfl ?_
  refine mm_ic_eq ok_Cb_fault 52 rfl (by decide) (fun c28 => ?_) (fun c28 => ?_)
  · -- 52 t
    refine mm_blk (pc' := 54) ok_Cb_fault 2 _ _ _ rfl ?_
    subst hy
    refine mm_cVE ok_Cb_fault (As := [.int (nI j)]) rfl k_Cb_fault_80 (cp_0 w) rfl rfl rfl (Nat.le_of_ble_eq_true rfl) (c_Cb_isNet1 w hj) ?_
    refine mm_if_eq ok_Cb_fault 65 rfl (by decide) (fun c => ?_) (fun c => ?_)
    · exact absurd c (by decide)
    refine mm_blk (pc' := 62) ok_Cb_fault 2 _ _ _ rfl ?_
    refine mm_ic_ne ok_Cb_fault 73 rfl (by decide) (fun c => ?_) (fun c => ?_)
    · exact absurd rfl c
    exact mm_V_wid (k1 := 1) (k2 := 6) (by omega) (by omega) (mm_throw (kc := 0) (ks := 0) ok_Cb_fault rfl rfl rfl rfl x_Cb_30_32 rfl (by decide) (Nat.le_of_ble_eq_true rfl) ⟨rfl, rfl⟩)
  · -- 31 f
    refine mm_blk (pc' := 33) ok_Cb_fault 2 _ _ _ rfl ?_
    refine mm_ic_eq ok_Cb_fault 52 rfl (by decide) (fun c => ?_) (fun c => ?_)
    rotate_left
    · exact absurd (h23.resolve_left c28) c
    refine mm_blk (pc' := 54) ok_Cb_fault 2 _ _ _ rfl ?_
    subst hy
    refine mm_cVE ok_Cb_fault (As := [.int (nI j)]) rfl k_Cb_fault_80 (cp_0 w) rfl rfl rfl (Nat.le_of_ble_eq_true rfl) (c_Cb_isNet1 w hj) ?_
    refine mm_if_eq ok_Cb_fault 65 rfl (by decide) (fun c => ?_) (fun c => ?_)
    · exact absurd c (by decide)
    refine mm_blk (pc' := 62) ok_Cb_fault 2 _ _ _ rfl ?_
    refine mm_ic_ne ok_Cb_fault 73 rfl (by decide) (fun c => ?_) (fun c => ?_)
    · exact absurd rfl c
    exact mm_V_wid (k1 := 1) (k2 := 6) (by omega) (by omega) (mm_throw (kc := 0) (ks := 0) ok_Cb_fault rfl rfl rfl rfl x_Cb_30_32 rfl (by decide) (Nat.le_of_ble_eq_true rfl) ⟨rfl, rfl⟩)
set_option maxHeartbeats 1000000 in
theorem c_Cb_fault_2 (w : c_wf G K S) {j : Nat} (hj : j < c_nn S) {k : Int32} (hk : ¬ k < -1) (hk3 : k ≤ 3) (h23 : k = 2 ∨ k = 3) {i : Nat} (hi : i < c_nn S) (hij : i ≠ j) : mm_C G M_Cb_fault [.ref (K 0), .int (nI j), .int k, .int (nI i)] (CP K S h) 0 0 (mm_E none (CP K (c_with S j i k) h)) := by
  refine mm_C_of (by decide +kernel) rfl (Nat.le_of_ble_eq_true rfl) rfl ?_
  refine mm_blk (pc' := 2) ok_Cb_fault 2 _ _ _ rfl ?_
  refine mm_cVE ok_Cb_fault (As := [.int (nI j)]) rfl k_Cb_fault_80 (cp_0 w) rfl rfl rfl (Nat.le_of_ble_eq_true rfl) (c_Cb_isNet1 w hj) ?_
  refine mm_if_eq ok_Cb_fault 18 rfl (by decide) (fun c => ?_) (fun c => ?_)
  · exact absurd c (by decide)
  refine mm_blk (pc' := 10) ok_Cb_fault 2 _ _ _ rfl ?_
  refine mm_ic_lt ok_Cb_fault 18 rfl (by decide) (fun c => ?_) (fun c => ?_)
  · exact absurd c hk
  refine mm_blk (pc' := 15) ok_Cb_fault 2 _ _ _ rfl ?_
  refine mm_ic_le ok_Cb_fault 26 rfl (by decide) (fun c => ?_) (fun c => ?_)
  rotate_left
  · exact absurd hk3 c
  refine mm_blk (pc' := 28) ok_Cb_fault 2 _ _ _ rfl ?_
  refine mm_ic_eq ok_Cb_fault 52 rfl (by decide) (fun c28 => ?_) (fun c28 => ?_)
  · -- 52 t
    refine mm_blk (pc' := 54) ok_Cb_fault 2 _ _ _ rfl ?_
    refine mm_cVE ok_Cb_fault (As := [.int (nI i)]) rfl k_Cb_fault_80 (cp_0 w) rfl rfl rfl (Nat.le_of_ble_eq_true rfl) (c_Cb_isNet1 w hi) ?_
    refine mm_if_eq ok_Cb_fault 65 rfl (by decide) (fun c => ?_) (fun c => ?_)
    · exact absurd c (by decide)
    refine mm_blk (pc' := 62) ok_Cb_fault 2 _ _ _ rfl ?_
    refine mm_ic_ne ok_Cb_fault 73 rfl (by decide) (fun c => ?_) (fun c => ?_)
    rotate_left
    · exact absurd c (fun z => hij ((nI_eq (by have := w.2.1; omega) (by have := w.2.1; omega)).mp z))
    refine mm_blk (pc' := 74) ok_Cb_fault 1 _ _ _ rfl ?_
    refine mm_getf ok_Cb_fault (cp_0 w) rfl f_Cb_16 rfl ?_
    refine mm_blk (pc' := 78) ok_Cb_fault 1 _ _ _ rfl ?_
    refine mm_cVE ok_Cb_fault (As := [.int (nI j)]) rfl k_Cb_fault_56 (cp_3 w) rfl rfl rfl (Nat.le_of_ble_eq_true rfl) (c_getN w hj) ?_
    refine mm_cast ok_Cb_fault (cp_net w hj) cc_Cb_71 rfl ?_
    refine mm_blk (pc' := 85) ok_Cb_fault 1 _ _ _ rfl ?_
    refine mm_getf ok_Cb_fault (cp_0 w) rfl f_Cb_16 rfl ?_
    refine mm_blk (pc' := 89) ok_Cb_fault 1 _ _ _ rfl ?_
    refine mm_cVE ok_Cb_fault (As := [.int (nI i)]) rfl k_Cb_fault_56 (cp_3 w) rfl rfl rfl (Nat.le_of_ble_eq_true rfl) (c_getN w hi) ?_
    refine mm_cast ok_Cb_fault (cp_net w hi) cc_Cb_71 rfl ?_
    refine mm_blk (pc' := 96) ok_Cb_fault 1 _ _ _ rfl ?_
    refine mm_cVE ok_Cb_fault (As := [.ref (K (20 + i)), .int k]) rfl k_Cb_fault_86 (cp_net w hj) rfl rfl rfl (Nat.le_of_ble_eq_true rfl) (c_Nt_breakWith w hj hi hij k) ?_
    exact mm_vret ok_Cb_fault rfl rfl ⟨rfl, rfl⟩
  · -- 31 f
    refine mm_blk (pc' := 33) ok_Cb_fault 2 _ _ _ rfl ?_
    refine mm_ic_eq ok_Cb_fault 52 rfl (by decide) (fun c => ?_) (fun c => ?_)
    rotate_left
    · exact absurd (h23.resolve_left c28) c
    refine mm_blk (pc' := 54) ok_Cb_fault 2 _ _ _ rfl ?_
    refine mm_cVE ok_Cb_fault (As := [.int (nI i)]) rfl k_Cb_fault_80 (cp_0 w) rfl rfl rfl (Nat.le_of_ble_eq_true rfl) (c_Cb_isNet1 w hi) ?_
    refine mm_if_eq ok_Cb_fault 65 rfl (by decide) (fun c => ?_) (fun c => ?_)
    · exact absurd c (by decide)
    refine mm_blk (pc' := 62) ok_Cb_fault 2 _ _ _ rfl ?_
    refine mm_ic_ne ok_Cb_fault 73 rfl (by decide) (fun c => ?_) (fun c => ?_)
    rotate_left
    · exact absurd c (fun z => hij ((nI_eq (by have := w.2.1; omega) (by have := w.2.1; omega)).mp z))
    refine mm_blk (pc' := 74) ok_Cb_fault 1 _ _ _ rfl ?_
    refine mm_getf ok_Cb_fault (cp_0 w) rfl f_Cb_16 rfl ?_
    refine mm_blk (pc' := 78) ok_Cb_fault 1 _ _ _ rfl ?_
    refine mm_cVE ok_Cb_fault (As := [.int (nI j)]) rfl k_Cb_fault_56 (cp_3 w) rfl rfl rfl (Nat.le_of_ble_eq_true rfl) (c_getN w hj) ?_
    refine mm_cast ok_Cb_fault (cp_net w hj) cc_Cb_71 rfl ?_
    refine mm_blk (pc' := 85) ok_Cb_fault 1 _ _ _ rfl ?_
    refine mm_getf ok_Cb_fault (cp_0 w) rfl f_Cb_16 rfl ?_
    refine mm_blk (pc' := 89) ok_Cb_fault 1 _ _ _ rfl ?_
    refine mm_cVE ok_Cb_fault (As := [.int (nI i)]) rfl k_Cb_fault_56 (cp_3 w) rfl rfl rfl (Nat.le_of_ble_eq_true rfl) (c_getN w hi) ?_
    refine mm_cast ok_Cb_fault (cp_net w hi) cc_Cb_71 rfl ?_
    refine mm_blk (pc' := 96) ok_Cb_fault 1 _ _ _ rfl ?_
    refine mm_cVE ok_Cb_fault (As := [.ref (K (20 + i)), .int k]) rfl k_Cb_fault_86 (cp_net w hj) rfl rfl rfl (Nat.le_of_ble_eq_true rfl) (c_Nt_breakWith w hj hi hij k) ?_
    exact mm_vret ok_Cb_fault rfl rfl ⟨rfl, rfl⟩
end CB5
end
section
/-! the class: device, net, a new bench -/
def c_badD (b id cl : Int32) : Prop := b < 2 ∨ 4 < b ∨ cl < 1 ∨ ¬ cl ≤ 6 ∨ (id &&& 1) = 0 ∨ id = -1
def dv_new (b i c dr : Int32) : Nat → Int32 := fun k => if k = 0 then b else if k = 1 then i else if k = 2 then c else if k = 3 then dr &&& (1 <<< (c &&& 31) - 1) else if k = 7 then 1 else 0
def c_dev (S : cS) (b id cl dr : Int32) : cS := c_restart (c_devA S (dv_new b id cl dr))
def nt_new (i j : Int32) : Nat → Int32 := fun k => if k = 1 then i else if k = 3 then j else if k = 4 then -1 else 0
def c_drv (S : cS) (i : Nat) (c : Int32) : Prop := (mm_ushr (c_D S i 3) c &&& 1) = 1
def c_wrd4 (S : cS) (i : Nat) (c : Int32) : Prop := (mm_ushr (c_D S i 4) c &&& 1) = 1
def c_wire (S : cS) (i : Nat) (c : Int32) : cS := s_D S i (upd (c_D S i) 4 (c_D S i 4 ||| 1 <<< (c &&& 31)))
def c_net (S : cS) (f : Nat) (fc : Int32) (t : Nat) (tc : Int32) : cS := s_Z (c_netA (c_wire (c_wire S f fc) t tc) (f, t, none) (nt_new fc tc)) 0 7 0
def c_new : cS := ((0, 0), fun _ _ => 0, fun _ _ => 0, fun _ => (0, 0, none), fun _ _ => 0)
section CB6
variable {G : mm_G} {K : Nat → Nat} {S : cS} {h : mm_Hp}
theorem ca_D : mm_in (.castable "ChainBench$Device" "java/lang/Object") = true := by decide +kernel
theorem ca_N : mm_in (.castable "ChainBench$Net" "java/lang/Object") = true := by decide +kernel
theorem upD_keep {f : (Nat → Int32) → Nat → Int32} : ∀ (n i : Nat) (S : cS), c_same S (up (fun i S => s_D S i (f (c_D S i))) n i S) ∧ c_Z (up (fun i S => s_D S i (f (c_D S i))) n i S) = c_Z S := by
  intro n
  induction n with
  | zero => intro i S; exact ⟨⟨rfl, rfl, rfl⟩, rfl⟩
  | succ n ih =>
    intro i S
    obtain ⟨⟨a1, a2, a3⟩, a4⟩ := ih (i + 1) (s_D S i (f (c_D S i)))
    exact ⟨⟨a1, a2, a3⟩, a4⟩
theorem restart_keep (S : cS) : c_same S (c_restart S) := by
  obtain ⟨⟨a1, a2, a3⟩, -⟩ := upD_keep (f := fun d => upd (upd d 5 0) 6 0) (c_nd S) 0 (c_ent S 0)
  obtain ⟨⟨b1, b2, b3⟩, -⟩ := ent_keep S 0
  exact ⟨a1.trans b1, a2.trans b2, a3.trans b3⟩
theorem restart_wf (w : c_wf G K S) : c_wf G K (c_restart S) := c_wf_same w (restart_keep S).1 (restart_keep S).2.1

set_option maxHeartbeats 1000000 in
theorem c_Cb_device_x (w : c_wf G K S) {b id cl dr : Int32} (hb : c_badD b id cl) : mm_C G M_Cb_device [.ref (K 0), .int b, .int id, .int cl, .int dr] (CP K S h) 1 6 (mm_X xIA (CP K S h)) := by
  refine mm_C_of (by decide +kernel) rfl (Nat.le_of_ble_eq_true rfl) rfl ?_
  refine mm_blk (pc' := 2) ok_Cb_device 2 _ _ _ rfl ?_
  refine mm_ic_lt ok_Cb_device 21 rfl (by decide) (fun c2 => ?_) (fun c2 => ?_)
  · -- 21 t
    exact mm_V_wid (k1 := 1) (k2 := 6) (by omega) (by omega) (mm_throw (kc := 0) (ks := 0) ok_Cb_device rfl rfl rfl rfl x_Cb_30_32 rfl (by decide) (Nat.le_of_ble_eq_true rfl) ⟨rfl, rfl⟩)
  · -- 5 f
    refine mm_blk (pc' := 7) ok_Cb_device 2 _ _ _ rfl ?_
    refine mm_ic_gt ok_Cb_device 21 rfl (by decide) (fun c7 => ?_) (fun c7 => ?_)
    · -- 21 t
      exact mm_V_wid (k1 := 1) (k2 := 6) (by omega) (by omega) (mm_throw (kc := 0) (ks := 0) ok_Cb_device rfl rfl rfl rfl x_Cb_30_32 rfl (by decide) (Nat.le_of_ble_eq_true rfl) ⟨rfl, rfl⟩)
    · -- 10 f
      refine mm_blk (pc' := 12) ok_Cb_device 2 _ _ _ rfl ?_
      refine mm_ic_lt ok_Cb_device 21 rfl (by decide) (fun c12 => ?_) (fun c12 => ?_)
      · -- 21 t
        exact mm_V_wid (k1 := 1) (k2 := 6) (by omega) (by omega) (mm_throw (kc := 0) (ks := 0) ok_Cb_device rfl rfl rfl rfl x_Cb_30_32 rfl (by decide) (Nat.le_of_ble_eq_true rfl) ⟨rfl, rfl⟩)
      · -- 15 f
        refine mm_blk (pc' := 18) ok_Cb_device 2 _ _ _ rfl ?_
        refine mm_ic_le ok_Cb_device 29 rfl (by decide) (fun c18 => ?_) (fun c18 => ?_)
        · -- 29 t
          refine mm_blk (pc' := 32) ok_Cb_device 3 _ _ _ rfl ?_
          refine mm_if_eq ok_Cb_device 40 rfl (by decide) (fun c32 => ?_) (fun c32 => ?_)
          · -- 40 t
            exact mm_V_wid (k1 := 1) (k2 := 6) (by omega) (by omega) (mm_throw (kc := 0) (ks := 0) ok_Cb_device rfl rfl rfl rfl x_Cb_30_32 rfl (by decide) (Nat.le_of_ble_eq_true rfl) ⟨rfl, rfl⟩)
          · -- 35 f
            refine mm_blk (pc' := 37) ok_Cb_device 2 _ _ _ rfl ?_
            refine mm_ic_ne ok_Cb_device 48 rfl (by decide) (fun c => ?_) (fun c => ?_)
            · rcases hb with z | z | z | z | z | z <;> contradiction
            exact mm_V_wid (k1 := 1) (k2 := 6) (by omega) (by omega) (mm_throw (kc := 0) (ks := 0) ok_Cb_device rfl rfl rfl rfl x_Cb_30_32 rfl (by decide) (Nat.le_of_ble_eq_true rfl) ⟨rfl, rfl⟩)
        · -- 21 f
          exact mm_V_wid (k1 := 1) (k2 := 6) (by omega) (by omega) (mm_throw (kc := 0) (ks := 0) ok_Cb_device rfl rfl rfl rfl x_Cb_30_32 rfl (by decide) (Nat.le_of_ble_eq_true rfl) ⟨rfl, rfl⟩)
set_option maxHeartbeats 1000000 in
theorem c_Cb_device_y (w : c_wf G K S) {b id cl dr : Int32} (hb : ¬ c_badD b id cl) (hn : ¬ c_nd S < 4) : mm_C G M_Cb_device [.ref (K 0), .int b, .int id, .int cl, .int dr] (CP K S h) 1 6 (mm_X xIS (CP K S h)) := by
  refine mm_C_of (by decide +kernel) rfl (Nat.le_of_ble_eq_true rfl) rfl ?_
  refine mm_blk (pc' := 2) ok_Cb_device 2 _ _ _ rfl ?_
  refine mm_ic_lt ok_Cb_device 21 rfl (by decide) (fun c => ?_) (fun c => ?_)
  · exact absurd (Or.inl c) hb
  refine mm_blk (pc' := 7) ok_Cb_device 2 _ _ _ rfl ?_
  refine mm_ic_gt ok_Cb_device 21 rfl (by decide) (fun c => ?_) (fun c => ?_)
  · exact absurd (Or.inr (Or.inl c)) hb
  refine mm_blk (pc' := 12) ok_Cb_device 2 _ _ _ rfl ?_
  refine mm_ic_lt ok_Cb_device 21 rfl (by decide) (fun c => ?_) (fun c => ?_)
  · exact absurd (Or.inr (Or.inr (Or.inl c))) hb
  refine mm_blk (pc' := 18) ok_Cb_device 2 _ _ _ rfl ?_
  refine mm_ic_le ok_Cb_device 29 rfl (by decide) (fun c => ?_) (fun c => ?_)
  rotate_left
  · exact absurd (Or.inr (Or.inr (Or.inr (Or.inl c)))) hb
  refine mm_blk (pc' := 32) ok_Cb_device 3 _ _ _ rfl ?_
  refine mm_if_eq ok_Cb_device 40 rfl (by decide) (fun c => ?_) (fun c => ?_)
  · exact absurd (Or.inr (Or.inr (Or.inr (Or.inr (Or.inl c))))) hb
  refine mm_blk (pc' := 37) ok_Cb_device 2 _ _ _ rfl ?_
  refine mm_ic_ne ok_Cb_device 48 rfl (by decide) (fun c => ?_) (fun c => ?_)
  rotate_left
  · exact absurd (Or.inr (Or.inr (Or.inr (Or.inr (Or.inr c))))) hb
  refine mm_blk (pc' := 49) ok_Cb_device 1 _ _ _ rfl ?_
  refine mm_getf ok_Cb_device (cp_0 w) rfl f_Cb_12 rfl ?_
  refine mm_cVE ok_Cb_device (As := []) rfl k_Cb_device_33 (cp_1 w) rfl rfl rfl (Nat.le_of_ble_eq_true rfl) (c_Al_size (cp_1 w)) ?_
  refine mm_blk (pc' := 56) ok_Cb_device 1 _ _ _ rfl ?_
  refine mm_ic_lt ok_Cb_device 67 rfl (by decide) (fun c => ?_) (fun c => ?_)
  · exact absurd ((nI_ltI (by have := w.1; omega) (by decide)).mp c) hn
  exact mm_V_wid (k1 := 1) (k2 := 6) (by omega) (by omega) (mm_throw (kc := 0) (ks := 0) ok_Cb_device rfl rfl rfl rfl x_Cb_37_39 rfl (by decide) (Nat.le_of_ble_eq_true rfl) ⟨rfl, rfl⟩)
set_option maxHeartbeats 1000000 in
theorem t_Cb_device (w : c_wf G K S) {m : Nat} (hm : c_nd S = m + 1) {b id cl dr : Int32} : mm_V G M_Cb_device 86 [(0, .ref (K 0)), (1, .int b), (2, .int id), (3, .int cl), (4, .int dr)] [.int 1] (CP K S h) 0 0 (mm_E (some (.int (nI m))) (CP K (c_restart S) h)) := by
  have w1 := restart_wf w
  have e1 : c_nd (c_restart S) = m + 1 := (congrArg Prod.fst (restart_keep S).1).trans hm
  refine mm_blk (pc' := 88) ok_Cb_device 2 _ _ _ rfl ?_
  refine mm_cVE ok_Cb_device (As := []) rfl k_Cb_device_49 (cp_0 w) rfl rfl rfl (Nat.le_of_ble_eq_true rfl) (c_Cb_restart w) ?_
  refine mm_blk (pc' := 92) ok_Cb_device 1 _ _ _ rfl ?_
  refine mm_getf ok_Cb_device (cp_0 w1) rfl f_Cb_12 rfl ?_
  refine mm_cVE ok_Cb_device (As := []) rfl k_Cb_device_33 (cp_1 w1) rfl rfl rfl (Nat.le_of_ble_eq_true rfl) (c_Al_size (cp_1 w1)) ?_
  refine mm_blk (pc' := 100) ok_Cb_device 2 _ _ _ rfl ?_
  rw [e1, nI_pred]
  exact mm_iret ok_Cb_device rfl rfl ⟨rfl, rfl⟩
set_option maxHeartbeats 2000000 in
theorem c_Cb_device_r (w : c_wf G K S) {b id cl dr : Int32} (hb : ¬ c_badD b id cl) (hn : c_nd S < 4) : mm_C G M_Cb_device [.ref (K 0), .int b, .int id, .int cl, .int dr] (CP K S h) 2 20 (fun o h' => ∃ K', c_wf G K' (c_dev S b id cl dr) ∧ (∀ n ∈ cdom (c_nd S) (c_nn S), K' n = K n) ∧ (∀ n ∈ cdom (c_nd S + 1) (c_nn S), n ∉ cdom (c_nd S) (c_nn S) → CP K S h (K' n) = none) ∧ o = .inl (some (.int (nI (c_nd S)))) ∧ h' = CP K' (c_dev S b id cl dr) h) := by
  refine mm_C_of (by decide +kernel) rfl (Nat.le_of_ble_eq_true rfl) rfl ?_
  refine mm_blk (pc' := 2) ok_Cb_device 2 _ _ _ rfl ?_
  refine mm_ic_lt ok_Cb_device 21 rfl (by decide) (fun c => ?_) (fun c => ?_)
  · exact absurd (Or.inl c) hb
  refine mm_blk (pc' := 7) ok_Cb_device 2 _ _ _ rfl ?_
  refine mm_ic_gt ok_Cb_device 21 rfl (by decide) (fun c => ?_) (fun c => ?_)
  · exact absurd (Or.inr (Or.inl c)) hb
  refine mm_blk (pc' := 12) ok_Cb_device 2 _ _ _ rfl ?_
  refine mm_ic_lt ok_Cb_device 21 rfl (by decide) (fun c => ?_) (fun c => ?_)
  · exact absurd (Or.inr (Or.inr (Or.inl c))) hb
  refine mm_blk (pc' := 18) ok_Cb_device 2 _ _ _ rfl ?_
  refine mm_ic_le ok_Cb_device 29 rfl (by decide) (fun c => ?_) (fun c => ?_)
  rotate_left
  · exact absurd (Or.inr (Or.inr (Or.inr (Or.inl c)))) hb
  refine mm_blk (pc' := 32) ok_Cb_device 3 _ _ _ rfl ?_
  refine mm_if_eq ok_Cb_device 40 rfl (by decide) (fun c => ?_) (fun c => ?_)
  · exact absurd (Or.inr (Or.inr (Or.inr (Or.inr (Or.inl c))))) hb
  refine mm_blk (pc' := 37) ok_Cb_device 2 _ _ _ rfl ?_
  refine mm_ic_ne ok_Cb_device 48 rfl (by decide) (fun c => ?_) (fun c => ?_)
  rotate_left
  · exact absurd (Or.inr (Or.inr (Or.inr (Or.inr (Or.inr c))))) hb
  refine mm_blk (pc' := 49) ok_Cb_device 1 _ _ _ rfl ?_
  refine mm_getf ok_Cb_device (cp_0 w) rfl f_Cb_12 rfl ?_
  refine mm_cVE ok_Cb_device (As := []) rfl k_Cb_device_33 (cp_1 w) rfl rfl rfl (Nat.le_of_ble_eq_true rfl) (c_Al_size (cp_1 w)) ?_
  refine mm_blk (pc' := 56) ok_Cb_device 1 _ _ _ rfl ?_
  refine mm_ic_lt ok_Cb_device 67 rfl (by decide) (fun c => ?_) (fun c => ?_)
  rotate_left
  · exact absurd (show nI (c_nd S) < nI 4 from nI_lt hn (by decide)) c
  refine mm_blk (pc' := 68) ok_Cb_device 1 _ _ _ rfl ?_
  refine mm_getf ok_Cb_device (cp_0 w) rfl f_Cb_12 rfl ?_
  refine mm_V_wid (k1 := 1 + 1) (k2 := 10 + 10) (by omega) (by omega) ?_
  refine mm_new (kc := 1) (ks := 10) ok_Cb_device n_Cb_40 rfl (fun q hq => ?_)
  refine mm_blk (pc' := 80) ok_Cb_device 5 _ _ _ rfl ?_
  refine mm_cIE ok_Cb_device (As := [.int b, .int id, .int cl, .int dr]) rfl k_Cb_device_42 rfl (Nat.le_of_ble_eq_true rfl) (c_Dv_init (mm_up_self _ _ _) b id cl dr) ?_
  rw [mm_up_up]
  have h1 : mm_up (CP K S h) q (oDv (dv_new b id cl dr)) (K 1) = some (oAl (c_Z S 3 0) (K 2) (c_nd S)) := (mm_up_ne _ _ (cp_ne hq (cp_1 w))).trans (cp_1 w)
  have hK1q : K 1 ≠ q := cp_ne hq (cp_1 w)
  by_cases hz : c_nd S = 0
  · have hK2 := w.2.2.2.1 hz
    rw [hK2, hz] at h1
    refine mm_callV (kc := 0) (ks := 0) (mc := 1) (ms := 10) ok_Cb_device (As := [.ref q]) rfl k_Cb_device_45 h1 rfl rfl rfl (Nat.le_of_ble_eq_true rfl) (c_Al_add_0 (mm_up_self _ _ _) rfl ca_D h1 (Ne.symm hK1q)) (fun E h' z => by obtain ⟨_, _, z, _⟩ := z; cases z) (fun v h' z => ?_)
    obtain ⟨q2, hq2, hv, rfl⟩ := z
    cases hv
    have hqq : q2 ≠ q := fun z => by rw [z, mm_up_self] at hq2; cases hq2
    rw [mm_up_ne _ _ hqq] at hq2
    have h12 : K 1 ≠ q2 := cp_ne hq2 (cp_1 w)
    obtain ⟨K', w', hK, hN, hX⟩ := grow_dev (X := mm_up (mm_up (mm_up (CP K S h) q (oDv (dv_new b id cl dr))) q2 (13, Value.ref q :: List.replicate 9 .null)) (K 1) (oAl (c_Z S 3 0 + 1) q2 1)) w hn (dv_new b id cl dr) hq (Or.inl ⟨hz, hq2, hqq⟩) (by rw [mm_up_self, hz]) (by rw [mm_up_ne _ _ (Ne.symm hK1q), mm_up_ne _ _ (Ne.symm hqq), mm_up_self]) (fun K' _ hk => by
      rw [mm_up_ne _ _ (Ne.symm h12), mm_up_self, hz]
      rw [hz] at hk
      unfold oAr
      rw [← hk]; rfl) (fun b0 b1 b2 b3 => by rw [mm_up_ne _ _ b1, mm_up_ne _ _ b3, mm_up_ne _ _ b2])
    refine mm_V_heap hX ?_
    rw [← hK 0 (cd_fix (by simp))]
    exact mm_V_wk (fun o h' z => ⟨K', restart_wf w', hK, hN, z.1, z.2⟩) (t_Cb_device w' (m := c_nd S) rfl)
  · have h2 : mm_up (CP K S h) q (oDv (dv_new b id cl dr)) (K 2) = some (oAr K 10 (c_nd S)) := (mm_up_ne _ _ (cp_ne hq (cp_2 w (by omega)))).trans (cp_2 w (by omega))
    have hbq : mm_up (CP K S h) q (oDv (dv_new b id cl dr)) q = some (oDv (dv_new b id cl dr)) := mm_up_self _ _ _
    refine mm_V_wid (k1 := 0) (k2 := 0) (by omega) (by omega) ?_
    refine mm_cVE ok_Cb_device (As := [.ref q]) rfl k_Cb_device_45 h1 rfl rfl rfl (Nat.le_of_ble_eq_true rfl) (c_Al_add_1 (ci := 1) hbq rfl ca_D h1 h2 (by rw [List.length_map, List.length_range]) (by omega) (Ne.symm hK1q)) ?_
    have hK2q : K 2 ≠ q := cp_ne hq (cp_2 w (by omega))
    have h12 : K 1 ≠ K 2 := fun z => absurd (w.2.2.1 1 (cd_fix (by simp)) 2 (cd_2 (by omega)) z) (by decide)
    obtain ⟨K', w', hK, hN, hX⟩ := grow_dev (X := mm_up (mm_up (mm_up (CP K S h) q (oDv (dv_new b id cl dr))) (K 2) (13, ((List.range 10).map (fun i => if i < c_nd S then Value.ref (K (10 + i)) else .null)).set (c_nd S) (.ref q))) (K 1) (oAl (c_Z S 3 0 + 1) (K 2) (c_nd S + 1))) w hn (dv_new b id cl dr) hq (Or.inr ⟨by omega, rfl⟩) (by rw [mm_up_self]) (by rw [mm_up_ne _ _ (Ne.symm hK1q), mm_up_ne _ _ (Ne.symm hK2q), mm_up_self]) (fun K' hko hk => by
      rw [mm_up_ne _ _ (Ne.symm h12), mm_up_self, oAr_set (by omega) hko hk]; rfl) (fun b0 b1 b2 b3 => by rw [mm_up_ne _ _ b1, mm_up_ne _ _ b3, mm_up_ne _ _ b2])
    refine mm_V_heap hX ?_
    rw [← hK 0 (cd_fix (by simp))]
    exact mm_V_wk (fun o h' z => ⟨K', restart_wf w', hK, hN, z.1, z.2⟩) (t_Cb_device w' (m := c_nd S) rfl)
set_option maxHeartbeats 1000000 in
theorem c_Cb_net_x (w : c_wf G K S) {x c1 y c2 : Int32} (hx : ¬ isC S x c1) : mm_C G M_Cb_net [.ref (K 0), .int x, .int c1, .int y, .int c2] (CP K S h) 1 6 (mm_X xIA (CP K S h)) := by
  refine mm_C_of (by decide +kernel) rfl (Nat.le_of_ble_eq_true rfl) rfl ?_
  refine mm_blk (pc' := 3) ok_Cb_net 3 _ _ _ rfl ?_
  refine mm_cVE ok_Cb_net (As := [.int x, .int c1]) rfl k_Cb_net_52 (cp_0 w) rfl rfl rfl (Nat.le_of_ble_eq_true rfl) (c_Cb_isCell0 w hx) ?_
  refine mm_if_eq ok_Cb_net 19 rfl (by decide) (fun c => ?_) (fun c => ?_)
  rotate_left
  · exact absurd rfl c
  exact mm_V_wid (k1 := 1) (k2 := 6) (by omega) (by omega) (mm_throw (kc := 0) (ks := 0) ok_Cb_net rfl rfl rfl rfl x_Cb_30_32 rfl (by decide) (Nat.le_of_ble_eq_true rfl) ⟨rfl, rfl⟩)
set_option maxHeartbeats 1000000 in
theorem c_Cb_net_y (w : c_wf G K S) {x c1 y c2 : Int32} (hx : isC S x c1) (hy : ¬ isC S y c2) : mm_C G M_Cb_net [.ref (K 0), .int x, .int c1, .int y, .int c2] (CP K S h) 1 6 (mm_X xIA (CP K S h)) := by
  refine mm_C_of (by decide +kernel) rfl (Nat.le_of_ble_eq_true rfl) rfl ?_
  refine mm_blk (pc' := 3) ok_Cb_net 3 _ _ _ rfl ?_
  refine mm_cVE ok_Cb_net (As := [.int x, .int c1]) rfl k_Cb_net_52 (cp_0 w) rfl rfl rfl (Nat.le_of_ble_eq_true rfl) (c_Cb_isCell1 w hx) ?_
  refine mm_if_eq ok_Cb_net 19 rfl (by decide) (fun c => ?_) (fun c => ?_)
  · exact absurd c (by decide)
  refine mm_blk (pc' := 13) ok_Cb_net 3 _ _ _ rfl ?_
  refine mm_cVE ok_Cb_net (As := [.int y, .int c2]) rfl k_Cb_net_52 (cp_0 w) rfl rfl rfl (Nat.le_of_ble_eq_true rfl) (c_Cb_isCell0 w hy) ?_
  refine mm_if_ne ok_Cb_net 27 rfl (by decide) (fun c => ?_) (fun c => ?_)
  · exact absurd rfl c
  exact mm_V_wid (k1 := 1) (k2 := 6) (by omega) (by omega) (mm_throw (kc := 0) (ks := 0) ok_Cb_net rfl rfl rfl rfl x_Cb_30_32 rfl (by decide) (Nat.le_of_ble_eq_true rfl) ⟨rfl, rfl⟩)
set_option maxHeartbeats 1000000 in
theorem c_Cb_net_b (w : c_wf G K S) {i j : Nat} {c1 c2 : Int32} (hi : i < c_nd S) (hj : j < c_nd S) (hx : isC S (nI i) c1) (hy : isC S (nI j) c2) (hb : (¬ c_drv S i c1 ∨ c_drv S j c2 ∨ c_wrd4 S i c1 ∨ c_wrd4 S j c2)) : mm_C G M_Cb_net [.ref (K 0), .int (nI i), .int c1, .int (nI j), .int c2] (CP K S h) 1 6 (mm_X xIA (CP K S h)) := by
  refine mm_C_of (by decide +kernel) rfl (Nat.le_of_ble_eq_true rfl) rfl ?_
  refine mm_blk (pc' := 3) ok_Cb_net 3 _ _ _ rfl ?_
  refine mm_cVE ok_Cb_net (As := [.int (nI i), .int c1]) rfl k_Cb_net_52 (cp_0 w) rfl rfl rfl (Nat.le_of_ble_eq_true rfl) (c_Cb_isCell1 w hx) ?_
  refine mm_if_eq ok_Cb_net 19 rfl (by decide) (fun c => ?_) (fun c => ?_)
  · exact absurd c (by decide)
  refine mm_blk (pc' := 13) ok_Cb_net 3 _ _ _ rfl ?_
  refine mm_cVE ok_Cb_net (As := [.int (nI j), .int c2]) rfl k_Cb_net_52 (cp_0 w) rfl rfl rfl (Nat.le_of_ble_eq_true rfl) (c_Cb_isCell1 w hy) ?_
  refine mm_if_ne ok_Cb_net 27 rfl (by decide) (fun c => ?_) (fun c => ?_)
  rotate_left
  · exact absurd c (by decide)
  refine mm_blk (pc' := 28) ok_Cb_net 1 _ _ _ rfl ?_
  refine mm_getf ok_Cb_net (cp_0 w) rfl f_Cb_12 rfl ?_
  refine mm_blk (pc' := 32) ok_Cb_net 1 _ _ _ rfl ?_
  refine mm_cVE ok_Cb_net (As := [.int (nI i)]) rfl k_Cb_net_56 (cp_1 w) rfl rfl rfl (Nat.le_of_ble_eq_true rfl) (c_getD w hi) ?_
  refine mm_cast ok_Cb_net (cp_dev w hi) cc_Cb_40 rfl ?_
  refine mm_blk (pc' := 41) ok_Cb_net 2 _ _ _ rfl ?_
  refine mm_getf ok_Cb_net (cp_0 w) rfl f_Cb_12 rfl ?_
  refine mm_blk (pc' := 45) ok_Cb_net 1 _ _ _ rfl ?_
  refine mm_cVE ok_Cb_net (As := [.int (nI j)]) rfl k_Cb_net_56 (cp_1 w) rfl rfl rfl (Nat.le_of_ble_eq_true rfl) (c_getD w hj) ?_
  refine mm_cast ok_Cb_net (cp_dev w hj) cc_Cb_40 rfl ?_
  refine mm_blk (pc' := 56) ok_Cb_net 3 _ _ _ rfl ?_
  refine mm_cVE ok_Cb_net (As := [.int c1]) rfl k_Cb_net_60 (cp_dev w hi) rfl rfl rfl (Nat.le_of_ble_eq_true rfl) (c_Dv_drives (cp_dev w hi) c1) ?_
  refine mm_if_eq ok_Cb_net 91 rfl (by decide) (fun c59 => ?_) (fun c59 => ?_)
  · -- 91 t
    exact mm_V_wid (k1 := 1) (k2 := 6) (by omega) (by omega) (mm_throw (kc := 0) (ks := 0) ok_Cb_net rfl rfl rfl rfl x_Cb_30_32 rfl (by decide) (Nat.le_of_ble_eq_true rfl) ⟨rfl, rfl⟩)
  · -- 62 f
    refine mm_blk (pc' := 66) ok_Cb_net 2 _ _ _ rfl ?_
    refine mm_cVE ok_Cb_net (As := [.int c2]) rfl k_Cb_net_60 (cp_dev w hj) rfl rfl rfl (Nat.le_of_ble_eq_true rfl) (c_Dv_drives (cp_dev w hj) c2) ?_
    refine mm_if_ne ok_Cb_net 91 rfl (by decide) (fun c69 => ?_) (fun c69 => ?_)
    · -- 91 t
      exact mm_V_wid (k1 := 1) (k2 := 6) (by omega) (by omega) (mm_throw (kc := 0) (ks := 0) ok_Cb_net rfl rfl rfl rfl x_Cb_30_32 rfl (by decide) (Nat.le_of_ble_eq_true rfl) ⟨rfl, rfl⟩)
    · -- 72 f
      refine mm_blk (pc' := 75) ok_Cb_net 2 _ _ _ rfl ?_
      refine mm_cVE ok_Cb_net (As := [.int c1]) rfl k_Cb_net_64 (cp_dev w hi) rfl rfl rfl (Nat.le_of_ble_eq_true rfl) (c_Dv_isWired (cp_dev w hi) c1) ?_
      refine mm_if_ne ok_Cb_net 91 rfl (by decide) (fun c78 => ?_) (fun c78 => ?_)
      · -- 91 t
        exact mm_V_wid (k1 := 1) (k2 := 6) (by omega) (by omega) (mm_throw (kc := 0) (ks := 0) ok_Cb_net rfl rfl rfl rfl x_Cb_30_32 rfl (by decide) (Nat.le_of_ble_eq_true rfl) ⟨rfl, rfl⟩)
      · -- 81 f
        refine mm_blk (pc' := 85) ok_Cb_net 2 _ _ _ rfl ?_
        refine mm_cVE ok_Cb_net (As := [.int c2]) rfl k_Cb_net_64 (cp_dev w hj) rfl rfl rfl (Nat.le_of_ble_eq_true rfl) (c_Dv_isWired (cp_dev w hj) c2) ?_
        refine mm_if_eq ok_Cb_net 99 rfl (by decide) (fun c88 => ?_) (fun c88 => ?_)
        · -- 99 t
          exfalso
          unfold c_drv c_wrd4 at hb
          rcases hb with z | z | z | z
          · rw [if_neg z] at c59; exact c59 rfl
          · rw [if_pos z] at c69; exact absurd c69 (by decide)
          · rw [if_pos z] at c78; exact absurd c78 (by decide)
          · rw [if_pos z] at c88; exact absurd c88 (by decide)
        · -- 91 f
          exact mm_V_wid (k1 := 1) (k2 := 6) (by omega) (by omega) (mm_throw (kc := 0) (ks := 0) ok_Cb_net rfl rfl rfl rfl x_Cb_30_32 rfl (by decide) (Nat.le_of_ble_eq_true rfl) ⟨rfl, rfl⟩)
set_option maxHeartbeats 1000000 in
theorem c_Cb_net_f (w : c_wf G K S) {i j : Nat} {c1 c2 : Int32} (hi : i < c_nd S) (hj : j < c_nd S) (hx : isC S (nI i) c1) (hy : isC S (nI j) c2) (d1 : c_drv S i c1) (d2 : ¬ c_drv S j c2) (d3 : ¬ c_wrd4 S i c1) (d4 : ¬ c_wrd4 S j c2) (hn : ¬ c_nn S < 8) : mm_C G M_Cb_net [.ref (K 0), .int (nI i), .int c1, .int (nI j), .int c2] (CP K S h) 1 6 (mm_X xIS (CP K S h)) := by
  refine mm_C_of (by decide +kernel) rfl (Nat.le_of_ble_eq_true rfl) rfl ?_
  refine mm_blk (pc' := 3) ok_Cb_net 3 _ _ _ rfl ?_
  refine mm_cVE ok_Cb_net (As := [.int (nI i), .int c1]) rfl k_Cb_net_52 (cp_0 w) rfl rfl rfl (Nat.le_of_ble_eq_true rfl) (c_Cb_isCell1 w hx) ?_
  refine mm_if_eq ok_Cb_net 19 rfl (by decide) (fun c => ?_) (fun c => ?_)
  · exact absurd c (by decide)
  refine mm_blk (pc' := 13) ok_Cb_net 3 _ _ _ rfl ?_
  refine mm_cVE ok_Cb_net (As := [.int (nI j), .int c2]) rfl k_Cb_net_52 (cp_0 w) rfl rfl rfl (Nat.le_of_ble_eq_true rfl) (c_Cb_isCell1 w hy) ?_
  refine mm_if_ne ok_Cb_net 27 rfl (by decide) (fun c => ?_) (fun c => ?_)
  rotate_left
  · exact absurd c (by decide)
  refine mm_blk (pc' := 28) ok_Cb_net 1 _ _ _ rfl ?_
  refine mm_getf ok_Cb_net (cp_0 w) rfl f_Cb_12 rfl ?_
  refine mm_blk (pc' := 32) ok_Cb_net 1 _ _ _ rfl ?_
  refine mm_cVE ok_Cb_net (As := [.int (nI i)]) rfl k_Cb_net_56 (cp_1 w) rfl rfl rfl (Nat.le_of_ble_eq_true rfl) (c_getD w hi) ?_
  refine mm_cast ok_Cb_net (cp_dev w hi) cc_Cb_40 rfl ?_
  refine mm_blk (pc' := 41) ok_Cb_net 2 _ _ _ rfl ?_
  refine mm_getf ok_Cb_net (cp_0 w) rfl f_Cb_12 rfl ?_
  refine mm_blk (pc' := 45) ok_Cb_net 1 _ _ _ rfl ?_
  refine mm_cVE ok_Cb_net (As := [.int (nI j)]) rfl k_Cb_net_56 (cp_1 w) rfl rfl rfl (Nat.le_of_ble_eq_true rfl) (c_getD w hj) ?_
  refine mm_cast ok_Cb_net (cp_dev w hj) cc_Cb_40 rfl ?_
  refine mm_blk (pc' := 56) ok_Cb_net 3 _ _ _ rfl ?_
  refine mm_cVE ok_Cb_net (As := [.int c1]) rfl k_Cb_net_60 (cp_dev w hi) rfl rfl rfl (Nat.le_of_ble_eq_true rfl) (c_Dv_drives (cp_dev w hi) c1) ?_
  refine mm_if_eq ok_Cb_net 91 rfl (by decide) (fun c => ?_) (fun c => ?_)
  · rw [show (if (mm_ushr (c_D S i 3) c1 &&& 1) = 1 then (1 : Int32) else 0) = 1 from if_pos d1] at c; exact absurd c (by decide)
  refine mm_blk (pc' := 66) ok_Cb_net 2 _ _ _ rfl ?_
  refine mm_cVE ok_Cb_net (As := [.int c2]) rfl k_Cb_net_60 (cp_dev w hj) rfl rfl rfl (Nat.le_of_ble_eq_true rfl) (c_Dv_drives (cp_dev w hj) c2) ?_
  refine mm_if_ne ok_Cb_net 91 rfl (by decide) (fun c => ?_) (fun c => ?_)
  · exact absurd (if_neg d2) c
  refine mm_blk (pc' := 75) ok_Cb_net 2 _ _ _ rfl ?_
  refine mm_cVE ok_Cb_net (As := [.int c1]) rfl k_Cb_net_64 (cp_dev w hi) rfl rfl rfl (Nat.le_of_ble_eq_true rfl) (c_Dv_isWired (cp_dev w hi) c1) ?_
  refine mm_if_ne ok_Cb_net 91 rfl (by decide) (fun c => ?_) (fun c => ?_)
  · exact absurd (if_neg d3) c
  refine mm_blk (pc' := 85) ok_Cb_net 2 _ _ _ rfl ?_
  refine mm_cVE ok_Cb_net (As := [.int c2]) rfl k_Cb_net_64 (cp_dev w hj) rfl rfl rfl (Nat.le_of_ble_eq_true rfl) (c_Dv_isWired (cp_dev w hj) c2) ?_
  refine mm_if_eq ok_Cb_net 99 rfl (by decide) (fun c => ?_) (fun c => ?_)
  rotate_left
  · exact absurd (if_neg d4) c
  refine mm_blk (pc' := 100) ok_Cb_net 1 _ _ _ rfl ?_
  refine mm_getf ok_Cb_net (cp_0 w) rfl f_Cb_16 rfl ?_
  refine mm_cVE ok_Cb_net (As := []) rfl k_Cb_net_33 (cp_3 w) rfl rfl rfl (Nat.le_of_ble_eq_true rfl) (c_Al_size (cp_3 w)) ?_
  refine mm_blk (pc' := 108) ok_Cb_net 1 _ _ _ rfl ?_
  refine mm_ic_lt ok_Cb_net 119 rfl (by decide) (fun c => ?_) (fun c => ?_)
  · exact absurd ((nI_ltI (by have := w.2.1; omega) (by decide)).mp c) hn
  exact mm_V_wid (k1 := 1) (k2 := 6) (by omega) (by omega) (mm_throw (kc := 0) (ks := 0) ok_Cb_net rfl rfl rfl rfl x_Cb_37_39 rfl (by decide) (Nat.le_of_ble_eq_true rfl) ⟨rfl, rfl⟩)
set_option maxHeartbeats 1000000 in
theorem t_Cb_net (w : c_wf G K S) {m i j : Nat} {c1 c2 : Int32} (hm : c_nn S = m + 1) {a5 a6 : Nat} : mm_V G M_Cb_net 153 [(0, .ref (K 0)), (1, .int (nI i)), (2, .int c1), (3, .int (nI j)), (4, .int c2), (5, .ref a5), (6, .ref a6)] [.int 1] (CP K S h) 0 0 (mm_E (some (.int (nI m))) (CP K (s_Z S 0 7 0) h)) := by
  refine mm_blk (pc' := 156) ok_Cb_net 3 _ _ _ rfl ?_
  refine mm_putf ok_Cb_net (cp_0 w) rfl f_Cb_76 (Or.inl rfl) mm_fit_Z0 ?_
  refine mm_V_heap (cu_0 w 7 0) ?_
  refine mm_blk (pc' := 160) ok_Cb_net 1 _ _ _ rfl ?_
  refine mm_getf ok_Cb_net (cp_0 (S := s_Z S 0 7 0) w) rfl f_Cb_16 rfl ?_
  refine mm_cVE ok_Cb_net (As := []) rfl k_Cb_net_33 (cp_3 (S := s_Z S 0 7 0) w) rfl rfl rfl (Nat.le_of_ble_eq_true rfl) (c_Al_size (cp_3 (S := s_Z S 0 7 0) w)) ?_
  refine mm_blk (pc' := 168) ok_Cb_net 2 _ _ _ rfl ?_
  rw [show c_nn (s_Z S 0 7 0) = m + 1 from hm, nI_pred]
  exact mm_iret ok_Cb_net rfl rfl ⟨rfl, rfl⟩
end CB6
end
section
/-! the class: a net added; a new bench; find; test -/
theorem pl_none {dom : List Nat} {K : Nat → Nat} {f : Nat → mm_Ob} {h : mm_Hp} {b : Nat} (e : mm_pl dom K f h b = none) : h b = none := by
  unfold mm_pl at e
  split at e
  · cases e
  · exact e
def c_fix (S S' : cS) : Prop := S'.1 = S.1 ∧ c_R S' = c_R S ∧ (∀ i f, f ≤ 4 → c_D S' i f = c_D S i f) ∧ ∀ j f, f ≠ 6 → c_N S' j f = c_N S j f
theorem fix_rf (S : cS) : c_fix S S := ⟨rfl, rfl, fun _ _ _ => rfl, fun _ _ _ => rfl⟩
theorem fix_tr {S T U : cS} (a : c_fix S T) (b : c_fix T U) : c_fix S U := ⟨b.1.trans a.1, b.2.1.trans a.2.1, fun i f hf => (b.2.2.1 i f hf).trans (a.2.2.1 i f hf), fun j f hf => (b.2.2.2 j f hf).trans (a.2.2.2 j f hf)⟩
theorem fix_sZ (S : cS) (i k : Nat) (x : Int32) : c_fix S (s_Z S i k x) := ⟨rfl, rfl, fun _ _ _ => rfl, fun _ _ _ => rfl⟩
theorem fix_sD (S : cS) (i : Nat) {d : Nat → Int32} (hd : ∀ f, f ≤ 4 → d f = c_D S i f) : c_fix S (s_D S i d) := by
  refine ⟨rfl, rfl, fun j f hf => ?_, fun _ _ _ => rfl⟩
  show va_up (c_D S) i d j f = c_D S j f
  by_cases e : j = i
  · rw [e, va_up_self, hd f hf]
  · rw [va_up_ne _ _ e]
theorem fix_sN (S : cS) (i : Nat) (x : Int32) : c_fix S (s_N S i (upd (c_N S i) 6 x)) := by
  refine ⟨rfl, rfl, fun _ _ _ => rfl, fun j f hf => ?_⟩
  show va_up (c_N S) i (upd (c_N S i) 6 x) j f = c_N S j f
  by_cases e : j = i
  · rw [e, va_up_self]; exact pk_un hf
  · rw [va_up_ne _ _ e]
theorem fix_up {f : Nat → cS → cS} (hf : ∀ i S, c_fix S (f i S)) : ∀ (n i : Nat) (S : cS), c_fix S (up f n i S) := by
  intro n
  induction n with
  | zero => intro i S; exact fix_rf S
  | succ n ih => intro i S; exact fix_tr (hf i S) (ih _ _)
theorem fix_dsb (p : Int32) (i : Nat) (x : Int32 × cS) : c_fix x.2 (c_dsb p i x).2 := by
  unfold c_dsb
  repeat' split
  all_goals first | exact fix_rf _ | exact fix_sD _ _ (fun f hf => pk_un (by omega))
theorem fix_run (p : Int32) : ∀ (n i : Nat) (x : Int32 × cS), c_fix x.2 (up (c_dsb p) n i x).2 := by
  intro n
  induction n with
  | zero => intro i x; exact fix_rf _
  | succ n ih => intro i x; exact fix_tr (fix_dsb p i x) (ih _ _)
theorem fix_ent (S : cS) (x : Int32) : c_fix S (c_ent S x) := by
  unfold c_ent
  split
  · exact fix_tr (fix_sZ S 0 2 x) (fix_up (fun i S => fix_sD S i (fun f hf => pk_un (by omega))) _ _ _)
  · exact fix_sZ _ _ _ _
theorem fix_stp (S : cS) (a b : Int32) : c_fix S (c_stp S a b) := fix_tr (fix_tr (fix_run (c_Z S 0 2) (c_nd S) 0 (b, S)) (fix_ent _ _)) (fix_sZ _ _ _ _)
theorem fix_scan (ins : Int32) (n : Nat) (S : cS) : c_fix S (c_scan ins n S) := by
  have h1 : ∀ S, c_fix S (c_lv2 (c_scl n n 0 (c_in3 S))) := fun S => fix_tr (fix_tr (fix_tr (fix_stp S 1 0) (fix_stp _ 0 0)) (fix_stp _ 0 0)) (fix_tr (fix_up (fun i S => fix_tr (fix_stp S _ _) (fix_sZ _ _ _ _)) _ _ _) (fix_tr (fix_stp _ 1 0) (fix_stp _ 0 0)))
  unfold c_scan
  split
  · exact h1 S
  · exact fix_tr (fix_stp S 1 0) (h1 _)
theorem fix_go5 (S : cS) : c_fix S (c_go5 S) := fix_tr (fix_up (fun _ S => fix_stp S 1 0) 5 0 S) (fix_stp _ 0 0)
theorem fix_forget (S : cS) : c_fix S (c_forget S) := fix_up (fun i S => fix_sN S i _) _ _ _
theorem fix_note (S : cS) (r came : Int32) : c_fix S (c_note S r came) := fix_up (fun i S => fix_sN S i _) _ _ _
theorem fix_wf {G : mm_G} {K : Nat → Nat} {S S' : cS} (hf : c_fix S S') (w : c_wf G K S) : c_wf G K S' := c_wf_same w hf.1 hf.2.1
theorem up_congr {α : Type} {f g : Nat → α → α} (h : ∀ i a, f i a = g i a) (n i : Nat) (a : α) : up f n i a = up g n i a := by rw [show f = g from funext fun i => funext fun a => h i a]
theorem fix_sumC {S S' : cS} (hf : c_fix S S') : c_sumC S' = c_sumC S := by
  unfold c_sumC
  rw [show c_nd S' = c_nd S from congrArg Prod.fst hf.1]
  exact up_congr (fun i a => by rw [hf.2.2.1 i 2 (by omega)]) _ _ _
theorem fix_sumB {S S' : cS} (hf : c_fix S S') : c_sumB S' = c_sumB S := by
  unfold c_sumB
  rw [show c_nd S' = c_nd S from congrArg Prod.fst hf.1]
  exact up_congr (fun i a => by rw [hf.2.2.1 i 0 (by omega)]) _ _ _
theorem note_Z (S : cS) (r came : Int32) : c_Z (c_note S r came) = c_Z S := by
  unfold c_note
  have : ∀ (n i : Nat) (S : cS), c_Z (up (fun j S => s_N S j (upd (c_N S j) 6 (c_N S j 6 ||| ((mm_ushr came (c_place S (c_R S j).2.1 (c_nd S) (c_N S j 3)) &&& 1) <<< (r &&& 31))))) n i S) = c_Z S := by
    intro n
    induction n with
    | zero => intro i S; rfl
    | succ n ih => intro i S; exact (ih _ _).trans rfl
  exact this _ _ _
theorem forget_Z (S : cS) : c_Z (c_forget S) = c_Z S := by
  unfold c_forget
  have : ∀ (n i : Nat) (S : cS), c_Z (up (fun j S => s_N S j (upd (c_N S j) 6 0)) n i S) = c_Z S := by
    intro n
    induction n with
    | zero => intro i S; rfl
    | succ n ih => intro i S; exact (ih _ _).trans rfl
  exact this _ _ _
theorem ps_Z {S S' : cS} (h : c_Z S' = c_Z S) (hp : c_ps S) : c_ps S' := by
  obtain ⟨k, hk, e⟩ := hp
  exact ⟨k, hk, by rw [h]; exact e⟩
def c_fill (S : cS) : cS := up (fun i S => s_Z S 1 i (-1)) 5 0 S
def c_cpy (fc : Nat) (n i : Nat) (S : cS) : cS := up (fun k S => s_Z S 2 k (c_Z S 1 (fc - 1 - k))) n i S
def c_fsc (S : cS) : cS := c_scan 0 160 (c_fill (c_go5 S))
def c_find (S : cS) : cS := c_cpy (c_words (c_fsc S) 4 0) (c_words (c_fsc S) 4 0) 0 (s_Z (c_fsc S) 0 6 (nI (c_words (c_fsc S) 4 0)))
def c_half (cc : Nat) (p : Int32) (S : cS) : cS := c_scan 0 cc (s_Z S 1 0 p)
def c_tbody (cc r : Nat) (S : cS) : cS := c_note (c_half cc (c_pat S (nI r)) (c_half cc (c_pat S (nI r)) S)) (nI r) (c_Z (c_half cc (c_pat S (nI r)) (c_half cc (c_pat S (nI r)) S)) 1 0)
def c_tl (cc : Nat) : Nat → Nat → cS → cS
  | 0, _, S => S
  | n + 1, r, S => if 2 ^ r ≤ c_nn S + 1 then c_tl cc n (r + 1) (c_tbody cc r S) else S
def c_test (cb cc : Nat) (S : cS) : cS := s_Z (c_tl cc 4 0 (c_forget (c_scan 1 cb (s_Z (c_go5 S) 1 0 0)))) 0 7 1
section CB7
variable {G : mm_G} {K : Nat → Nat} {S : cS} {h : mm_Hp}
theorem words_le (S : cS) : ∀ n i : Nat, c_words S n i ≤ i + n := by
  intro n
  induction n with
  | zero => intro i; exact Nat.le_refl _
  | succ n ih =>
    intro i
    unfold c_words
    split
    · omega
    · have := ih (i + 1); omega
theorem half_ok (cc : Nat) (p : Int32) (w : c_ok G K S) : c_ok G K (c_half cc p S) := scan_ok 0 cc ⟨w.1, sZ1_ps w.2 1 0 p (by decide)⟩
theorem tbody_ok (cc r : Nat) (w : c_ok G K S) : c_ok G K (c_tbody cc r S) := by
  have w1 := half_ok cc (c_pat S (nI r)) (half_ok cc (c_pat S (nI r)) w)
  unfold c_tbody
  generalize c_half cc (c_pat S (nI r)) (c_half cc (c_pat S (nI r)) S) = T at w1 ⊢
  exact ⟨fix_wf (fix_note T _ _) w1.1, ps_Z (note_Z T _ _) w1.2⟩
theorem fix_half (cc : Nat) (p : Int32) (S : cS) : c_fix S (c_half cc p S) := fix_tr (fix_sZ S 1 0 p) (fix_scan 0 cc _)
theorem fix_tbody (cc r : Nat) (S : cS) : c_fix S (c_tbody cc r S) := fix_tr (fix_tr (fix_half _ _ S) (fix_half _ _ _)) (fix_note _ _ _)
theorem fill_ok (w : c_ok G K S) : c_ok G K (c_fill S) := up_ok (P := c_ok G K) (fun i S w => ⟨w.1, sZ1_ps w.2 1 i (-1) (by decide)⟩) 5 0 S w

set_option maxHeartbeats 2000000 in
theorem t2_Cb_net (w : c_wf G K S) (hn : c_nn S < 8) {i j : Nat} {c1 c2 : Int32} (hi : i < c_nd S) (hj : j < c_nd S) : mm_V G M_Cb_net 132 [(0, .ref (K 0)), (1, .int (nI i)), (2, .int c1), (3, .int (nI j)), (4, .int c2), (5, .ref (K (10 + i))), (6, .ref (K (10 + j)))] [] (CP K S h) 2 20 (fun o h' => ∃ K', c_wf G K' (c_netA S (i, j, none) (nt_new c1 c2)) ∧ (∀ n ∈ cdom (c_nd S) (c_nn S), K' n = K n) ∧ (∀ n ∈ cdom (c_nd S) (c_nn S + 1), n ∉ cdom (c_nd S) (c_nn S) → h (K' n) = none) ∧ o = .inl (some (.int (nI (c_nn S)))) ∧ h' = CP K' (s_Z (c_netA S (i, j, none) (nt_new c1 c2)) 0 7 0) h) := by
  refine mm_blk (pc' := 133) ok_Cb_net 1 _ _ _ rfl ?_
  refine mm_getf ok_Cb_net (cp_0 w) rfl f_Cb_16 rfl ?_
  refine mm_V_wid (k1 := 1 + 1) (k2 := 7 + 10) (by omega) (by omega) ?_
  refine mm_new (kc := 1) (ks := 10) ok_Cb_net n_Cb_71 rfl (fun q hq => ?_)
  refine mm_blk (pc' := 147) ok_Cb_net 5 _ _ _ rfl ?_
  refine mm_cIE ok_Cb_net (As := [.ref (K (10 + i)), .int c1, .ref (K (10 + j)), .int c2]) rfl k_Cb_net_73 rfl (Nat.le_of_ble_eq_true rfl) (c_Nt_init (mm_up_self _ _ _) (K (10 + i)) (K (10 + j)) c1 c2) ?_
  rw [mm_up_up]
  have h1 : mm_up (CP K S h) q (oNt (K (10 + i)) (K (10 + j)) none (nt_new c1 c2)) (K 3) = some (oAl (c_Z S 3 1) (K 4) (c_nn S)) := (mm_up_ne _ _ (cp_ne hq (cp_3 w))).trans (cp_3 w)
  have hK1q : K 3 ≠ q := cp_ne hq (cp_3 w)
  have fin : ∀ (X : mm_Hp), (∃ K', c_wf G K' (c_netA S (i, j, none) (nt_new c1 c2)) ∧ (∀ n ∈ cdom (c_nd S) (c_nn S), K' n = K n) ∧ (∀ n ∈ cdom (c_nd S) (c_nn S + 1), n ∉ cdom (c_nd S) (c_nn S) → CP K S h (K' n) = none) ∧ X = CP K' (c_netA S (i, j, none) (nt_new c1 c2)) h) → mm_V G M_Cb_net 153 [(0, .ref (K 0)), (1, .int (nI i)), (2, .int c1), (3, .int (nI j)), (4, .int c2), (5, .ref (K (10 + i))), (6, .ref (K (10 + j)))] [.int 1] X 0 0 (fun o h' => ∃ K', c_wf G K' (c_netA S (i, j, none) (nt_new c1 c2)) ∧ (∀ n ∈ cdom (c_nd S) (c_nn S), K' n = K n) ∧ (∀ n ∈ cdom (c_nd S) (c_nn S + 1), n ∉ cdom (c_nd S) (c_nn S) → h (K' n) = none) ∧ o = .inl (some (.int (nI (c_nn S)))) ∧ h' = CP K' (s_Z (c_netA S (i, j, none) (nt_new c1 c2)) 0 7 0) h) := by
    rintro X ⟨K', w', hK, hN, hX⟩
    refine mm_V_heap hX ?_
    rw [← hK 0 (cd_fix (by simp))]
    exact mm_V_wk (fun o h' z => ⟨K', w', hK, fun n h1 h2 => pl_none (hN n h1 h2), z.1, z.2⟩) (t_Cb_net w' (m := c_nn S) rfl)
  by_cases hz : c_nn S = 0
  · have hK2 := w.2.2.2.2.1 hz
    rw [hK2, hz] at h1
    refine mm_callV (kc := 0) (ks := 0) (mc := 1) (ms := 10) ok_Cb_net (As := [.ref q]) rfl k_Cb_net_45 h1 rfl rfl rfl (Nat.le_of_ble_eq_true rfl) (c_Al_add_0 (mm_up_self _ _ _) rfl ca_N h1 (Ne.symm hK1q)) (fun E h' z => by obtain ⟨_, _, z, _⟩ := z; cases z) (fun v h' z => ?_)
    obtain ⟨q2, hq2, hv, rfl⟩ := z
    cases hv
    have hqq : q2 ≠ q := fun z => by rw [z, mm_up_self] at hq2; cases hq2
    rw [mm_up_ne _ _ hqq] at hq2
    have h12 : K 3 ≠ q2 := cp_ne hq2 (cp_3 w)
    refine fin _ (grow_net (X := mm_up (mm_up (mm_up (CP K S h) q (oNt (K (10 + i)) (K (10 + j)) none (nt_new c1 c2))) q2 (13, Value.ref q :: List.replicate 9 .null)) (K 3) (oAl (c_Z S 3 1 + 1) q2 1)) w hn i j hi hj (nt_new c1 c2) hq (Or.inl ⟨hz, hq2, hqq⟩) (by rw [mm_up_self, hz]) (by rw [mm_up_ne _ _ (Ne.symm hK1q), mm_up_ne _ _ (Ne.symm hqq), mm_up_self]) (fun K' _ hk => by
      rw [mm_up_ne _ _ (Ne.symm h12), mm_up_self, hz]
      rw [hz] at hk
      unfold oAr
      rw [← hk]; rfl) (fun b0 b1 b2 b3 => by rw [mm_up_ne _ _ b1, mm_up_ne _ _ b3, mm_up_ne _ _ b2]))
  · have h2 : mm_up (CP K S h) q (oNt (K (10 + i)) (K (10 + j)) none (nt_new c1 c2)) (K 4) = some (oAr K 20 (c_nn S)) := (mm_up_ne _ _ (cp_ne hq (cp_4 w (by omega)))).trans (cp_4 w (by omega))
    have hbq : mm_up (CP K S h) q (oNt (K (10 + i)) (K (10 + j)) none (nt_new c1 c2)) q = some (oNt (K (10 + i)) (K (10 + j)) none (nt_new c1 c2)) := mm_up_self _ _ _
    refine mm_V_wid (k1 := 0) (k2 := 0) (by omega) (by omega) ?_
    refine mm_cVE ok_Cb_net (As := [.ref q]) rfl k_Cb_net_45 h1 rfl rfl rfl (Nat.le_of_ble_eq_true rfl) (c_Al_add_1 (ci := 2) hbq rfl ca_N h1 h2 (by rw [List.length_map, List.length_range]) (by omega) (Ne.symm hK1q)) ?_
    have hK2q : K 4 ≠ q := cp_ne hq (cp_4 w (by omega))
    have h12 : K 3 ≠ K 4 := fun z => absurd (w.2.2.1 3 (cd_fix (by simp)) 4 (cd_4 (by omega)) z) (by decide)
    refine fin _ (grow_net (X := mm_up (mm_up (mm_up (CP K S h) q (oNt (K (10 + i)) (K (10 + j)) none (nt_new c1 c2))) (K 4) (13, ((List.range 10).map (fun i => if i < c_nn S then Value.ref (K (20 + i)) else .null)).set (c_nn S) (.ref q))) (K 3) (oAl (c_Z S 3 1 + 1) (K 4) (c_nn S + 1))) w hn i j hi hj (nt_new c1 c2) hq (Or.inr ⟨by omega, rfl⟩) (by rw [mm_up_self]) (by rw [mm_up_ne _ _ (Ne.symm hK1q), mm_up_ne _ _ (Ne.symm hK2q), mm_up_self]) (fun K' hko hk => by
      rw [mm_up_ne _ _ (Ne.symm h12), mm_up_self, oAr_set (by omega) hko hk]; rfl) (fun b0 b1 b2 b3 => by rw [mm_up_ne _ _ b1, mm_up_ne _ _ b3, mm_up_ne _ _ b2]))
set_option maxHeartbeats 2000000 in
theorem c_Cb_net_r (w : c_wf G K S) {i j : Nat} {c1 c2 : Int32} (hi : i < c_nd S) (hj : j < c_nd S) (hx : isC S (nI i) c1) (hy : isC S (nI j) c2) (d1 : c_drv S i c1) (d2 : ¬ c_drv S j c2) (d3 : ¬ c_wrd4 S i c1) (d4 : ¬ c_wrd4 S j c2) (hn : c_nn S < 8) : mm_C G M_Cb_net [.ref (K 0), .int (nI i), .int c1, .int (nI j), .int c2] (CP K S h) 2 20 (fun o h' => ∃ K', c_wf G K' (c_net S i c1 j c2) ∧ (∀ n ∈ cdom (c_nd S) (c_nn S), K' n = K n) ∧ (∀ n ∈ cdom (c_nd S) (c_nn S + 1), n ∉ cdom (c_nd S) (c_nn S) → h (K' n) = none) ∧ o = .inl (some (.int (nI (c_nn S)))) ∧ h' = CP K' (c_net S i c1 j c2) h) := by
  refine mm_C_of (by decide +kernel) rfl (Nat.le_of_ble_eq_true rfl) rfl ?_
  refine mm_blk (pc' := 3) ok_Cb_net 3 _ _ _ rfl ?_
  refine mm_cVE ok_Cb_net (As := [.int (nI i), .int c1]) rfl k_Cb_net_52 (cp_0 w) rfl rfl rfl (Nat.le_of_ble_eq_true rfl) (c_Cb_isCell1 w hx) ?_
  refine mm_if_eq ok_Cb_net 19 rfl (by decide) (fun c => ?_) (fun c => ?_)
  · exact absurd c (by decide)
  refine mm_blk (pc' := 13) ok_Cb_net 3 _ _ _ rfl ?_
  refine mm_cVE ok_Cb_net (As := [.int (nI j), .int c2]) rfl k_Cb_net_52 (cp_0 w) rfl rfl rfl (Nat.le_of_ble_eq_true rfl) (c_Cb_isCell1 w hy) ?_
  refine mm_if_ne ok_Cb_net 27 rfl (by decide) (fun c => ?_) (fun c => ?_)
  rotate_left
  · exact absurd c (by decide)
  refine mm_blk (pc' := 28) ok_Cb_net 1 _ _ _ rfl ?_
  refine mm_getf ok_Cb_net (cp_0 w) rfl f_Cb_12 rfl ?_
  refine mm_blk (pc' := 32) ok_Cb_net 1 _ _ _ rfl ?_
  refine mm_cVE ok_Cb_net (As := [.int (nI i)]) rfl k_Cb_net_56 (cp_1 w) rfl rfl rfl (Nat.le_of_ble_eq_true rfl) (c_getD w hi) ?_
  refine mm_cast ok_Cb_net (cp_dev w hi) cc_Cb_40 rfl ?_
  refine mm_blk (pc' := 41) ok_Cb_net 2 _ _ _ rfl ?_
  refine mm_getf ok_Cb_net (cp_0 w) rfl f_Cb_12 rfl ?_
  refine mm_blk (pc' := 45) ok_Cb_net 1 _ _ _ rfl ?_
  refine mm_cVE ok_Cb_net (As := [.int (nI j)]) rfl k_Cb_net_56 (cp_1 w) rfl rfl rfl (Nat.le_of_ble_eq_true rfl) (c_getD w hj) ?_
  refine mm_cast ok_Cb_net (cp_dev w hj) cc_Cb_40 rfl ?_
  refine mm_blk (pc' := 56) ok_Cb_net 3 _ _ _ rfl ?_
  refine mm_cVE ok_Cb_net (As := [.int c1]) rfl k_Cb_net_60 (cp_dev w hi) rfl rfl rfl (Nat.le_of_ble_eq_true rfl) (c_Dv_drives (cp_dev w hi) c1) ?_
  refine mm_if_eq ok_Cb_net 91 rfl (by decide) (fun c => ?_) (fun c => ?_)
  · rw [show (if (mm_ushr (c_D S i 3) c1 &&& 1) = 1 then (1 : Int32) else 0) = 1 from if_pos d1] at c; exact absurd c (by decide)
  refine mm_blk (pc' := 66) ok_Cb_net 2 _ _ _ rfl ?_
  refine mm_cVE ok_Cb_net (As := [.int c2]) rfl k_Cb_net_60 (cp_dev w hj) rfl rfl rfl (Nat.le_of_ble_eq_true rfl) (c_Dv_drives (cp_dev w hj) c2) ?_
  refine mm_if_ne ok_Cb_net 91 rfl (by decide) (fun c => ?_) (fun c => ?_)
  · exact absurd (if_neg d2) c
  refine mm_blk (pc' := 75) ok_Cb_net 2 _ _ _ rfl ?_
  refine mm_cVE ok_Cb_net (As := [.int c1]) rfl k_Cb_net_64 (cp_dev w hi) rfl rfl rfl (Nat.le_of_ble_eq_true rfl) (c_Dv_isWired (cp_dev w hi) c1) ?_
  refine mm_if_ne ok_Cb_net 91 rfl (by decide) (fun c => ?_) (fun c => ?_)
  · exact absurd (if_neg d3) c
  refine mm_blk (pc' := 85) ok_Cb_net 2 _ _ _ rfl ?_
  refine mm_cVE ok_Cb_net (As := [.int c2]) rfl k_Cb_net_64 (cp_dev w hj) rfl rfl rfl (Nat.le_of_ble_eq_true rfl) (c_Dv_isWired (cp_dev w hj) c2) ?_
  refine mm_if_eq ok_Cb_net 99 rfl (by decide) (fun c => ?_) (fun c => ?_)
  rotate_left
  · exact absurd (if_neg d4) c
  refine mm_blk (pc' := 100) ok_Cb_net 1 _ _ _ rfl ?_
  refine mm_getf ok_Cb_net (cp_0 w) rfl f_Cb_16 rfl ?_
  refine mm_cVE ok_Cb_net (As := []) rfl k_Cb_net_33 (cp_3 w) rfl rfl rfl (Nat.le_of_ble_eq_true rfl) (c_Al_size (cp_3 w)) ?_
  refine mm_blk (pc' := 108) ok_Cb_net 1 _ _ _ rfl ?_
  refine mm_ic_lt ok_Cb_net 119 rfl (by decide) (fun c => ?_) (fun c => ?_)
  rotate_left
  · exact absurd (show nI (c_nn S) < nI 8 from nI_lt hn (by decide)) c
  refine mm_blk (pc' := 122) ok_Cb_net 2 _ _ _ rfl ?_
  refine mm_cVE ok_Cb_net (As := [.int c1]) rfl k_Cb_net_67 (cp_dev w hi) rfl rfl rfl (Nat.le_of_ble_eq_true rfl) (c_Dv_wire (cp_dev w hi) c1) ?_
  refine mm_V_heap (cu_dev w hi _) ?_
  refine mm_blk (pc' := 129) ok_Cb_net 2 _ _ _ rfl ?_
  refine mm_cVE ok_Cb_net (As := [.int c2]) rfl k_Cb_net_67 (cp_dev (S := c_wire S i c1) w hj) rfl rfl rfl (Nat.le_of_ble_eq_true rfl) (c_Dv_wire (cp_dev (S := c_wire S i c1) w hj) c2) ?_
  refine mm_V_heap (cu_dev (S := c_wire S i c1) w hj _) ?_
  exact t2_Cb_net (S := c_wire (c_wire S i c1) j c2) w hn hi hj
set_option maxHeartbeats 1000000 in
theorem l_Cb_find2 {fc : Nat} (hfc : fc ≤ 4) : ∀ (n i : Nat) (S : cS), c_wf G K S → c_Z S 0 6 = nI fc → i + n = fc → mm_V G M_Cb_find 60 [(0, .ref (K 0)), (1, .int (nI i))] [] (CP K S h) 0 0 (mm_E (some (.int (nI fc))) (CP K (c_cpy fc n i S) h)) := by
  intro n
  induction n with
  | zero =>
    intro i S w hz hi
    refine mm_blk (pc' := 62) ok_Cb_find 2 _ _ _ rfl ?_
    refine mm_getf ok_Cb_find (cp_0 w) rfl f_Cb_131 rfl ?_
    rw [hz]
    refine mm_ic_ge ok_Cb_find 93 rfl (by decide) (fun c => ?_) (fun c => ?_)
    rotate_left
    · exact absurd (nI_le (by omega) (by omega)) c
    refine mm_blk (pc' := 94) ok_Cb_find 1 _ _ _ rfl ?_
    refine mm_getf ok_Cb_find (cp_0 w) rfl f_Cb_131 rfl ?_
    rw [hz]
    exact mm_iret ok_Cb_find rfl rfl ⟨rfl, rfl⟩
  | succ n ih =>
    intro i S w hz hi
    have e0 : nI fc - 1 - nI i = nI (fc - 1 - i) := by
      rw [show (1 : Int32) = nI 1 from rfl, pk_sub (by omega), pk_sub (by omega)]
    refine mm_blk (pc' := 62) ok_Cb_find 2 _ _ _ rfl ?_
    refine mm_getf ok_Cb_find (cp_0 w) rfl f_Cb_131 rfl ?_
    rw [hz]
    refine mm_ic_ge ok_Cb_find 93 rfl (by decide) (fun c => ?_) (fun c => ?_)
    · exact absurd c (nI_ge (by omega) (by omega))
    refine mm_blk (pc' := 69) ok_Cb_find 1 _ _ _ rfl ?_
    refine mm_getf ok_Cb_find (cp_0 w) rfl f_Cb_27 rfl ?_
    refine mm_blk (pc' := 74) ok_Cb_find 2 _ _ _ rfl ?_
    refine mm_getf ok_Cb_find (cp_0 w) rfl f_Cb_23 rfl ?_
    refine mm_blk (pc' := 78) ok_Cb_find 1 _ _ _ rfl ?_
    refine mm_getf ok_Cb_find (cp_0 w) rfl f_Cb_131 rfl ?_
    refine mm_blk (pc' := 85) ok_Cb_find 4 _ _ _ rfl ?_
    rw [hz, e0]
    refine mm_iald ok_Cb_find (cp_5 w) rfl rfl (by omega) (oIs_get (by omega) _) ?_
    refine mm_iast ok_Cb_find (cp_6 w) rfl rfl (by omega) (by rw [List.length_map, List.length_range]; omega) ?_
    refine mm_blk (pc' := 60) ok_Cb_find 2 _ _ _ rfl ?_
    rw [nI_1]
    refine mm_V_heap (cu_6 w (by omega) _) ?_
    exact ih (i + 1) (s_Z S 2 i _) w hz (by omega)
set_option maxHeartbeats 1000000 in
theorem t_Cb_find (w : c_wf G K S) : mm_V G M_Cb_find 50 [(0, .ref (K 0)), (1, .int (nI 5))] [] (CP K S h) 0 0 (mm_E (some (.int (nI (c_words S 4 0)))) (CP K (c_cpy (c_words S 4 0) (c_words S 4 0) 0 (s_Z S 0 6 (nI (c_words S 4 0)))) h)) := by
  have hw := words_le S 4 0
  refine mm_blk (pc' := 52) ok_Cb_find 2 _ _ _ rfl ?_
  refine mm_cVE ok_Cb_find (As := []) rfl k_Cb_find_128 (cp_0 w) rfl rfl rfl (Nat.le_of_ble_eq_true rfl) (c_Cb_words w) ?_
  generalize c_words S 4 0 = fc at hw ⊢
  refine mm_putf ok_Cb_find (cp_0 w) rfl f_Cb_131 (Or.inl rfl) (mm_fit_I _) ?_
  refine mm_blk (pc' := 60) ok_Cb_find 2 _ _ _ rfl ?_
  refine mm_V_heap (cu_0 w 6 (nI fc)) ?_
  exact l_Cb_find2 hw _ 0 (s_Z S 0 6 (nI fc)) w rfl (by omega)
set_option maxHeartbeats 1000000 in
theorem c_Cb_scan160 (w : c_ok G K S) : mm_C G M_Cb_scan [.ref (K 0), .int 0, .int (nI 160)] (CP K S h) 0 0 (mm_E none (CP K (c_scan 0 160 S) h)) := by
  exact c_Cb_scan (cnt := 159) (by omega) w
set_option maxHeartbeats 1000000 in
theorem l_Cb_find1 {T U : cS} (hS : c_ok G K T) (hU : U = c_scan 0 160 T) : ∀ (n i : Nat) (S : cS), c_wf G K S → i + n = 5 → up (fun i S => s_Z S 1 i (-1)) n i S = T → mm_V G M_Cb_find 24 [(0, .ref (K 0)), (1, .int (nI i))] [] (CP K S h) 0 0 (mm_E (some (.int (nI (c_words U 4 0)))) (CP K (c_cpy (c_words U 4 0) (c_words U 4 0) 0 (s_Z U 0 6 (nI (c_words U 4 0)))) h)) := by
  intro n
  induction n with
  | zero =>
    intro i S w hi hf
    have hf : S = T := hf
    subst hf
    have hi5 : i = 5 := by omega
    subst hi5
    have w1 : c_wf G K U := by rw [hU]; exact (scan_ok 0 160 hS).1
    refine mm_blk (pc' := 26) ok_Cb_find 2 _ _ _ rfl ?_
    refine mm_ic_ge ok_Cb_find 42 rfl (by decide) (fun c => ?_) (fun c => ?_)
    rotate_left
    · exact absurd (show nI 5 ≤ nI 5 from nI_le (by omega) (by omega)) c
    refine mm_blk (pc' := 47) ok_Cb_find 3 _ _ _ rfl ?_
    refine mm_cVE ok_Cb_find (As := [.int 0, .int (nI 160)]) rfl k_Cb_find_124 (cp_0 hS.1) rfl rfl rfl (Nat.le_of_ble_eq_true rfl) (c_Cb_scan160 hS) ?_
    rw [← hU]
    exact t_Cb_find w1
  | succ n ih =>
    intro i S w hi hf
    refine mm_blk (pc' := 26) ok_Cb_find 2 _ _ _ rfl ?_
    refine mm_ic_ge ok_Cb_find 42 rfl (by decide) (fun c => ?_) (fun c => ?_)
    · exact absurd c (show ¬ nI 5 ≤ nI i from nI_ge (by omega) (by omega))
    refine mm_blk (pc' := 30) ok_Cb_find 1 _ _ _ rfl ?_
    refine mm_getf ok_Cb_find (cp_0 w) rfl f_Cb_23 rfl ?_
    refine mm_blk (pc' := 35) ok_Cb_find 2 _ _ _ rfl ?_
    refine mm_iast ok_Cb_find (cp_5 w) rfl rfl (by omega) (by rw [List.length_map, List.length_range]; omega) ?_
    refine mm_blk (pc' := 24) ok_Cb_find 2 _ _ _ rfl ?_
    rw [nI_1]
    refine mm_V_heap (cu_5 w (by omega) (-1)) ?_
    exact ih (i + 1) (s_Z S 1 i (-1)) w (by omega) hf
set_option maxHeartbeats 1000000 in
theorem c_Cb_find_x (w : c_wf G K S) (hx : c_nd S = 0) : mm_C G M_Cb_find [.ref (K 0)] (CP K S h) 1 6 (mm_X xIS (CP K S h)) := by
  refine mm_C_of (by decide +kernel) rfl (Nat.le_of_ble_eq_true rfl) rfl ?_
  refine mm_blk (pc' := 1) ok_Cb_find 1 _ _ _ rfl ?_
  refine mm_getf ok_Cb_find (cp_0 w) rfl f_Cb_12 rfl ?_
  refine mm_cVE ok_Cb_find (As := []) rfl k_Cb_find_94 (cp_1 w) rfl rfl rfl (Nat.le_of_ble_eq_true rfl) (c_Al_isEmpty (cp_1 w)) ?_
  refine mm_if_eq ok_Cb_find 18 rfl (by decide) (fun c => ?_) (fun c => ?_)
  · rw [hx] at c; exact absurd c (by decide)
  exact mm_V_wid (k1 := 1) (k2 := 6) (by omega) (by omega) (mm_throw (kc := 0) (ks := 0) ok_Cb_find rfl rfl rfl rfl x_Cb_37_39 rfl (by decide) (Nat.le_of_ble_eq_true rfl) ⟨rfl, rfl⟩)
set_option maxHeartbeats 1000000 in
theorem c_Cb_find_r (v : c_ok G K S) (hx : 0 < c_nd S) : mm_C G M_Cb_find [.ref (K 0)] (CP K S h) 0 0 (mm_E (some (.int (nI (c_words (c_fsc S) 4 0)))) (CP K (c_find S) h)) := by
  have w := v.1
  have hn : (if nI (c_nd S) = 0 then (1 : Int32) else 0) = 0 := if_neg (nI_ne0 hx (by have := w.1; omega))
  refine mm_C_of (by decide +kernel) rfl (Nat.le_of_ble_eq_true rfl) rfl ?_
  refine mm_blk (pc' := 1) ok_Cb_find 1 _ _ _ rfl ?_
  refine mm_getf ok_Cb_find (cp_0 w) rfl f_Cb_12 rfl ?_
  refine mm_cVE ok_Cb_find (As := []) rfl k_Cb_find_94 (cp_1 w) rfl rfl rfl (Nat.le_of_ble_eq_true rfl) (c_Al_isEmpty (cp_1 w)) ?_
  refine mm_if_eq ok_Cb_find 18 rfl (by decide) (fun c => ?_) (fun c => ?_)
  rotate_left
  · exact absurd hn c
  refine mm_blk (pc' := 19) ok_Cb_find 1 _ _ _ rfl ?_
  refine mm_cVE ok_Cb_find (As := []) rfl k_Cb_find_121 (cp_0 w) rfl rfl rfl (Nat.le_of_ble_eq_true rfl) (c_Cb_goToIdle v) ?_
  refine mm_blk (pc' := 24) ok_Cb_find 2 _ _ _ rfl ?_
  unfold c_find c_fsc
  exact l_Cb_find1 (T := c_fill (c_go5 S)) (fill_ok (go5_ok v)) rfl 5 0 (c_go5 S) (go5_ok v).1 (by omega) rfl
set_option maxHeartbeats 1000000 in
theorem c_Cb_test_x (w : c_wf G K S) (hx : c_nd S = 0 ∨ c_nn S = 0) : mm_C G M_Cb_test [.ref (K 0)] (CP K S h) 1 6 (mm_X xIS (CP K S h)) := by
  refine mm_C_of (by decide +kernel) rfl (Nat.le_of_ble_eq_true rfl) rfl ?_
  refine mm_blk (pc' := 1) ok_Cb_test 1 _ _ _ rfl ?_
  refine mm_getf ok_Cb_test (cp_0 w) rfl f_Cb_12 rfl ?_
  refine mm_cVE ok_Cb_test (As := []) rfl k_Cb_test_94 (cp_1 w) rfl rfl rfl (Nat.le_of_ble_eq_true rfl) (c_Al_isEmpty (cp_1 w)) ?_
  refine mm_if_ne ok_Cb_test 20 rfl (by decide) (fun c7 => ?_) (fun c7 => ?_)
  · -- 20 t
    exact mm_V_wid (k1 := 1) (k2 := 6) (by omega) (by omega) (mm_throw (kc := 0) (ks := 0) ok_Cb_test rfl rfl rfl rfl x_Cb_37_39 rfl (by decide) (Nat.le_of_ble_eq_true rfl) ⟨rfl, rfl⟩)
  · -- 10 f
    refine mm_blk (pc' := 11) ok_Cb_test 1 _ _ _ rfl ?_
    refine mm_getf ok_Cb_test (cp_0 w) rfl f_Cb_16 rfl ?_
    refine mm_cVE ok_Cb_test (As := []) rfl k_Cb_test_94 (cp_3 w) rfl rfl rfl (Nat.le_of_ble_eq_true rfl) (c_Al_isEmpty (cp_3 w)) ?_
    refine mm_if_eq ok_Cb_test 28 rfl (by decide) (fun c => ?_) (fun c => ?_)
    · have hd : ¬ c_nd S = 0 := (fun z => absurd (show (if nI (c_nd S) = 0 then (1 : Int32) else 0) = 1 by rw [z]; rfl) (by rw [c7]; decide)); rw [hx.resolve_left hd] at c; exact absurd c (by decide)
    exact mm_V_wid (k1 := 1) (k2 := 6) (by omega) (by omega) (mm_throw (kc := 0) (ks := 0) ok_Cb_test rfl rfl rfl rfl x_Cb_37_39 rfl (by decide) (Nat.le_of_ble_eq_true rfl) ⟨rfl, rfl⟩)
set_option maxHeartbeats 2000000 in
theorem l_Cb_test {cc : Nat} (hcc : cc < 160) : ∀ (n r : Nat) (S : cS), c_ok G K S → c_sumC S = nI (cc + 1) → r + n = 4 → mm_V G M_Cb_test 42 [(0, .ref (K 0)), (1, .int (nI r))] [] (CP K S h) 0 0 (mm_E (some (.int (c_faulty (s_Z (c_tl (cc + 1) n r S) 0 7 1)))) (CP K (s_Z (c_tl (cc + 1) n r S) 0 7 1) h)) := by
  intro n
  induction n with
  | zero =>
    intro r S w hs hi
    refine mm_blk (pc' := 44) ok_Cb_test 2 _ _ _ rfl ?_
    refine mm_ic_ge ok_Cb_test 117 rfl (by decide) (fun c => ?_) (fun c => ?_)
    rotate_left
    · exact absurd (show nI 4 ≤ nI r from nI_le (by omega) (by omega)) c
    refine mm_blk (pc' := 119) ok_Cb_test 2 _ _ _ rfl ?_
    refine mm_putf ok_Cb_test (cp_0 w.1) rfl f_Cb_76 (Or.inl rfl) mm_fit_Z1 ?_
    refine mm_V_heap (cu_0 w.1 7 1) ?_
    refine mm_blk (pc' := 123) ok_Cb_test 1 _ _ _ rfl ?_
    refine mm_cVE ok_Cb_test (As := []) rfl k_Cb_test_154 (cp_0 (S := s_Z S 0 7 1) w.1) rfl rfl rfl (Nat.le_of_ble_eq_true rfl) (c_Cb_countFaulty (S := s_Z S 0 7 1) w.1) ?_
    exact mm_iret ok_Cb_test rfl rfl ⟨rfl, rfl⟩
  | succ n ih =>
    intro r S w hs hi
    have hp9 : ∀ r, r < 4 → (1 : Int32) <<< (nI r &&& 31) = nI (2 ^ r) := by decide
    have hpow := hp9 r (by omega)
    have hnn := w.1.2.1
    have hp2 : 2 ^ r ≤ 8 := Nat.le_trans (Nat.pow_le_pow_right (by decide) (show r ≤ 3 by omega)) (by decide)
    refine mm_blk (pc' := 44) ok_Cb_test 2 _ _ _ rfl ?_
    refine mm_ic_ge ok_Cb_test 117 rfl (by decide) (fun c => ?_) (fun c => ?_)
    · exact absurd c (show ¬ nI 4 ≤ nI r from nI_ge (by omega) (by omega))
    refine mm_blk (pc' := 51) ok_Cb_test 4 _ _ _ rfl ?_
    refine mm_getf ok_Cb_test (cp_0 w.1) rfl f_Cb_16 rfl ?_
    refine mm_cVE ok_Cb_test (As := []) rfl k_Cb_test_33 (cp_3 w.1) rfl rfl rfl (Nat.le_of_ble_eq_true rfl) (c_Al_size (cp_3 w.1)) ?_
    refine mm_blk (pc' := 59) ok_Cb_test 2 _ _ _ rfl ?_
    rw [nI_1, hpow]
    refine mm_ic_gt ok_Cb_test 117 rfl (by decide) (fun c59 => ?_) (fun c59 => ?_)
    · -- 117 t
      refine mm_blk (pc' := 119) ok_Cb_test 2 _ _ _ rfl ?_
      refine mm_putf ok_Cb_test (cp_0 w.1) rfl f_Cb_76 (Or.inl rfl) mm_fit_Z1 ?_
      have hle : ¬ 2 ^ r ≤ c_nn S + 1 := fun z => absurd c59 (nI_nlt (by omega) (by omega))
      have e9 : c_tl (cc + 1) (n + 1) r S = S := if_neg hle
      rw [e9]
      refine mm_V_heap (cu_0 w.1 7 1) ?_
      refine mm_blk (pc' := 123) ok_Cb_test 1 _ _ _ rfl ?_
      refine mm_cVE ok_Cb_test (As := []) rfl k_Cb_test_154 (cp_0 (S := s_Z S 0 7 1) w.1) rfl rfl rfl (Nat.le_of_ble_eq_true rfl) (c_Cb_countFaulty (S := s_Z S 0 7 1) w.1) ?_
      exact mm_iret ok_Cb_test rfl rfl ⟨rfl, rfl⟩
    · -- 62 f
      refine mm_blk (pc' := 64) ok_Cb_test 2 _ _ _ rfl ?_
      have hle : 2 ^ r ≤ c_nn S + 1 := by
        by_cases z : 2 ^ r ≤ c_nn S + 1
        · exact z
        · exact absurd (nI_lt (by omega) (by omega)) c59
      refine mm_cVE ok_Cb_test (As := [.int (nI r)]) rfl k_Cb_test_143 (cp_0 w.1) rfl rfl rfl (Nat.le_of_ble_eq_true rfl) (c_Cb_patternOfRound w.1 (nI r)) ?_
      have e8 : c_tl (cc + 1) (n + 1) r S = c_tl (cc + 1) n (r + 1) (c_tbody (cc + 1) r S) := if_pos hle
      rw [e8]
      unfold c_tbody
      generalize c_pat S (nI r) = p
      obtain ⟨T1, hT1⟩ : ∃ T1, T1 = c_half (cc + 1) p S := ⟨_, rfl⟩
      obtain ⟨T2, hT2⟩ : ∃ T2, T2 = c_half (cc + 1) p T1 := ⟨_, rfl⟩
      have w1 : c_ok G K T1 := by rw [hT1]; exact half_ok _ p w
      have w2 : c_ok G K T2 := by rw [hT2]; exact half_ok _ p w1
      have s1 : c_sumC T1 = nI (cc + 1) := by rw [hT1]; exact (fix_sumC (fix_half _ p S)).trans hs
      have s2 : c_sumC T2 = nI (cc + 1) := by rw [hT2]; exact (fix_sumC (fix_half _ p T1)).trans s1
      rw [← hT1, ← hT2]
      unfold c_half at hT1 hT2
      refine mm_blk (pc' := 69) ok_Cb_test 2 _ _ _ rfl ?_
      refine mm_getf ok_Cb_test (cp_0 w.1) rfl f_Cb_23 rfl ?_
      refine mm_blk (pc' := 74) ok_Cb_test 2 _ _ _ rfl ?_
      refine mm_iast ok_Cb_test (cp_5 w.1) rfl rfl (show 0 < 2147483648 by decide) (by rw [List.length_map, List.length_range]; decide) ?_
      refine mm_blk (pc' := 78) ok_Cb_test 3 _ _ _ rfl ?_
      refine mm_V_heap (cu_5 w.1 (by decide) p) ?_
      have wa : c_ok G K (s_Z S 1 0 p) := ⟨w.1, sZ1_ps w.2 1 0 p (by decide)⟩
      refine mm_cVE ok_Cb_test (As := []) rfl k_Cb_test_147 (cp_0 wa.1) rfl rfl rfl (Nat.le_of_ble_eq_true rfl) (c_Cb_allCells wa.1) ?_
      rw [show c_sumC (s_Z S 1 0 p) = nI (cc + 1) from hs]
      refine mm_cVE ok_Cb_test (As := [.int 0, .int (nI (cc + 1))]) rfl k_Cb_test_124 (cp_0 wa.1) rfl rfl rfl (Nat.le_of_ble_eq_true rfl) (c_Cb_scan hcc wa) ?_
      rw [← hT1]
      refine mm_blk (pc' := 85) ok_Cb_test 1 _ _ _ rfl ?_
      refine mm_getf ok_Cb_test (cp_0 w1.1) rfl f_Cb_23 rfl ?_
      refine mm_blk (pc' := 90) ok_Cb_test 2 _ _ _ rfl ?_
      refine mm_iast ok_Cb_test (cp_5 w1.1) rfl rfl (show 0 < 2147483648 by decide) (by rw [List.length_map, List.length_range]; decide) ?_
      refine mm_blk (pc' := 94) ok_Cb_test 3 _ _ _ rfl ?_
      refine mm_V_heap (cu_5 w1.1 (by decide) p) ?_
      have wb : c_ok G K (s_Z T1 1 0 p) := ⟨w1.1, sZ1_ps w1.2 1 0 p (by decide)⟩
      refine mm_cVE ok_Cb_test (As := []) rfl k_Cb_test_147 (cp_0 wb.1) rfl rfl rfl (Nat.le_of_ble_eq_true rfl) (c_Cb_allCells wb.1) ?_
      rw [show c_sumC (s_Z T1 1 0 p) = nI (cc + 1) from s1]
      refine mm_cVE ok_Cb_test (As := [.int 0, .int (nI (cc + 1))]) rfl k_Cb_test_124 (cp_0 wb.1) rfl rfl rfl (Nat.le_of_ble_eq_true rfl) (c_Cb_scan hcc wb) ?_
      rw [← hT2]
      refine mm_blk (pc' := 103) ok_Cb_test 3 _ _ _ rfl ?_
      refine mm_getf ok_Cb_test (cp_0 w2.1) rfl f_Cb_23 rfl ?_
      refine mm_blk (pc' := 107) ok_Cb_test 1 _ _ _ rfl ?_
      refine mm_iald ok_Cb_test (cp_5 w2.1) rfl rfl (show 0 < 2147483648 by decide) (oIs_get (by decide) _) ?_
      refine mm_cVE ok_Cb_test (As := [.int (nI r), .int (c_Z T2 1 0)]) rfl k_Cb_test_150 (cp_0 w2.1) rfl rfl rfl (Nat.le_of_ble_eq_true rfl) (c_Cb_noteSeen w2.1 (nI r) _) ?_
      refine mm_blk (pc' := 42) ok_Cb_test 2 _ _ _ rfl ?_
      rw [nI_1]
      refine mm_V_pick [0, 1] rfl ?_
      exact ih (r + 1) (c_note T2 (nI r) (c_Z T2 1 0)) ⟨fix_wf (fix_note T2 _ _) w2.1, ps_Z (note_Z T2 _ _) w2.2⟩ ((fix_sumC (fix_note T2 _ _)).trans s2) (by omega)
set_option maxHeartbeats 1000000 in
theorem c_Cb_test_r (v : c_ok G K S) (hx : 0 < c_nd S) (hy : 0 < c_nn S) {cb cc : Nat} (hcb : cb < 160) (hcc : cc < 160) (hsb : c_sumB S = nI (cb + 1)) (hsc : c_sumC S = nI (cc + 1)) : mm_C G M_Cb_test [.ref (K 0)] (CP K S h) 0 0 (mm_E (some (.int (c_faulty (c_test (cb + 1) (cc + 1) S)))) (CP K (c_test (cb + 1) (cc + 1) S) h)) := by
  have w := v.1
  have hn : (if nI (c_nd S) = 0 then (1 : Int32) else 0) = 0 := if_neg (nI_ne0 hx (by have := w.1; omega))
  have hm : (if nI (c_nn S) = 0 then (1 : Int32) else 0) = 0 := if_neg (nI_ne0 hy (by have := w.2.1; omega))
  unfold c_test
  obtain ⟨T1, hT1⟩ : ∃ T1, T1 = c_go5 S := ⟨_, rfl⟩
  obtain ⟨T2, hT2⟩ : ∃ T2, T2 = c_scan 1 (cb + 1) (s_Z T1 1 0 0) := ⟨_, rfl⟩
  obtain ⟨T3, hT3⟩ : ∃ T3, T3 = c_forget T2 := ⟨_, rfl⟩
  have v1 : c_ok G K T1 := by rw [hT1]; exact go5_ok v
  have v2 : c_ok G K T2 := by rw [hT2]; exact scan_ok 1 (cb + 1) (S := s_Z T1 1 0 0) ⟨v1.1, sZ1_ps v1.2 1 0 0 (by decide)⟩
  have v3 : c_ok G K T3 := by rw [hT3]; exact ⟨fix_wf (fix_forget T2) v2.1, ps_Z (forget_Z T2) v2.2⟩
  have f1 : c_fix S T1 := by rw [hT1]; exact fix_go5 S
  have f2 : c_fix T1 T2 := by rw [hT2]; exact fix_tr (fix_sZ T1 1 0 0) (fix_scan 1 (cb + 1) _)
  have f3 : c_fix T2 T3 := by rw [hT3]; exact fix_forget T2
  rw [← hT1, ← hT2, ← hT3]
  refine mm_C_of (by decide +kernel) rfl (Nat.le_of_ble_eq_true rfl) rfl ?_
  refine mm_blk (pc' := 1) ok_Cb_test 1 _ _ _ rfl ?_
  refine mm_getf ok_Cb_test (cp_0 w) rfl f_Cb_12 rfl ?_
  refine mm_cVE ok_Cb_test (As := []) rfl k_Cb_test_94 (cp_1 w) rfl rfl rfl (Nat.le_of_ble_eq_true rfl) (c_Al_isEmpty (cp_1 w)) ?_
  refine mm_if_ne ok_Cb_test 20 rfl (by decide) (fun c => ?_) (fun c => ?_)
  · exact absurd hn c
  refine mm_blk (pc' := 11) ok_Cb_test 1 _ _ _ rfl ?_
  refine mm_getf ok_Cb_test (cp_0 w) rfl f_Cb_16 rfl ?_
  refine mm_cVE ok_Cb_test (As := []) rfl k_Cb_test_94 (cp_3 w) rfl rfl rfl (Nat.le_of_ble_eq_true rfl) (c_Al_isEmpty (cp_3 w)) ?_
  refine mm_if_eq ok_Cb_test 28 rfl (by decide) (fun c => ?_) (fun c => ?_)
  rotate_left
  · exact absurd hm c
  refine mm_blk (pc' := 29) ok_Cb_test 1 _ _ _ rfl ?_
  refine mm_cVE ok_Cb_test (As := []) rfl k_Cb_test_121 (cp_0 w) rfl rfl rfl (Nat.le_of_ble_eq_true rfl) (c_Cb_goToIdle v) ?_
  rw [← hT1]
  refine mm_blk (pc' := 33) ok_Cb_test 1 _ _ _ rfl ?_
  refine mm_cVE ok_Cb_test (As := []) rfl k_Cb_test_137 (cp_0 v1.1) rfl rfl rfl (Nat.le_of_ble_eq_true rfl) (c_Cb_giveAllExtest v1 hcb ((fix_sumB f1).trans hsb)) ?_
  rw [← hT2]
  refine mm_blk (pc' := 37) ok_Cb_test 1 _ _ _ rfl ?_
  refine mm_cVE ok_Cb_test (As := []) rfl k_Cb_test_140 (cp_0 v2.1) rfl rfl rfl (Nat.le_of_ble_eq_true rfl) (c_Cb_forgetSeen v2.1) ?_
  rw [← hT3]
  refine mm_blk (pc' := 42) ok_Cb_test 2 _ _ _ rfl ?_
  exact l_Cb_test hcc 4 0 T3 v3 ((fix_sumC (fix_tr (fix_tr f1 f2) f3)).trans hsc) (by omega)
end CB7
end
section
/-! the class: a new bench -/
section CB8
variable {G : mm_G} {h : mm_Hp}
def c_K0 (G : mm_G) (a q1 q3 q5 q6 : Nat) : Nat → Nat := fun n => if n = 0 then a else if n = 1 then q1 else if n = 3 then q3 else if n = 5 then q5 else if n = 6 then q6 else G.2.2.1 2
theorem new_CP {a q1 q3 q5 q6 : Nat} {X : mm_Hp} (d1 : a ≠ q1) (d3 : a ≠ q3) (d5 : a ≠ q5) (d6 : a ≠ q6) (e3 : q1 ≠ q3) (e5 : q1 ≠ q5) (e6 : q1 ≠ q6) (g5 : q3 ≠ q5) (g6 : q3 ≠ q6) (i6 : q5 ≠ q6)
    (x0 : X a = some (3, [.ref q1, .ref q3, .int 0, .int 0, .ref q5, .ref q6, .int 0, .int 0])) (x1 : X q1 = some (oAl 0 (G.2.2.1 2) 0)) (x3 : X q3 = some (oAl 0 (G.2.2.1 2) 0)) (x5 : X q5 = some (10, List.replicate 5 (.int 0))) (x6 : X q6 = some (10, List.replicate 4 (.int 0)))
    (xo : ∀ b, b ≠ a → b ≠ q1 → b ≠ q3 → b ≠ q5 → b ≠ q6 → X b = h b) : c_wf G (c_K0 G a q1 q3 q5 q6) c_new ∧ X = CP (c_K0 G a q1 q3 q5 q6) c_new h := by
  have hi : mm_inj (cdom 0 0) (c_K0 G a q1 q3 q5 q6) := by
    have e : cdom 0 0 = [0, 1, 3, 5, 6] := by decide
    rw [e]
    intro m hm n hn z
    simp only [List.mem_cons, List.not_mem_nil, or_false] at hm hn
    rcases hm with rfl | rfl | rfl | rfl | rfl <;> rcases hn with rfl | rfl | rfl | rfl | rfl
    · rfl
    · exact absurd (show a = q1 from z) d1
    · exact absurd (show a = q3 from z) d3
    · exact absurd (show a = q5 from z) d5
    · exact absurd (show a = q6 from z) d6
    · exact absurd (show q1 = a from z) (Ne.symm d1)
    · rfl
    · exact absurd (show q1 = q3 from z) e3
    · exact absurd (show q1 = q5 from z) e5
    · exact absurd (show q1 = q6 from z) e6
    · exact absurd (show q3 = a from z) (Ne.symm d3)
    · exact absurd (show q3 = q1 from z) (Ne.symm e3)
    · rfl
    · exact absurd (show q3 = q5 from z) g5
    · exact absurd (show q3 = q6 from z) g6
    · exact absurd (show q5 = a from z) (Ne.symm d5)
    · exact absurd (show q5 = q1 from z) (Ne.symm e5)
    · exact absurd (show q5 = q3 from z) (Ne.symm g5)
    · rfl
    · exact absurd (show q5 = q6 from z) i6
    · exact absurd (show q6 = a from z) (Ne.symm d6)
    · exact absurd (show q6 = q1 from z) (Ne.symm e6)
    · exact absurd (show q6 = q3 from z) (Ne.symm g6)
    · exact absurd (show q6 = q5 from z) (Ne.symm i6)
    · rfl
  refine ⟨⟨Nat.zero_le _, Nat.zero_le _, hi, fun _ => rfl, fun _ => rfl, fun j hj => absurd hj (Nat.not_lt_zero _)⟩, ?_⟩
  refine pl_ext (dom' := cdom 0 0) hi (fun n hn => ?_) (fun b hb => ?_)
  · have e : cdom 0 0 = [0, 1, 3, 5, 6] := by decide
    rw [e] at hn
    simp only [List.mem_cons, List.not_mem_nil, or_false] at hn
    rcases hn with rfl | rfl | rfl | rfl | rfl
    · exact x0
    · exact x1
    · exact x3
    · exact x5
    · exact x6
  · exact xo b (Ne.symm (hb 0 (by decide))) (Ne.symm (hb 1 (by decide))) (Ne.symm (hb 3 (by decide))) (Ne.symm (hb 5 (by decide))) (Ne.symm (hb 6 (by decide)))
theorem new_fin {a q1 q3 q5 q6 : Nat} {X : mm_Hp} (hq1 : h q1 = none) (hq3 : h q3 = none) (hq5 : h q5 = none) (hq6 : h q6 = none) (d1 : a ≠ q1) (d3 : a ≠ q3) (d5 : a ≠ q5) (d6 : a ≠ q6) (e3 : q1 ≠ q3) (e5 : q1 ≠ q5) (e6 : q1 ≠ q6) (g5 : q3 ≠ q5) (g6 : q3 ≠ q6) (i6 : q5 ≠ q6)
    (x0 : X a = some (3, [.ref q1, .ref q3, .int 0, .int 0, .ref q5, .ref q6, .int 0, .int 0])) (x1 : X q1 = some (oAl 0 (G.2.2.1 2) 0)) (x3 : X q3 = some (oAl 0 (G.2.2.1 2) 0)) (x5 : X q5 = some (10, List.replicate 5 (.int 0))) (x6 : X q6 = some (10, List.replicate 4 (.int 0)))
    (xo : ∀ b, b ≠ a → b ≠ q1 → b ≠ q3 → b ≠ q5 → b ≠ q6 → X b = h b) : ∃ K, c_wf G K c_new ∧ K 0 = a ∧ h (K 1) = none ∧ h (K 3) = none ∧ h (K 5) = none ∧ h (K 6) = none ∧ (Sum.inl none : mm_O) = .inl none ∧ X = CP K c_new h :=
  ⟨_, (new_CP d1 d3 d5 d6 e3 e5 e6 g5 g6 i6 x0 x1 x3 x5 x6 xo).1, rfl, hq1, hq3, hq5, hq6, rfl, (new_CP d1 d3 d5 d6 e3 e5 e6 g5 g6 i6 x0 x1 x3 x5 x6 xo).2⟩

set_option maxHeartbeats 2000000 in
theorem c_Cb_init {a : Nat} (ha : h a = some (3, mm_df 3)) : mm_C G M_Cb_init [.ref a] h 4 15 (fun o h' => ∃ K, c_wf G K c_new ∧ K 0 = a ∧ h (K 1) = none ∧ h (K 3) = none ∧ h (K 5) = none ∧ h (K 6) = none ∧ o = .inl none ∧ h' = CP K c_new h) := by
  refine mm_C_of (by decide +kernel) rfl (Nat.le_of_ble_eq_true rfl) rfl ?_
  refine mm_blk (pc' := 1) ok_Cb_init 1 _ _ _ rfl ?_
  refine mm_oinit ok_Cb_init rfl oi_Cb_3 (Nat.le_of_ble_eq_true rfl) (by decide) (by decide) ?_
  refine mm_blk (pc' := 5) ok_Cb_init 1 _ _ _ rfl ?_
  refine mm_V_wid (k1 := 1 + 3) (k2 := 3 + 12) (by omega) (by omega) ?_
  refine mm_new (kc := 3) (ks := 12) ok_Cb_init n_Cb_9 rfl (fun q1 hq1 => ?_)
  have d1 : a ≠ q1 := cp_ne hq1 ha
  refine mm_blk (pc' := 9) ok_Cb_init 1 _ _ _ rfl ?_
  refine mm_cIE ok_Cb_init (As := []) rfl k_Cb_init_11 rfl (Nat.le_of_ble_eq_true rfl) (c_Al_init (mm_up_self _ _ _)) ?_
  rw [mm_up_up]
  refine mm_putf ok_Cb_init ((mm_up_ne _ _ d1).trans ha) rfl f_Cb_12 (Or.inr ⟨rfl, rfl, rfl⟩) (mm_fit_L _) ?_
  refine mm_blk (pc' := 16) ok_Cb_init 1 _ _ _ rfl ?_
  refine mm_V_wid (k1 := 1 + 2) (k2 := 3 + 9) (by omega) (by omega) ?_
  refine mm_new (kc := 2) (ks := 9) ok_Cb_init n_Cb_9 rfl (fun q3 hq3 => ?_)
  have d3 : a ≠ q3 := cp_ne hq3 (mm_up_self _ _ _)
  rw [mm_up_ne _ _ (Ne.symm d3)] at hq3
  have e3 : q1 ≠ q3 := cp_ne hq3 (mm_up_self _ _ _)
  rw [mm_up_ne _ _ (Ne.symm e3)] at hq3
  refine mm_blk (pc' := 20) ok_Cb_init 1 _ _ _ rfl ?_
  refine mm_cIE ok_Cb_init (As := []) rfl k_Cb_init_11 rfl (Nat.le_of_ble_eq_true rfl) (c_Al_init (mm_up_self _ _ _)) ?_
  rw [mm_up_up]
  refine mm_putf ok_Cb_init ((mm_up_ne _ _ d3).trans (mm_up_self _ _ _)) rfl f_Cb_16 (Or.inr ⟨rfl, rfl, rfl⟩) (mm_fit_L _) ?_
  refine mm_blk (pc' := 28) ok_Cb_init 2 _ _ _ rfl ?_
  refine mm_putf ok_Cb_init (mm_up_self _ _ _) rfl f_Cb_19 (Or.inl rfl) (mm_fit_I _) ?_
  refine mm_blk (pc' := 33) ok_Cb_init 2 _ _ _ rfl ?_
  refine mm_V_wid (k1 := 1 + 1) (k2 := 5 + 4) (by omega) (by omega) ?_
  refine mm_newI (kc := 1) (ks := 4) (N := 5) ok_Cb_init ac_I rfl rfl (by decide) (fun q5 hq5 => ?_)
  rw [mm_up_up] at hq5
  have d5 : a ≠ q5 := cp_ne hq5 (mm_up_self _ _ _)
  rw [mm_up_ne _ _ (Ne.symm d5)] at hq5
  have g5 : q3 ≠ q5 := cp_ne hq5 (mm_up_self _ _ _)
  rw [mm_up_ne _ _ (Ne.symm g5), mm_up_ne _ _ (Ne.symm d5)] at hq5
  have e5 : q1 ≠ q5 := cp_ne hq5 (mm_up_self _ _ _)
  rw [mm_up_ne _ _ (Ne.symm e5)] at hq5
  refine mm_putf ok_Cb_init ((mm_up_ne _ _ d5).trans (mm_up_self _ _ _)) rfl f_Cb_23 (Or.inr ⟨rfl, rfl, rfl⟩) (mm_fit_AI _) ?_
  refine mm_blk (pc' := 40) ok_Cb_init 2 _ _ _ rfl ?_
  refine mm_V_wid (k1 := 1 + 0) (k2 := 4 + 0) (by omega) (by omega) ?_
  refine mm_newI (kc := 0) (ks := 0) (N := 4) ok_Cb_init ac_I rfl rfl (by decide) (fun q6 hq6 => ?_)
  have d6 : a ≠ q6 := cp_ne hq6 (mm_up_self _ _ _)
  rw [mm_up_ne _ _ (Ne.symm d6)] at hq6
  have i6 : q5 ≠ q6 := cp_ne hq6 (mm_up_self _ _ _)
  rw [mm_up_ne _ _ (Ne.symm i6), mm_up_up, mm_up_ne _ _ (Ne.symm d6)] at hq6
  have g6 : q3 ≠ q6 := cp_ne hq6 (mm_up_self _ _ _)
  rw [mm_up_ne _ _ (Ne.symm g6), mm_up_ne _ _ (Ne.symm d6)] at hq6
  have e6 : q1 ≠ q6 := cp_ne hq6 (mm_up_self _ _ _)
  rw [mm_up_ne _ _ (Ne.symm e6)] at hq6
  refine mm_putf ok_Cb_init ((mm_up_ne _ _ d6).trans (mm_up_self _ _ _)) rfl f_Cb_27 (Or.inr ⟨rfl, rfl, rfl⟩) (mm_fit_AI _) ?_
  refine mm_vret ok_Cb_init rfl rfl ?_
  refine new_fin (G := G) (h := h) (a := a) (q1 := q1) (q3 := q3) (q5 := q5) (q6 := q6) hq1 hq3 hq5 hq6 d1 d3 d5 d6 e3 e5 e6 g5 g6 i6 (mm_up_self _ _ _)
    ((mm_up_ne _ _ (Ne.symm d1)).trans ((mm_up_ne _ _ e6).trans ((mm_up_ne _ _ (Ne.symm d1)).trans ((mm_up_ne _ _ e5).trans ((mm_up_ne _ _ (Ne.symm d1)).trans ((mm_up_ne _ _ (Ne.symm d1)).trans ((mm_up_ne _ _ e3).trans ((mm_up_ne _ _ (Ne.symm d1)).trans (mm_up_self _ _ _)))))))))
    ((mm_up_ne _ _ (Ne.symm d3)).trans ((mm_up_ne _ _ g6).trans ((mm_up_ne _ _ (Ne.symm d3)).trans ((mm_up_ne _ _ g5).trans ((mm_up_ne _ _ (Ne.symm d3)).trans ((mm_up_ne _ _ (Ne.symm d3)).trans (mm_up_self _ _ _)))))))
    ((mm_up_ne _ _ (Ne.symm d5)).trans ((mm_up_ne _ _ i6).trans ((mm_up_ne _ _ (Ne.symm d5)).trans (mm_up_self _ _ _))))
    ((mm_up_ne _ _ (Ne.symm d6)).trans (mm_up_self _ _ _))
    (fun b b0 b1 b3 b5 b6 => (mm_up_ne _ _ b0).trans ((mm_up_ne _ _ b6).trans ((mm_up_ne _ _ b0).trans ((mm_up_ne _ _ b5).trans ((mm_up_ne _ _ b0).trans ((mm_up_ne _ _ b0).trans ((mm_up_ne _ _ b3).trans ((mm_up_ne _ _ b0).trans (mm_up_ne _ _ b1)))))))))
end CB8
end
section
/-! THE REFERENCE'S STATE: 0 its own numbers by field, else the array of that field -/
abbrev mS : Type := Nat → Nat → Int32
def mlen (n : Nat) : Nat := if n = 6 then 16 else if n = 8 then 128 else if n = 2 ∨ n = 3 ∨ n = 4 ∨ n = 5 ∨ n = 9 ∨ n = 22 then 4 else if n = 15 ∨ n = 16 ∨ n = 17 ∨ n = 18 then 8 else 24
def oMd (K : Nat → Nat) (z : Nat → Int32) : mm_Ob := (4, [.int (z 0), .int (z 1), .ref (K 2), .ref (K 3), .ref (K 4), .ref (K 5), .ref (K 6), .ref (K 7), .ref (K 8), .ref (K 9), .ref (K 10), .ref (K 11), .ref (K 12), .ref (K 13), .int (z 14), .ref (K 15), .ref (K 16), .ref (K 17), .ref (K 18), .int (z 19), .int (z 20), .int (z 21), .ref (K 22), .int (z 23)])
def mob (K : Nat → Nat) (t : mS) (n : Nat) : mm_Ob := if n = 0 then oMd K (t 0) else (if n = 10 then 11 else 10, (List.range (mlen n)).map (fun k => Value.int (t n k)))
def mdom : List Nat := [0, 2, 3, 4, 5, 6, 7, 8, 9, 10, 11, 12, 13, 15, 16, 17, 18, 22]
def MP (K : Nat → Nat) (t : mS) (h : mm_Hp) : mm_Hp := mm_pl mdom K (mob K t) h
def m_s (t : mS) (n k : Nat) (x : Int32) : mS := va_up t n (upd (t n) k x)
def m_w (t : mS) (n : Nat) (z : Nat → Int32) : mS := va_up t n z
theorem m_w_self (t : mS) (n : Nat) (z : Nat → Int32) : m_w t n z n = z := va_up_self _ _ _
theorem m_w_ne (t : mS) {n m : Nat} (z : Nat → Int32) (h : m ≠ n) : m_w t n z m = t m := va_up_ne _ _ h
theorem m_s_w (t : mS) (n k : Nat) (x : Int32) : m_s t n k x = m_w t n (upd (t n) k x) := rfl
theorem m_s_ne (t : mS) {n m : Nat} (k : Nat) (x : Int32) (h : m ≠ n) : m_s t n k x m = t m := va_up_ne _ _ h
theorem m_s_at (t : mS) (n k : Nat) (x : Int32) : m_s t n k x n k = x := by
  unfold m_s; rw [va_up_self]; exact pk_us
theorem m_s_off (t : mS) (n : Nat) {k j : Nat} (x : Int32) (h : j ≠ k) : m_s t n k x n j = t n j := by
  unfold m_s; rw [va_up_self]; exact pk_un h
section MPS
variable {K : Nat → Nat} {t : mS} {h : mm_Hp}
theorem mu_g (w : mm_inj mdom K) {n : Nat} (hn : n ∈ mdom) {z : Nat → Int32} {o : mm_Ob} (ho : mob K (m_w t n z) n = o) : mm_up (MP K t h) (K n) o = MP K (m_w t n z) h := by
  refine mm_pl_up w hn ho (fun m hm hne => ?_)
  unfold mob
  by_cases e : m = 0
  · rw [if_pos e, if_pos e, m_w_ne _ _ (fun z => hne (by rw [e]; exact z))]
  · rw [if_neg e, if_neg e, m_w_ne _ _ hne]
theorem mp_0 (w : mm_inj mdom K) : MP K t h (K 0) = some (oMd K (t 0)) := mm_pl_at w (by decide)
theorem mu_0 (w : mm_inj mdom K) (f : Nat) (x : Int32) : mm_up (MP K t h) (K 0) (oMd K (upd (t 0) f x)) = MP K (m_s t 0 f x) h := mu_g w (by decide) (by show oMd K (m_w t 0 _ 0) = _; rw [m_w_self])

theorem mp_2 (w : mm_inj mdom K) : MP K t h (K 2) = some (10, (List.range 4).map (fun k => Value.int (t 2 k))) := mm_pl_at w (by decide)
theorem mw_2 (w : mm_inj mdom K) (z : Nat → Int32) : mm_up (MP K t h) (K 2) (10, (List.range 4).map (fun k => Value.int (z k))) = MP K (m_w t 2 z) h := mu_g w (by decide) (by show (10, (List.range 4).map (fun k => Value.int (m_w t 2 z 2 k))) = _; rw [m_w_self])
theorem mu_2 (w : mm_inj mdom K) {j : Nat} (hj : j < 4) (x : Int32) : mm_up (MP K t h) (K 2) (10, ((List.range 4).map (fun k => Value.int (t 2 k))).set j (.int x)) = MP K (m_s t 2 j x) h := by rw [oIs_set hj]; exact mw_2 w _
theorem mp_3 (w : mm_inj mdom K) : MP K t h (K 3) = some (10, (List.range 4).map (fun k => Value.int (t 3 k))) := mm_pl_at w (by decide)
theorem mw_3 (w : mm_inj mdom K) (z : Nat → Int32) : mm_up (MP K t h) (K 3) (10, (List.range 4).map (fun k => Value.int (z k))) = MP K (m_w t 3 z) h := mu_g w (by decide) (by show (10, (List.range 4).map (fun k => Value.int (m_w t 3 z 3 k))) = _; rw [m_w_self])
theorem mu_3 (w : mm_inj mdom K) {j : Nat} (hj : j < 4) (x : Int32) : mm_up (MP K t h) (K 3) (10, ((List.range 4).map (fun k => Value.int (t 3 k))).set j (.int x)) = MP K (m_s t 3 j x) h := by rw [oIs_set hj]; exact mw_3 w _
theorem mp_4 (w : mm_inj mdom K) : MP K t h (K 4) = some (10, (List.range 4).map (fun k => Value.int (t 4 k))) := mm_pl_at w (by decide)
theorem mw_4 (w : mm_inj mdom K) (z : Nat → Int32) : mm_up (MP K t h) (K 4) (10, (List.range 4).map (fun k => Value.int (z k))) = MP K (m_w t 4 z) h := mu_g w (by decide) (by show (10, (List.range 4).map (fun k => Value.int (m_w t 4 z 4 k))) = _; rw [m_w_self])
theorem mu_4 (w : mm_inj mdom K) {j : Nat} (hj : j < 4) (x : Int32) : mm_up (MP K t h) (K 4) (10, ((List.range 4).map (fun k => Value.int (t 4 k))).set j (.int x)) = MP K (m_s t 4 j x) h := by rw [oIs_set hj]; exact mw_4 w _
theorem mp_5 (w : mm_inj mdom K) : MP K t h (K 5) = some (10, (List.range 4).map (fun k => Value.int (t 5 k))) := mm_pl_at w (by decide)
theorem mw_5 (w : mm_inj mdom K) (z : Nat → Int32) : mm_up (MP K t h) (K 5) (10, (List.range 4).map (fun k => Value.int (z k))) = MP K (m_w t 5 z) h := mu_g w (by decide) (by show (10, (List.range 4).map (fun k => Value.int (m_w t 5 z 5 k))) = _; rw [m_w_self])
theorem mu_5 (w : mm_inj mdom K) {j : Nat} (hj : j < 4) (x : Int32) : mm_up (MP K t h) (K 5) (10, ((List.range 4).map (fun k => Value.int (t 5 k))).set j (.int x)) = MP K (m_s t 5 j x) h := by rw [oIs_set hj]; exact mw_5 w _
theorem mp_6 (w : mm_inj mdom K) : MP K t h (K 6) = some (10, (List.range 16).map (fun k => Value.int (t 6 k))) := mm_pl_at w (by decide)
theorem mw_6 (w : mm_inj mdom K) (z : Nat → Int32) : mm_up (MP K t h) (K 6) (10, (List.range 16).map (fun k => Value.int (z k))) = MP K (m_w t 6 z) h := mu_g w (by decide) (by show (10, (List.range 16).map (fun k => Value.int (m_w t 6 z 6 k))) = _; rw [m_w_self])
theorem mu_6 (w : mm_inj mdom K) {j : Nat} (hj : j < 16) (x : Int32) : mm_up (MP K t h) (K 6) (10, ((List.range 16).map (fun k => Value.int (t 6 k))).set j (.int x)) = MP K (m_s t 6 j x) h := by rw [oIs_set hj]; exact mw_6 w _
theorem mp_7 (w : mm_inj mdom K) : MP K t h (K 7) = some (10, (List.range 24).map (fun k => Value.int (t 7 k))) := mm_pl_at w (by decide)
theorem mw_7 (w : mm_inj mdom K) (z : Nat → Int32) : mm_up (MP K t h) (K 7) (10, (List.range 24).map (fun k => Value.int (z k))) = MP K (m_w t 7 z) h := mu_g w (by decide) (by show (10, (List.range 24).map (fun k => Value.int (m_w t 7 z 7 k))) = _; rw [m_w_self])
theorem mu_7 (w : mm_inj mdom K) {j : Nat} (hj : j < 24) (x : Int32) : mm_up (MP K t h) (K 7) (10, ((List.range 24).map (fun k => Value.int (t 7 k))).set j (.int x)) = MP K (m_s t 7 j x) h := by rw [oIs_set hj]; exact mw_7 w _
theorem mp_8 (w : mm_inj mdom K) : MP K t h (K 8) = some (10, (List.range 128).map (fun k => Value.int (t 8 k))) := mm_pl_at w (by decide)
theorem mw_8 (w : mm_inj mdom K) (z : Nat → Int32) : mm_up (MP K t h) (K 8) (10, (List.range 128).map (fun k => Value.int (z k))) = MP K (m_w t 8 z) h := mu_g w (by decide) (by show (10, (List.range 128).map (fun k => Value.int (m_w t 8 z 8 k))) = _; rw [m_w_self])
theorem mu_8 (w : mm_inj mdom K) {j : Nat} (hj : j < 128) (x : Int32) : mm_up (MP K t h) (K 8) (10, ((List.range 128).map (fun k => Value.int (t 8 k))).set j (.int x)) = MP K (m_s t 8 j x) h := by rw [oIs_set hj]; exact mw_8 w _
theorem mp_9 (w : mm_inj mdom K) : MP K t h (K 9) = some (10, (List.range 4).map (fun k => Value.int (t 9 k))) := mm_pl_at w (by decide)
theorem mw_9 (w : mm_inj mdom K) (z : Nat → Int32) : mm_up (MP K t h) (K 9) (10, (List.range 4).map (fun k => Value.int (z k))) = MP K (m_w t 9 z) h := mu_g w (by decide) (by show (10, (List.range 4).map (fun k => Value.int (m_w t 9 z 9 k))) = _; rw [m_w_self])
theorem mu_9 (w : mm_inj mdom K) {j : Nat} (hj : j < 4) (x : Int32) : mm_up (MP K t h) (K 9) (10, ((List.range 4).map (fun k => Value.int (t 9 k))).set j (.int x)) = MP K (m_s t 9 j x) h := by rw [oIs_set hj]; exact mw_9 w _
theorem mp_10 (w : mm_inj mdom K) : MP K t h (K 10) = some (11, (List.range 24).map (fun k => Value.int (t 10 k))) := mm_pl_at w (by decide)
theorem mw_10 (w : mm_inj mdom K) (z : Nat → Int32) : mm_up (MP K t h) (K 10) (11, (List.range 24).map (fun k => Value.int (z k))) = MP K (m_w t 10 z) h := mu_g w (by decide) (by show (11, (List.range 24).map (fun k => Value.int (m_w t 10 z 10 k))) = _; rw [m_w_self])
theorem mu_10 (w : mm_inj mdom K) {j : Nat} (hj : j < 24) (x : Int32) : mm_up (MP K t h) (K 10) (11, ((List.range 24).map (fun k => Value.int (t 10 k))).set j (.int x)) = MP K (m_s t 10 j x) h := by rw [oIs_set hj]; exact mw_10 w _
theorem mp_11 (w : mm_inj mdom K) : MP K t h (K 11) = some (10, (List.range 24).map (fun k => Value.int (t 11 k))) := mm_pl_at w (by decide)
theorem mw_11 (w : mm_inj mdom K) (z : Nat → Int32) : mm_up (MP K t h) (K 11) (10, (List.range 24).map (fun k => Value.int (z k))) = MP K (m_w t 11 z) h := mu_g w (by decide) (by show (10, (List.range 24).map (fun k => Value.int (m_w t 11 z 11 k))) = _; rw [m_w_self])
theorem mu_11 (w : mm_inj mdom K) {j : Nat} (hj : j < 24) (x : Int32) : mm_up (MP K t h) (K 11) (10, ((List.range 24).map (fun k => Value.int (t 11 k))).set j (.int x)) = MP K (m_s t 11 j x) h := by rw [oIs_set hj]; exact mw_11 w _
theorem mp_12 (w : mm_inj mdom K) : MP K t h (K 12) = some (10, (List.range 24).map (fun k => Value.int (t 12 k))) := mm_pl_at w (by decide)
theorem mw_12 (w : mm_inj mdom K) (z : Nat → Int32) : mm_up (MP K t h) (K 12) (10, (List.range 24).map (fun k => Value.int (z k))) = MP K (m_w t 12 z) h := mu_g w (by decide) (by show (10, (List.range 24).map (fun k => Value.int (m_w t 12 z 12 k))) = _; rw [m_w_self])
theorem mu_12 (w : mm_inj mdom K) {j : Nat} (hj : j < 24) (x : Int32) : mm_up (MP K t h) (K 12) (10, ((List.range 24).map (fun k => Value.int (t 12 k))).set j (.int x)) = MP K (m_s t 12 j x) h := by rw [oIs_set hj]; exact mw_12 w _
theorem mp_13 (w : mm_inj mdom K) : MP K t h (K 13) = some (10, (List.range 24).map (fun k => Value.int (t 13 k))) := mm_pl_at w (by decide)
theorem mw_13 (w : mm_inj mdom K) (z : Nat → Int32) : mm_up (MP K t h) (K 13) (10, (List.range 24).map (fun k => Value.int (z k))) = MP K (m_w t 13 z) h := mu_g w (by decide) (by show (10, (List.range 24).map (fun k => Value.int (m_w t 13 z 13 k))) = _; rw [m_w_self])
theorem mu_13 (w : mm_inj mdom K) {j : Nat} (hj : j < 24) (x : Int32) : mm_up (MP K t h) (K 13) (10, ((List.range 24).map (fun k => Value.int (t 13 k))).set j (.int x)) = MP K (m_s t 13 j x) h := by rw [oIs_set hj]; exact mw_13 w _
theorem mp_15 (w : mm_inj mdom K) : MP K t h (K 15) = some (10, (List.range 8).map (fun k => Value.int (t 15 k))) := mm_pl_at w (by decide)
theorem mw_15 (w : mm_inj mdom K) (z : Nat → Int32) : mm_up (MP K t h) (K 15) (10, (List.range 8).map (fun k => Value.int (z k))) = MP K (m_w t 15 z) h := mu_g w (by decide) (by show (10, (List.range 8).map (fun k => Value.int (m_w t 15 z 15 k))) = _; rw [m_w_self])
theorem mu_15 (w : mm_inj mdom K) {j : Nat} (hj : j < 8) (x : Int32) : mm_up (MP K t h) (K 15) (10, ((List.range 8).map (fun k => Value.int (t 15 k))).set j (.int x)) = MP K (m_s t 15 j x) h := by rw [oIs_set hj]; exact mw_15 w _
theorem mp_16 (w : mm_inj mdom K) : MP K t h (K 16) = some (10, (List.range 8).map (fun k => Value.int (t 16 k))) := mm_pl_at w (by decide)
theorem mw_16 (w : mm_inj mdom K) (z : Nat → Int32) : mm_up (MP K t h) (K 16) (10, (List.range 8).map (fun k => Value.int (z k))) = MP K (m_w t 16 z) h := mu_g w (by decide) (by show (10, (List.range 8).map (fun k => Value.int (m_w t 16 z 16 k))) = _; rw [m_w_self])
theorem mu_16 (w : mm_inj mdom K) {j : Nat} (hj : j < 8) (x : Int32) : mm_up (MP K t h) (K 16) (10, ((List.range 8).map (fun k => Value.int (t 16 k))).set j (.int x)) = MP K (m_s t 16 j x) h := by rw [oIs_set hj]; exact mw_16 w _
theorem mp_17 (w : mm_inj mdom K) : MP K t h (K 17) = some (10, (List.range 8).map (fun k => Value.int (t 17 k))) := mm_pl_at w (by decide)
theorem mw_17 (w : mm_inj mdom K) (z : Nat → Int32) : mm_up (MP K t h) (K 17) (10, (List.range 8).map (fun k => Value.int (z k))) = MP K (m_w t 17 z) h := mu_g w (by decide) (by show (10, (List.range 8).map (fun k => Value.int (m_w t 17 z 17 k))) = _; rw [m_w_self])
theorem mu_17 (w : mm_inj mdom K) {j : Nat} (hj : j < 8) (x : Int32) : mm_up (MP K t h) (K 17) (10, ((List.range 8).map (fun k => Value.int (t 17 k))).set j (.int x)) = MP K (m_s t 17 j x) h := by rw [oIs_set hj]; exact mw_17 w _
theorem mp_18 (w : mm_inj mdom K) : MP K t h (K 18) = some (10, (List.range 8).map (fun k => Value.int (t 18 k))) := mm_pl_at w (by decide)
theorem mw_18 (w : mm_inj mdom K) (z : Nat → Int32) : mm_up (MP K t h) (K 18) (10, (List.range 8).map (fun k => Value.int (z k))) = MP K (m_w t 18 z) h := mu_g w (by decide) (by show (10, (List.range 8).map (fun k => Value.int (m_w t 18 z 18 k))) = _; rw [m_w_self])
theorem mu_18 (w : mm_inj mdom K) {j : Nat} (hj : j < 8) (x : Int32) : mm_up (MP K t h) (K 18) (10, ((List.range 8).map (fun k => Value.int (t 18 k))).set j (.int x)) = MP K (m_s t 18 j x) h := by rw [oIs_set hj]; exact mw_18 w _
theorem mp_22 (w : mm_inj mdom K) : MP K t h (K 22) = some (10, (List.range 4).map (fun k => Value.int (t 22 k))) := mm_pl_at w (by decide)
theorem mw_22 (w : mm_inj mdom K) (z : Nat → Int32) : mm_up (MP K t h) (K 22) (10, (List.range 4).map (fun k => Value.int (z k))) = MP K (m_w t 22 z) h := mu_g w (by decide) (by show (10, (List.range 4).map (fun k => Value.int (m_w t 22 z 22 k))) = _; rw [m_w_self])
theorem mu_22 (w : mm_inj mdom K) {j : Nat} (hj : j < 4) (x : Int32) : mm_up (MP K t h) (K 22) (10, ((List.range 4).map (fun k => Value.int (t 22 k))).set j (.int x)) = MP K (m_s t 22 j x) h := by rw [oIs_set hj]; exact mw_22 w _
end MPS
/-- what the reference's arrays keep to -/
def m_cl (t : mS) (d : Nat) : Nat := (t 4 d).toNatClampNeg
def m_wd (t : mS) (d : Nat) : Nat := (t 2 d).toNatClampNeg
def m_dr (t : mS) (j : Nat) : Nat := (t 15 j).toNatClampNeg
def m_no (t : mS) (c : Nat) : Nat := (t 13 c).toNatClampNeg
def m_pt (t : mS) (j : Nat) : Nat := (t 17 j).toNatClampNeg
def m_ok (nd nn : Nat) (t : mS) : Prop := nd ≤ 4 ∧ nn ≤ 8 ∧ t 0 1 = nI nd ∧ t 0 14 = nI nn ∧ (∀ d, d < nd → 1 ≤ m_cl t d ∧ m_cl t d ≤ 6 ∧ t 4 d = nI (m_cl t d)) ∧ (∀ d, d < nd → 2 ≤ m_wd t d ∧ m_wd t d ≤ 4 ∧ t 2 d = nI (m_wd t d)) ∧ (∀ j, j < nn → m_dr t j < 24 ∧ t 15 j = nI (m_dr t j)) ∧ (∀ j, j < nn → (¬ t 16 j < 2 → ¬ t 17 j < 0) ∧ (¬ t 17 j < 0 → m_pt t j < nn ∧ t 17 j = nI (m_pt t j))) ∧ ∀ d k, d < nd → k < m_cl t d → ¬ t 13 (6 * d + k) < 0 → m_no t (6 * d + k) < nn ∧ t 13 (6 * d + k) = nI (m_no t (6 * d + k))
theorem ix6 (a b : Nat) : (6 : Int32) * nI a + nI b = nI (6 * a + b) := by rw [show (6 : Int32) = nI 6 from rfl, pk_mul, nI_add]
theorem ix4 (a b : Nat) : (4 : Int32) * nI a + nI b = nI (4 * a + b) := by rw [show (4 : Int32) = nI 4 from rfl, pk_mul, nI_add]
theorem ix32 (a b : Nat) : (32 : Int32) * nI a + nI b = nI (32 * a + b) := by rw [show (32 : Int32) = nI 32 from rfl, pk_mul, nI_add]
theorem ix6' (a : Nat) : (6 : Int32) * nI a = nI (6 * a) := by rw [show (6 : Int32) = nI 6 from rfl, pk_mul]
theorem ix4' (a : Nat) : (4 : Int32) * nI a = nI (4 * a) := by rw [show (4 : Int32) = nI 4 from rfl, pk_mul]
theorem ix32' (a : Nat) : (32 : Int32) * nI a = nI (32 * a) := by rw [show (32 : Int32) = nI 32 from rfl, pk_mul]
/-- what a clock leaves alone -/
def m_same (t t' : mS) : Prop := (∀ n, n ∉ [0, 5, 6, 7, 8, 9, 11] → t' n = t n) ∧ ∀ f, f ≠ 19 → f ≠ 20 → t' 0 f = t 0 f
theorem same_rf (t : mS) : m_same t t := ⟨fun _ _ => rfl, fun _ _ _ => rfl⟩
theorem same_tr {a b c : mS} (h1 : m_same a b) (h2 : m_same b c) : m_same a c := ⟨fun n hn => (h2.1 n hn).trans (h1.1 n hn), fun f a b => (h2.2 f a b).trans (h1.2 f a b)⟩
theorem same_w (t : mS) {n : Nat} (hn : n ∈ [5, 6, 7, 8, 9, 11]) (z : Nat → Int32) : m_same t (m_w t n z) := by
  have h0 : n ≠ 0 := fun e => by rw [e] at hn; exact absurd hn (by decide)
  exact ⟨fun m hm => m_w_ne _ _ (fun e => hm (by rw [e]; exact List.mem_cons_of_mem _ hn)), fun f _ _ => by rw [m_w_ne _ _ (Ne.symm h0)]⟩
theorem same_up {f : Nat → mS → mS} (hf : ∀ i t, m_same t (f i t)) : ∀ (n i : Nat) (t : mS), m_same t (up f n i t) := by
  intro n
  induction n with
  | zero => intro i t; exact same_rf t
  | succ n ih => intro i t; exact same_tr (hf i t) (ih _ _)
theorem same_ok {nd nn : Nat} {t t' : mS} (hs : m_same t t') (hk : m_ok nd nn t) : m_ok nd nn t' := by
  have e2 : t' 2 = t 2 := hs.1 2 (by decide)
  have e4 : t' 4 = t 4 := hs.1 4 (by decide)
  have e13 : t' 13 = t 13 := hs.1 13 (by decide)
  have e15 : t' 15 = t 15 := hs.1 15 (by decide)
  have e16 : t' 16 = t 16 := hs.1 16 (by decide)
  have e17 : t' 17 = t 17 := hs.1 17 (by decide)
  unfold m_ok m_cl m_wd m_dr m_no m_pt at *
  rw [e2, e4, e13, e15, e16, e17, hs.2 1 (by decide) (by decide), hs.2 14 (by decide) (by decide)]
  exact hk
end
section
/-! the reference: its smaller methods -/
def m_out (t : mS) (c : Nat) : Int32 := if t 5 (c / 6) = 0 then t 11 c else t 12 c
def m_val (t : mS) (j : Nat) : Int32 := if t 16 j < 0 then m_out t (m_dr t j) else if t 16 j < 2 then t 16 j else if t 16 j = 2 then m_out t (m_dr t j) * m_out t (m_dr t (m_pt t j)) else m_out t (m_dr t j) + m_out t (m_dr t (m_pt t j)) - m_out t (m_dr t j) * m_out t (m_dr t (m_pt t j))
def m_sg (t : mS) (c : Nat) : Int32 := if t 10 c = 0 then (if t 13 c < 0 then 0 else m_val t (m_no t c)) else m_out t c
def m_cut (t : mS) (j : Nat) : mS := m_s (m_s t 16 j (-1)) 17 j (-1)
def m_heal (t : mS) (j : Nat) : mS := if t 17 j < 0 then m_cut t j else m_cut (m_cut t j) (m_pt t j)
def dnk (z : Nat → Int32) (a k : Nat) : Nat → Int32 := fun i => if a ≤ i ∧ i + 1 < a + k then z (i + 1) else z i
def dn (z : Nat → Int32) (a l : Nat) (x : Int32) : Nat → Int32 := upd (dnk z a l) (a + l - 1) x
def dwn (f : Nat → Int32 → Int32) : Nat → Int32 → Int32
  | 0, v => v
  | k + 1, v => dwn f k (f k v)
def m_num (t : mS) (d : Nat) : Int32 := dwn (fun k v => 2 * v + t 6 (4 * d + k)) (m_wd t d) 0
section MD1
variable {G : mm_G} {K : Nat → Nat} {t : mS} {h : mm_Hp} {nd nn : Nat}
theorem dnk_1 (z : Nat → Int32) (a : Nat) : dnk z a 1 = z := by
  funext i
  unfold dnk
  rw [if_neg (by omega)]
theorem dnk_s (z : Nat → Int32) (a k : Nat) (hk : 1 ≤ k) : upd (dnk z a k) (a + k - 1) (dnk z a k (a + k)) = dnk z a (k + 1) := by
  funext i
  unfold upd dnk
  by_cases e : i = a + k - 1
  · rw [if_pos e, if_neg (by omega), if_pos (by omega), e]
    congr 1
    omega
  · rw [if_neg e]
    by_cases e2 : a ≤ i ∧ i + 1 < a + k
    · rw [if_pos e2, if_pos (by omega)]
    · rw [if_neg e2, if_neg (by omega)]

set_option maxHeartbeats 1000000 in
theorem c_Md_thrown (w : mm_inj mdom K)  : mm_C G M_Md_thrown [.ref (K 0)] (MP K t h) 0 0 (mm_E (some (.int (t 0 0))) (MP K t h)) := by
  refine mm_C_of (by decide +kernel) rfl (Nat.le_of_ble_eq_true rfl) rfl ?_
  refine mm_blk (pc' := 1) ok_Md_thrown 1 _ _ _ rfl ?_
  refine mm_getf ok_Md_thrown (mp_0 w) rfl f_Md_62 rfl ?_
  exact mm_iret ok_Md_thrown rfl rfl ⟨rfl, rfl⟩
set_option maxHeartbeats 1000000 in
theorem c_Md_out1  {x y : Int32} (hx : x < 0 ∨ ¬ x < y) : mm_C G M_Md_out [.int x, .int y] h 0 0 (mm_E (some (.int 1)) h) := by
  refine mm_C_of (by decide +kernel) rfl (Nat.le_of_ble_eq_true rfl) rfl ?_
  refine mm_blk (pc' := 1) ok_Md_out 1 _ _ _ rfl ?_
  refine mm_if_lt ok_Md_out 9 rfl (by decide) (fun c1 => ?_) (fun c1 => ?_)
  · -- 9 t
    refine mm_blk (pc' := 14) ok_Md_out 2 _ _ _ rfl ?_
    exact mm_zret ok_Md_out rfl rfl rfl ⟨rfl, rfl⟩
  · -- 4 f
    refine mm_blk (pc' := 6) ok_Md_out 2 _ _ _ rfl ?_
    refine mm_ic_lt ok_Md_out 13 rfl (by decide) (fun c => ?_) (fun c => ?_)
    · exact absurd c (hx.resolve_left c1)
    refine mm_blk (pc' := 14) ok_Md_out 2 _ _ _ rfl ?_
    exact mm_zret ok_Md_out rfl rfl rfl ⟨rfl, rfl⟩
set_option maxHeartbeats 1000000 in
theorem c_Md_out0  {x y : Int32} (h0 : ¬ x < 0) (hx : x < y) : mm_C G M_Md_out [.int x, .int y] h 0 0 (mm_E (some (.int 0)) h) := by
  refine mm_C_of (by decide +kernel) rfl (Nat.le_of_ble_eq_true rfl) rfl ?_
  refine mm_blk (pc' := 1) ok_Md_out 1 _ _ _ rfl ?_
  refine mm_if_lt ok_Md_out 9 rfl (by decide) (fun c => ?_) (fun c => ?_)
  · exact absurd c h0
  refine mm_blk (pc' := 6) ok_Md_out 2 _ _ _ rfl ?_
  refine mm_ic_lt ok_Md_out 13 rfl (by decide) (fun c => ?_) (fun c => ?_)
  rotate_left
  · exact absurd hx c
  refine mm_blk (pc' := 14) ok_Md_out 1 _ _ _ rfl ?_
  exact mm_zret ok_Md_out rfl rfl rfl ⟨rfl, rfl⟩
theorem c_Md_outN {a b : Nat} (hab : a < b) (hb : b < 1000) : mm_C G M_Md_out [.int (nI a), .int (nI b)] h 0 0 (mm_E (some (.int 0)) h) := c_Md_out0 (nI_pos (by omega)) (nI_lt hab (by omega))
theorem out_of {x : Int32} {n : Nat} (hn : n < 2147483648) (hx : ¬ inR x n) : x < 0 ∨ ¬ x < nI n := by
  rcases pk_ix x (n := n) hn with h1 | h1 | h1
  · exact Or.inl h1
  · exact Or.inr (Int32.not_lt.mpr h1)
  · exact absurd ((inR_iff hn).mpr h1) hx
set_option maxHeartbeats 1000000 in
theorem c_Md_fail (w : mm_inj mdom K) (x : Int32) : mm_C G M_Md_fail [.ref (K 0), .int x] (MP K t h) 0 0 (mm_E (some (.int 0)) (MP K (m_s t 0 0 x) h)) := by
  refine mm_C_of (by decide +kernel) rfl (Nat.le_of_ble_eq_true rfl) rfl ?_
  refine mm_blk (pc' := 2) ok_Md_fail 2 _ _ _ rfl ?_
  refine mm_putf ok_Md_fail (mp_0 w) rfl f_Md_62 (Or.inl rfl) (mm_fit_I _) ?_
  refine mm_V_heap (mu_0 w 0 _) ?_
  refine mm_blk (pc' := 6) ok_Md_fail 1 _ _ _ rfl ?_
  exact mm_iret ok_Md_fail rfl rfl ⟨rfl, rfl⟩
set_option maxHeartbeats 1000000 in
theorem c_Md_after0_0   : mm_C G M_Md_after [.int (nI 0), .int 0] h 0 0 (mm_E (some (.int 1)) h) := by
  refine mm_C_of (by decide +kernel) rfl (Nat.le_of_ble_eq_true rfl) rfl ?_
  refine mm_blk (pc' := 1) ok_Md_after 1 _ _ _ rfl ?_
  refine mm_if_eq ok_Md_after 127 rfl (by decide) (fun c => ?_) (fun c => ?_)
  rotate_left
  · first | exact c (by decide) | exact absurd c (by decide)
  refine mm_blk (pc' := 129) ok_Md_after 2 _ _ _ rfl ?_
  refine mm_ic_lt ok_Md_after 144 rfl (by decide) (fun c => ?_) (fun c => ?_)
  rotate_left
  · first | exact c (by decide) | exact absurd c (by decide)
  refine mm_blk (pc' := 229) ok_Md_after 2 _ _ _ rfl ?_
  exact mm_iret ok_Md_after rfl rfl ⟨rfl, rfl⟩
set_option maxHeartbeats 1000000 in
theorem c_Md_after1_0  {b : Int32} (hb : ¬ b = 0) : mm_C G M_Md_after [.int (nI 0), .int b] h 0 0 (mm_E (some (.int 0)) h) := by
  refine mm_C_of (by decide +kernel) rfl (Nat.le_of_ble_eq_true rfl) rfl ?_
  refine mm_blk (pc' := 1) ok_Md_after 1 _ _ _ rfl ?_
  refine mm_if_eq ok_Md_after 127 rfl (by decide) (fun c => ?_) (fun c => ?_)
  · exact absurd c hb
  refine mm_blk (pc' := 5) ok_Md_after 1 _ _ _ rfl ?_
  refine mm_if_eq ok_Md_after 14 rfl (by decide) (fun c => ?_) (fun c => ?_)
  rotate_left
  · first | exact c (by decide) | exact absurd c (by decide)
  refine mm_blk (pc' := 126) ok_Md_after 2 _ _ _ rfl ?_
  exact mm_iret ok_Md_after rfl rfl ⟨rfl, rfl⟩
set_option maxHeartbeats 1000000 in
theorem c_Md_after0_1   : mm_C G M_Md_after [.int (nI 1), .int 0] h 0 0 (mm_E (some (.int 1)) h) := by
  refine mm_C_of (by decide +kernel) rfl (Nat.le_of_ble_eq_true rfl) rfl ?_
  refine mm_blk (pc' := 1) ok_Md_after 1 _ _ _ rfl ?_
  refine mm_if_eq ok_Md_after 127 rfl (by decide) (fun c => ?_) (fun c => ?_)
  rotate_left
  · first | exact c (by decide) | exact absurd c (by decide)
  refine mm_blk (pc' := 129) ok_Md_after 2 _ _ _ rfl ?_
  refine mm_ic_lt ok_Md_after 144 rfl (by decide) (fun c => ?_) (fun c => ?_)
  rotate_left
  · first | exact c (by decide) | exact absurd c (by decide)
  refine mm_blk (pc' := 229) ok_Md_after 2 _ _ _ rfl ?_
  exact mm_iret ok_Md_after rfl rfl ⟨rfl, rfl⟩
set_option maxHeartbeats 1000000 in
theorem c_Md_after1_1  {b : Int32} (hb : ¬ b = 0) : mm_C G M_Md_after [.int (nI 1), .int b] h 0 0 (mm_E (some (.int 2)) h) := by
  refine mm_C_of (by decide +kernel) rfl (Nat.le_of_ble_eq_true rfl) rfl ?_
  refine mm_blk (pc' := 1) ok_Md_after 1 _ _ _ rfl ?_
  refine mm_if_eq ok_Md_after 127 rfl (by decide) (fun c => ?_) (fun c => ?_)
  · exact absurd c hb
  refine mm_blk (pc' := 5) ok_Md_after 1 _ _ _ rfl ?_
  refine mm_if_eq ok_Md_after 14 rfl (by decide) (fun c => ?_) (fun c => ?_)
  · first | exact c (by decide) | exact absurd c (by decide)
  refine mm_blk (pc' := 11) ok_Md_after 2 _ _ _ rfl ?_
  refine mm_ic_ne ok_Md_after 18 rfl (by decide) (fun c => ?_) (fun c => ?_)
  rotate_left
  · first | exact c (by decide) | exact absurd c (by decide)
  refine mm_blk (pc' := 20) ok_Md_after 2 _ _ _ rfl ?_
  refine mm_ic_eq ok_Md_after 35 rfl (by decide) (fun c => ?_) (fun c => ?_)
  rotate_left
  · first | exact c (by decide) | exact absurd c (by decide)
  refine mm_blk (pc' := 126) ok_Md_after 2 _ _ _ rfl ?_
  exact mm_iret ok_Md_after rfl rfl ⟨rfl, rfl⟩
set_option maxHeartbeats 1000000 in
theorem c_Md_after0_2   : mm_C G M_Md_after [.int (nI 2), .int 0] h 0 0 (mm_E (some (.int 3)) h) := by
  refine mm_C_of (by decide +kernel) rfl (Nat.le_of_ble_eq_true rfl) rfl ?_
  refine mm_blk (pc' := 1) ok_Md_after 1 _ _ _ rfl ?_
  refine mm_if_eq ok_Md_after 127 rfl (by decide) (fun c => ?_) (fun c => ?_)
  rotate_left
  · first | exact c (by decide) | exact absurd c (by decide)
  refine mm_blk (pc' := 129) ok_Md_after 2 _ _ _ rfl ?_
  refine mm_ic_lt ok_Md_after 144 rfl (by decide) (fun c => ?_) (fun c => ?_)
  · first | exact c (by decide) | exact absurd c (by decide)
  refine mm_blk (pc' := 135) ok_Md_after 2 _ _ _ rfl ?_
  refine mm_ic_eq ok_Md_after 144 rfl (by decide) (fun c => ?_) (fun c => ?_)
  · first | exact c (by decide) | exact absurd c (by decide)
  refine mm_blk (pc' := 141) ok_Md_after 2 _ _ _ rfl ?_
  refine mm_ic_ne ok_Md_after 148 rfl (by decide) (fun c => ?_) (fun c => ?_)
  rotate_left
  · first | exact c (by decide) | exact absurd c (by decide)
  refine mm_blk (pc' := 150) ok_Md_after 2 _ _ _ rfl ?_
  refine mm_ic_ne ok_Md_after 157 rfl (by decide) (fun c => ?_) (fun c => ?_)
  · first | exact c (by decide) | exact absurd c (by decide)
  refine mm_blk (pc' := 229) ok_Md_after 2 _ _ _ rfl ?_
  exact mm_iret ok_Md_after rfl rfl ⟨rfl, rfl⟩
set_option maxHeartbeats 1000000 in
theorem c_Md_after1_2  {b : Int32} (hb : ¬ b = 0) : mm_C G M_Md_after [.int (nI 2), .int b] h 0 0 (mm_E (some (.int 9)) h) := by
  refine mm_C_of (by decide +kernel) rfl (Nat.le_of_ble_eq_true rfl) rfl ?_
  refine mm_blk (pc' := 1) ok_Md_after 1 _ _ _ rfl ?_
  refine mm_if_eq ok_Md_after 127 rfl (by decide) (fun c => ?_) (fun c => ?_)
  · exact absurd c hb
  refine mm_blk (pc' := 5) ok_Md_after 1 _ _ _ rfl ?_
  refine mm_if_eq ok_Md_after 14 rfl (by decide) (fun c => ?_) (fun c => ?_)
  · first | exact c (by decide) | exact absurd c (by decide)
  refine mm_blk (pc' := 11) ok_Md_after 2 _ _ _ rfl ?_
  refine mm_ic_ne ok_Md_after 18 rfl (by decide) (fun c => ?_) (fun c => ?_)
  rotate_left
  · first | exact c (by decide) | exact absurd c (by decide)
  refine mm_blk (pc' := 20) ok_Md_after 2 _ _ _ rfl ?_
  refine mm_ic_eq ok_Md_after 35 rfl (by decide) (fun c => ?_) (fun c => ?_)
  · first | exact c (by decide) | exact absurd c (by decide)
  refine mm_blk (pc' := 26) ok_Md_after 2 _ _ _ rfl ?_
  refine mm_ic_eq ok_Md_after 35 rfl (by decide) (fun c => ?_) (fun c => ?_)
  · first | exact c (by decide) | exact absurd c (by decide)
  refine mm_blk (pc' := 32) ok_Md_after 2 _ _ _ rfl ?_
  refine mm_ic_ne ok_Md_after 39 rfl (by decide) (fun c => ?_) (fun c => ?_)
  rotate_left
  · first | exact c (by decide) | exact absurd c (by decide)
  refine mm_blk (pc' := 41) ok_Md_after 2 _ _ _ rfl ?_
  refine mm_ic_ne ok_Md_after 49 rfl (by decide) (fun c => ?_) (fun c => ?_)
  · first | exact c (by decide) | exact absurd c (by decide)
  refine mm_blk (pc' := 126) ok_Md_after 2 _ _ _ rfl ?_
  exact mm_iret ok_Md_after rfl rfl ⟨rfl, rfl⟩
set_option maxHeartbeats 1000000 in
theorem c_Md_after0_3   : mm_C G M_Md_after [.int (nI 3), .int 0] h 0 0 (mm_E (some (.int 4)) h) := by
  refine mm_C_of (by decide +kernel) rfl (Nat.le_of_ble_eq_true rfl) rfl ?_
  refine mm_blk (pc' := 1) ok_Md_after 1 _ _ _ rfl ?_
  refine mm_if_eq ok_Md_after 127 rfl (by decide) (fun c => ?_) (fun c => ?_)
  rotate_left
  · first | exact c (by decide) | exact absurd c (by decide)
  refine mm_blk (pc' := 129) ok_Md_after 2 _ _ _ rfl ?_
  refine mm_ic_lt ok_Md_after 144 rfl (by decide) (fun c => ?_) (fun c => ?_)
  · first | exact c (by decide) | exact absurd c (by decide)
  refine mm_blk (pc' := 135) ok_Md_after 2 _ _ _ rfl ?_
  refine mm_ic_eq ok_Md_after 144 rfl (by decide) (fun c => ?_) (fun c => ?_)
  · first | exact c (by decide) | exact absurd c (by decide)
  refine mm_blk (pc' := 141) ok_Md_after 2 _ _ _ rfl ?_
  refine mm_ic_ne ok_Md_after 148 rfl (by decide) (fun c => ?_) (fun c => ?_)
  rotate_left
  · first | exact c (by decide) | exact absurd c (by decide)
  refine mm_blk (pc' := 150) ok_Md_after 2 _ _ _ rfl ?_
  refine mm_ic_ne ok_Md_after 157 rfl (by decide) (fun c => ?_) (fun c => ?_)
  rotate_left
  · first | exact c (by decide) | exact absurd c (by decide)
  refine mm_blk (pc' := 159) ok_Md_after 2 _ _ _ rfl ?_
  refine mm_ic_eq ok_Md_after 173 rfl (by decide) (fun c => ?_) (fun c => ?_)
  rotate_left
  · first | exact c (by decide) | exact absurd c (by decide)
  refine mm_blk (pc' := 229) ok_Md_after 2 _ _ _ rfl ?_
  exact mm_iret ok_Md_after rfl rfl ⟨rfl, rfl⟩
set_option maxHeartbeats 1000000 in
theorem c_Md_after1_3  {b : Int32} (hb : ¬ b = 0) : mm_C G M_Md_after [.int (nI 3), .int b] h 0 0 (mm_E (some (.int 5)) h) := by
  refine mm_C_of (by decide +kernel) rfl (Nat.le_of_ble_eq_true rfl) rfl ?_
  refine mm_blk (pc' := 1) ok_Md_after 1 _ _ _ rfl ?_
  refine mm_if_eq ok_Md_after 127 rfl (by decide) (fun c => ?_) (fun c => ?_)
  · exact absurd c hb
  refine mm_blk (pc' := 5) ok_Md_after 1 _ _ _ rfl ?_
  refine mm_if_eq ok_Md_after 14 rfl (by decide) (fun c => ?_) (fun c => ?_)
  · first | exact c (by decide) | exact absurd c (by decide)
  refine mm_blk (pc' := 11) ok_Md_after 2 _ _ _ rfl ?_
  refine mm_ic_ne ok_Md_after 18 rfl (by decide) (fun c => ?_) (fun c => ?_)
  rotate_left
  · first | exact c (by decide) | exact absurd c (by decide)
  refine mm_blk (pc' := 20) ok_Md_after 2 _ _ _ rfl ?_
  refine mm_ic_eq ok_Md_after 35 rfl (by decide) (fun c => ?_) (fun c => ?_)
  · first | exact c (by decide) | exact absurd c (by decide)
  refine mm_blk (pc' := 26) ok_Md_after 2 _ _ _ rfl ?_
  refine mm_ic_eq ok_Md_after 35 rfl (by decide) (fun c => ?_) (fun c => ?_)
  · first | exact c (by decide) | exact absurd c (by decide)
  refine mm_blk (pc' := 32) ok_Md_after 2 _ _ _ rfl ?_
  refine mm_ic_ne ok_Md_after 39 rfl (by decide) (fun c => ?_) (fun c => ?_)
  rotate_left
  · first | exact c (by decide) | exact absurd c (by decide)
  refine mm_blk (pc' := 41) ok_Md_after 2 _ _ _ rfl ?_
  refine mm_ic_ne ok_Md_after 49 rfl (by decide) (fun c => ?_) (fun c => ?_)
  rotate_left
  · first | exact c (by decide) | exact absurd c (by decide)
  refine mm_blk (pc' := 51) ok_Md_after 2 _ _ _ rfl ?_
  refine mm_ic_eq ok_Md_after 59 rfl (by decide) (fun c => ?_) (fun c => ?_)
  rotate_left
  · first | exact c (by decide) | exact absurd c (by decide)
  refine mm_blk (pc' := 126) ok_Md_after 2 _ _ _ rfl ?_
  exact mm_iret ok_Md_after rfl rfl ⟨rfl, rfl⟩
set_option maxHeartbeats 1000000 in
theorem c_Md_after0_4   : mm_C G M_Md_after [.int (nI 4), .int 0] h 0 0 (mm_E (some (.int 4)) h) := by
  refine mm_C_of (by decide +kernel) rfl (Nat.le_of_ble_eq_true rfl) rfl ?_
  refine mm_blk (pc' := 1) ok_Md_after 1 _ _ _ rfl ?_
  refine mm_if_eq ok_Md_after 127 rfl (by decide) (fun c => ?_) (fun c => ?_)
  rotate_left
  · first | exact c (by decide) | exact absurd c (by decide)
  refine mm_blk (pc' := 129) ok_Md_after 2 _ _ _ rfl ?_
  refine mm_ic_lt ok_Md_after 144 rfl (by decide) (fun c => ?_) (fun c => ?_)
  · first | exact c (by decide) | exact absurd c (by decide)
  refine mm_blk (pc' := 135) ok_Md_after 2 _ _ _ rfl ?_
  refine mm_ic_eq ok_Md_after 144 rfl (by decide) (fun c => ?_) (fun c => ?_)
  · first | exact c (by decide) | exact absurd c (by decide)
  refine mm_blk (pc' := 141) ok_Md_after 2 _ _ _ rfl ?_
  refine mm_ic_ne ok_Md_after 148 rfl (by decide) (fun c => ?_) (fun c => ?_)
  rotate_left
  · first | exact c (by decide) | exact absurd c (by decide)
  refine mm_blk (pc' := 150) ok_Md_after 2 _ _ _ rfl ?_
  refine mm_ic_ne ok_Md_after 157 rfl (by decide) (fun c => ?_) (fun c => ?_)
  rotate_left
  · first | exact c (by decide) | exact absurd c (by decide)
  refine mm_blk (pc' := 159) ok_Md_after 2 _ _ _ rfl ?_
  refine mm_ic_eq ok_Md_after 173 rfl (by decide) (fun c => ?_) (fun c => ?_)
  · first | exact c (by decide) | exact absurd c (by decide)
  refine mm_blk (pc' := 164) ok_Md_after 2 _ _ _ rfl ?_
  refine mm_ic_eq ok_Md_after 173 rfl (by decide) (fun c => ?_) (fun c => ?_)
  rotate_left
  · first | exact c (by decide) | exact absurd c (by decide)
  refine mm_blk (pc' := 229) ok_Md_after 2 _ _ _ rfl ?_
  exact mm_iret ok_Md_after rfl rfl ⟨rfl, rfl⟩
set_option maxHeartbeats 1000000 in
theorem c_Md_after1_4  {b : Int32} (hb : ¬ b = 0) : mm_C G M_Md_after [.int (nI 4), .int b] h 0 0 (mm_E (some (.int 5)) h) := by
  refine mm_C_of (by decide +kernel) rfl (Nat.le_of_ble_eq_true rfl) rfl ?_
  refine mm_blk (pc' := 1) ok_Md_after 1 _ _ _ rfl ?_
  refine mm_if_eq ok_Md_after 127 rfl (by decide) (fun c => ?_) (fun c => ?_)
  · exact absurd c hb
  refine mm_blk (pc' := 5) ok_Md_after 1 _ _ _ rfl ?_
  refine mm_if_eq ok_Md_after 14 rfl (by decide) (fun c => ?_) (fun c => ?_)
  · first | exact c (by decide) | exact absurd c (by decide)
  refine mm_blk (pc' := 11) ok_Md_after 2 _ _ _ rfl ?_
  refine mm_ic_ne ok_Md_after 18 rfl (by decide) (fun c => ?_) (fun c => ?_)
  rotate_left
  · first | exact c (by decide) | exact absurd c (by decide)
  refine mm_blk (pc' := 20) ok_Md_after 2 _ _ _ rfl ?_
  refine mm_ic_eq ok_Md_after 35 rfl (by decide) (fun c => ?_) (fun c => ?_)
  · first | exact c (by decide) | exact absurd c (by decide)
  refine mm_blk (pc' := 26) ok_Md_after 2 _ _ _ rfl ?_
  refine mm_ic_eq ok_Md_after 35 rfl (by decide) (fun c => ?_) (fun c => ?_)
  · first | exact c (by decide) | exact absurd c (by decide)
  refine mm_blk (pc' := 32) ok_Md_after 2 _ _ _ rfl ?_
  refine mm_ic_ne ok_Md_after 39 rfl (by decide) (fun c => ?_) (fun c => ?_)
  rotate_left
  · first | exact c (by decide) | exact absurd c (by decide)
  refine mm_blk (pc' := 41) ok_Md_after 2 _ _ _ rfl ?_
  refine mm_ic_ne ok_Md_after 49 rfl (by decide) (fun c => ?_) (fun c => ?_)
  rotate_left
  · first | exact c (by decide) | exact absurd c (by decide)
  refine mm_blk (pc' := 51) ok_Md_after 2 _ _ _ rfl ?_
  refine mm_ic_eq ok_Md_after 59 rfl (by decide) (fun c => ?_) (fun c => ?_)
  · first | exact c (by decide) | exact absurd c (by decide)
  refine mm_blk (pc' := 56) ok_Md_after 2 _ _ _ rfl ?_
  refine mm_ic_ne ok_Md_after 63 rfl (by decide) (fun c => ?_) (fun c => ?_)
  · first | exact c (by decide) | exact absurd c (by decide)
  refine mm_blk (pc' := 126) ok_Md_after 2 _ _ _ rfl ?_
  exact mm_iret ok_Md_after rfl rfl ⟨rfl, rfl⟩
set_option maxHeartbeats 1000000 in
theorem c_Md_after0_5   : mm_C G M_Md_after [.int (nI 5), .int 0] h 0 0 (mm_E (some (.int 6)) h) := by
  refine mm_C_of (by decide +kernel) rfl (Nat.le_of_ble_eq_true rfl) rfl ?_
  refine mm_blk (pc' := 1) ok_Md_after 1 _ _ _ rfl ?_
  refine mm_if_eq ok_Md_after 127 rfl (by decide) (fun c => ?_) (fun c => ?_)
  rotate_left
  · first | exact c (by decide) | exact absurd c (by decide)
  refine mm_blk (pc' := 129) ok_Md_after 2 _ _ _ rfl ?_
  refine mm_ic_lt ok_Md_after 144 rfl (by decide) (fun c => ?_) (fun c => ?_)
  · first | exact c (by decide) | exact absurd c (by decide)
  refine mm_blk (pc' := 135) ok_Md_after 2 _ _ _ rfl ?_
  refine mm_ic_eq ok_Md_after 144 rfl (by decide) (fun c => ?_) (fun c => ?_)
  · first | exact c (by decide) | exact absurd c (by decide)
  refine mm_blk (pc' := 141) ok_Md_after 2 _ _ _ rfl ?_
  refine mm_ic_ne ok_Md_after 148 rfl (by decide) (fun c => ?_) (fun c => ?_)
  rotate_left
  · first | exact c (by decide) | exact absurd c (by decide)
  refine mm_blk (pc' := 150) ok_Md_after 2 _ _ _ rfl ?_
  refine mm_ic_ne ok_Md_after 157 rfl (by decide) (fun c => ?_) (fun c => ?_)
  rotate_left
  · first | exact c (by decide) | exact absurd c (by decide)
  refine mm_blk (pc' := 159) ok_Md_after 2 _ _ _ rfl ?_
  refine mm_ic_eq ok_Md_after 173 rfl (by decide) (fun c => ?_) (fun c => ?_)
  · first | exact c (by decide) | exact absurd c (by decide)
  refine mm_blk (pc' := 164) ok_Md_after 2 _ _ _ rfl ?_
  refine mm_ic_eq ok_Md_after 173 rfl (by decide) (fun c => ?_) (fun c => ?_)
  · first | exact c (by decide) | exact absurd c (by decide)
  refine mm_blk (pc' := 170) ok_Md_after 2 _ _ _ rfl ?_
  refine mm_ic_ne ok_Md_after 177 rfl (by decide) (fun c => ?_) (fun c => ?_)
  rotate_left
  · first | exact c (by decide) | exact absurd c (by decide)
  refine mm_blk (pc' := 179) ok_Md_after 2 _ _ _ rfl ?_
  refine mm_ic_eq ok_Md_after 188 rfl (by decide) (fun c => ?_) (fun c => ?_)
  rotate_left
  · first | exact c (by decide) | exact absurd c (by decide)
  refine mm_blk (pc' := 229) ok_Md_after 2 _ _ _ rfl ?_
  exact mm_iret ok_Md_after rfl rfl ⟨rfl, rfl⟩
set_option maxHeartbeats 1000000 in
theorem c_Md_after1_5  {b : Int32} (hb : ¬ b = 0) : mm_C G M_Md_after [.int (nI 5), .int b] h 0 0 (mm_E (some (.int 8)) h) := by
  refine mm_C_of (by decide +kernel) rfl (Nat.le_of_ble_eq_true rfl) rfl ?_
  refine mm_blk (pc' := 1) ok_Md_after 1 _ _ _ rfl ?_
  refine mm_if_eq ok_Md_after 127 rfl (by decide) (fun c => ?_) (fun c => ?_)
  · exact absurd c hb
  refine mm_blk (pc' := 5) ok_Md_after 1 _ _ _ rfl ?_
  refine mm_if_eq ok_Md_after 14 rfl (by decide) (fun c => ?_) (fun c => ?_)
  · first | exact c (by decide) | exact absurd c (by decide)
  refine mm_blk (pc' := 11) ok_Md_after 2 _ _ _ rfl ?_
  refine mm_ic_ne ok_Md_after 18 rfl (by decide) (fun c => ?_) (fun c => ?_)
  rotate_left
  · first | exact c (by decide) | exact absurd c (by decide)
  refine mm_blk (pc' := 20) ok_Md_after 2 _ _ _ rfl ?_
  refine mm_ic_eq ok_Md_after 35 rfl (by decide) (fun c => ?_) (fun c => ?_)
  · first | exact c (by decide) | exact absurd c (by decide)
  refine mm_blk (pc' := 26) ok_Md_after 2 _ _ _ rfl ?_
  refine mm_ic_eq ok_Md_after 35 rfl (by decide) (fun c => ?_) (fun c => ?_)
  · first | exact c (by decide) | exact absurd c (by decide)
  refine mm_blk (pc' := 32) ok_Md_after 2 _ _ _ rfl ?_
  refine mm_ic_ne ok_Md_after 39 rfl (by decide) (fun c => ?_) (fun c => ?_)
  rotate_left
  · first | exact c (by decide) | exact absurd c (by decide)
  refine mm_blk (pc' := 41) ok_Md_after 2 _ _ _ rfl ?_
  refine mm_ic_ne ok_Md_after 49 rfl (by decide) (fun c => ?_) (fun c => ?_)
  rotate_left
  · first | exact c (by decide) | exact absurd c (by decide)
  refine mm_blk (pc' := 51) ok_Md_after 2 _ _ _ rfl ?_
  refine mm_ic_eq ok_Md_after 59 rfl (by decide) (fun c => ?_) (fun c => ?_)
  · first | exact c (by decide) | exact absurd c (by decide)
  refine mm_blk (pc' := 56) ok_Md_after 2 _ _ _ rfl ?_
  refine mm_ic_ne ok_Md_after 63 rfl (by decide) (fun c => ?_) (fun c => ?_)
  rotate_left
  · first | exact c (by decide) | exact absurd c (by decide)
  refine mm_blk (pc' := 65) ok_Md_after 2 _ _ _ rfl ?_
  refine mm_ic_eq ok_Md_after 74 rfl (by decide) (fun c => ?_) (fun c => ?_)
  rotate_left
  · first | exact c (by decide) | exact absurd c (by decide)
  refine mm_blk (pc' := 126) ok_Md_after 2 _ _ _ rfl ?_
  exact mm_iret ok_Md_after rfl rfl ⟨rfl, rfl⟩
set_option maxHeartbeats 1000000 in
theorem c_Md_after0_6   : mm_C G M_Md_after [.int (nI 6), .int 0] h 0 0 (mm_E (some (.int 6)) h) := by
  refine mm_C_of (by decide +kernel) rfl (Nat.le_of_ble_eq_true rfl) rfl ?_
  refine mm_blk (pc' := 1) ok_Md_after 1 _ _ _ rfl ?_
  refine mm_if_eq ok_Md_after 127 rfl (by decide) (fun c => ?_) (fun c => ?_)
  rotate_left
  · first | exact c (by decide) | exact absurd c (by decide)
  refine mm_blk (pc' := 129) ok_Md_after 2 _ _ _ rfl ?_
  refine mm_ic_lt ok_Md_after 144 rfl (by decide) (fun c => ?_) (fun c => ?_)
  · first | exact c (by decide) | exact absurd c (by decide)
  refine mm_blk (pc' := 135) ok_Md_after 2 _ _ _ rfl ?_
  refine mm_ic_eq ok_Md_after 144 rfl (by decide) (fun c => ?_) (fun c => ?_)
  · first | exact c (by decide) | exact absurd c (by decide)
  refine mm_blk (pc' := 141) ok_Md_after 2 _ _ _ rfl ?_
  refine mm_ic_ne ok_Md_after 148 rfl (by decide) (fun c => ?_) (fun c => ?_)
  rotate_left
  · first | exact c (by decide) | exact absurd c (by decide)
  refine mm_blk (pc' := 150) ok_Md_after 2 _ _ _ rfl ?_
  refine mm_ic_ne ok_Md_after 157 rfl (by decide) (fun c => ?_) (fun c => ?_)
  rotate_left
  · first | exact c (by decide) | exact absurd c (by decide)
  refine mm_blk (pc' := 159) ok_Md_after 2 _ _ _ rfl ?_
  refine mm_ic_eq ok_Md_after 173 rfl (by decide) (fun c => ?_) (fun c => ?_)
  · first | exact c (by decide) | exact absurd c (by decide)
  refine mm_blk (pc' := 164) ok_Md_after 2 _ _ _ rfl ?_
  refine mm_ic_eq ok_Md_after 173 rfl (by decide) (fun c => ?_) (fun c => ?_)
  · first | exact c (by decide) | exact absurd c (by decide)
  refine mm_blk (pc' := 170) ok_Md_after 2 _ _ _ rfl ?_
  refine mm_ic_ne ok_Md_after 177 rfl (by decide) (fun c => ?_) (fun c => ?_)
  rotate_left
  · first | exact c (by decide) | exact absurd c (by decide)
  refine mm_blk (pc' := 179) ok_Md_after 2 _ _ _ rfl ?_
  refine mm_ic_eq ok_Md_after 188 rfl (by decide) (fun c => ?_) (fun c => ?_)
  · first | exact c (by decide) | exact absurd c (by decide)
  refine mm_blk (pc' := 185) ok_Md_after 2 _ _ _ rfl ?_
  refine mm_ic_ne ok_Md_after 193 rfl (by decide) (fun c => ?_) (fun c => ?_)
  · first | exact c (by decide) | exact absurd c (by decide)
  refine mm_blk (pc' := 229) ok_Md_after 2 _ _ _ rfl ?_
  exact mm_iret ok_Md_after rfl rfl ⟨rfl, rfl⟩
set_option maxHeartbeats 1000000 in
theorem c_Md_after1_6  {b : Int32} (hb : ¬ b = 0) : mm_C G M_Md_after [.int (nI 6), .int b] h 0 0 (mm_E (some (.int 7)) h) := by
  refine mm_C_of (by decide +kernel) rfl (Nat.le_of_ble_eq_true rfl) rfl ?_
  refine mm_blk (pc' := 1) ok_Md_after 1 _ _ _ rfl ?_
  refine mm_if_eq ok_Md_after 127 rfl (by decide) (fun c => ?_) (fun c => ?_)
  · exact absurd c hb
  refine mm_blk (pc' := 5) ok_Md_after 1 _ _ _ rfl ?_
  refine mm_if_eq ok_Md_after 14 rfl (by decide) (fun c => ?_) (fun c => ?_)
  · first | exact c (by decide) | exact absurd c (by decide)
  refine mm_blk (pc' := 11) ok_Md_after 2 _ _ _ rfl ?_
  refine mm_ic_ne ok_Md_after 18 rfl (by decide) (fun c => ?_) (fun c => ?_)
  rotate_left
  · first | exact c (by decide) | exact absurd c (by decide)
  refine mm_blk (pc' := 20) ok_Md_after 2 _ _ _ rfl ?_
  refine mm_ic_eq ok_Md_after 35 rfl (by decide) (fun c => ?_) (fun c => ?_)
  · first | exact c (by decide) | exact absurd c (by decide)
  refine mm_blk (pc' := 26) ok_Md_after 2 _ _ _ rfl ?_
  refine mm_ic_eq ok_Md_after 35 rfl (by decide) (fun c => ?_) (fun c => ?_)
  · first | exact c (by decide) | exact absurd c (by decide)
  refine mm_blk (pc' := 32) ok_Md_after 2 _ _ _ rfl ?_
  refine mm_ic_ne ok_Md_after 39 rfl (by decide) (fun c => ?_) (fun c => ?_)
  rotate_left
  · first | exact c (by decide) | exact absurd c (by decide)
  refine mm_blk (pc' := 41) ok_Md_after 2 _ _ _ rfl ?_
  refine mm_ic_ne ok_Md_after 49 rfl (by decide) (fun c => ?_) (fun c => ?_)
  rotate_left
  · first | exact c (by decide) | exact absurd c (by decide)
  refine mm_blk (pc' := 51) ok_Md_after 2 _ _ _ rfl ?_
  refine mm_ic_eq ok_Md_after 59 rfl (by decide) (fun c => ?_) (fun c => ?_)
  · first | exact c (by decide) | exact absurd c (by decide)
  refine mm_blk (pc' := 56) ok_Md_after 2 _ _ _ rfl ?_
  refine mm_ic_ne ok_Md_after 63 rfl (by decide) (fun c => ?_) (fun c => ?_)
  rotate_left
  · first | exact c (by decide) | exact absurd c (by decide)
  refine mm_blk (pc' := 65) ok_Md_after 2 _ _ _ rfl ?_
  refine mm_ic_eq ok_Md_after 74 rfl (by decide) (fun c => ?_) (fun c => ?_)
  · first | exact c (by decide) | exact absurd c (by decide)
  refine mm_blk (pc' := 71) ok_Md_after 2 _ _ _ rfl ?_
  refine mm_ic_ne ok_Md_after 79 rfl (by decide) (fun c => ?_) (fun c => ?_)
  rotate_left
  · first | exact c (by decide) | exact absurd c (by decide)
  refine mm_blk (pc' := 82) ok_Md_after 2 _ _ _ rfl ?_
  refine mm_ic_ne ok_Md_after 90 rfl (by decide) (fun c => ?_) (fun c => ?_)
  · first | exact c (by decide) | exact absurd c (by decide)
  refine mm_blk (pc' := 126) ok_Md_after 2 _ _ _ rfl ?_
  exact mm_iret ok_Md_after rfl rfl ⟨rfl, rfl⟩
set_option maxHeartbeats 1000000 in
theorem c_Md_after0_7   : mm_C G M_Md_after [.int (nI 7), .int 0] h 0 0 (mm_E (some (.int 4)) h) := by
  refine mm_C_of (by decide +kernel) rfl (Nat.le_of_ble_eq_true rfl) rfl ?_
  refine mm_blk (pc' := 1) ok_Md_after 1 _ _ _ rfl ?_
  refine mm_if_eq ok_Md_after 127 rfl (by decide) (fun c => ?_) (fun c => ?_)
  rotate_left
  · first | exact c (by decide) | exact absurd c (by decide)
  refine mm_blk (pc' := 129) ok_Md_after 2 _ _ _ rfl ?_
  refine mm_ic_lt ok_Md_after 144 rfl (by decide) (fun c => ?_) (fun c => ?_)
  · first | exact c (by decide) | exact absurd c (by decide)
  refine mm_blk (pc' := 135) ok_Md_after 2 _ _ _ rfl ?_
  refine mm_ic_eq ok_Md_after 144 rfl (by decide) (fun c => ?_) (fun c => ?_)
  · first | exact c (by decide) | exact absurd c (by decide)
  refine mm_blk (pc' := 141) ok_Md_after 2 _ _ _ rfl ?_
  refine mm_ic_ne ok_Md_after 148 rfl (by decide) (fun c => ?_) (fun c => ?_)
  rotate_left
  · first | exact c (by decide) | exact absurd c (by decide)
  refine mm_blk (pc' := 150) ok_Md_after 2 _ _ _ rfl ?_
  refine mm_ic_ne ok_Md_after 157 rfl (by decide) (fun c => ?_) (fun c => ?_)
  rotate_left
  · first | exact c (by decide) | exact absurd c (by decide)
  refine mm_blk (pc' := 159) ok_Md_after 2 _ _ _ rfl ?_
  refine mm_ic_eq ok_Md_after 173 rfl (by decide) (fun c => ?_) (fun c => ?_)
  · first | exact c (by decide) | exact absurd c (by decide)
  refine mm_blk (pc' := 164) ok_Md_after 2 _ _ _ rfl ?_
  refine mm_ic_eq ok_Md_after 173 rfl (by decide) (fun c => ?_) (fun c => ?_)
  · first | exact c (by decide) | exact absurd c (by decide)
  refine mm_blk (pc' := 170) ok_Md_after 2 _ _ _ rfl ?_
  refine mm_ic_ne ok_Md_after 177 rfl (by decide) (fun c => ?_) (fun c => ?_)
  · first | exact c (by decide) | exact absurd c (by decide)
  refine mm_blk (pc' := 229) ok_Md_after 2 _ _ _ rfl ?_
  exact mm_iret ok_Md_after rfl rfl ⟨rfl, rfl⟩
set_option maxHeartbeats 1000000 in
theorem c_Md_after1_7  {b : Int32} (hb : ¬ b = 0) : mm_C G M_Md_after [.int (nI 7), .int b] h 0 0 (mm_E (some (.int 8)) h) := by
  refine mm_C_of (by decide +kernel) rfl (Nat.le_of_ble_eq_true rfl) rfl ?_
  refine mm_blk (pc' := 1) ok_Md_after 1 _ _ _ rfl ?_
  refine mm_if_eq ok_Md_after 127 rfl (by decide) (fun c => ?_) (fun c => ?_)
  · exact absurd c hb
  refine mm_blk (pc' := 5) ok_Md_after 1 _ _ _ rfl ?_
  refine mm_if_eq ok_Md_after 14 rfl (by decide) (fun c => ?_) (fun c => ?_)
  · first | exact c (by decide) | exact absurd c (by decide)
  refine mm_blk (pc' := 11) ok_Md_after 2 _ _ _ rfl ?_
  refine mm_ic_ne ok_Md_after 18 rfl (by decide) (fun c => ?_) (fun c => ?_)
  rotate_left
  · first | exact c (by decide) | exact absurd c (by decide)
  refine mm_blk (pc' := 20) ok_Md_after 2 _ _ _ rfl ?_
  refine mm_ic_eq ok_Md_after 35 rfl (by decide) (fun c => ?_) (fun c => ?_)
  · first | exact c (by decide) | exact absurd c (by decide)
  refine mm_blk (pc' := 26) ok_Md_after 2 _ _ _ rfl ?_
  refine mm_ic_eq ok_Md_after 35 rfl (by decide) (fun c => ?_) (fun c => ?_)
  · first | exact c (by decide) | exact absurd c (by decide)
  refine mm_blk (pc' := 32) ok_Md_after 2 _ _ _ rfl ?_
  refine mm_ic_ne ok_Md_after 39 rfl (by decide) (fun c => ?_) (fun c => ?_)
  rotate_left
  · first | exact c (by decide) | exact absurd c (by decide)
  refine mm_blk (pc' := 41) ok_Md_after 2 _ _ _ rfl ?_
  refine mm_ic_ne ok_Md_after 49 rfl (by decide) (fun c => ?_) (fun c => ?_)
  rotate_left
  · first | exact c (by decide) | exact absurd c (by decide)
  refine mm_blk (pc' := 51) ok_Md_after 2 _ _ _ rfl ?_
  refine mm_ic_eq ok_Md_after 59 rfl (by decide) (fun c => ?_) (fun c => ?_)
  · first | exact c (by decide) | exact absurd c (by decide)
  refine mm_blk (pc' := 56) ok_Md_after 2 _ _ _ rfl ?_
  refine mm_ic_ne ok_Md_after 63 rfl (by decide) (fun c => ?_) (fun c => ?_)
  rotate_left
  · first | exact c (by decide) | exact absurd c (by decide)
  refine mm_blk (pc' := 65) ok_Md_after 2 _ _ _ rfl ?_
  refine mm_ic_eq ok_Md_after 74 rfl (by decide) (fun c => ?_) (fun c => ?_)
  · first | exact c (by decide) | exact absurd c (by decide)
  refine mm_blk (pc' := 71) ok_Md_after 2 _ _ _ rfl ?_
  refine mm_ic_ne ok_Md_after 79 rfl (by decide) (fun c => ?_) (fun c => ?_)
  · first | exact c (by decide) | exact absurd c (by decide)
  refine mm_blk (pc' := 126) ok_Md_after 2 _ _ _ rfl ?_
  exact mm_iret ok_Md_after rfl rfl ⟨rfl, rfl⟩
set_option maxHeartbeats 1000000 in
theorem c_Md_after0_8   : mm_C G M_Md_after [.int (nI 8), .int 0] h 0 0 (mm_E (some (.int 1)) h) := by
  refine mm_C_of (by decide +kernel) rfl (Nat.le_of_ble_eq_true rfl) rfl ?_
  refine mm_blk (pc' := 1) ok_Md_after 1 _ _ _ rfl ?_
  refine mm_if_eq ok_Md_after 127 rfl (by decide) (fun c => ?_) (fun c => ?_)
  rotate_left
  · first | exact c (by decide) | exact absurd c (by decide)
  refine mm_blk (pc' := 129) ok_Md_after 2 _ _ _ rfl ?_
  refine mm_ic_lt ok_Md_after 144 rfl (by decide) (fun c => ?_) (fun c => ?_)
  · first | exact c (by decide) | exact absurd c (by decide)
  refine mm_blk (pc' := 135) ok_Md_after 2 _ _ _ rfl ?_
  refine mm_ic_eq ok_Md_after 144 rfl (by decide) (fun c => ?_) (fun c => ?_)
  rotate_left
  · first | exact c (by decide) | exact absurd c (by decide)
  refine mm_blk (pc' := 229) ok_Md_after 2 _ _ _ rfl ?_
  exact mm_iret ok_Md_after rfl rfl ⟨rfl, rfl⟩
set_option maxHeartbeats 1000000 in
theorem c_Md_after1_8  {b : Int32} (hb : ¬ b = 0) : mm_C G M_Md_after [.int (nI 8), .int b] h 0 0 (mm_E (some (.int 2)) h) := by
  refine mm_C_of (by decide +kernel) rfl (Nat.le_of_ble_eq_true rfl) rfl ?_
  refine mm_blk (pc' := 1) ok_Md_after 1 _ _ _ rfl ?_
  refine mm_if_eq ok_Md_after 127 rfl (by decide) (fun c => ?_) (fun c => ?_)
  · exact absurd c hb
  refine mm_blk (pc' := 5) ok_Md_after 1 _ _ _ rfl ?_
  refine mm_if_eq ok_Md_after 14 rfl (by decide) (fun c => ?_) (fun c => ?_)
  · first | exact c (by decide) | exact absurd c (by decide)
  refine mm_blk (pc' := 11) ok_Md_after 2 _ _ _ rfl ?_
  refine mm_ic_ne ok_Md_after 18 rfl (by decide) (fun c => ?_) (fun c => ?_)
  rotate_left
  · first | exact c (by decide) | exact absurd c (by decide)
  refine mm_blk (pc' := 20) ok_Md_after 2 _ _ _ rfl ?_
  refine mm_ic_eq ok_Md_after 35 rfl (by decide) (fun c => ?_) (fun c => ?_)
  · first | exact c (by decide) | exact absurd c (by decide)
  refine mm_blk (pc' := 26) ok_Md_after 2 _ _ _ rfl ?_
  refine mm_ic_eq ok_Md_after 35 rfl (by decide) (fun c => ?_) (fun c => ?_)
  rotate_left
  · first | exact c (by decide) | exact absurd c (by decide)
  refine mm_blk (pc' := 126) ok_Md_after 2 _ _ _ rfl ?_
  exact mm_iret ok_Md_after rfl rfl ⟨rfl, rfl⟩
set_option maxHeartbeats 1000000 in
theorem c_Md_after0_9   : mm_C G M_Md_after [.int (nI 9), .int 0] h 0 0 (mm_E (some (.int 10)) h) := by
  refine mm_C_of (by decide +kernel) rfl (Nat.le_of_ble_eq_true rfl) rfl ?_
  refine mm_blk (pc' := 1) ok_Md_after 1 _ _ _ rfl ?_
  refine mm_if_eq ok_Md_after 127 rfl (by decide) (fun c => ?_) (fun c => ?_)
  rotate_left
  · first | exact c (by decide) | exact absurd c (by decide)
  refine mm_blk (pc' := 129) ok_Md_after 2 _ _ _ rfl ?_
  refine mm_ic_lt ok_Md_after 144 rfl (by decide) (fun c => ?_) (fun c => ?_)
  · first | exact c (by decide) | exact absurd c (by decide)
  refine mm_blk (pc' := 135) ok_Md_after 2 _ _ _ rfl ?_
  refine mm_ic_eq ok_Md_after 144 rfl (by decide) (fun c => ?_) (fun c => ?_)
  · first | exact c (by decide) | exact absurd c (by decide)
  refine mm_blk (pc' := 141) ok_Md_after 2 _ _ _ rfl ?_
  refine mm_ic_ne ok_Md_after 148 rfl (by decide) (fun c => ?_) (fun c => ?_)
  rotate_left
  · first | exact c (by decide) | exact absurd c (by decide)
  refine mm_blk (pc' := 150) ok_Md_after 2 _ _ _ rfl ?_
  refine mm_ic_ne ok_Md_after 157 rfl (by decide) (fun c => ?_) (fun c => ?_)
  rotate_left
  · first | exact c (by decide) | exact absurd c (by decide)
  refine mm_blk (pc' := 159) ok_Md_after 2 _ _ _ rfl ?_
  refine mm_ic_eq ok_Md_after 173 rfl (by decide) (fun c => ?_) (fun c => ?_)
  · first | exact c (by decide) | exact absurd c (by decide)
  refine mm_blk (pc' := 164) ok_Md_after 2 _ _ _ rfl ?_
  refine mm_ic_eq ok_Md_after 173 rfl (by decide) (fun c => ?_) (fun c => ?_)
  · first | exact c (by decide) | exact absurd c (by decide)
  refine mm_blk (pc' := 170) ok_Md_after 2 _ _ _ rfl ?_
  refine mm_ic_ne ok_Md_after 177 rfl (by decide) (fun c => ?_) (fun c => ?_)
  rotate_left
  · first | exact c (by decide) | exact absurd c (by decide)
  refine mm_blk (pc' := 179) ok_Md_after 2 _ _ _ rfl ?_
  refine mm_ic_eq ok_Md_after 188 rfl (by decide) (fun c => ?_) (fun c => ?_)
  · first | exact c (by decide) | exact absurd c (by decide)
  refine mm_blk (pc' := 185) ok_Md_after 2 _ _ _ rfl ?_
  refine mm_ic_ne ok_Md_after 193 rfl (by decide) (fun c => ?_) (fun c => ?_)
  rotate_left
  · first | exact c (by decide) | exact absurd c (by decide)
  refine mm_blk (pc' := 196) ok_Md_after 2 _ _ _ rfl ?_
  refine mm_ic_ne ok_Md_after 204 rfl (by decide) (fun c => ?_) (fun c => ?_)
  · first | exact c (by decide) | exact absurd c (by decide)
  refine mm_blk (pc' := 229) ok_Md_after 2 _ _ _ rfl ?_
  exact mm_iret ok_Md_after rfl rfl ⟨rfl, rfl⟩
set_option maxHeartbeats 1000000 in
theorem c_Md_after1_9  {b : Int32} (hb : ¬ b = 0) : mm_C G M_Md_after [.int (nI 9), .int b] h 0 0 (mm_E (some (.int 0)) h) := by
  refine mm_C_of (by decide +kernel) rfl (Nat.le_of_ble_eq_true rfl) rfl ?_
  refine mm_blk (pc' := 1) ok_Md_after 1 _ _ _ rfl ?_
  refine mm_if_eq ok_Md_after 127 rfl (by decide) (fun c => ?_) (fun c => ?_)
  · exact absurd c hb
  refine mm_blk (pc' := 5) ok_Md_after 1 _ _ _ rfl ?_
  refine mm_if_eq ok_Md_after 14 rfl (by decide) (fun c => ?_) (fun c => ?_)
  · first | exact c (by decide) | exact absurd c (by decide)
  refine mm_blk (pc' := 11) ok_Md_after 2 _ _ _ rfl ?_
  refine mm_ic_ne ok_Md_after 18 rfl (by decide) (fun c => ?_) (fun c => ?_)
  · first | exact c (by decide) | exact absurd c (by decide)
  refine mm_blk (pc' := 126) ok_Md_after 2 _ _ _ rfl ?_
  exact mm_iret ok_Md_after rfl rfl ⟨rfl, rfl⟩
set_option maxHeartbeats 1000000 in
theorem c_Md_after0_10   : mm_C G M_Md_after [.int (nI 10), .int 0] h 0 0 (mm_E (some (.int 11)) h) := by
  refine mm_C_of (by decide +kernel) rfl (Nat.le_of_ble_eq_true rfl) rfl ?_
  refine mm_blk (pc' := 1) ok_Md_after 1 _ _ _ rfl ?_
  refine mm_if_eq ok_Md_after 127 rfl (by decide) (fun c => ?_) (fun c => ?_)
  rotate_left
  · first | exact c (by decide) | exact absurd c (by decide)
  refine mm_blk (pc' := 129) ok_Md_after 2 _ _ _ rfl ?_
  refine mm_ic_lt ok_Md_after 144 rfl (by decide) (fun c => ?_) (fun c => ?_)
  · first | exact c (by decide) | exact absurd c (by decide)
  refine mm_blk (pc' := 135) ok_Md_after 2 _ _ _ rfl ?_
  refine mm_ic_eq ok_Md_after 144 rfl (by decide) (fun c => ?_) (fun c => ?_)
  · first | exact c (by decide) | exact absurd c (by decide)
  refine mm_blk (pc' := 141) ok_Md_after 2 _ _ _ rfl ?_
  refine mm_ic_ne ok_Md_after 148 rfl (by decide) (fun c => ?_) (fun c => ?_)
  rotate_left
  · first | exact c (by decide) | exact absurd c (by decide)
  refine mm_blk (pc' := 150) ok_Md_after 2 _ _ _ rfl ?_
  refine mm_ic_ne ok_Md_after 157 rfl (by decide) (fun c => ?_) (fun c => ?_)
  rotate_left
  · first | exact c (by decide) | exact absurd c (by decide)
  refine mm_blk (pc' := 159) ok_Md_after 2 _ _ _ rfl ?_
  refine mm_ic_eq ok_Md_after 173 rfl (by decide) (fun c => ?_) (fun c => ?_)
  · first | exact c (by decide) | exact absurd c (by decide)
  refine mm_blk (pc' := 164) ok_Md_after 2 _ _ _ rfl ?_
  refine mm_ic_eq ok_Md_after 173 rfl (by decide) (fun c => ?_) (fun c => ?_)
  · first | exact c (by decide) | exact absurd c (by decide)
  refine mm_blk (pc' := 170) ok_Md_after 2 _ _ _ rfl ?_
  refine mm_ic_ne ok_Md_after 177 rfl (by decide) (fun c => ?_) (fun c => ?_)
  rotate_left
  · first | exact c (by decide) | exact absurd c (by decide)
  refine mm_blk (pc' := 179) ok_Md_after 2 _ _ _ rfl ?_
  refine mm_ic_eq ok_Md_after 188 rfl (by decide) (fun c => ?_) (fun c => ?_)
  · first | exact c (by decide) | exact absurd c (by decide)
  refine mm_blk (pc' := 185) ok_Md_after 2 _ _ _ rfl ?_
  refine mm_ic_ne ok_Md_after 193 rfl (by decide) (fun c => ?_) (fun c => ?_)
  rotate_left
  · first | exact c (by decide) | exact absurd c (by decide)
  refine mm_blk (pc' := 196) ok_Md_after 2 _ _ _ rfl ?_
  refine mm_ic_ne ok_Md_after 204 rfl (by decide) (fun c => ?_) (fun c => ?_)
  rotate_left
  · first | exact c (by decide) | exact absurd c (by decide)
  refine mm_blk (pc' := 207) ok_Md_after 2 _ _ _ rfl ?_
  refine mm_ic_eq ok_Md_after 222 rfl (by decide) (fun c => ?_) (fun c => ?_)
  rotate_left
  · first | exact c (by decide) | exact absurd c (by decide)
  refine mm_blk (pc' := 229) ok_Md_after 2 _ _ _ rfl ?_
  exact mm_iret ok_Md_after rfl rfl ⟨rfl, rfl⟩
set_option maxHeartbeats 1000000 in
theorem c_Md_after1_10  {b : Int32} (hb : ¬ b = 0) : mm_C G M_Md_after [.int (nI 10), .int b] h 0 0 (mm_E (some (.int 12)) h) := by
  refine mm_C_of (by decide +kernel) rfl (Nat.le_of_ble_eq_true rfl) rfl ?_
  refine mm_blk (pc' := 1) ok_Md_after 1 _ _ _ rfl ?_
  refine mm_if_eq ok_Md_after 127 rfl (by decide) (fun c => ?_) (fun c => ?_)
  · exact absurd c hb
  refine mm_blk (pc' := 5) ok_Md_after 1 _ _ _ rfl ?_
  refine mm_if_eq ok_Md_after 14 rfl (by decide) (fun c => ?_) (fun c => ?_)
  · first | exact c (by decide) | exact absurd c (by decide)
  refine mm_blk (pc' := 11) ok_Md_after 2 _ _ _ rfl ?_
  refine mm_ic_ne ok_Md_after 18 rfl (by decide) (fun c => ?_) (fun c => ?_)
  rotate_left
  · first | exact c (by decide) | exact absurd c (by decide)
  refine mm_blk (pc' := 20) ok_Md_after 2 _ _ _ rfl ?_
  refine mm_ic_eq ok_Md_after 35 rfl (by decide) (fun c => ?_) (fun c => ?_)
  · first | exact c (by decide) | exact absurd c (by decide)
  refine mm_blk (pc' := 26) ok_Md_after 2 _ _ _ rfl ?_
  refine mm_ic_eq ok_Md_after 35 rfl (by decide) (fun c => ?_) (fun c => ?_)
  · first | exact c (by decide) | exact absurd c (by decide)
  refine mm_blk (pc' := 32) ok_Md_after 2 _ _ _ rfl ?_
  refine mm_ic_ne ok_Md_after 39 rfl (by decide) (fun c => ?_) (fun c => ?_)
  rotate_left
  · first | exact c (by decide) | exact absurd c (by decide)
  refine mm_blk (pc' := 41) ok_Md_after 2 _ _ _ rfl ?_
  refine mm_ic_ne ok_Md_after 49 rfl (by decide) (fun c => ?_) (fun c => ?_)
  rotate_left
  · first | exact c (by decide) | exact absurd c (by decide)
  refine mm_blk (pc' := 51) ok_Md_after 2 _ _ _ rfl ?_
  refine mm_ic_eq ok_Md_after 59 rfl (by decide) (fun c => ?_) (fun c => ?_)
  · first | exact c (by decide) | exact absurd c (by decide)
  refine mm_blk (pc' := 56) ok_Md_after 2 _ _ _ rfl ?_
  refine mm_ic_ne ok_Md_after 63 rfl (by decide) (fun c => ?_) (fun c => ?_)
  rotate_left
  · first | exact c (by decide) | exact absurd c (by decide)
  refine mm_blk (pc' := 65) ok_Md_after 2 _ _ _ rfl ?_
  refine mm_ic_eq ok_Md_after 74 rfl (by decide) (fun c => ?_) (fun c => ?_)
  · first | exact c (by decide) | exact absurd c (by decide)
  refine mm_blk (pc' := 71) ok_Md_after 2 _ _ _ rfl ?_
  refine mm_ic_ne ok_Md_after 79 rfl (by decide) (fun c => ?_) (fun c => ?_)
  rotate_left
  · first | exact c (by decide) | exact absurd c (by decide)
  refine mm_blk (pc' := 82) ok_Md_after 2 _ _ _ rfl ?_
  refine mm_ic_ne ok_Md_after 90 rfl (by decide) (fun c => ?_) (fun c => ?_)
  rotate_left
  · first | exact c (by decide) | exact absurd c (by decide)
  refine mm_blk (pc' := 93) ok_Md_after 2 _ _ _ rfl ?_
  refine mm_ic_eq ok_Md_after 102 rfl (by decide) (fun c => ?_) (fun c => ?_)
  rotate_left
  · first | exact c (by decide) | exact absurd c (by decide)
  refine mm_blk (pc' := 126) ok_Md_after 2 _ _ _ rfl ?_
  exact mm_iret ok_Md_after rfl rfl ⟨rfl, rfl⟩
set_option maxHeartbeats 1000000 in
theorem c_Md_after0_11   : mm_C G M_Md_after [.int (nI 11), .int 0] h 0 0 (mm_E (some (.int 11)) h) := by
  refine mm_C_of (by decide +kernel) rfl (Nat.le_of_ble_eq_true rfl) rfl ?_
  refine mm_blk (pc' := 1) ok_Md_after 1 _ _ _ rfl ?_
  refine mm_if_eq ok_Md_after 127 rfl (by decide) (fun c => ?_) (fun c => ?_)
  rotate_left
  · first | exact c (by decide) | exact absurd c (by decide)
  refine mm_blk (pc' := 129) ok_Md_after 2 _ _ _ rfl ?_
  refine mm_ic_lt ok_Md_after 144 rfl (by decide) (fun c => ?_) (fun c => ?_)
  · first | exact c (by decide) | exact absurd c (by decide)
  refine mm_blk (pc' := 135) ok_Md_after 2 _ _ _ rfl ?_
  refine mm_ic_eq ok_Md_after 144 rfl (by decide) (fun c => ?_) (fun c => ?_)
  · first | exact c (by decide) | exact absurd c (by decide)
  refine mm_blk (pc' := 141) ok_Md_after 2 _ _ _ rfl ?_
  refine mm_ic_ne ok_Md_after 148 rfl (by decide) (fun c => ?_) (fun c => ?_)
  rotate_left
  · first | exact c (by decide) | exact absurd c (by decide)
  refine mm_blk (pc' := 150) ok_Md_after 2 _ _ _ rfl ?_
  refine mm_ic_ne ok_Md_after 157 rfl (by decide) (fun c => ?_) (fun c => ?_)
  rotate_left
  · first | exact c (by decide) | exact absurd c (by decide)
  refine mm_blk (pc' := 159) ok_Md_after 2 _ _ _ rfl ?_
  refine mm_ic_eq ok_Md_after 173 rfl (by decide) (fun c => ?_) (fun c => ?_)
  · first | exact c (by decide) | exact absurd c (by decide)
  refine mm_blk (pc' := 164) ok_Md_after 2 _ _ _ rfl ?_
  refine mm_ic_eq ok_Md_after 173 rfl (by decide) (fun c => ?_) (fun c => ?_)
  · first | exact c (by decide) | exact absurd c (by decide)
  refine mm_blk (pc' := 170) ok_Md_after 2 _ _ _ rfl ?_
  refine mm_ic_ne ok_Md_after 177 rfl (by decide) (fun c => ?_) (fun c => ?_)
  rotate_left
  · first | exact c (by decide) | exact absurd c (by decide)
  refine mm_blk (pc' := 179) ok_Md_after 2 _ _ _ rfl ?_
  refine mm_ic_eq ok_Md_after 188 rfl (by decide) (fun c => ?_) (fun c => ?_)
  · first | exact c (by decide) | exact absurd c (by decide)
  refine mm_blk (pc' := 185) ok_Md_after 2 _ _ _ rfl ?_
  refine mm_ic_ne ok_Md_after 193 rfl (by decide) (fun c => ?_) (fun c => ?_)
  rotate_left
  · first | exact c (by decide) | exact absurd c (by decide)
  refine mm_blk (pc' := 196) ok_Md_after 2 _ _ _ rfl ?_
  refine mm_ic_ne ok_Md_after 204 rfl (by decide) (fun c => ?_) (fun c => ?_)
  rotate_left
  · first | exact c (by decide) | exact absurd c (by decide)
  refine mm_blk (pc' := 207) ok_Md_after 2 _ _ _ rfl ?_
  refine mm_ic_eq ok_Md_after 222 rfl (by decide) (fun c => ?_) (fun c => ?_)
  · first | exact c (by decide) | exact absurd c (by decide)
  refine mm_blk (pc' := 213) ok_Md_after 2 _ _ _ rfl ?_
  refine mm_ic_eq ok_Md_after 222 rfl (by decide) (fun c => ?_) (fun c => ?_)
  rotate_left
  · first | exact c (by decide) | exact absurd c (by decide)
  refine mm_blk (pc' := 229) ok_Md_after 2 _ _ _ rfl ?_
  exact mm_iret ok_Md_after rfl rfl ⟨rfl, rfl⟩
set_option maxHeartbeats 1000000 in
theorem c_Md_after1_11  {b : Int32} (hb : ¬ b = 0) : mm_C G M_Md_after [.int (nI 11), .int b] h 0 0 (mm_E (some (.int 12)) h) := by
  refine mm_C_of (by decide +kernel) rfl (Nat.le_of_ble_eq_true rfl) rfl ?_
  refine mm_blk (pc' := 1) ok_Md_after 1 _ _ _ rfl ?_
  refine mm_if_eq ok_Md_after 127 rfl (by decide) (fun c => ?_) (fun c => ?_)
  · exact absurd c hb
  refine mm_blk (pc' := 5) ok_Md_after 1 _ _ _ rfl ?_
  refine mm_if_eq ok_Md_after 14 rfl (by decide) (fun c => ?_) (fun c => ?_)
  · first | exact c (by decide) | exact absurd c (by decide)
  refine mm_blk (pc' := 11) ok_Md_after 2 _ _ _ rfl ?_
  refine mm_ic_ne ok_Md_after 18 rfl (by decide) (fun c => ?_) (fun c => ?_)
  rotate_left
  · first | exact c (by decide) | exact absurd c (by decide)
  refine mm_blk (pc' := 20) ok_Md_after 2 _ _ _ rfl ?_
  refine mm_ic_eq ok_Md_after 35 rfl (by decide) (fun c => ?_) (fun c => ?_)
  · first | exact c (by decide) | exact absurd c (by decide)
  refine mm_blk (pc' := 26) ok_Md_after 2 _ _ _ rfl ?_
  refine mm_ic_eq ok_Md_after 35 rfl (by decide) (fun c => ?_) (fun c => ?_)
  · first | exact c (by decide) | exact absurd c (by decide)
  refine mm_blk (pc' := 32) ok_Md_after 2 _ _ _ rfl ?_
  refine mm_ic_ne ok_Md_after 39 rfl (by decide) (fun c => ?_) (fun c => ?_)
  rotate_left
  · first | exact c (by decide) | exact absurd c (by decide)
  refine mm_blk (pc' := 41) ok_Md_after 2 _ _ _ rfl ?_
  refine mm_ic_ne ok_Md_after 49 rfl (by decide) (fun c => ?_) (fun c => ?_)
  rotate_left
  · first | exact c (by decide) | exact absurd c (by decide)
  refine mm_blk (pc' := 51) ok_Md_after 2 _ _ _ rfl ?_
  refine mm_ic_eq ok_Md_after 59 rfl (by decide) (fun c => ?_) (fun c => ?_)
  · first | exact c (by decide) | exact absurd c (by decide)
  refine mm_blk (pc' := 56) ok_Md_after 2 _ _ _ rfl ?_
  refine mm_ic_ne ok_Md_after 63 rfl (by decide) (fun c => ?_) (fun c => ?_)
  rotate_left
  · first | exact c (by decide) | exact absurd c (by decide)
  refine mm_blk (pc' := 65) ok_Md_after 2 _ _ _ rfl ?_
  refine mm_ic_eq ok_Md_after 74 rfl (by decide) (fun c => ?_) (fun c => ?_)
  · first | exact c (by decide) | exact absurd c (by decide)
  refine mm_blk (pc' := 71) ok_Md_after 2 _ _ _ rfl ?_
  refine mm_ic_ne ok_Md_after 79 rfl (by decide) (fun c => ?_) (fun c => ?_)
  rotate_left
  · first | exact c (by decide) | exact absurd c (by decide)
  refine mm_blk (pc' := 82) ok_Md_after 2 _ _ _ rfl ?_
  refine mm_ic_ne ok_Md_after 90 rfl (by decide) (fun c => ?_) (fun c => ?_)
  rotate_left
  · first | exact c (by decide) | exact absurd c (by decide)
  refine mm_blk (pc' := 93) ok_Md_after 2 _ _ _ rfl ?_
  refine mm_ic_eq ok_Md_after 102 rfl (by decide) (fun c => ?_) (fun c => ?_)
  · first | exact c (by decide) | exact absurd c (by decide)
  refine mm_blk (pc' := 99) ok_Md_after 2 _ _ _ rfl ?_
  refine mm_ic_ne ok_Md_after 107 rfl (by decide) (fun c => ?_) (fun c => ?_)
  · first | exact c (by decide) | exact absurd c (by decide)
  refine mm_blk (pc' := 126) ok_Md_after 2 _ _ _ rfl ?_
  exact mm_iret ok_Md_after rfl rfl ⟨rfl, rfl⟩
set_option maxHeartbeats 1000000 in
theorem c_Md_after0_12   : mm_C G M_Md_after [.int (nI 12), .int 0] h 0 0 (mm_E (some (.int 13)) h) := by
  refine mm_C_of (by decide +kernel) rfl (Nat.le_of_ble_eq_true rfl) rfl ?_
  refine mm_blk (pc' := 1) ok_Md_after 1 _ _ _ rfl ?_
  refine mm_if_eq ok_Md_after 127 rfl (by decide) (fun c => ?_) (fun c => ?_)
  rotate_left
  · first | exact c (by decide) | exact absurd c (by decide)
  refine mm_blk (pc' := 129) ok_Md_after 2 _ _ _ rfl ?_
  refine mm_ic_lt ok_Md_after 144 rfl (by decide) (fun c => ?_) (fun c => ?_)
  · first | exact c (by decide) | exact absurd c (by decide)
  refine mm_blk (pc' := 135) ok_Md_after 2 _ _ _ rfl ?_
  refine mm_ic_eq ok_Md_after 144 rfl (by decide) (fun c => ?_) (fun c => ?_)
  · first | exact c (by decide) | exact absurd c (by decide)
  refine mm_blk (pc' := 141) ok_Md_after 2 _ _ _ rfl ?_
  refine mm_ic_ne ok_Md_after 148 rfl (by decide) (fun c => ?_) (fun c => ?_)
  rotate_left
  · first | exact c (by decide) | exact absurd c (by decide)
  refine mm_blk (pc' := 150) ok_Md_after 2 _ _ _ rfl ?_
  refine mm_ic_ne ok_Md_after 157 rfl (by decide) (fun c => ?_) (fun c => ?_)
  rotate_left
  · first | exact c (by decide) | exact absurd c (by decide)
  refine mm_blk (pc' := 159) ok_Md_after 2 _ _ _ rfl ?_
  refine mm_ic_eq ok_Md_after 173 rfl (by decide) (fun c => ?_) (fun c => ?_)
  · first | exact c (by decide) | exact absurd c (by decide)
  refine mm_blk (pc' := 164) ok_Md_after 2 _ _ _ rfl ?_
  refine mm_ic_eq ok_Md_after 173 rfl (by decide) (fun c => ?_) (fun c => ?_)
  · first | exact c (by decide) | exact absurd c (by decide)
  refine mm_blk (pc' := 170) ok_Md_after 2 _ _ _ rfl ?_
  refine mm_ic_ne ok_Md_after 177 rfl (by decide) (fun c => ?_) (fun c => ?_)
  rotate_left
  · first | exact c (by decide) | exact absurd c (by decide)
  refine mm_blk (pc' := 179) ok_Md_after 2 _ _ _ rfl ?_
  refine mm_ic_eq ok_Md_after 188 rfl (by decide) (fun c => ?_) (fun c => ?_)
  · first | exact c (by decide) | exact absurd c (by decide)
  refine mm_blk (pc' := 185) ok_Md_after 2 _ _ _ rfl ?_
  refine mm_ic_ne ok_Md_after 193 rfl (by decide) (fun c => ?_) (fun c => ?_)
  rotate_left
  · first | exact c (by decide) | exact absurd c (by decide)
  refine mm_blk (pc' := 196) ok_Md_after 2 _ _ _ rfl ?_
  refine mm_ic_ne ok_Md_after 204 rfl (by decide) (fun c => ?_) (fun c => ?_)
  rotate_left
  · first | exact c (by decide) | exact absurd c (by decide)
  refine mm_blk (pc' := 207) ok_Md_after 2 _ _ _ rfl ?_
  refine mm_ic_eq ok_Md_after 222 rfl (by decide) (fun c => ?_) (fun c => ?_)
  · first | exact c (by decide) | exact absurd c (by decide)
  refine mm_blk (pc' := 213) ok_Md_after 2 _ _ _ rfl ?_
  refine mm_ic_eq ok_Md_after 222 rfl (by decide) (fun c => ?_) (fun c => ?_)
  · first | exact c (by decide) | exact absurd c (by decide)
  refine mm_blk (pc' := 219) ok_Md_after 2 _ _ _ rfl ?_
  refine mm_ic_ne ok_Md_after 227 rfl (by decide) (fun c => ?_) (fun c => ?_)
  rotate_left
  · first | exact c (by decide) | exact absurd c (by decide)
  refine mm_blk (pc' := 229) ok_Md_after 1 _ _ _ rfl ?_
  exact mm_iret ok_Md_after rfl rfl ⟨rfl, rfl⟩
set_option maxHeartbeats 1000000 in
theorem c_Md_after1_12  {b : Int32} (hb : ¬ b = 0) : mm_C G M_Md_after [.int (nI 12), .int b] h 0 0 (mm_E (some (.int 15)) h) := by
  refine mm_C_of (by decide +kernel) rfl (Nat.le_of_ble_eq_true rfl) rfl ?_
  refine mm_blk (pc' := 1) ok_Md_after 1 _ _ _ rfl ?_
  refine mm_if_eq ok_Md_after 127 rfl (by decide) (fun c => ?_) (fun c => ?_)
  · exact absurd c hb
  refine mm_blk (pc' := 5) ok_Md_after 1 _ _ _ rfl ?_
  refine mm_if_eq ok_Md_after 14 rfl (by decide) (fun c => ?_) (fun c => ?_)
  · first | exact c (by decide) | exact absurd c (by decide)
  refine mm_blk (pc' := 11) ok_Md_after 2 _ _ _ rfl ?_
  refine mm_ic_ne ok_Md_after 18 rfl (by decide) (fun c => ?_) (fun c => ?_)
  rotate_left
  · first | exact c (by decide) | exact absurd c (by decide)
  refine mm_blk (pc' := 20) ok_Md_after 2 _ _ _ rfl ?_
  refine mm_ic_eq ok_Md_after 35 rfl (by decide) (fun c => ?_) (fun c => ?_)
  · first | exact c (by decide) | exact absurd c (by decide)
  refine mm_blk (pc' := 26) ok_Md_after 2 _ _ _ rfl ?_
  refine mm_ic_eq ok_Md_after 35 rfl (by decide) (fun c => ?_) (fun c => ?_)
  · first | exact c (by decide) | exact absurd c (by decide)
  refine mm_blk (pc' := 32) ok_Md_after 2 _ _ _ rfl ?_
  refine mm_ic_ne ok_Md_after 39 rfl (by decide) (fun c => ?_) (fun c => ?_)
  rotate_left
  · first | exact c (by decide) | exact absurd c (by decide)
  refine mm_blk (pc' := 41) ok_Md_after 2 _ _ _ rfl ?_
  refine mm_ic_ne ok_Md_after 49 rfl (by decide) (fun c => ?_) (fun c => ?_)
  rotate_left
  · first | exact c (by decide) | exact absurd c (by decide)
  refine mm_blk (pc' := 51) ok_Md_after 2 _ _ _ rfl ?_
  refine mm_ic_eq ok_Md_after 59 rfl (by decide) (fun c => ?_) (fun c => ?_)
  · first | exact c (by decide) | exact absurd c (by decide)
  refine mm_blk (pc' := 56) ok_Md_after 2 _ _ _ rfl ?_
  refine mm_ic_ne ok_Md_after 63 rfl (by decide) (fun c => ?_) (fun c => ?_)
  rotate_left
  · first | exact c (by decide) | exact absurd c (by decide)
  refine mm_blk (pc' := 65) ok_Md_after 2 _ _ _ rfl ?_
  refine mm_ic_eq ok_Md_after 74 rfl (by decide) (fun c => ?_) (fun c => ?_)
  · first | exact c (by decide) | exact absurd c (by decide)
  refine mm_blk (pc' := 71) ok_Md_after 2 _ _ _ rfl ?_
  refine mm_ic_ne ok_Md_after 79 rfl (by decide) (fun c => ?_) (fun c => ?_)
  rotate_left
  · first | exact c (by decide) | exact absurd c (by decide)
  refine mm_blk (pc' := 82) ok_Md_after 2 _ _ _ rfl ?_
  refine mm_ic_ne ok_Md_after 90 rfl (by decide) (fun c => ?_) (fun c => ?_)
  rotate_left
  · first | exact c (by decide) | exact absurd c (by decide)
  refine mm_blk (pc' := 93) ok_Md_after 2 _ _ _ rfl ?_
  refine mm_ic_eq ok_Md_after 102 rfl (by decide) (fun c => ?_) (fun c => ?_)
  · first | exact c (by decide) | exact absurd c (by decide)
  refine mm_blk (pc' := 99) ok_Md_after 2 _ _ _ rfl ?_
  refine mm_ic_ne ok_Md_after 107 rfl (by decide) (fun c => ?_) (fun c => ?_)
  rotate_left
  · first | exact c (by decide) | exact absurd c (by decide)
  refine mm_blk (pc' := 110) ok_Md_after 2 _ _ _ rfl ?_
  refine mm_ic_eq ok_Md_after 119 rfl (by decide) (fun c => ?_) (fun c => ?_)
  rotate_left
  · first | exact c (by decide) | exact absurd c (by decide)
  refine mm_blk (pc' := 126) ok_Md_after 2 _ _ _ rfl ?_
  exact mm_iret ok_Md_after rfl rfl ⟨rfl, rfl⟩
set_option maxHeartbeats 1000000 in
theorem c_Md_after0_13   : mm_C G M_Md_after [.int (nI 13), .int 0] h 0 0 (mm_E (some (.int 13)) h) := by
  refine mm_C_of (by decide +kernel) rfl (Nat.le_of_ble_eq_true rfl) rfl ?_
  refine mm_blk (pc' := 1) ok_Md_after 1 _ _ _ rfl ?_
  refine mm_if_eq ok_Md_after 127 rfl (by decide) (fun c => ?_) (fun c => ?_)
  rotate_left
  · first | exact c (by decide) | exact absurd c (by decide)
  refine mm_blk (pc' := 129) ok_Md_after 2 _ _ _ rfl ?_
  refine mm_ic_lt ok_Md_after 144 rfl (by decide) (fun c => ?_) (fun c => ?_)
  · first | exact c (by decide) | exact absurd c (by decide)
  refine mm_blk (pc' := 135) ok_Md_after 2 _ _ _ rfl ?_
  refine mm_ic_eq ok_Md_after 144 rfl (by decide) (fun c => ?_) (fun c => ?_)
  · first | exact c (by decide) | exact absurd c (by decide)
  refine mm_blk (pc' := 141) ok_Md_after 2 _ _ _ rfl ?_
  refine mm_ic_ne ok_Md_after 148 rfl (by decide) (fun c => ?_) (fun c => ?_)
  rotate_left
  · first | exact c (by decide) | exact absurd c (by decide)
  refine mm_blk (pc' := 150) ok_Md_after 2 _ _ _ rfl ?_
  refine mm_ic_ne ok_Md_after 157 rfl (by decide) (fun c => ?_) (fun c => ?_)
  rotate_left
  · first | exact c (by decide) | exact absurd c (by decide)
  refine mm_blk (pc' := 159) ok_Md_after 2 _ _ _ rfl ?_
  refine mm_ic_eq ok_Md_after 173 rfl (by decide) (fun c => ?_) (fun c => ?_)
  · first | exact c (by decide) | exact absurd c (by decide)
  refine mm_blk (pc' := 164) ok_Md_after 2 _ _ _ rfl ?_
  refine mm_ic_eq ok_Md_after 173 rfl (by decide) (fun c => ?_) (fun c => ?_)
  · first | exact c (by decide) | exact absurd c (by decide)
  refine mm_blk (pc' := 170) ok_Md_after 2 _ _ _ rfl ?_
  refine mm_ic_ne ok_Md_after 177 rfl (by decide) (fun c => ?_) (fun c => ?_)
  rotate_left
  · first | exact c (by decide) | exact absurd c (by decide)
  refine mm_blk (pc' := 179) ok_Md_after 2 _ _ _ rfl ?_
  refine mm_ic_eq ok_Md_after 188 rfl (by decide) (fun c => ?_) (fun c => ?_)
  · first | exact c (by decide) | exact absurd c (by decide)
  refine mm_blk (pc' := 185) ok_Md_after 2 _ _ _ rfl ?_
  refine mm_ic_ne ok_Md_after 193 rfl (by decide) (fun c => ?_) (fun c => ?_)
  rotate_left
  · first | exact c (by decide) | exact absurd c (by decide)
  refine mm_blk (pc' := 196) ok_Md_after 2 _ _ _ rfl ?_
  refine mm_ic_ne ok_Md_after 204 rfl (by decide) (fun c => ?_) (fun c => ?_)
  rotate_left
  · first | exact c (by decide) | exact absurd c (by decide)
  refine mm_blk (pc' := 207) ok_Md_after 2 _ _ _ rfl ?_
  refine mm_ic_eq ok_Md_after 222 rfl (by decide) (fun c => ?_) (fun c => ?_)
  · first | exact c (by decide) | exact absurd c (by decide)
  refine mm_blk (pc' := 213) ok_Md_after 2 _ _ _ rfl ?_
  refine mm_ic_eq ok_Md_after 222 rfl (by decide) (fun c => ?_) (fun c => ?_)
  · first | exact c (by decide) | exact absurd c (by decide)
  refine mm_blk (pc' := 219) ok_Md_after 2 _ _ _ rfl ?_
  refine mm_ic_ne ok_Md_after 227 rfl (by decide) (fun c => ?_) (fun c => ?_)
  rotate_left
  · first | exact c (by decide) | exact absurd c (by decide)
  refine mm_blk (pc' := 229) ok_Md_after 1 _ _ _ rfl ?_
  exact mm_iret ok_Md_after rfl rfl ⟨rfl, rfl⟩
set_option maxHeartbeats 1000000 in
theorem c_Md_after1_13  {b : Int32} (hb : ¬ b = 0) : mm_C G M_Md_after [.int (nI 13), .int b] h 0 0 (mm_E (some (.int 14)) h) := by
  refine mm_C_of (by decide +kernel) rfl (Nat.le_of_ble_eq_true rfl) rfl ?_
  refine mm_blk (pc' := 1) ok_Md_after 1 _ _ _ rfl ?_
  refine mm_if_eq ok_Md_after 127 rfl (by decide) (fun c => ?_) (fun c => ?_)
  · exact absurd c hb
  refine mm_blk (pc' := 5) ok_Md_after 1 _ _ _ rfl ?_
  refine mm_if_eq ok_Md_after 14 rfl (by decide) (fun c => ?_) (fun c => ?_)
  · first | exact c (by decide) | exact absurd c (by decide)
  refine mm_blk (pc' := 11) ok_Md_after 2 _ _ _ rfl ?_
  refine mm_ic_ne ok_Md_after 18 rfl (by decide) (fun c => ?_) (fun c => ?_)
  rotate_left
  · first | exact c (by decide) | exact absurd c (by decide)
  refine mm_blk (pc' := 20) ok_Md_after 2 _ _ _ rfl ?_
  refine mm_ic_eq ok_Md_after 35 rfl (by decide) (fun c => ?_) (fun c => ?_)
  · first | exact c (by decide) | exact absurd c (by decide)
  refine mm_blk (pc' := 26) ok_Md_after 2 _ _ _ rfl ?_
  refine mm_ic_eq ok_Md_after 35 rfl (by decide) (fun c => ?_) (fun c => ?_)
  · first | exact c (by decide) | exact absurd c (by decide)
  refine mm_blk (pc' := 32) ok_Md_after 2 _ _ _ rfl ?_
  refine mm_ic_ne ok_Md_after 39 rfl (by decide) (fun c => ?_) (fun c => ?_)
  rotate_left
  · first | exact c (by decide) | exact absurd c (by decide)
  refine mm_blk (pc' := 41) ok_Md_after 2 _ _ _ rfl ?_
  refine mm_ic_ne ok_Md_after 49 rfl (by decide) (fun c => ?_) (fun c => ?_)
  rotate_left
  · first | exact c (by decide) | exact absurd c (by decide)
  refine mm_blk (pc' := 51) ok_Md_after 2 _ _ _ rfl ?_
  refine mm_ic_eq ok_Md_after 59 rfl (by decide) (fun c => ?_) (fun c => ?_)
  · first | exact c (by decide) | exact absurd c (by decide)
  refine mm_blk (pc' := 56) ok_Md_after 2 _ _ _ rfl ?_
  refine mm_ic_ne ok_Md_after 63 rfl (by decide) (fun c => ?_) (fun c => ?_)
  rotate_left
  · first | exact c (by decide) | exact absurd c (by decide)
  refine mm_blk (pc' := 65) ok_Md_after 2 _ _ _ rfl ?_
  refine mm_ic_eq ok_Md_after 74 rfl (by decide) (fun c => ?_) (fun c => ?_)
  · first | exact c (by decide) | exact absurd c (by decide)
  refine mm_blk (pc' := 71) ok_Md_after 2 _ _ _ rfl ?_
  refine mm_ic_ne ok_Md_after 79 rfl (by decide) (fun c => ?_) (fun c => ?_)
  rotate_left
  · first | exact c (by decide) | exact absurd c (by decide)
  refine mm_blk (pc' := 82) ok_Md_after 2 _ _ _ rfl ?_
  refine mm_ic_ne ok_Md_after 90 rfl (by decide) (fun c => ?_) (fun c => ?_)
  rotate_left
  · first | exact c (by decide) | exact absurd c (by decide)
  refine mm_blk (pc' := 93) ok_Md_after 2 _ _ _ rfl ?_
  refine mm_ic_eq ok_Md_after 102 rfl (by decide) (fun c => ?_) (fun c => ?_)
  · first | exact c (by decide) | exact absurd c (by decide)
  refine mm_blk (pc' := 99) ok_Md_after 2 _ _ _ rfl ?_
  refine mm_ic_ne ok_Md_after 107 rfl (by decide) (fun c => ?_) (fun c => ?_)
  rotate_left
  · first | exact c (by decide) | exact absurd c (by decide)
  refine mm_blk (pc' := 110) ok_Md_after 2 _ _ _ rfl ?_
  refine mm_ic_eq ok_Md_after 119 rfl (by decide) (fun c => ?_) (fun c => ?_)
  · first | exact c (by decide) | exact absurd c (by decide)
  refine mm_blk (pc' := 116) ok_Md_after 2 _ _ _ rfl ?_
  refine mm_ic_ne ok_Md_after 124 rfl (by decide) (fun c => ?_) (fun c => ?_)
  rotate_left
  · first | exact c (by decide) | exact absurd c (by decide)
  refine mm_blk (pc' := 126) ok_Md_after 1 _ _ _ rfl ?_
  exact mm_iret ok_Md_after rfl rfl ⟨rfl, rfl⟩
set_option maxHeartbeats 1000000 in
theorem c_Md_after0_14   : mm_C G M_Md_after [.int (nI 14), .int 0] h 0 0 (mm_E (some (.int 11)) h) := by
  refine mm_C_of (by decide +kernel) rfl (Nat.le_of_ble_eq_true rfl) rfl ?_
  refine mm_blk (pc' := 1) ok_Md_after 1 _ _ _ rfl ?_
  refine mm_if_eq ok_Md_after 127 rfl (by decide) (fun c => ?_) (fun c => ?_)
  rotate_left
  · first | exact c (by decide) | exact absurd c (by decide)
  refine mm_blk (pc' := 129) ok_Md_after 2 _ _ _ rfl ?_
  refine mm_ic_lt ok_Md_after 144 rfl (by decide) (fun c => ?_) (fun c => ?_)
  · first | exact c (by decide) | exact absurd c (by decide)
  refine mm_blk (pc' := 135) ok_Md_after 2 _ _ _ rfl ?_
  refine mm_ic_eq ok_Md_after 144 rfl (by decide) (fun c => ?_) (fun c => ?_)
  · first | exact c (by decide) | exact absurd c (by decide)
  refine mm_blk (pc' := 141) ok_Md_after 2 _ _ _ rfl ?_
  refine mm_ic_ne ok_Md_after 148 rfl (by decide) (fun c => ?_) (fun c => ?_)
  rotate_left
  · first | exact c (by decide) | exact absurd c (by decide)
  refine mm_blk (pc' := 150) ok_Md_after 2 _ _ _ rfl ?_
  refine mm_ic_ne ok_Md_after 157 rfl (by decide) (fun c => ?_) (fun c => ?_)
  rotate_left
  · first | exact c (by decide) | exact absurd c (by decide)
  refine mm_blk (pc' := 159) ok_Md_after 2 _ _ _ rfl ?_
  refine mm_ic_eq ok_Md_after 173 rfl (by decide) (fun c => ?_) (fun c => ?_)
  · first | exact c (by decide) | exact absurd c (by decide)
  refine mm_blk (pc' := 164) ok_Md_after 2 _ _ _ rfl ?_
  refine mm_ic_eq ok_Md_after 173 rfl (by decide) (fun c => ?_) (fun c => ?_)
  · first | exact c (by decide) | exact absurd c (by decide)
  refine mm_blk (pc' := 170) ok_Md_after 2 _ _ _ rfl ?_
  refine mm_ic_ne ok_Md_after 177 rfl (by decide) (fun c => ?_) (fun c => ?_)
  rotate_left
  · first | exact c (by decide) | exact absurd c (by decide)
  refine mm_blk (pc' := 179) ok_Md_after 2 _ _ _ rfl ?_
  refine mm_ic_eq ok_Md_after 188 rfl (by decide) (fun c => ?_) (fun c => ?_)
  · first | exact c (by decide) | exact absurd c (by decide)
  refine mm_blk (pc' := 185) ok_Md_after 2 _ _ _ rfl ?_
  refine mm_ic_ne ok_Md_after 193 rfl (by decide) (fun c => ?_) (fun c => ?_)
  rotate_left
  · first | exact c (by decide) | exact absurd c (by decide)
  refine mm_blk (pc' := 196) ok_Md_after 2 _ _ _ rfl ?_
  refine mm_ic_ne ok_Md_after 204 rfl (by decide) (fun c => ?_) (fun c => ?_)
  rotate_left
  · first | exact c (by decide) | exact absurd c (by decide)
  refine mm_blk (pc' := 207) ok_Md_after 2 _ _ _ rfl ?_
  refine mm_ic_eq ok_Md_after 222 rfl (by decide) (fun c => ?_) (fun c => ?_)
  · first | exact c (by decide) | exact absurd c (by decide)
  refine mm_blk (pc' := 213) ok_Md_after 2 _ _ _ rfl ?_
  refine mm_ic_eq ok_Md_after 222 rfl (by decide) (fun c => ?_) (fun c => ?_)
  · first | exact c (by decide) | exact absurd c (by decide)
  refine mm_blk (pc' := 219) ok_Md_after 2 _ _ _ rfl ?_
  refine mm_ic_ne ok_Md_after 227 rfl (by decide) (fun c => ?_) (fun c => ?_)
  · first | exact c (by decide) | exact absurd c (by decide)
  refine mm_blk (pc' := 229) ok_Md_after 2 _ _ _ rfl ?_
  exact mm_iret ok_Md_after rfl rfl ⟨rfl, rfl⟩
set_option maxHeartbeats 1000000 in
theorem c_Md_after1_14  {b : Int32} (hb : ¬ b = 0) : mm_C G M_Md_after [.int (nI 14), .int b] h 0 0 (mm_E (some (.int 15)) h) := by
  refine mm_C_of (by decide +kernel) rfl (Nat.le_of_ble_eq_true rfl) rfl ?_
  refine mm_blk (pc' := 1) ok_Md_after 1 _ _ _ rfl ?_
  refine mm_if_eq ok_Md_after 127 rfl (by decide) (fun c => ?_) (fun c => ?_)
  · exact absurd c hb
  refine mm_blk (pc' := 5) ok_Md_after 1 _ _ _ rfl ?_
  refine mm_if_eq ok_Md_after 14 rfl (by decide) (fun c => ?_) (fun c => ?_)
  · first | exact c (by decide) | exact absurd c (by decide)
  refine mm_blk (pc' := 11) ok_Md_after 2 _ _ _ rfl ?_
  refine mm_ic_ne ok_Md_after 18 rfl (by decide) (fun c => ?_) (fun c => ?_)
  rotate_left
  · first | exact c (by decide) | exact absurd c (by decide)
  refine mm_blk (pc' := 20) ok_Md_after 2 _ _ _ rfl ?_
  refine mm_ic_eq ok_Md_after 35 rfl (by decide) (fun c => ?_) (fun c => ?_)
  · first | exact c (by decide) | exact absurd c (by decide)
  refine mm_blk (pc' := 26) ok_Md_after 2 _ _ _ rfl ?_
  refine mm_ic_eq ok_Md_after 35 rfl (by decide) (fun c => ?_) (fun c => ?_)
  · first | exact c (by decide) | exact absurd c (by decide)
  refine mm_blk (pc' := 32) ok_Md_after 2 _ _ _ rfl ?_
  refine mm_ic_ne ok_Md_after 39 rfl (by decide) (fun c => ?_) (fun c => ?_)
  rotate_left
  · first | exact c (by decide) | exact absurd c (by decide)
  refine mm_blk (pc' := 41) ok_Md_after 2 _ _ _ rfl ?_
  refine mm_ic_ne ok_Md_after 49 rfl (by decide) (fun c => ?_) (fun c => ?_)
  rotate_left
  · first | exact c (by decide) | exact absurd c (by decide)
  refine mm_blk (pc' := 51) ok_Md_after 2 _ _ _ rfl ?_
  refine mm_ic_eq ok_Md_after 59 rfl (by decide) (fun c => ?_) (fun c => ?_)
  · first | exact c (by decide) | exact absurd c (by decide)
  refine mm_blk (pc' := 56) ok_Md_after 2 _ _ _ rfl ?_
  refine mm_ic_ne ok_Md_after 63 rfl (by decide) (fun c => ?_) (fun c => ?_)
  rotate_left
  · first | exact c (by decide) | exact absurd c (by decide)
  refine mm_blk (pc' := 65) ok_Md_after 2 _ _ _ rfl ?_
  refine mm_ic_eq ok_Md_after 74 rfl (by decide) (fun c => ?_) (fun c => ?_)
  · first | exact c (by decide) | exact absurd c (by decide)
  refine mm_blk (pc' := 71) ok_Md_after 2 _ _ _ rfl ?_
  refine mm_ic_ne ok_Md_after 79 rfl (by decide) (fun c => ?_) (fun c => ?_)
  rotate_left
  · first | exact c (by decide) | exact absurd c (by decide)
  refine mm_blk (pc' := 82) ok_Md_after 2 _ _ _ rfl ?_
  refine mm_ic_ne ok_Md_after 90 rfl (by decide) (fun c => ?_) (fun c => ?_)
  rotate_left
  · first | exact c (by decide) | exact absurd c (by decide)
  refine mm_blk (pc' := 93) ok_Md_after 2 _ _ _ rfl ?_
  refine mm_ic_eq ok_Md_after 102 rfl (by decide) (fun c => ?_) (fun c => ?_)
  · first | exact c (by decide) | exact absurd c (by decide)
  refine mm_blk (pc' := 99) ok_Md_after 2 _ _ _ rfl ?_
  refine mm_ic_ne ok_Md_after 107 rfl (by decide) (fun c => ?_) (fun c => ?_)
  rotate_left
  · first | exact c (by decide) | exact absurd c (by decide)
  refine mm_blk (pc' := 110) ok_Md_after 2 _ _ _ rfl ?_
  refine mm_ic_eq ok_Md_after 119 rfl (by decide) (fun c => ?_) (fun c => ?_)
  · first | exact c (by decide) | exact absurd c (by decide)
  refine mm_blk (pc' := 116) ok_Md_after 2 _ _ _ rfl ?_
  refine mm_ic_ne ok_Md_after 124 rfl (by decide) (fun c => ?_) (fun c => ?_)
  · first | exact c (by decide) | exact absurd c (by decide)
  refine mm_blk (pc' := 126) ok_Md_after 2 _ _ _ rfl ?_
  exact mm_iret ok_Md_after rfl rfl ⟨rfl, rfl⟩
set_option maxHeartbeats 1000000 in
theorem c_Md_after0_15   : mm_C G M_Md_after [.int (nI 15), .int 0] h 0 0 (mm_E (some (.int 1)) h) := by
  refine mm_C_of (by decide +kernel) rfl (Nat.le_of_ble_eq_true rfl) rfl ?_
  refine mm_blk (pc' := 1) ok_Md_after 1 _ _ _ rfl ?_
  refine mm_if_eq ok_Md_after 127 rfl (by decide) (fun c => ?_) (fun c => ?_)
  rotate_left
  · first | exact c (by decide) | exact absurd c (by decide)
  refine mm_blk (pc' := 129) ok_Md_after 2 _ _ _ rfl ?_
  refine mm_ic_lt ok_Md_after 144 rfl (by decide) (fun c => ?_) (fun c => ?_)
  · first | exact c (by decide) | exact absurd c (by decide)
  refine mm_blk (pc' := 135) ok_Md_after 2 _ _ _ rfl ?_
  refine mm_ic_eq ok_Md_after 144 rfl (by decide) (fun c => ?_) (fun c => ?_)
  · first | exact c (by decide) | exact absurd c (by decide)
  refine mm_blk (pc' := 141) ok_Md_after 2 _ _ _ rfl ?_
  refine mm_ic_ne ok_Md_after 148 rfl (by decide) (fun c => ?_) (fun c => ?_)
  · first | exact c (by decide) | exact absurd c (by decide)
  refine mm_blk (pc' := 229) ok_Md_after 2 _ _ _ rfl ?_
  exact mm_iret ok_Md_after rfl rfl ⟨rfl, rfl⟩
set_option maxHeartbeats 1000000 in
theorem c_Md_after1_15  {b : Int32} (hb : ¬ b = 0) : mm_C G M_Md_after [.int (nI 15), .int b] h 0 0 (mm_E (some (.int 2)) h) := by
  refine mm_C_of (by decide +kernel) rfl (Nat.le_of_ble_eq_true rfl) rfl ?_
  refine mm_blk (pc' := 1) ok_Md_after 1 _ _ _ rfl ?_
  refine mm_if_eq ok_Md_after 127 rfl (by decide) (fun c => ?_) (fun c => ?_)
  · exact absurd c hb
  refine mm_blk (pc' := 5) ok_Md_after 1 _ _ _ rfl ?_
  refine mm_if_eq ok_Md_after 14 rfl (by decide) (fun c => ?_) (fun c => ?_)
  · first | exact c (by decide) | exact absurd c (by decide)
  refine mm_blk (pc' := 11) ok_Md_after 2 _ _ _ rfl ?_
  refine mm_ic_ne ok_Md_after 18 rfl (by decide) (fun c => ?_) (fun c => ?_)
  rotate_left
  · first | exact c (by decide) | exact absurd c (by decide)
  refine mm_blk (pc' := 20) ok_Md_after 2 _ _ _ rfl ?_
  refine mm_ic_eq ok_Md_after 35 rfl (by decide) (fun c => ?_) (fun c => ?_)
  · first | exact c (by decide) | exact absurd c (by decide)
  refine mm_blk (pc' := 26) ok_Md_after 2 _ _ _ rfl ?_
  refine mm_ic_eq ok_Md_after 35 rfl (by decide) (fun c => ?_) (fun c => ?_)
  · first | exact c (by decide) | exact absurd c (by decide)
  refine mm_blk (pc' := 32) ok_Md_after 2 _ _ _ rfl ?_
  refine mm_ic_ne ok_Md_after 39 rfl (by decide) (fun c => ?_) (fun c => ?_)
  · first | exact c (by decide) | exact absurd c (by decide)
  refine mm_blk (pc' := 126) ok_Md_after 2 _ _ _ rfl ?_
  exact mm_iret ok_Md_after rfl rfl ⟨rfl, rfl⟩
def m_aft (k : Nat) (b : Int32) : Int32 := if b = 0 then mm_t0.getD k 0 else mm_t1.getD k 0
theorem c_Md_after {k : Nat} (hk : k < 16) (b : Int32) : mm_C G M_Md_after [.int (nI k), .int b] h 0 0 (mm_E (some (.int (m_aft k b))) h) := by
  unfold m_aft
  by_cases hb : b = 0
  · rw [if_pos hb, hb]
    rcases (show k = 0 ∨ k = 1 ∨ k = 2 ∨ k = 3 ∨ k = 4 ∨ k = 5 ∨ k = 6 ∨ k = 7 ∨ k = 8 ∨ k = 9 ∨ k = 10 ∨ k = 11 ∨ k = 12 ∨ k = 13 ∨ k = 14 ∨ k = 15 by omega) with rfl | rfl | rfl | rfl | rfl | rfl | rfl | rfl | rfl | rfl | rfl | rfl | rfl | rfl | rfl | rfl
    · exact c_Md_after0_0
    · exact c_Md_after0_1
    · exact c_Md_after0_2
    · exact c_Md_after0_3
    · exact c_Md_after0_4
    · exact c_Md_after0_5
    · exact c_Md_after0_6
    · exact c_Md_after0_7
    · exact c_Md_after0_8
    · exact c_Md_after0_9
    · exact c_Md_after0_10
    · exact c_Md_after0_11
    · exact c_Md_after0_12
    · exact c_Md_after0_13
    · exact c_Md_after0_14
    · exact c_Md_after0_15
  · rw [if_neg hb]
    rcases (show k = 0 ∨ k = 1 ∨ k = 2 ∨ k = 3 ∨ k = 4 ∨ k = 5 ∨ k = 6 ∨ k = 7 ∨ k = 8 ∨ k = 9 ∨ k = 10 ∨ k = 11 ∨ k = 12 ∨ k = 13 ∨ k = 14 ∨ k = 15 by omega) with rfl | rfl | rfl | rfl | rfl | rfl | rfl | rfl | rfl | rfl | rfl | rfl | rfl | rfl | rfl | rfl
    · exact c_Md_after1_0 hb
    · exact c_Md_after1_1 hb
    · exact c_Md_after1_2 hb
    · exact c_Md_after1_3 hb
    · exact c_Md_after1_4 hb
    · exact c_Md_after1_5 hb
    · exact c_Md_after1_6 hb
    · exact c_Md_after1_7 hb
    · exact c_Md_after1_8 hb
    · exact c_Md_after1_9 hb
    · exact c_Md_after1_10 hb
    · exact c_Md_after1_11 hb
    · exact c_Md_after1_12 hb
    · exact c_Md_after1_13 hb
    · exact c_Md_after1_14 hb
    · exact c_Md_after1_15 hb
set_option maxHeartbeats 1000000 in
theorem c_Md_isCell1 (w : mm_inj mdom K) (ok : m_ok nd nn t) {d k : Nat} (hd : d < nd) (hk : k < m_cl t d) : mm_C G M_Md_isCell [.ref (K 0), .int (nI d), .int (nI k)] (MP K t h) 0 0 (mm_E (some (.int 1)) (MP K t h)) := by
  have h4 := ok.1
  obtain ⟨-, c6, ec⟩ := ok.2.2.2.2.1 d hd
  refine mm_C_of (by decide +kernel) rfl (Nat.le_of_ble_eq_true rfl) rfl ?_
  refine mm_blk (pc' := 2) ok_Md_isCell 2 _ _ _ rfl ?_
  refine mm_getf ok_Md_isCell (mp_0 w) rfl f_Md_66 rfl ?_
  rw [show t 0 1 = nI nd from ok.2.2.1]
  refine mm_cSE ok_Md_isCell (As := [.int (nI d), .int (nI nd)]) rfl k_Md_isCell_82 rfl (Nat.le_of_ble_eq_true rfl) (c_Md_outN hd (by omega)) ?_
  refine mm_if_ne ok_Md_isCell 28 rfl (by decide) (fun c => ?_) (fun c => ?_)
  · exact absurd rfl c
  refine mm_blk (pc' := 13) ok_Md_isCell 2 _ _ _ rfl ?_
  refine mm_getf ok_Md_isCell (mp_0 w) rfl f_Md_16 rfl ?_
  refine mm_blk (pc' := 17) ok_Md_isCell 1 _ _ _ rfl ?_
  refine mm_iald (j := d) ok_Md_isCell (mp_4 w) rfl rfl (by omega) (oIs_get (by omega) _) ?_
  rw [ec]
  refine mm_cSE ok_Md_isCell (As := [.int (nI k), .int (nI (m_cl t d))]) rfl k_Md_isCell_82 rfl (Nat.le_of_ble_eq_true rfl) (c_Md_outN hk (by omega)) ?_
  refine mm_if_ne ok_Md_isCell 28 rfl (by decide) (fun c => ?_) (fun c => ?_)
  · exact absurd rfl c
  refine mm_blk (pc' := 29) ok_Md_isCell 2 _ _ _ rfl ?_
  exact mm_zret ok_Md_isCell rfl rfl rfl ⟨rfl, rfl⟩
set_option maxHeartbeats 1000000 in
theorem c_Md_isCell0 (w : mm_inj mdom K) (ok : m_ok nd nn t) {x y : Int32} (hx : ¬ ∃ d, d < nd ∧ x = nI d ∧ inR y (m_cl t d)) : mm_C G M_Md_isCell [.ref (K 0), .int x, .int y] (MP K t h) 0 0 (mm_E (some (.int 0)) (MP K t h)) := by
  have h4 := ok.1
  refine mm_C_of (by decide +kernel) rfl (Nat.le_of_ble_eq_true rfl) rfl ?_
  by_cases hr : inR x nd
  · obtain ⟨d, hd, rfl⟩ := (inR_iff (by omega)).mp hr
    obtain ⟨-, c6, ec⟩ := ok.2.2.2.2.1 d hd
    refine mm_blk (pc' := 2) ok_Md_isCell 2 _ _ _ rfl ?_
    refine mm_getf ok_Md_isCell (mp_0 w) rfl f_Md_66 rfl ?_
    rw [show t 0 1 = nI nd from ok.2.2.1]
    refine mm_cSE ok_Md_isCell (As := [.int (nI d), .int (nI nd)]) rfl k_Md_isCell_82 rfl (Nat.le_of_ble_eq_true rfl) (c_Md_outN hd (by omega)) ?_
    refine mm_if_ne ok_Md_isCell 28 rfl (by decide) (fun c => ?_) (fun c => ?_)
    · exact absurd rfl c
    refine mm_blk (pc' := 13) ok_Md_isCell 2 _ _ _ rfl ?_
    refine mm_getf ok_Md_isCell (mp_0 w) rfl f_Md_16 rfl ?_
    refine mm_blk (pc' := 17) ok_Md_isCell 1 _ _ _ rfl ?_
    refine mm_iald (j := d) ok_Md_isCell (mp_4 w) rfl rfl (by omega) (oIs_get (by omega) _) ?_
    rw [ec]
    refine mm_cSE ok_Md_isCell (As := [.int y, .int (nI (m_cl t d))]) rfl k_Md_isCell_82 rfl (Nat.le_of_ble_eq_true rfl) (c_Md_out1 (out_of (by omega) (fun z => hx ⟨d, hd, rfl, z⟩))) ?_
    refine mm_if_ne ok_Md_isCell 28 rfl (by decide) (fun c => ?_) (fun c => ?_)
    rotate_left
    · exact absurd c (by decide)
    refine mm_blk (pc' := 29) ok_Md_isCell 1 _ _ _ rfl ?_
    exact mm_zret ok_Md_isCell rfl rfl rfl ⟨rfl, rfl⟩
  · refine mm_blk (pc' := 2) ok_Md_isCell 2 _ _ _ rfl ?_
    refine mm_getf ok_Md_isCell (mp_0 w) rfl f_Md_66 rfl ?_
    rw [show t 0 1 = nI nd from ok.2.2.1]
    refine mm_cSE ok_Md_isCell (As := [.int x, .int (nI nd)]) rfl k_Md_isCell_82 rfl (Nat.le_of_ble_eq_true rfl) (c_Md_out1 (out_of (by omega) hr)) ?_
    refine mm_if_ne ok_Md_isCell 28 rfl (by decide) (fun c => ?_) (fun c => ?_)
    rotate_left
    · exact absurd c (by decide)
    refine mm_blk (pc' := 29) ok_Md_isCell 1 _ _ _ rfl ?_
    exact mm_zret ok_Md_isCell rfl rfl rfl ⟨rfl, rfl⟩
set_option maxHeartbeats 1000000 in
theorem c_Md_heal (w : mm_inj mdom K) {j : Nat} (hj : j < 8) (hp : ¬ t 17 j < 0 → m_pt t j < 8 ∧ t 17 j = nI (m_pt t j)) : mm_C G M_Md_heal [.ref (K 0), .int (nI j)] (MP K t h) 0 0 (mm_E none (MP K (m_heal t j) h)) := by
  refine mm_C_of (by decide +kernel) rfl (Nat.le_of_ble_eq_true rfl) rfl ?_
  refine mm_blk (pc' := 1) ok_Md_heal 1 _ _ _ rfl ?_
  refine mm_getf ok_Md_heal (mp_0 w) rfl f_Md_53 rfl ?_
  refine mm_blk (pc' := 5) ok_Md_heal 1 _ _ _ rfl ?_
  refine mm_iald (j := j) ok_Md_heal (mp_17 w) rfl rfl (by omega) (oIs_get (by omega) _) ?_
  refine mm_blk (pc' := 8) ok_Md_heal 2 _ _ _ rfl ?_
  refine mm_getf ok_Md_heal (mp_0 w) rfl f_Md_50 rfl ?_
  refine mm_blk (pc' := 13) ok_Md_heal 2 _ _ _ rfl ?_
  refine mm_iast (j := j) ok_Md_heal (mp_16 w) rfl rfl (by omega) (by rw [List.length_map, List.length_range]; exact (by omega)) ?_
  refine mm_V_heap (mu_16 w (by omega) _) ?_
  refine mm_blk (pc' := 15) ok_Md_heal 1 _ _ _ rfl ?_
  refine mm_getf ok_Md_heal (mp_0 w) rfl f_Md_53 rfl ?_
  refine mm_blk (pc' := 20) ok_Md_heal 2 _ _ _ rfl ?_
  refine mm_iast (j := j) ok_Md_heal (mp_17 w) rfl rfl (by omega) (by rw [List.length_map, List.length_range]; exact (by omega)) ?_
  refine mm_V_heap (mu_17 w (by omega) _) ?_
  refine mm_blk (pc' := 22) ok_Md_heal 1 _ _ _ rfl ?_
  refine mm_if_ge ok_Md_heal 26 rfl (by decide) (fun c22 => ?_) (fun c22 => ?_)
  · -- 26 t
    obtain ⟨p1, p2⟩ := hp (Int32.not_lt.mpr c22)
    rw [p2]
    refine mm_blk (pc' := 27) ok_Md_heal 1 _ _ _ rfl ?_
    refine mm_getf ok_Md_heal (mp_0 w) rfl f_Md_50 rfl ?_
    refine mm_blk (pc' := 32) ok_Md_heal 2 _ _ _ rfl ?_
    refine mm_iast (j := m_pt t j) ok_Md_heal (mp_16 w) rfl rfl (by omega) (by rw [List.length_map, List.length_range]; exact (by omega)) ?_
    refine mm_V_heap (mu_16 w (by omega) _) ?_
    refine mm_blk (pc' := 34) ok_Md_heal 1 _ _ _ rfl ?_
    refine mm_getf ok_Md_heal (mp_0 w) rfl f_Md_53 rfl ?_
    refine mm_blk (pc' := 39) ok_Md_heal 2 _ _ _ rfl ?_
    refine mm_iast (j := m_pt t j) ok_Md_heal (mp_17 w) rfl rfl (by omega) (by rw [List.length_map, List.length_range]; exact (by omega)) ?_
    refine mm_V_heap (mu_17 w (by omega) _) ?_
    exact mm_vret ok_Md_heal rfl rfl ⟨rfl, by rw [show m_heal t j = m_cut (m_cut t j) (m_pt t j) from if_neg (Int32.not_lt.mpr c22)]; rfl⟩
  · -- 25 f
    exact mm_vret ok_Md_heal rfl rfl ⟨rfl, by rw [show m_heal t j = m_cut t j from if_pos (Int32.not_le.mp c22)]; rfl⟩
set_option maxHeartbeats 1000000 in
theorem c_Md_output (w : mm_inj mdom K) {c : Nat} (hc : c < 24) : mm_C G M_Md_output [.ref (K 0), .int (nI c)] (MP K t h) 0 0 (mm_E (some (.int (m_out t c))) (MP K t h)) := by
  refine mm_C_of (by decide +kernel) rfl (Nat.le_of_ble_eq_true rfl) rfl ?_
  refine mm_blk (pc' := 1) ok_Md_output 1 _ _ _ rfl ?_
  refine mm_getf ok_Md_output (mp_0 w) rfl f_Md_19 rfl ?_
  refine mm_blk (pc' := 7) ok_Md_output 2 _ _ _ rfl ?_
  refine mm_idiv ok_Md_output rfl (by decide) ?_
  rw [show nI c / 6 = nI (c / 6) from pk_div (d := 6) (by omega) (by decide) (by decide)]
  refine mm_iald (j := c / 6) ok_Md_output (mp_5 w) rfl rfl (by omega) (oIs_get (by omega) _) ?_
  refine mm_if_ne ok_Md_output 21 rfl (by decide) (fun c9 => ?_) (fun c9 => ?_)
  · -- 21 t
    refine mm_blk (pc' := 22) ok_Md_output 1 _ _ _ rfl ?_
    refine mm_getf ok_Md_output (mp_0 w) rfl f_Md_41 rfl ?_
    refine mm_blk (pc' := 26) ok_Md_output 1 _ _ _ rfl ?_
    refine mm_iald (j := c) ok_Md_output (mp_12 w) rfl rfl (by omega) (oIs_get (by omega) _) ?_
    exact mm_iret ok_Md_output rfl rfl ⟨by unfold m_out; first | rw [if_pos c9] | rw [if_neg c9], rfl⟩
  · -- 12 f
    refine mm_blk (pc' := 13) ok_Md_output 1 _ _ _ rfl ?_
    refine mm_getf ok_Md_output (mp_0 w) rfl f_Md_38 rfl ?_
    refine mm_blk (pc' := 17) ok_Md_output 1 _ _ _ rfl ?_
    refine mm_iald (j := c) ok_Md_output (mp_11 w) rfl rfl (by omega) (oIs_get (by omega) _) ?_
    refine mm_blk (pc' := 27) ok_Md_output 1 _ _ _ rfl ?_
    exact mm_iret ok_Md_output rfl rfl ⟨by unfold m_out; first | rw [if_pos c9] | rw [if_neg c9], rfl⟩
set_option maxHeartbeats 1000000 in
theorem c_Md_valueOf (w : mm_inj mdom K) (ok : m_ok nd nn t) {j : Nat} (hj : j < nn) : mm_C G M_Md_valueOf [.ref (K 0), .int (nI j)] (MP K t h) 0 0 (mm_E (some (.int (m_val t j))) (MP K t h)) := by
  have h8 := ok.2.1
  obtain ⟨d1, d2⟩ := ok.2.2.2.2.2.2.1 j hj
  obtain ⟨hp0, hp⟩ := ok.2.2.2.2.2.2.2.1 j hj
  refine mm_C_of (by decide +kernel) rfl (Nat.le_of_ble_eq_true rfl) rfl ?_
  refine mm_blk (pc' := 2) ok_Md_valueOf 2 _ _ _ rfl ?_
  refine mm_getf ok_Md_valueOf (mp_0 w) rfl f_Md_47 rfl ?_
  refine mm_blk (pc' := 6) ok_Md_valueOf 1 _ _ _ rfl ?_
  refine mm_iald (j := j) ok_Md_valueOf (mp_15 w) rfl rfl (by omega) (oIs_get (by omega) _) ?_
  rw [d2]
  refine mm_cVE ok_Md_valueOf (As := [.int (nI (m_dr t j))]) rfl k_Md_valueOf_96 (mp_0 w) rfl rfl rfl (Nat.le_of_ble_eq_true rfl) (c_Md_output w d1) ?_
  refine mm_blk (pc' := 12) ok_Md_valueOf 2 _ _ _ rfl ?_
  refine mm_getf ok_Md_valueOf (mp_0 w) rfl f_Md_50 rfl ?_
  refine mm_blk (pc' := 16) ok_Md_valueOf 1 _ _ _ rfl ?_
  refine mm_iald (j := j) ok_Md_valueOf (mp_16 w) rfl rfl (by omega) (oIs_get (by omega) _) ?_
  refine mm_if_ge ok_Md_valueOf 22 rfl (by decide) (fun c17 => ?_) (fun c17 => ?_)
  · -- 22 t
    refine mm_blk (pc' := 23) ok_Md_valueOf 1 _ _ _ rfl ?_
    refine mm_getf ok_Md_valueOf (mp_0 w) rfl f_Md_50 rfl ?_
    refine mm_blk (pc' := 27) ok_Md_valueOf 1 _ _ _ rfl ?_
    refine mm_iald (j := j) ok_Md_valueOf (mp_16 w) rfl rfl (by omega) (oIs_get (by omega) _) ?_
    refine mm_blk (pc' := 29) ok_Md_valueOf 1 _ _ _ rfl ?_
    refine mm_ic_ge ok_Md_valueOf 39 rfl (by decide) (fun c29 => ?_) (fun c29 => ?_)
    · -- 39 t
      have g2 : ¬ t 16 j < 2 := Int32.not_lt.mpr c29
      obtain ⟨p1, p2⟩ := hp (hp0 g2)
      obtain ⟨q1, q2⟩ := ok.2.2.2.2.2.2.1 (m_pt t j) p1
      refine mm_blk (pc' := 41) ok_Md_valueOf 2 _ _ _ rfl ?_
      refine mm_getf ok_Md_valueOf (mp_0 w) rfl f_Md_47 rfl ?_
      refine mm_blk (pc' := 45) ok_Md_valueOf 1 _ _ _ rfl ?_
      refine mm_getf ok_Md_valueOf (mp_0 w) rfl f_Md_53 rfl ?_
      refine mm_blk (pc' := 49) ok_Md_valueOf 1 _ _ _ rfl ?_
      refine mm_iald (j := j) ok_Md_valueOf (mp_17 w) rfl rfl (by omega) (oIs_get (by omega) _) ?_
      rw [p2]
      refine mm_iald (j := m_pt t j) ok_Md_valueOf (mp_15 w) rfl rfl (by omega) (oIs_get (by omega) _) ?_
      rw [q2]
      refine mm_cVE ok_Md_valueOf (As := [.int (nI (m_dr t (m_pt t j)))]) rfl k_Md_valueOf_96 (mp_0 w) rfl rfl rfl (Nat.le_of_ble_eq_true rfl) (c_Md_output w q1) ?_
      refine mm_blk (pc' := 56) ok_Md_valueOf 2 _ _ _ rfl ?_
      refine mm_getf ok_Md_valueOf (mp_0 w) rfl f_Md_50 rfl ?_
      refine mm_blk (pc' := 60) ok_Md_valueOf 1 _ _ _ rfl ?_
      refine mm_iald (j := j) ok_Md_valueOf (mp_16 w) rfl rfl (by omega) (oIs_get (by omega) _) ?_
      refine mm_blk (pc' := 62) ok_Md_valueOf 1 _ _ _ rfl ?_
      refine mm_ic_ne ok_Md_valueOf 71 rfl (by decide) (fun c62 => ?_) (fun c62 => ?_)
      · -- 71 t
        refine mm_blk (pc' := 78) ok_Md_valueOf 7 _ _ _ rfl ?_
        exact mm_iret ok_Md_valueOf rfl rfl ⟨by unfold m_val; rw [if_neg (Int32.not_lt.mpr c17), if_neg g2]; first | rw [if_pos c62] | rw [if_neg c62], rfl⟩
      · -- 65 f
        refine mm_blk (pc' := 78) ok_Md_valueOf 4 _ _ _ rfl ?_
        exact mm_iret ok_Md_valueOf rfl rfl ⟨by unfold m_val; rw [if_neg (Int32.not_lt.mpr c17), if_neg g2]; first | rw [if_pos c62] | rw [if_neg c62], rfl⟩
    · -- 32 f
      refine mm_blk (pc' := 33) ok_Md_valueOf 1 _ _ _ rfl ?_
      refine mm_getf ok_Md_valueOf (mp_0 w) rfl f_Md_50 rfl ?_
      refine mm_blk (pc' := 37) ok_Md_valueOf 1 _ _ _ rfl ?_
      refine mm_iald (j := j) ok_Md_valueOf (mp_16 w) rfl rfl (by omega) (oIs_get (by omega) _) ?_
      exact mm_iret ok_Md_valueOf rfl rfl ⟨by unfold m_val; rw [if_neg (Int32.not_lt.mpr c17), if_pos (Int32.not_le.mp c29)], rfl⟩
  · -- 20 f
    refine mm_blk (pc' := 21) ok_Md_valueOf 1 _ _ _ rfl ?_
    exact mm_iret ok_Md_valueOf rfl rfl ⟨by unfold m_val; rw [if_pos (Int32.not_le.mp c17)], rfl⟩
set_option maxHeartbeats 1000000 in
theorem c_Md_signal (w : mm_inj mdom K) (ok : m_ok nd nn t) {c : Nat} (hc : c < 24) (hn : ¬ t 13 c < 0 → m_no t c < nn ∧ t 13 c = nI (m_no t c)) : mm_C G M_Md_signal [.ref (K 0), .int (nI c)] (MP K t h) 0 0 (mm_E (some (.int (m_sg t c))) (MP K t h)) := by
  refine mm_C_of (by decide +kernel) rfl (Nat.le_of_ble_eq_true rfl) rfl ?_
  refine mm_blk (pc' := 1) ok_Md_signal 1 _ _ _ rfl ?_
  refine mm_getf ok_Md_signal (mp_0 w) rfl f_Md_34 rfl ?_
  refine mm_blk (pc' := 5) ok_Md_signal 1 _ _ _ rfl ?_
  refine mm_zald (j := c) ok_Md_signal (mp_10 w) rfl rfl (by omega) (oIs_get (by omega) _) ?_
  refine mm_if_eq ok_Md_signal 15 rfl (by decide) (fun c6 => ?_) (fun c6 => ?_)
  · -- 15 t
    refine mm_blk (pc' := 16) ok_Md_signal 1 _ _ _ rfl ?_
    refine mm_getf ok_Md_signal (mp_0 w) rfl f_Md_44 rfl ?_
    refine mm_blk (pc' := 20) ok_Md_signal 1 _ _ _ rfl ?_
    refine mm_iald (j := c) ok_Md_signal (mp_13 w) rfl rfl (by omega) (oIs_get (by omega) _) ?_
    refine mm_if_ge ok_Md_signal 28 rfl (by decide) (fun c21 => ?_) (fun c21 => ?_)
    · -- 28 t
      obtain ⟨n1, n2⟩ := hn (Int32.not_lt.mpr c21)
      refine mm_blk (pc' := 30) ok_Md_signal 2 _ _ _ rfl ?_
      refine mm_getf ok_Md_signal (mp_0 w) rfl f_Md_44 rfl ?_
      refine mm_blk (pc' := 34) ok_Md_signal 1 _ _ _ rfl ?_
      refine mm_iald (j := c) ok_Md_signal (mp_13 w) rfl rfl (by omega) (oIs_get (by omega) _) ?_
      rw [n2]
      refine mm_cVE ok_Md_signal (As := [.int (nI (m_no t c))]) rfl k_Md_signal_100 (mp_0 w) rfl rfl rfl (Nat.le_of_ble_eq_true rfl) (c_Md_valueOf w ok n1) ?_
      exact mm_iret ok_Md_signal rfl rfl ⟨by unfold m_sg; rw [if_pos c6]; first | rw [if_pos (Int32.not_le.mp c21)] | rw [if_neg (Int32.not_lt.mpr c21)], rfl⟩
    · -- 24 f
      refine mm_blk (pc' := 38) ok_Md_signal 2 _ _ _ rfl ?_
      exact mm_iret ok_Md_signal rfl rfl ⟨by unfold m_sg; rw [if_pos c6]; first | rw [if_pos (Int32.not_le.mp c21)] | rw [if_neg (Int32.not_lt.mpr c21)], rfl⟩
  · -- 9 f
    refine mm_blk (pc' := 11) ok_Md_signal 2 _ _ _ rfl ?_
    refine mm_cVE ok_Md_signal (As := [.int (nI c)]) rfl k_Md_signal_96 (mp_0 w) rfl rfl rfl (Nat.le_of_ble_eq_true rfl) (c_Md_output w hc) ?_
    exact mm_iret ok_Md_signal rfl rfl ⟨by unfold m_sg; rw [if_neg c6], rfl⟩
end MD1
end
section
/-! the reference: registers -/
def m_sh1 (data : Int32) (d : Nat) (x : Int32 × mS) : Int32 × mS :=
  if data = 0 then (x.2 6 (4 * d), m_w x.2 6 (dn (x.2 6) (4 * d) (m_wd x.2 d) x.1))
  else if x.2 5 d = 0 ∨ x.2 5 d = 2 then (x.2 7 (6 * d), m_w x.2 7 (dn (x.2 7) (6 * d) (m_cl x.2 d) x.1))
  else if x.2 5 d = 1 then (x.2 8 (32 * d), m_w x.2 8 (dn (x.2 8) (32 * d) 32 x.1))
  else (x.2 9 d, m_w x.2 9 (dn (x.2 9) d 1 x.1))
def m_cp8 (d : Nat) (t : mS) : mS := up (fun b t => m_s t 8 (32 * d + b) ((t 3 d >>> (nI b &&& 31)) &&& 1)) 32 0 t
def m_cp7 (d n i : Nat) (t : mS) : mS := up (fun c t => m_s t 7 (6 * d + c) (m_sg t (6 * d + c))) n i t
def m_cap (d : Nat) (t : mS) : mS := if t 5 d = 0 ∨ t 5 d = 2 then m_cp7 d (m_cl t d) 0 (m_cp8 d (m_s t 9 d 0)) else m_cp8 d (m_s t 9 d 0)
def m_upd (d : Nat) (t : mS) : mS := if t 5 d = 0 ∨ t 5 d = 2 then up (fun c t => m_s t 11 (6 * d + c) (if t 10 (6 * d + c) = 0 then 0 else t 7 (6 * d + c))) (m_cl t d) 0 t else t
theorem same_sh1 (data : Int32) (d : Nat) (x : Int32 × mS) : m_same x.2 (m_sh1 data d x).2 := by
  unfold m_sh1
  repeat' split
  all_goals exact same_w _ (by decide) _
theorem same_sh (data : Int32) : ∀ (n i : Nat) (x : Int32 × mS), m_same x.2 (up (m_sh1 data) n i x).2 := by
  intro n
  induction n with
  | zero => intro i x; exact same_rf _
  | succ n ih => intro i x; exact same_tr (same_sh1 data i x) (ih _ _)
theorem same_cp8 (d : Nat) (t : mS) : m_same t (m_cp8 d t) := same_up (fun _ t => same_w t (by decide) _) _ _ _
theorem same_cp7 (d n i : Nat) (t : mS) : m_same t (m_cp7 d n i t) := same_up (fun _ t => same_w t (by decide) _) _ _ _
theorem same_cap (d : Nat) (t : mS) : m_same t (m_cap d t) := by
  unfold m_cap
  split
  · exact same_tr (same_tr (same_w t (n := 9) (by decide) _) (same_cp8 _ _)) (same_cp7 _ _ _ _)
  · exact same_tr (same_w t (n := 9) (by decide) _) (same_cp8 _ _)
theorem same_upd (d : Nat) (t : mS) : m_same t (m_upd d t) := by
  unfold m_upd
  split
  · exact same_up (fun _ t => same_w t (by decide) _) _ _ _
  · exact same_rf _
section MD2
variable {G : mm_G} {K : Nat → Nat} {t : mS} {h : mm_Hp} {nd nn : Nat}

set_option maxHeartbeats 1000000 in
theorem l_Md_down {b N fr len : Nat} {x g : Int32} {z : Nat → Int32} (hN : fr + len ≤ N) (hN2 : N ≤ 1000) (h1 : 1 ≤ len) : ∀ (n k : Nat), 1 ≤ k → k + n = len → mm_V G M_Md_down 8 [(0, .ref b), (1, .int (nI fr)), (2, .int (nI len)), (3, .int x), (4, .int g), (5, .int (nI k))] [] (mm_up h b (oIs N (dnk z fr k))) 0 0 (mm_E (some (.int g)) (mm_up h b (oIs N (dn z fr len x)))) := by
  intro n
  induction n with
  | zero =>
    intro k hk hi
    have hkl : k = len := by omega
    subst hkl
    refine mm_blk (pc' := 11) ok_Md_down 2 _ _ _ rfl ?_
    refine mm_ic_ge ok_Md_down 34 rfl (by decide) (fun c => ?_) (fun c => ?_)
    rotate_left
    · exact absurd (nI_le (by omega) (by omega)) c
    refine mm_blk (pc' := 41) ok_Md_down 7 _ _ _ rfl ?_
    refine mm_iast (j := fr + k - 1) ok_Md_down (mm_up_self _ _ _) rfl (by rw [nI_add, show (1 : Int32) = nI 1 from rfl, pk_sub (by omega)]) (by omega) (by rw [List.length_map, List.length_range]; omega) ?_
    rw [mm_up_up, oIs_set (by omega)]
    refine mm_blk (pc' := 44) ok_Md_down 1 _ _ _ rfl ?_
    exact mm_iret ok_Md_down rfl rfl ⟨rfl, rfl⟩
  | succ n ih =>
    intro k hk hi
    refine mm_blk (pc' := 11) ok_Md_down 2 _ _ _ rfl ?_
    refine mm_ic_ge ok_Md_down 34 rfl (by decide) (fun c => ?_) (fun c => ?_)
    · exact absurd c (nI_ge (by omega) (by omega))
    refine mm_blk (pc' := 26) ok_Md_down 10 _ _ _ rfl ?_
    refine mm_iald (j := fr + k) ok_Md_down (mm_up_self _ _ _) rfl (nI_add _ _) (by omega) (oIs_get (by omega) _) ?_
    refine mm_iast (j := fr + k - 1) ok_Md_down (mm_up_self _ _ _) rfl (by rw [nI_add, show (1 : Int32) = nI 1 from rfl, pk_sub (by omega)]) (by omega) (by rw [List.length_map, List.length_range]; omega) ?_
    rw [mm_up_up, oIs_set (by omega)]
    refine mm_blk (pc' := 8) ok_Md_down 2 _ _ _ rfl ?_
    rw [nI_1, dnk_s z fr k hk]
    exact ih (k + 1) (by omega) (by omega)
set_option maxHeartbeats 1000000 in
theorem c_Md_down {b N fr len : Nat} {x : Int32} {z : Nat → Int32} (hb : h b = some (oIs N z)) (hN : fr + len ≤ N) (hN2 : N ≤ 1000) (h1 : 1 ≤ len) : mm_C G M_Md_down [.ref b, .int (nI fr), .int (nI len), .int x] h 0 0 (mm_E (some (.int (z fr))) (mm_up h b (oIs N (dn z fr len x)))) := by
  refine mm_C_of (by decide +kernel) rfl (Nat.le_of_ble_eq_true rfl) rfl ?_
  refine mm_blk (pc' := 2) ok_Md_down 2 _ _ _ rfl ?_
  refine mm_iald (j := fr) ok_Md_down hb rfl rfl (by omega) (oIs_get (by omega) _) ?_
  refine mm_blk (pc' := 8) ok_Md_down 3 _ _ _ rfl ?_
  have e9 : h = mm_up h b (oIs N (dnk z fr 1)) := by rw [dnk_1]; exact (mm_up_same hb).symm
  refine mm_V_heap e9 ?_
  exact l_Md_down hN hN2 h1 (len - 1) 1 (Nat.le_refl _) (by omega)
set_option maxHeartbeats 1000000 in
theorem l_Md_numberIn (w : mm_inj mdom K) {d : Nat} (hd : d < 4) : ∀ (k : Nat) (v : Int32), k ≤ 4 → mm_V G M_Md_numberIn 11 [(0, .ref (K 0)), (1, .int (nI d)), (2, .int v), (3, .int (nI k - 1))] [] (MP K t h) 0 0 (mm_E (some (.int (dwn (fun k v => 2 * v + t 6 (4 * d + k)) k v))) (MP K t h)) := by
  intro k
  induction k with
  | zero =>
    intro v hk
    refine mm_blk (pc' := 12) ok_Md_numberIn 1 _ _ _ rfl ?_
    refine mm_if_lt ok_Md_numberIn 36 rfl (by decide) (fun c => ?_) (fun c => ?_)
    rotate_left
    · exact absurd (by decide) c
    refine mm_blk (pc' := 37) ok_Md_numberIn 1 _ _ _ rfl ?_
    exact mm_iret ok_Md_numberIn rfl rfl ⟨rfl, rfl⟩
  | succ k ih =>
    intro v hk
    rw [nI_pred]
    refine mm_blk (pc' := 12) ok_Md_numberIn 1 _ _ _ rfl ?_
    refine mm_if_lt ok_Md_numberIn 36 rfl (by decide) (fun c => ?_) (fun c => ?_)
    · exact absurd c (nI_pos (by omega))
    refine mm_blk (pc' := 19) ok_Md_numberIn 4 _ _ _ rfl ?_
    refine mm_getf ok_Md_numberIn (mp_0 w) rfl f_Md_22 rfl ?_
    refine mm_blk (pc' := 27) ok_Md_numberIn 5 _ _ _ rfl ?_
    refine mm_iald (j := 4 * d + k) ok_Md_numberIn (mp_6 w) rfl (ix4 _ _) (by omega) (oIs_get (by omega) _) ?_
    refine mm_blk (pc' := 11) ok_Md_numberIn 4 _ _ _ rfl ?_
    rw [show nI k + (-1) = nI k - 1 from (Int32.sub_eq_add_neg _ _).symm]
    exact ih _ (by omega)
set_option maxHeartbeats 1000000 in
theorem c_Md_numberIn (w : mm_inj mdom K) (ok : m_ok nd nn t) {d : Nat} (hd : d < nd) : mm_C G M_Md_numberIn [.ref (K 0), .int (nI d)] (MP K t h) 0 0 (mm_E (some (.int (m_num t d))) (MP K t h)) := by
  have h4 := ok.1
  obtain ⟨-, c6, ec⟩ := ok.2.2.2.2.2.1 d hd
  refine mm_C_of (by decide +kernel) rfl (Nat.le_of_ble_eq_true rfl) rfl ?_
  refine mm_blk (pc' := 3) ok_Md_numberIn 3 _ _ _ rfl ?_
  refine mm_getf ok_Md_numberIn (mp_0 w) rfl f_Md_7 rfl ?_
  refine mm_blk (pc' := 7) ok_Md_numberIn 1 _ _ _ rfl ?_
  refine mm_iald (j := d) ok_Md_numberIn (mp_2 w) rfl rfl (by omega) (oIs_get (by omega) _) ?_
  rw [ec]
  refine mm_blk (pc' := 11) ok_Md_numberIn 3 _ _ _ rfl ?_
  exact l_Md_numberIn w (by omega) (m_wd t d) 0 c6
set_option maxHeartbeats 2000000 in
theorem l_Md_shiftAll (w : mm_inj mdom K) {data q0 : Int32} : ∀ (n i : Nat) (q : Int32) (t : mS), m_ok nd nn t → i + n = nd → mm_V G M_Md_shiftAll 5 [(0, .ref (K 0)), (1, .int data), (2, .int q0), (3, .int q), (4, .int (nI i))] [] (MP K t h) 0 0 (mm_E (some (.int (up (m_sh1 data) n i (q, t)).1)) (MP K (up (m_sh1 data) n i (q, t)).2 h)) := by
  intro n
  induction n with
  | zero =>
    intro i q t ok hi
    have h4 := ok.1
    refine mm_blk (pc' := 8) ok_Md_shiftAll 2 _ _ _ rfl ?_
    refine mm_getf ok_Md_shiftAll (mp_0 w) rfl f_Md_66 rfl ?_
    rw [ok.2.2.1]
    refine mm_ic_ge ok_Md_shiftAll 128 rfl (by decide) (fun c => ?_) (fun c => ?_)
    rotate_left
    · exact absurd (nI_le (by omega) (by omega)) c
    refine mm_blk (pc' := 129) ok_Md_shiftAll 1 _ _ _ rfl ?_
    exact mm_iret ok_Md_shiftAll rfl rfl ⟨rfl, rfl⟩
  | succ n ih =>
    intro i q t ok hi
    have h4 := ok.1
    obtain ⟨w1, w4, ec⟩ := ok.2.2.2.2.2.1 i (by omega)
    obtain ⟨l1, l6, el⟩ := ok.2.2.2.2.1 i (by omega)
    refine mm_blk (pc' := 8) ok_Md_shiftAll 2 _ _ _ rfl ?_
    refine mm_getf ok_Md_shiftAll (mp_0 w) rfl f_Md_66 rfl ?_
    rw [ok.2.2.1]
    refine mm_ic_ge ok_Md_shiftAll 128 rfl (by decide) (fun c => ?_) (fun c => ?_)
    · exact absurd c (nI_ge (by omega) (by omega))
    refine mm_blk (pc' := 15) ok_Md_shiftAll 1 _ _ _ rfl ?_
    refine mm_getf ok_Md_shiftAll (mp_0 w) rfl f_Md_19 rfl ?_
    refine mm_blk (pc' := 20) ok_Md_shiftAll 1 _ _ _ rfl ?_
    refine mm_iald (j := i) ok_Md_shiftAll (mp_5 w) rfl rfl (by omega) (oIs_get (by omega) _) ?_
    refine mm_blk (pc' := 24) ok_Md_shiftAll 2 _ _ _ rfl ?_
    refine mm_if_ne ok_Md_shiftAll 50 rfl (by decide) (fun c24 => ?_) (fun c24 => ?_)
    · -- 50 t
      refine mm_blk (pc' := 52) ok_Md_shiftAll 1 _ _ _ rfl ?_
      refine mm_if_eq ok_Md_shiftAll 61 rfl (by decide) (fun c52 => ?_) (fun c52 => ?_)
      · -- 61 t
        refine mm_blk (pc' := 62) ok_Md_shiftAll 1 _ _ _ rfl ?_
        refine mm_getf ok_Md_shiftAll (mp_0 w) rfl f_Md_25 rfl ?_
        refine mm_blk (pc' := 71) ok_Md_shiftAll 4 _ _ _ rfl ?_
        refine mm_getf ok_Md_shiftAll (mp_0 w) rfl f_Md_16 rfl ?_
        refine mm_blk (pc' := 76) ok_Md_shiftAll 1 _ _ _ rfl ?_
        refine mm_iald (j := i) ok_Md_shiftAll (mp_4 w) rfl rfl (by omega) (oIs_get (by omega) _) ?_
        refine mm_blk (pc' := 78) ok_Md_shiftAll 1 _ _ _ rfl ?_
        rw [ix6', el]
        refine mm_cSE ok_Md_shiftAll (As := [.ref (K 7), .int (nI (6 * i)), .int (nI (m_cl t i)), .int q]) rfl k_Md_shiftAll_103 rfl (Nat.le_of_ble_eq_true rfl) (c_Md_down (N := 24) (z := t 7) (mp_7 w) (by omega) (by omega) (by omega)) ?_
        refine mm_V_heap (mw_7 w _) ?_
        refine mm_blk (pc' := 122) ok_Md_shiftAll 2 _ _ _ rfl ?_
        have e9 : m_sh1 data i (q, t) = (t 7 (6 * i), m_w t 7 (dn (t 7) (6 * i) (m_cl t i) q)) := by unfold m_sh1; rw [if_neg c24, if_pos (Or.inl c52)]
        show mm_V _ _ _ _ _ _ _ _ (mm_E (some (.int (up (m_sh1 data) n (i + 1) (m_sh1 data i (q, t))).1)) (MP K (up (m_sh1 data) n (i + 1) (m_sh1 data i (q, t))).2 h))
        rw [e9]
        refine mm_blk (pc' := 5) ok_Md_shiftAll 2 _ _ _ rfl ?_
        rw [nI_1]
        refine mm_V_pick [0, 1, 2, 3, 4] rfl ?_
        exact ih (i + 1) _ _ (same_ok (same_w t (by decide) _) ok) (by omega)
      · -- 55 f
        refine mm_blk (pc' := 58) ok_Md_shiftAll 2 _ _ _ rfl ?_
        refine mm_ic_ne ok_Md_shiftAll 85 rfl (by decide) (fun c58 => ?_) (fun c58 => ?_)
        · -- 85 t
          refine mm_blk (pc' := 88) ok_Md_shiftAll 2 _ _ _ rfl ?_
          refine mm_ic_ne ok_Md_shiftAll 110 rfl (by decide) (fun c88 => ?_) (fun c88 => ?_)
          · -- 110 t
            refine mm_blk (pc' := 111) ok_Md_shiftAll 1 _ _ _ rfl ?_
            refine mm_getf ok_Md_shiftAll (mp_0 w) rfl f_Md_31 rfl ?_
            refine mm_blk (pc' := 118) ok_Md_shiftAll 3 _ _ _ rfl ?_
            skip
            refine mm_cSE ok_Md_shiftAll (As := [.ref (K 9), .int (nI (i)), .int (nI (1)), .int q]) rfl k_Md_shiftAll_103 rfl (Nat.le_of_ble_eq_true rfl) (c_Md_down (N := 4) (z := t 9) (mp_9 w) (by omega) (by omega) (by omega)) ?_
            refine mm_V_heap (mw_9 w _) ?_
            refine mm_blk (pc' := 122) ok_Md_shiftAll 1 _ _ _ rfl ?_
            have e9 : m_sh1 data i (q, t) = (t 9 i, m_w t 9 (dn (t 9) i 1 q)) := by unfold m_sh1; rw [if_neg c24, if_neg (fun z => z.elim c52 c58), if_neg c88]
            show mm_V _ _ _ _ _ _ _ _ (mm_E (some (.int (up (m_sh1 data) n (i + 1) (m_sh1 data i (q, t))).1)) (MP K (up (m_sh1 data) n (i + 1) (m_sh1 data i (q, t))).2 h))
            rw [e9]
            refine mm_blk (pc' := 5) ok_Md_shiftAll 2 _ _ _ rfl ?_
            rw [nI_1]
            refine mm_V_pick [0, 1, 2, 3, 4] rfl ?_
            exact ih (i + 1) _ _ (same_ok (same_w t (by decide) _) ok) (by omega)
          · -- 91 f
            refine mm_blk (pc' := 92) ok_Md_shiftAll 1 _ _ _ rfl ?_
            refine mm_getf ok_Md_shiftAll (mp_0 w) rfl f_Md_28 rfl ?_
            refine mm_blk (pc' := 103) ok_Md_shiftAll 5 _ _ _ rfl ?_
            rw [ix32']
            refine mm_cSE ok_Md_shiftAll (As := [.ref (K 8), .int (nI (32 * i)), .int (nI (32)), .int q]) rfl k_Md_shiftAll_103 rfl (Nat.le_of_ble_eq_true rfl) (c_Md_down (N := 128) (z := t 8) (mp_8 w) (by omega) (by omega) (by omega)) ?_
            refine mm_V_heap (mw_8 w _) ?_
            refine mm_blk (pc' := 122) ok_Md_shiftAll 2 _ _ _ rfl ?_
            have e9 : m_sh1 data i (q, t) = (t 8 (32 * i), m_w t 8 (dn (t 8) (32 * i) 32 q)) := by unfold m_sh1; rw [if_neg c24, if_neg (fun z => z.elim c52 c58), if_pos c88]
            show mm_V _ _ _ _ _ _ _ _ (mm_E (some (.int (up (m_sh1 data) n (i + 1) (m_sh1 data i (q, t))).1)) (MP K (up (m_sh1 data) n (i + 1) (m_sh1 data i (q, t))).2 h))
            rw [e9]
            refine mm_blk (pc' := 5) ok_Md_shiftAll 2 _ _ _ rfl ?_
            rw [nI_1]
            refine mm_V_pick [0, 1, 2, 3, 4] rfl ?_
            exact ih (i + 1) _ _ (same_ok (same_w t (by decide) _) ok) (by omega)
        · -- 61 f
          refine mm_blk (pc' := 62) ok_Md_shiftAll 1 _ _ _ rfl ?_
          refine mm_getf ok_Md_shiftAll (mp_0 w) rfl f_Md_25 rfl ?_
          refine mm_blk (pc' := 71) ok_Md_shiftAll 4 _ _ _ rfl ?_
          refine mm_getf ok_Md_shiftAll (mp_0 w) rfl f_Md_16 rfl ?_
          refine mm_blk (pc' := 76) ok_Md_shiftAll 1 _ _ _ rfl ?_
          refine mm_iald (j := i) ok_Md_shiftAll (mp_4 w) rfl rfl (by omega) (oIs_get (by omega) _) ?_
          refine mm_blk (pc' := 78) ok_Md_shiftAll 1 _ _ _ rfl ?_
          rw [ix6', el]
          refine mm_cSE ok_Md_shiftAll (As := [.ref (K 7), .int (nI (6 * i)), .int (nI (m_cl t i)), .int q]) rfl k_Md_shiftAll_103 rfl (Nat.le_of_ble_eq_true rfl) (c_Md_down (N := 24) (z := t 7) (mp_7 w) (by omega) (by omega) (by omega)) ?_
          refine mm_V_heap (mw_7 w _) ?_
          refine mm_blk (pc' := 122) ok_Md_shiftAll 2 _ _ _ rfl ?_
          have e9 : m_sh1 data i (q, t) = (t 7 (6 * i), m_w t 7 (dn (t 7) (6 * i) (m_cl t i) q)) := by unfold m_sh1; rw [if_neg c24, if_pos (Or.inr c58)]
          show mm_V _ _ _ _ _ _ _ _ (mm_E (some (.int (up (m_sh1 data) n (i + 1) (m_sh1 data i (q, t))).1)) (MP K (up (m_sh1 data) n (i + 1) (m_sh1 data i (q, t))).2 h))
          rw [e9]
          refine mm_blk (pc' := 5) ok_Md_shiftAll 2 _ _ _ rfl ?_
          rw [nI_1]
          refine mm_V_pick [0, 1, 2, 3, 4] rfl ?_
          exact ih (i + 1) _ _ (same_ok (same_w t (by decide) _) ok) (by omega)
    · -- 27 f
      refine mm_blk (pc' := 28) ok_Md_shiftAll 1 _ _ _ rfl ?_
      refine mm_getf ok_Md_shiftAll (mp_0 w) rfl f_Md_22 rfl ?_
      refine mm_blk (pc' := 36) ok_Md_shiftAll 4 _ _ _ rfl ?_
      refine mm_getf ok_Md_shiftAll (mp_0 w) rfl f_Md_7 rfl ?_
      refine mm_blk (pc' := 41) ok_Md_shiftAll 1 _ _ _ rfl ?_
      refine mm_iald (j := i) ok_Md_shiftAll (mp_2 w) rfl rfl (by omega) (oIs_get (by omega) _) ?_
      refine mm_blk (pc' := 43) ok_Md_shiftAll 1 _ _ _ rfl ?_
      rw [ix4', ec]
      refine mm_cSE ok_Md_shiftAll (As := [.ref (K 6), .int (nI (4 * i)), .int (nI (m_wd t i)), .int q]) rfl k_Md_shiftAll_103 rfl (Nat.le_of_ble_eq_true rfl) (c_Md_down (N := 16) (z := t 6) (mp_6 w) (by omega) (by omega) (by omega)) ?_
      refine mm_V_heap (mw_6 w _) ?_
      refine mm_blk (pc' := 122) ok_Md_shiftAll 2 _ _ _ rfl ?_
      have e9 : m_sh1 data i (q, t) = (t 6 (4 * i), m_w t 6 (dn (t 6) (4 * i) (m_wd t i) q)) := by unfold m_sh1; rw [if_pos c24]
      show mm_V _ _ _ _ _ _ _ _ (mm_E (some (.int (up (m_sh1 data) n (i + 1) (m_sh1 data i (q, t))).1)) (MP K (up (m_sh1 data) n (i + 1) (m_sh1 data i (q, t))).2 h))
      rw [e9]
      refine mm_blk (pc' := 5) ok_Md_shiftAll 2 _ _ _ rfl ?_
      rw [nI_1]
      refine mm_V_pick [0, 1, 2, 3, 4] rfl ?_
      exact ih (i + 1) _ _ (same_ok (same_w t (by decide) _) ok) (by omega)
set_option maxHeartbeats 1000000 in
theorem c_Md_shiftAll (w : mm_inj mdom K) (ok : m_ok nd nn t) (data q : Int32) : mm_C G M_Md_shiftAll [.ref (K 0), .int data, .int q] (MP K t h) 0 0 (mm_E (some (.int (up (m_sh1 data) nd 0 (q, t)).1)) (MP K (up (m_sh1 data) nd 0 (q, t)).2 h)) := by
  refine mm_C_of (by decide +kernel) rfl (Nat.le_of_ble_eq_true rfl) rfl ?_
  refine mm_blk (pc' := 5) ok_Md_shiftAll 4 _ _ _ rfl ?_
  exact l_Md_shiftAll w nd 0 q t ok (by omega)
set_option maxHeartbeats 1000000 in
theorem l_Md_capture7 (w : mm_inj mdom K) {d m : Nat} {s : Int32} (hs : s = 0 ∨ s = 2) (hm : m ≤ 6) (hd : d < nd) : ∀ (n i : Nat) (t : mS), m_ok nd nn t → m_cl t d = m → i + n = m → mm_V G M_Md_capture 51 [(0, .ref (K 0)), (1, .int (nI d)), (2, .int s), (3, .int (nI i))] [] (MP K t h) 0 0 (mm_E none (MP K (m_cp7 d n i t) h)) := by
  intro n
  induction n with
  | zero =>
    intro i t ok hc hi
    have h4 := ok.1
    have el := (ok.2.2.2.2.1 d hd).2.2
    rw [hc] at el
    refine mm_blk (pc' := 53) ok_Md_capture 2 _ _ _ rfl ?_
    refine mm_getf ok_Md_capture (mp_0 w) rfl f_Md_16 rfl ?_
    refine mm_blk (pc' := 57) ok_Md_capture 1 _ _ _ rfl ?_
    refine mm_iald (j := d) ok_Md_capture (mp_4 w) rfl rfl (by omega) (oIs_get (by omega) _) ?_
    rw [el]
    refine mm_ic_ge ok_Md_capture 97 rfl (by decide) (fun c => ?_) (fun c => ?_)
    rotate_left
    · exact absurd (nI_le (by omega) (by omega)) c
    exact mm_vret ok_Md_capture rfl rfl ⟨rfl, rfl⟩
  | succ n ih =>
    intro i t ok hc hi
    have h4 := ok.1
    have el := (ok.2.2.2.2.1 d hd).2.2
    rw [hc] at el
    have hno := ok.2.2.2.2.2.2.2.2 d i hd (by omega)
    refine mm_blk (pc' := 53) ok_Md_capture 2 _ _ _ rfl ?_
    refine mm_getf ok_Md_capture (mp_0 w) rfl f_Md_16 rfl ?_
    refine mm_blk (pc' := 57) ok_Md_capture 1 _ _ _ rfl ?_
    refine mm_iald (j := d) ok_Md_capture (mp_4 w) rfl rfl (by omega) (oIs_get (by omega) _) ?_
    rw [el]
    refine mm_ic_ge ok_Md_capture 97 rfl (by decide) (fun c => ?_) (fun c => ?_)
    · exact absurd c (nI_ge (by omega) (by omega))
    refine mm_blk (pc' := 62) ok_Md_capture 1 _ _ _ rfl ?_
    refine mm_if_eq ok_Md_capture 70 rfl (by decide) (fun c62 => ?_) (fun c62 => ?_)
    · -- 70 t
      refine mm_blk (pc' := 71) ok_Md_capture 1 _ _ _ rfl ?_
      refine mm_getf ok_Md_capture (mp_0 w) rfl f_Md_25 rfl ?_
      refine mm_blk (pc' := 87) ok_Md_capture 11 _ _ _ rfl ?_
      rw [ix6]
      refine mm_cVE ok_Md_capture (As := [.int (nI (6 * d + i))]) rfl k_Md_capture_107 (mp_0 w) rfl rfl rfl (Nat.le_of_ble_eq_true rfl) (c_Md_signal w ok (by omega) hno) ?_
      refine mm_iast (j := 6 * d + i) ok_Md_capture (mp_7 w) rfl rfl (by omega) (by rw [List.length_map, List.length_range]; exact (by omega)) ?_
      refine mm_V_heap (mu_7 w (by omega) _) ?_
      refine mm_blk (pc' := 51) ok_Md_capture 2 _ _ _ rfl ?_
      rw [nI_1]
      refine mm_V_pick [0, 1, 2, 3] rfl ?_
      exact ih (i + 1) (m_s t 7 (6 * d + i) _) (same_ok (same_w t (n := 7) (by decide) _) ok) hc (by omega)
    · -- 65 f
      refine mm_blk (pc' := 67) ok_Md_capture 2 _ _ _ rfl ?_
      refine mm_ic_ne ok_Md_capture 97 rfl (by decide) (fun c => ?_) (fun c => ?_)
      · exact absurd (hs.resolve_left c62) c
      refine mm_blk (pc' := 71) ok_Md_capture 1 _ _ _ rfl ?_
      refine mm_getf ok_Md_capture (mp_0 w) rfl f_Md_25 rfl ?_
      refine mm_blk (pc' := 87) ok_Md_capture 11 _ _ _ rfl ?_
      rw [ix6]
      refine mm_cVE ok_Md_capture (As := [.int (nI (6 * d + i))]) rfl k_Md_capture_107 (mp_0 w) rfl rfl rfl (Nat.le_of_ble_eq_true rfl) (c_Md_signal w ok (by omega) hno) ?_
      refine mm_iast (j := 6 * d + i) ok_Md_capture (mp_7 w) rfl rfl (by omega) (by rw [List.length_map, List.length_range]; exact (by omega)) ?_
      refine mm_V_heap (mu_7 w (by omega) _) ?_
      refine mm_blk (pc' := 51) ok_Md_capture 2 _ _ _ rfl ?_
      rw [nI_1]
      refine mm_V_pick [0, 1, 2, 3] rfl ?_
      exact ih (i + 1) (m_s t 7 (6 * d + i) _) (same_ok (same_w t (n := 7) (by decide) _) ok) hc (by omega)
set_option maxHeartbeats 1000000 in
theorem l_Md_capture8 (w : mm_inj mdom K) {d : Nat} {s : Int32} (hd : d < nd) {t0 : mS} (hs : t0 5 d = s) : ∀ (n i : Nat) (t : mS), m_ok nd nn t → m_same t0 t → t 5 = t0 5 → i + n = 32 → up (fun b t => m_s t 8 (32 * d + b) ((t 3 d >>> (nI b &&& 31)) &&& 1)) n i t = m_cp8 d (m_s t0 9 d 0) → mm_V G M_Md_capture 16 [(0, .ref (K 0)), (1, .int (nI d)), (2, .int s), (3, .int (nI i))] [] (MP K t h) 0 0 (mm_E none (MP K (m_cap d t0) h)) := by
  intro n
  induction n with
  | zero =>
    intro i t ok hsm h5 hi hf
    have hf : t = m_cp8 d (m_s t0 9 d 0) := hf
    have h4 := ok.1
    have el := ok.2.2.2.2.1 d hd
    have ec : m_cl t d = m_cl t0 d := by unfold m_cl; rw [hsm.1 4 (by decide)]
    refine mm_blk (pc' := 19) ok_Md_capture 2 _ _ _ rfl ?_
    refine mm_ic_ge ok_Md_capture 49 rfl (by decide) (fun c => ?_) (fun c => ?_)
    rotate_left
    · exact absurd (show nI 32 ≤ nI i from nI_le (by omega) (by omega)) c
    refine mm_blk (pc' := 51) ok_Md_capture 2 _ _ _ rfl ?_
    by_cases h02 : s = 0 ∨ s = 2
    · have e9 : m_cap d t0 = m_cp7 d (m_cl t0 d) 0 t := by unfold m_cap; rw [if_pos (by rw [hs]; exact h02), ← hf]
      rw [e9, ← ec]
      exact l_Md_capture7 w h02 el.2.1 hd (m_cl t d) 0 t ok rfl (by omega)
    · have e9 : m_cap d t0 = t := by unfold m_cap; rw [if_neg (by rw [hs]; exact h02), ← hf]
      rw [e9]
      refine mm_blk (pc' := 53) ok_Md_capture 2 _ _ _ rfl ?_
      refine mm_getf ok_Md_capture (mp_0 w) rfl f_Md_16 rfl ?_
      refine mm_blk (pc' := 57) ok_Md_capture 1 _ _ _ rfl ?_
      refine mm_iald (j := d) ok_Md_capture (mp_4 w) rfl rfl (by omega) (oIs_get (by omega) _) ?_
      rw [el.2.2]
      refine mm_ic_ge ok_Md_capture 97 rfl (by decide) (fun c => ?_) (fun c => ?_)
      · exact absurd c (nI_nle el.1 (by omega))
      refine mm_blk (pc' := 62) ok_Md_capture 1 _ _ _ rfl ?_
      refine mm_if_eq ok_Md_capture 70 rfl (by decide) (fun c => ?_) (fun c => ?_)
      · exact absurd (Or.inl c) h02
      refine mm_blk (pc' := 67) ok_Md_capture 2 _ _ _ rfl ?_
      refine mm_ic_ne ok_Md_capture 97 rfl (by decide) (fun c => ?_) (fun c => ?_)
      rotate_left
      · exact absurd (Or.inr c) h02
      exact mm_vret ok_Md_capture rfl rfl ⟨rfl, rfl⟩
  | succ n ih =>
    intro i t ok hsm h5 hi hf
    have h4 := ok.1
    refine mm_blk (pc' := 19) ok_Md_capture 2 _ _ _ rfl ?_
    refine mm_ic_ge ok_Md_capture 49 rfl (by decide) (fun c => ?_) (fun c => ?_)
    · exact absurd c (show ¬ nI 32 ≤ nI i from nI_ge (by omega) (by omega))
    refine mm_blk (pc' := 23) ok_Md_capture 1 _ _ _ rfl ?_
    refine mm_getf ok_Md_capture (mp_0 w) rfl f_Md_28 rfl ?_
    refine mm_blk (pc' := 33) ok_Md_capture 6 _ _ _ rfl ?_
    refine mm_getf ok_Md_capture (mp_0 w) rfl f_Md_13 rfl ?_
    refine mm_blk (pc' := 37) ok_Md_capture 1 _ _ _ rfl ?_
    refine mm_iald (j := d) ok_Md_capture (mp_3 w) rfl rfl (by omega) (oIs_get (by omega) _) ?_
    refine mm_blk (pc' := 42) ok_Md_capture 4 _ _ _ rfl ?_
    refine mm_iast (j := 32 * d + i) ok_Md_capture (mp_8 w) rfl (ix32 _ _) (by omega) (by rw [List.length_map, List.length_range]; exact (by omega)) ?_
    refine mm_V_heap (mu_8 w (by omega) _) ?_
    refine mm_blk (pc' := 16) ok_Md_capture 2 _ _ _ rfl ?_
    rw [nI_1]
    exact ih (i + 1) (m_s t 8 (32 * d + i) _) (same_ok (same_w t (n := 8) (by decide) _) ok) (same_tr hsm (same_w t (n := 8) (by decide) _)) h5 (by omega) hf
set_option maxHeartbeats 1000000 in
theorem c_Md_capture (w : mm_inj mdom K) (ok : m_ok nd nn t) {d : Nat} (hd : d < nd) : mm_C G M_Md_capture [.ref (K 0), .int (nI d)] (MP K t h) 0 0 (mm_E none (MP K (m_cap d t) h)) := by
  have h4 := ok.1
  refine mm_C_of (by decide +kernel) rfl (Nat.le_of_ble_eq_true rfl) rfl ?_
  refine mm_blk (pc' := 1) ok_Md_capture 1 _ _ _ rfl ?_
  refine mm_getf ok_Md_capture (mp_0 w) rfl f_Md_19 rfl ?_
  refine mm_blk (pc' := 5) ok_Md_capture 1 _ _ _ rfl ?_
  refine mm_iald (j := d) ok_Md_capture (mp_5 w) rfl rfl (by omega) (oIs_get (by omega) _) ?_
  refine mm_blk (pc' := 8) ok_Md_capture 2 _ _ _ rfl ?_
  refine mm_getf ok_Md_capture (mp_0 w) rfl f_Md_31 rfl ?_
  refine mm_blk (pc' := 13) ok_Md_capture 2 _ _ _ rfl ?_
  refine mm_iast (j := d) ok_Md_capture (mp_9 w) rfl rfl (by omega) (by rw [List.length_map, List.length_range]; exact (by omega)) ?_
  refine mm_V_heap (mu_9 w (by omega) _) ?_
  refine mm_blk (pc' := 16) ok_Md_capture 2 _ _ _ rfl ?_
  exact l_Md_capture8 w hd rfl 32 0 (m_s t 9 d 0) (same_ok (same_w t (n := 9) (by decide) _) ok) (same_w t (n := 9) (by decide) _) rfl (by omega) rfl
set_option maxHeartbeats 1000000 in
theorem l_Md_update (w : mm_inj mdom K) {d m : Nat} (hm : m ≤ 6) (hd : d < nd) : ∀ (n i : Nat) (t : mS), m_ok nd nn t → m_cl t d = m → i + n = m → mm_V G M_Md_update 25 [(0, .ref (K 0)), (1, .int (nI d)), (2, .int (nI (6 * d + i)))] [] (MP K t h) 0 0 (mm_E none (MP K (up (fun c t => m_s t 11 (6 * d + c) (if t 10 (6 * d + c) = 0 then 0 else t 7 (6 * d + c))) n i t) h)) := by
  intro n
  induction n with
  | zero =>
    intro i t ok hc hi
    have h4 := ok.1
    have el := (ok.2.2.2.2.1 d hd).2.2
    rw [hc] at el
    refine mm_blk (pc' := 31) ok_Md_update 5 _ _ _ rfl ?_
    refine mm_getf ok_Md_update (mp_0 w) rfl f_Md_16 rfl ?_
    refine mm_blk (pc' := 35) ok_Md_update 1 _ _ _ rfl ?_
    refine mm_iald (j := d) ok_Md_update (mp_4 w) rfl rfl (by omega) (oIs_get (by omega) _) ?_
    refine mm_blk (pc' := 37) ok_Md_update 1 _ _ _ rfl ?_
    rw [el, ix6]
    refine mm_ic_ge ok_Md_update 71 rfl (by decide) (fun c => ?_) (fun c => ?_)
    rotate_left
    · exact absurd (nI_le (by omega) (by omega)) c
    exact mm_vret ok_Md_update rfl rfl ⟨rfl, rfl⟩
  | succ n ih =>
    intro i t ok hc hi
    have h4 := ok.1
    have el := (ok.2.2.2.2.1 d hd).2.2
    rw [hc] at el
    refine mm_blk (pc' := 31) ok_Md_update 5 _ _ _ rfl ?_
    refine mm_getf ok_Md_update (mp_0 w) rfl f_Md_16 rfl ?_
    refine mm_blk (pc' := 35) ok_Md_update 1 _ _ _ rfl ?_
    refine mm_iald (j := d) ok_Md_update (mp_4 w) rfl rfl (by omega) (oIs_get (by omega) _) ?_
    refine mm_blk (pc' := 37) ok_Md_update 1 _ _ _ rfl ?_
    rw [el, ix6]
    refine mm_ic_ge ok_Md_update 71 rfl (by decide) (fun c => ?_) (fun c => ?_)
    · exact absurd c (nI_ge (by omega) (by omega))
    refine mm_blk (pc' := 41) ok_Md_update 1 _ _ _ rfl ?_
    refine mm_getf ok_Md_update (mp_0 w) rfl f_Md_38 rfl ?_
    refine mm_blk (pc' := 46) ok_Md_update 2 _ _ _ rfl ?_
    refine mm_getf ok_Md_update (mp_0 w) rfl f_Md_34 rfl ?_
    refine mm_blk (pc' := 50) ok_Md_update 1 _ _ _ rfl ?_
    refine mm_zald (j := 6 * d + i) ok_Md_update (mp_10 w) rfl rfl (by omega) (oIs_get (by omega) _) ?_
    refine mm_if_eq ok_Md_update 63 rfl (by decide) (fun c51 => ?_) (fun c51 => ?_)
    · -- 63 t
      refine mm_blk (pc' := 64) ok_Md_update 1 _ _ _ rfl ?_
      refine mm_iast (j := 6 * d + i) ok_Md_update (mp_11 w) rfl rfl (by omega) (by rw [List.length_map, List.length_range]; exact (by omega)) ?_
      refine mm_V_heap (mu_11 w (by omega) _) ?_
      refine mm_blk (pc' := 25) ok_Md_update 2 _ _ _ rfl ?_
      rw [nI_1]
      unfold up
      first | rw [if_pos c51] | rw [if_neg c51]
      exact ih (i + 1) (m_s t 11 (6 * d + i) _) (same_ok (same_w t (n := 11) (by decide) _) ok) hc (by omega)
    · -- 54 f
      refine mm_blk (pc' := 55) ok_Md_update 1 _ _ _ rfl ?_
      refine mm_getf ok_Md_update (mp_0 w) rfl f_Md_25 rfl ?_
      refine mm_blk (pc' := 59) ok_Md_update 1 _ _ _ rfl ?_
      refine mm_iald (j := 6 * d + i) ok_Md_update (mp_7 w) rfl rfl (by omega) (oIs_get (by omega) _) ?_
      refine mm_blk (pc' := 64) ok_Md_update 1 _ _ _ rfl ?_
      refine mm_iast (j := 6 * d + i) ok_Md_update (mp_11 w) rfl rfl (by omega) (by rw [List.length_map, List.length_range]; exact (by omega)) ?_
      refine mm_V_heap (mu_11 w (by omega) _) ?_
      refine mm_blk (pc' := 25) ok_Md_update 2 _ _ _ rfl ?_
      rw [nI_1]
      unfold up
      first | rw [if_pos c51] | rw [if_neg c51]
      exact ih (i + 1) (m_s t 11 (6 * d + i) _) (same_ok (same_w t (n := 11) (by decide) _) ok) hc (by omega)
set_option maxHeartbeats 1000000 in
theorem c_Md_update (w : mm_inj mdom K) (ok : m_ok nd nn t) {d : Nat} (hd : d < nd) : mm_C G M_Md_update [.ref (K 0), .int (nI d)] (MP K t h) 0 0 (mm_E none (MP K (m_upd d t) h)) := by
  have h4 := ok.1
  have el := ok.2.2.2.2.1 d hd
  refine mm_C_of (by decide +kernel) rfl (Nat.le_of_ble_eq_true rfl) rfl ?_
  refine mm_blk (pc' := 1) ok_Md_update 1 _ _ _ rfl ?_
  refine mm_getf ok_Md_update (mp_0 w) rfl f_Md_19 rfl ?_
  refine mm_blk (pc' := 5) ok_Md_update 1 _ _ _ rfl ?_
  refine mm_iald (j := d) ok_Md_update (mp_5 w) rfl rfl (by omega) (oIs_get (by omega) _) ?_
  refine mm_if_eq ok_Md_update 20 rfl (by decide) (fun c6 => ?_) (fun c6 => ?_)
  · -- 20 t
    have e9 : m_upd d t = up (fun c t => m_s t 11 (6 * d + c) (if t 10 (6 * d + c) = 0 then 0 else t 7 (6 * d + c))) (m_cl t d) 0 t := by unfold m_upd; first | rw [if_pos (Or.inl c6)] | rw [if_pos (Or.inr c16)]
    rw [e9]
    refine mm_blk (pc' := 25) ok_Md_update 4 _ _ _ rfl ?_
    rw [ix6']
    exact l_Md_update w el.2.1 hd (m_cl t d) 0 t ok rfl (by omega)
  · -- 9 f
    refine mm_blk (pc' := 10) ok_Md_update 1 _ _ _ rfl ?_
    refine mm_getf ok_Md_update (mp_0 w) rfl f_Md_19 rfl ?_
    refine mm_blk (pc' := 14) ok_Md_update 1 _ _ _ rfl ?_
    refine mm_iald (j := d) ok_Md_update (mp_5 w) rfl rfl (by omega) (oIs_get (by omega) _) ?_
    refine mm_blk (pc' := 16) ok_Md_update 1 _ _ _ rfl ?_
    refine mm_ic_eq ok_Md_update 20 rfl (by decide) (fun c16 => ?_) (fun c16 => ?_)
    · -- 20 t
      have e9 : m_upd d t = up (fun c t => m_s t 11 (6 * d + c) (if t 10 (6 * d + c) = 0 then 0 else t 7 (6 * d + c))) (m_cl t d) 0 t := by unfold m_upd; first | rw [if_pos (Or.inl c6)] | rw [if_pos (Or.inr c16)]
      rw [e9]
      refine mm_blk (pc' := 25) ok_Md_update 4 _ _ _ rfl ?_
      rw [ix6']
      exact l_Md_update w el.2.1 hd (m_cl t d) 0 t ok rfl (by omega)
    · -- 19 f
      exact mm_vret ok_Md_update rfl rfl ⟨rfl, by rw [show m_upd d t = t from if_neg (fun z => z.elim c6 c16)]⟩
end MD2
end
section
/-! the reference: a clock -/
def m_one (d : Nat) (t : mS) : mS := up (fun k t => m_s t 6 (4 * d + k) (if k = 0 then 1 else 0)) 4 0 t
def m_tk1 (p : Int32) (d : Nat) (t : mS) : mS := if p = 3 then m_cap d t else if p = 8 then m_upd d t else if p = 15 then m_s t 5 d (m_num t d) else if p = 10 then m_one d t else t
def m_rst (nd : Nat) (t : mS) : mS := up (fun d t => m_s t 5 d 1) nd 0 t
def m_fin (nd k : Nat) (b : Int32) (t : mS) : mS := if m_aft k b = 0 then m_s (m_rst nd (m_s t 0 19 (m_aft k b))) 0 20 (m_rst nd (m_s t 0 19 (m_aft k b)) 0 20 + 1) else m_s (m_s t 0 19 (m_aft k b)) 0 20 (m_s t 0 19 (m_aft k b) 0 20 + 1)
def m_shf (nd k : Nat) (x : Int32) (t : mS) : Int32 × mS := if k = 4 then up (m_sh1 1) nd 0 (x, t) else if k = 11 then up (m_sh1 0) nd 0 (x, t) else (0, t)
def m_ps (t : mS) : Nat := (t 0 19).toNatClampNeg
def m_tick (nd : Nat) (b x : Int32) (t : mS) : Int32 × mS := ((m_shf nd (m_ps t) x t).1, m_fin nd (m_ps t) b (up (m_tk1 (nI (m_ps t))) nd 0 (m_shf nd (m_ps t) x t).2))
theorem up_0 {f : Nat → mS → mS} (hf : ∀ i t, f i t 0 = t 0) : ∀ (n i : Nat) (t : mS), up f n i t 0 = t 0 := by
  intro n
  induction n with
  | zero => intro i t; rfl
  | succ n ih => intro i t; exact (ih _ _).trans (hf i t)
theorem cap_0 (d : Nat) (t : mS) : m_cap d t 0 = t 0 := by
  unfold m_cap m_cp7 m_cp8
  split
  · refine Eq.trans (up_0 ?_ _ _ _) (Eq.trans (up_0 ?_ _ _ _) ?_)
    · intro _ _; rfl
    · intro _ _; rfl
    · rfl
  · refine Eq.trans (up_0 ?_ _ _ _) ?_
    · intro _ _; rfl
    · rfl
theorem upd_0 (d : Nat) (t : mS) : m_upd d t 0 = t 0 := by
  unfold m_upd
  split
  · refine up_0 ?_ _ _ _
    intro _ _; rfl
  · rfl
theorem one_0 (d : Nat) (t : mS) : m_one d t 0 = t 0 := by
  refine up_0 ?_ _ _ _
  intro _ _; rfl
theorem tk1_0 (p : Int32) (d : Nat) (t : mS) : m_tk1 p d t 0 = t 0 := by
  unfold m_tk1
  repeat' split
  · exact cap_0 d t
  · exact upd_0 d t
  · rfl
  · exact one_0 d t
  · rfl
theorem same_one (d : Nat) (t : mS) : m_same t (m_one d t) := same_up (fun _ t => same_w t (by decide) _) _ _ _
theorem same_tk1 (p : Int32) (d : Nat) (t : mS) : m_same t (m_tk1 p d t) := by
  unfold m_tk1
  repeat' split
  · exact same_cap d t
  · exact same_upd d t
  · exact same_w t (n := 5) (by decide) _
  · exact same_one d t
  · exact same_rf t
theorem sh_0 (data : Int32) : ∀ (n i : Nat) (x : Int32 × mS), (up (m_sh1 data) n i x).2 0 = x.2 0 := by
  intro n
  induction n with
  | zero => intro i x; rfl
  | succ n ih =>
    intro i x
    refine (ih _ _).trans ?_
    unfold m_sh1
    repeat' split
    all_goals rfl
theorem same_fin (nd k : Nat) (b : Int32) (t : mS) : m_same t (m_fin nd k b t) := by
  have h0 : ∀ (t : mS) (f : Nat) (x : Int32), f = 19 ∨ f = 20 → m_same t (m_s t 0 f x) := fun t f x hf => ⟨fun n hn => m_s_ne _ _ _ (fun e => hn (by rw [e]; decide)), fun g h1 h2 => m_s_off _ _ _ (by omega)⟩
  unfold m_fin
  split
  · exact same_tr (h0 t 19 _ (Or.inl rfl)) (same_tr (same_up (fun _ t => same_w t (n := 5) (by decide) _) _ _ _) (h0 _ 20 _ (Or.inr rfl)))
  · exact same_tr (h0 t 19 _ (Or.inl rfl)) (h0 _ 20 _ (Or.inr rfl))
theorem same_shf (nd k : Nat) (x : Int32) (t : mS) : m_same t (m_shf nd k x t).2 := by
  unfold m_shf
  repeat' split
  · exact same_sh 1 nd 0 (x, t)
  · exact same_sh 0 nd 0 (x, t)
  · exact same_rf t
theorem same_tick (nd : Nat) (b x : Int32) (t : mS) : m_same t (m_tick nd b x t).2 := same_tr (same_shf nd (m_ps t) x t) (same_tr (same_up (fun i t => same_tk1 _ i t) _ _ _) (same_fin _ _ _ _))
section MD3
variable {G : mm_G} {K : Nat → Nat} {t : mS} {h : mm_Hp} {nd nn : Nat} {tms tdi goes : Int32} {Q : mm_O → mm_Hp → Prop}

set_option maxHeartbeats 1000000 in
theorem l_Md_tickR (w : mm_inj mdom K) : ∀ (n i : Nat) (t : mS), m_ok nd nn t → t 0 19 = 0 → i + n = nd → mm_V G M_Md_tick 168 [(0, .ref (K 0)), (1, .int tms), (2, .int tdi), (3, .int goes), (4, .int (nI i))] [] (MP K t h) 0 0 (mm_E (some (.int goes)) (MP K (m_s (up (fun d t => m_s t 5 d 1) n i t) 0 20 (up (fun d t => m_s t 5 d 1) n i t 0 20 + 1)) h)) := by
  intro n
  induction n with
  | zero =>
    intro i t ok hz hi
    have h4 := ok.1
    refine mm_blk (pc' := 171) ok_Md_tick 2 _ _ _ rfl ?_
    refine mm_getf ok_Md_tick (mp_0 w) rfl f_Md_66 rfl ?_
    rw [ok.2.2.1]
    refine mm_ic_ge ok_Md_tick 198 rfl (by decide) (fun c => ?_) (fun c => ?_)
    rotate_left
    · exact absurd (nI_le (by omega) (by omega)) c
    refine mm_blk (pc' := 200) ok_Md_tick 2 _ _ _ rfl ?_
    refine mm_getf ok_Md_tick (mp_0 w) rfl f_Md_72 rfl ?_
    refine mm_blk (pc' := 205) ok_Md_tick 2 _ _ _ rfl ?_
    refine mm_putf ok_Md_tick (mp_0 w) rfl f_Md_72 (Or.inl rfl) (mm_fit_I _) ?_
    refine mm_V_heap (mu_0 w 20 _) ?_
    refine mm_blk (pc' := 209) ok_Md_tick 1 _ _ _ rfl ?_
    exact mm_iret ok_Md_tick rfl rfl ⟨rfl, rfl⟩
  | succ n ih =>
    intro i t ok hz hi
    have h4 := ok.1
    refine mm_blk (pc' := 171) ok_Md_tick 2 _ _ _ rfl ?_
    refine mm_getf ok_Md_tick (mp_0 w) rfl f_Md_66 rfl ?_
    rw [ok.2.2.1]
    refine mm_ic_ge ok_Md_tick 198 rfl (by decide) (fun c => ?_) (fun c => ?_)
    · exact absurd c (nI_ge (by omega) (by omega))
    refine mm_blk (pc' := 178) ok_Md_tick 1 _ _ _ rfl ?_
    refine mm_getf ok_Md_tick (mp_0 w) rfl f_Md_69 rfl ?_
    rw [hz]
    refine mm_if_ne ok_Md_tick 198 rfl (by decide) (fun c => ?_) (fun c => ?_)
    · exact absurd rfl c
    refine mm_blk (pc' := 185) ok_Md_tick 1 _ _ _ rfl ?_
    refine mm_getf ok_Md_tick (mp_0 w) rfl f_Md_19 rfl ?_
    refine mm_blk (pc' := 191) ok_Md_tick 2 _ _ _ rfl ?_
    refine mm_iast (j := i) ok_Md_tick (mp_5 w) rfl rfl (by omega) (by rw [List.length_map, List.length_range]; exact (by omega)) ?_
    refine mm_V_heap (mu_5 w (by omega) _) ?_
    refine mm_blk (pc' := 168) ok_Md_tick 2 _ _ _ rfl ?_
    rw [nI_1]
    exact ih (i + 1) (m_s t 5 i 1) (same_ok (same_w t (n := 5) (by decide) _) ok) hz (by omega)
set_option maxHeartbeats 1000000 in
theorem t_Md_tick (w : mm_inj mdom K) (ok : m_ok nd nn t) {k i : Nat} (hk : k < 16) (hz : t 0 19 = nI k) : mm_V G M_Md_tick 153 [(0, .ref (K 0)), (1, .int tms), (2, .int tdi), (3, .int goes), (4, .int (nI i))] [] (MP K t h) 0 0 (mm_E (some (.int goes)) (MP K (m_fin nd k tms t) h)) := by
  have h4 := ok.1
  refine mm_blk (pc' := 155) ok_Md_tick 2 _ _ _ rfl ?_
  refine mm_getf ok_Md_tick (mp_0 w) rfl f_Md_69 rfl ?_
  refine mm_blk (pc' := 159) ok_Md_tick 1 _ _ _ rfl ?_
  rw [hz]
  refine mm_cSE ok_Md_tick (As := [.int (nI k), .int tms]) rfl k_Md_tick_123 rfl (Nat.le_of_ble_eq_true rfl) (c_Md_after hk tms) ?_
  refine mm_putf ok_Md_tick (mp_0 w) rfl f_Md_69 (Or.inl rfl) (mm_fit_I _) ?_
  refine mm_V_heap (mu_0 w 19 (m_aft k tms)) ?_
  refine mm_blk (pc' := 168) ok_Md_tick 2 _ _ _ rfl ?_
  have ok2 : m_ok nd nn (m_s t 0 19 (m_aft k tms)) := same_ok ⟨fun n hn => m_s_ne _ _ _ (fun e => hn (by rw [e]; decide)), fun g h1 h2 => m_s_off _ _ _ h1⟩ ok
  unfold m_fin
  by_cases e : m_aft k tms = 0
  · rw [if_pos e]
    exact l_Md_tickR w nd 0 (m_s t 0 19 (m_aft k tms)) ok2 e (by omega)
  · rw [if_neg e]
    by_cases hn : nd = 0
    · have hc : m_s t 0 19 (m_aft k tms) 0 1 = nI 0 := by show t 0 1 = nI 0; rw [ok.2.2.1, hn]
      refine mm_blk (pc' := 171) ok_Md_tick 2 _ _ _ rfl ?_
      refine mm_getf ok_Md_tick (mp_0 w) rfl f_Md_66 rfl ?_
      rw [hc]
      refine mm_ic_ge ok_Md_tick 198 rfl (by decide) (fun c => ?_) (fun c => ?_)
      rotate_left
      · exact absurd (nI_le (Nat.le_refl 0) (by omega)) c
      refine mm_blk (pc' := 200) ok_Md_tick 2 _ _ _ rfl ?_
      refine mm_getf ok_Md_tick (mp_0 w) rfl f_Md_72 rfl ?_
      refine mm_blk (pc' := 205) ok_Md_tick 2 _ _ _ rfl ?_
      refine mm_putf ok_Md_tick (mp_0 w) rfl f_Md_72 (Or.inl rfl) (mm_fit_I _) ?_
      refine mm_V_heap (mu_0 w 20 _) ?_
      refine mm_blk (pc' := 209) ok_Md_tick 1 _ _ _ rfl ?_
      exact mm_iret ok_Md_tick rfl rfl ⟨rfl, rfl⟩
    · have hc : m_s t 0 19 (m_aft k tms) 0 1 = nI nd := ok.2.2.1
      refine mm_blk (pc' := 171) ok_Md_tick 2 _ _ _ rfl ?_
      refine mm_getf ok_Md_tick (mp_0 w) rfl f_Md_66 rfl ?_
      rw [hc]
      refine mm_ic_ge ok_Md_tick 198 rfl (by decide) (fun c => ?_) (fun c => ?_)
      · exact absurd c (nI_nle (by omega) (by omega))
      refine mm_blk (pc' := 178) ok_Md_tick 1 _ _ _ rfl ?_
      refine mm_getf ok_Md_tick (mp_0 w) rfl f_Md_69 rfl ?_
      refine mm_if_ne ok_Md_tick 198 rfl (by decide) (fun c => ?_) (fun c => ?_)
      rotate_left
      · exact absurd c e
      refine mm_blk (pc' := 200) ok_Md_tick 2 _ _ _ rfl ?_
      refine mm_getf ok_Md_tick (mp_0 w) rfl f_Md_72 rfl ?_
      refine mm_blk (pc' := 205) ok_Md_tick 2 _ _ _ rfl ?_
      refine mm_putf ok_Md_tick (mp_0 w) rfl f_Md_72 (Or.inl rfl) (mm_fit_I _) ?_
      refine mm_V_heap (mu_0 w 20 _) ?_
      refine mm_blk (pc' := 209) ok_Md_tick 1 _ _ _ rfl ?_
      exact mm_iret ok_Md_tick rfl rfl ⟨rfl, rfl⟩
set_option maxHeartbeats 1000000 in
theorem l_Md_tick_3 (w : mm_inj mdom K) {p : Int32} (hp : p = 3) : ∀ (n i : Nat) (t : mS), m_ok nd nn t → t 0 19 = p → i + n = nd → mm_V G M_Md_tick 153 [(0, .ref (K 0)), (1, .int tms), (2, .int tdi), (3, .int goes), (4, .int (nI nd))] [] (MP K (up (m_tk1 p) n i t) h) 0 0 Q → mm_V G M_Md_tick 41 [(0, .ref (K 0)), (1, .int tms), (2, .int tdi), (3, .int goes), (4, .int (nI i))] [] (MP K t h) 0 0 Q := by
  intro n
  induction n with
  | zero =>
    intro i t ok hz hi kk
    have h4 := ok.1
    refine mm_blk (pc' := 44) ok_Md_tick 2 _ _ _ rfl ?_
    refine mm_getf ok_Md_tick (mp_0 w) rfl f_Md_66 rfl ?_
    rw [ok.2.2.1]
    refine mm_ic_ge ok_Md_tick 153 rfl (by decide) (fun c => ?_) (fun c => ?_)
    rotate_left
    · exact absurd (nI_le (by omega) (by omega)) c
    rw [show i = nd by omega]
    exact kk
  | succ n ih =>
    intro i t ok hz hi kk
    have h4 := ok.1
    have hlt : i < nd := by omega
    refine mm_blk (pc' := 44) ok_Md_tick 2 _ _ _ rfl ?_
    refine mm_getf ok_Md_tick (mp_0 w) rfl f_Md_66 rfl ?_
    rw [ok.2.2.1]
    refine mm_ic_ge ok_Md_tick 153 rfl (by decide) (fun c => ?_) (fun c => ?_)
    · exact absurd c (nI_ge (by omega) (by omega))
    refine mm_blk (pc' := 51) ok_Md_tick 1 _ _ _ rfl ?_
    refine mm_getf ok_Md_tick (mp_0 w) rfl f_Md_69 rfl ?_
    refine mm_blk (pc' := 55) ok_Md_tick 1 _ _ _ rfl ?_
    rw [hz]
    refine mm_ic_ne ok_Md_tick 64 rfl (by decide) (fun c => ?_) (fun c => ?_)
    · exact absurd hp c
    refine mm_blk (pc' := 61) ok_Md_tick 2 _ _ _ rfl ?_
    refine mm_cVE ok_Md_tick (As := [.int (nI i)]) rfl k_Md_tick_114 (mp_0 w) rfl rfl rfl (Nat.le_of_ble_eq_true rfl) (c_Md_capture w ok hlt) ?_
    have hz2 : m_cap i t 0 19 = p := by rw [cap_0]; exact hz
    refine mm_blk (pc' := 65) ok_Md_tick 1 _ _ _ rfl ?_
    refine mm_getf ok_Md_tick (mp_0 w) rfl f_Md_69 rfl ?_
    refine mm_blk (pc' := 70) ok_Md_tick 1 _ _ _ rfl ?_
    rw [hz2]
    refine mm_ic_ne ok_Md_tick 79 rfl (by decide) (fun c => ?_) (fun c => ?_)
    rotate_left
    · exact absurd c (by rw [hp]; decide)
    refine mm_blk (pc' := 80) ok_Md_tick 1 _ _ _ rfl ?_
    refine mm_getf ok_Md_tick (mp_0 w) rfl f_Md_69 rfl ?_
    refine mm_blk (pc' := 85) ok_Md_tick 1 _ _ _ rfl ?_
    rw [hz2]
    refine mm_ic_ne ok_Md_tick 101 rfl (by decide) (fun c => ?_) (fun c => ?_)
    rotate_left
    · exact absurd c (by rw [hp]; decide)
    refine mm_blk (pc' := 107) ok_Md_tick 4 _ _ _ rfl ?_
    refine mm_ic_ge ok_Md_tick 147 rfl (by decide) (fun c107 => ?_) (fun c107 => ?_)
    · -- 147 t
      refine mm_blk (pc' := 41) ok_Md_tick 2 _ _ _ rfl ?_
      rw [nI_1]
      refine mm_V_pick [0, 1, 2, 3, 4] rfl ?_
      have e9 : m_tk1 p i t = m_cap i t := by unfold m_tk1; rw [if_pos hp]
      refine ih (i + 1) (m_cap i t) (same_ok (same_cap i t) ok) (hz2) (by omega) ?_
      rw [← e9]
      exact kk
    · -- 110 f
      refine mm_blk (pc' := 111) ok_Md_tick 1 _ _ _ rfl ?_
      refine mm_getf ok_Md_tick (mp_0 w) rfl f_Md_69 rfl ?_
      refine mm_blk (pc' := 116) ok_Md_tick 1 _ _ _ rfl ?_
      rw [hz2]
      refine mm_ic_ne ok_Md_tick 147 rfl (by decide) (fun c => ?_) (fun c => ?_)
      rotate_left
      · exact absurd c (by rw [hp]; decide)
      refine mm_blk (pc' := 41) ok_Md_tick 2 _ _ _ rfl ?_
      rw [nI_1]
      refine mm_V_pick [0, 1, 2, 3, 4] rfl ?_
      have e9 : m_tk1 p i t = m_cap i t := by unfold m_tk1; rw [if_pos hp]
      refine ih (i + 1) (m_cap i t) (same_ok (same_cap i t) ok) (hz2) (by omega) ?_
      rw [← e9]
      exact kk
set_option maxHeartbeats 1000000 in
theorem l_Md_tick_8 (w : mm_inj mdom K) {p : Int32} (hp : p = 8) : ∀ (n i : Nat) (t : mS), m_ok nd nn t → t 0 19 = p → i + n = nd → mm_V G M_Md_tick 153 [(0, .ref (K 0)), (1, .int tms), (2, .int tdi), (3, .int goes), (4, .int (nI nd))] [] (MP K (up (m_tk1 p) n i t) h) 0 0 Q → mm_V G M_Md_tick 41 [(0, .ref (K 0)), (1, .int tms), (2, .int tdi), (3, .int goes), (4, .int (nI i))] [] (MP K t h) 0 0 Q := by
  intro n
  induction n with
  | zero =>
    intro i t ok hz hi kk
    have h4 := ok.1
    refine mm_blk (pc' := 44) ok_Md_tick 2 _ _ _ rfl ?_
    refine mm_getf ok_Md_tick (mp_0 w) rfl f_Md_66 rfl ?_
    rw [ok.2.2.1]
    refine mm_ic_ge ok_Md_tick 153 rfl (by decide) (fun c => ?_) (fun c => ?_)
    rotate_left
    · exact absurd (nI_le (by omega) (by omega)) c
    rw [show i = nd by omega]
    exact kk
  | succ n ih =>
    intro i t ok hz hi kk
    have h4 := ok.1
    have hlt : i < nd := by omega
    refine mm_blk (pc' := 44) ok_Md_tick 2 _ _ _ rfl ?_
    refine mm_getf ok_Md_tick (mp_0 w) rfl f_Md_66 rfl ?_
    rw [ok.2.2.1]
    refine mm_ic_ge ok_Md_tick 153 rfl (by decide) (fun c => ?_) (fun c => ?_)
    · exact absurd c (nI_ge (by omega) (by omega))
    refine mm_blk (pc' := 51) ok_Md_tick 1 _ _ _ rfl ?_
    refine mm_getf ok_Md_tick (mp_0 w) rfl f_Md_69 rfl ?_
    refine mm_blk (pc' := 55) ok_Md_tick 1 _ _ _ rfl ?_
    rw [hz]
    refine mm_ic_ne ok_Md_tick 64 rfl (by decide) (fun c => ?_) (fun c => ?_)
    rotate_left
    · exact absurd c (by rw [hp]; decide)
    refine mm_blk (pc' := 65) ok_Md_tick 1 _ _ _ rfl ?_
    refine mm_getf ok_Md_tick (mp_0 w) rfl f_Md_69 rfl ?_
    refine mm_blk (pc' := 70) ok_Md_tick 1 _ _ _ rfl ?_
    rw [hz]
    refine mm_ic_ne ok_Md_tick 79 rfl (by decide) (fun c => ?_) (fun c => ?_)
    · exact absurd hp c
    refine mm_blk (pc' := 76) ok_Md_tick 2 _ _ _ rfl ?_
    refine mm_cVE ok_Md_tick (As := [.int (nI i)]) rfl k_Md_tick_117 (mp_0 w) rfl rfl rfl (Nat.le_of_ble_eq_true rfl) (c_Md_update w ok hlt) ?_
    have hz2 : m_upd i t 0 19 = p := by rw [upd_0]; exact hz
    refine mm_blk (pc' := 80) ok_Md_tick 1 _ _ _ rfl ?_
    refine mm_getf ok_Md_tick (mp_0 w) rfl f_Md_69 rfl ?_
    refine mm_blk (pc' := 85) ok_Md_tick 1 _ _ _ rfl ?_
    rw [hz2]
    refine mm_ic_ne ok_Md_tick 101 rfl (by decide) (fun c => ?_) (fun c => ?_)
    rotate_left
    · exact absurd c (by rw [hp]; decide)
    refine mm_blk (pc' := 107) ok_Md_tick 4 _ _ _ rfl ?_
    refine mm_ic_ge ok_Md_tick 147 rfl (by decide) (fun c107 => ?_) (fun c107 => ?_)
    · -- 147 t
      refine mm_blk (pc' := 41) ok_Md_tick 2 _ _ _ rfl ?_
      rw [nI_1]
      refine mm_V_pick [0, 1, 2, 3, 4] rfl ?_
      have e9 : m_tk1 p i t = m_upd i t := by unfold m_tk1; rw [if_neg (by rw [hp]; decide), if_pos hp]
      refine ih (i + 1) (m_upd i t) (same_ok (same_upd i t) ok) (hz2) (by omega) ?_
      rw [← e9]
      exact kk
    · -- 110 f
      refine mm_blk (pc' := 111) ok_Md_tick 1 _ _ _ rfl ?_
      refine mm_getf ok_Md_tick (mp_0 w) rfl f_Md_69 rfl ?_
      refine mm_blk (pc' := 116) ok_Md_tick 1 _ _ _ rfl ?_
      rw [hz2]
      refine mm_ic_ne ok_Md_tick 147 rfl (by decide) (fun c => ?_) (fun c => ?_)
      rotate_left
      · exact absurd c (by rw [hp]; decide)
      refine mm_blk (pc' := 41) ok_Md_tick 2 _ _ _ rfl ?_
      rw [nI_1]
      refine mm_V_pick [0, 1, 2, 3, 4] rfl ?_
      have e9 : m_tk1 p i t = m_upd i t := by unfold m_tk1; rw [if_neg (by rw [hp]; decide), if_pos hp]
      refine ih (i + 1) (m_upd i t) (same_ok (same_upd i t) ok) (hz2) (by omega) ?_
      rw [← e9]
      exact kk
set_option maxHeartbeats 1000000 in
theorem l_Md_tick_15 (w : mm_inj mdom K) {p : Int32} (hp : p = 15) : ∀ (n i : Nat) (t : mS), m_ok nd nn t → t 0 19 = p → i + n = nd → mm_V G M_Md_tick 153 [(0, .ref (K 0)), (1, .int tms), (2, .int tdi), (3, .int goes), (4, .int (nI nd))] [] (MP K (up (m_tk1 p) n i t) h) 0 0 Q → mm_V G M_Md_tick 41 [(0, .ref (K 0)), (1, .int tms), (2, .int tdi), (3, .int goes), (4, .int (nI i))] [] (MP K t h) 0 0 Q := by
  intro n
  induction n with
  | zero =>
    intro i t ok hz hi kk
    have h4 := ok.1
    refine mm_blk (pc' := 44) ok_Md_tick 2 _ _ _ rfl ?_
    refine mm_getf ok_Md_tick (mp_0 w) rfl f_Md_66 rfl ?_
    rw [ok.2.2.1]
    refine mm_ic_ge ok_Md_tick 153 rfl (by decide) (fun c => ?_) (fun c => ?_)
    rotate_left
    · exact absurd (nI_le (by omega) (by omega)) c
    rw [show i = nd by omega]
    exact kk
  | succ n ih =>
    intro i t ok hz hi kk
    have h4 := ok.1
    have hlt : i < nd := by omega
    refine mm_blk (pc' := 44) ok_Md_tick 2 _ _ _ rfl ?_
    refine mm_getf ok_Md_tick (mp_0 w) rfl f_Md_66 rfl ?_
    rw [ok.2.2.1]
    refine mm_ic_ge ok_Md_tick 153 rfl (by decide) (fun c => ?_) (fun c => ?_)
    · exact absurd c (nI_ge (by omega) (by omega))
    refine mm_blk (pc' := 51) ok_Md_tick 1 _ _ _ rfl ?_
    refine mm_getf ok_Md_tick (mp_0 w) rfl f_Md_69 rfl ?_
    refine mm_blk (pc' := 55) ok_Md_tick 1 _ _ _ rfl ?_
    rw [hz]
    refine mm_ic_ne ok_Md_tick 64 rfl (by decide) (fun c => ?_) (fun c => ?_)
    rotate_left
    · exact absurd c (by rw [hp]; decide)
    refine mm_blk (pc' := 65) ok_Md_tick 1 _ _ _ rfl ?_
    refine mm_getf ok_Md_tick (mp_0 w) rfl f_Md_69 rfl ?_
    refine mm_blk (pc' := 70) ok_Md_tick 1 _ _ _ rfl ?_
    rw [hz]
    refine mm_ic_ne ok_Md_tick 79 rfl (by decide) (fun c => ?_) (fun c => ?_)
    rotate_left
    · exact absurd c (by rw [hp]; decide)
    refine mm_blk (pc' := 80) ok_Md_tick 1 _ _ _ rfl ?_
    refine mm_getf ok_Md_tick (mp_0 w) rfl f_Md_69 rfl ?_
    refine mm_blk (pc' := 85) ok_Md_tick 1 _ _ _ rfl ?_
    rw [hz]
    refine mm_ic_ne ok_Md_tick 101 rfl (by decide) (fun c => ?_) (fun c => ?_)
    · exact absurd hp c
    refine mm_blk (pc' := 89) ok_Md_tick 1 _ _ _ rfl ?_
    refine mm_getf ok_Md_tick (mp_0 w) rfl f_Md_19 rfl ?_
    refine mm_blk (pc' := 97) ok_Md_tick 3 _ _ _ rfl ?_
    refine mm_cVE ok_Md_tick (As := [.int (nI i)]) rfl k_Md_tick_120 (mp_0 w) rfl rfl rfl (Nat.le_of_ble_eq_true rfl) (c_Md_numberIn w ok hlt) ?_
    refine mm_iast (j := i) ok_Md_tick (mp_5 w) rfl rfl (by omega) (by rw [List.length_map, List.length_range]; exact (by omega)) ?_
    refine mm_V_heap (mu_5 w (by omega) _) ?_
    have hz2 : m_s t 5 i (m_num t i) 0 19 = p := hz
    refine mm_blk (pc' := 107) ok_Md_tick 4 _ _ _ rfl ?_
    refine mm_ic_ge ok_Md_tick 147 rfl (by decide) (fun c107 => ?_) (fun c107 => ?_)
    · -- 147 t
      refine mm_blk (pc' := 41) ok_Md_tick 2 _ _ _ rfl ?_
      rw [nI_1]
      refine mm_V_pick [0, 1, 2, 3, 4] rfl ?_
      have e9 : m_tk1 p i t = m_s t 5 i (m_num t i) := by unfold m_tk1; rw [if_neg (by rw [hp]; decide), if_neg (by rw [hp]; decide), if_pos hp]
      refine ih (i + 1) (m_s t 5 i (m_num t i)) (same_ok (same_w t (n := 5) (by decide) _) ok) (hz2) (by omega) ?_
      rw [← e9]
      exact kk
    · -- 110 f
      refine mm_blk (pc' := 111) ok_Md_tick 1 _ _ _ rfl ?_
      refine mm_getf ok_Md_tick (mp_0 w) rfl f_Md_69 rfl ?_
      refine mm_blk (pc' := 116) ok_Md_tick 1 _ _ _ rfl ?_
      rw [hz2]
      refine mm_ic_ne ok_Md_tick 147 rfl (by decide) (fun c => ?_) (fun c => ?_)
      rotate_left
      · exact absurd c (by rw [hp]; decide)
      refine mm_blk (pc' := 41) ok_Md_tick 2 _ _ _ rfl ?_
      rw [nI_1]
      refine mm_V_pick [0, 1, 2, 3, 4] rfl ?_
      have e9 : m_tk1 p i t = m_s t 5 i (m_num t i) := by unfold m_tk1; rw [if_neg (by rw [hp]; decide), if_neg (by rw [hp]; decide), if_pos hp]
      refine ih (i + 1) (m_s t 5 i (m_num t i)) (same_ok (same_w t (n := 5) (by decide) _) ok) (hz2) (by omega) ?_
      rw [← e9]
      exact kk
set_option maxHeartbeats 1000000 in
theorem l_Md_tick_o (w : mm_inj mdom K) {p : Int32} (hn3 : ¬ p = 3) (hn8 : ¬ p = 8) (hn15 : ¬ p = 15) (hn10 : ¬ p = 10) : ∀ (n i : Nat) (t : mS), m_ok nd nn t → t 0 19 = p → i + n = nd → mm_V G M_Md_tick 153 [(0, .ref (K 0)), (1, .int tms), (2, .int tdi), (3, .int goes), (4, .int (nI nd))] [] (MP K (up (m_tk1 p) n i t) h) 0 0 Q → mm_V G M_Md_tick 41 [(0, .ref (K 0)), (1, .int tms), (2, .int tdi), (3, .int goes), (4, .int (nI i))] [] (MP K t h) 0 0 Q := by
  intro n
  induction n with
  | zero =>
    intro i t ok hz hi kk
    have h4 := ok.1
    refine mm_blk (pc' := 44) ok_Md_tick 2 _ _ _ rfl ?_
    refine mm_getf ok_Md_tick (mp_0 w) rfl f_Md_66 rfl ?_
    rw [ok.2.2.1]
    refine mm_ic_ge ok_Md_tick 153 rfl (by decide) (fun c => ?_) (fun c => ?_)
    rotate_left
    · exact absurd (nI_le (by omega) (by omega)) c
    rw [show i = nd by omega]
    exact kk
  | succ n ih =>
    intro i t ok hz hi kk
    have h4 := ok.1
    have hlt : i < nd := by omega
    refine mm_blk (pc' := 44) ok_Md_tick 2 _ _ _ rfl ?_
    refine mm_getf ok_Md_tick (mp_0 w) rfl f_Md_66 rfl ?_
    rw [ok.2.2.1]
    refine mm_ic_ge ok_Md_tick 153 rfl (by decide) (fun c => ?_) (fun c => ?_)
    · exact absurd c (nI_ge (by omega) (by omega))
    refine mm_blk (pc' := 51) ok_Md_tick 1 _ _ _ rfl ?_
    refine mm_getf ok_Md_tick (mp_0 w) rfl f_Md_69 rfl ?_
    refine mm_blk (pc' := 55) ok_Md_tick 1 _ _ _ rfl ?_
    rw [hz]
    refine mm_ic_ne ok_Md_tick 64 rfl (by decide) (fun c => ?_) (fun c => ?_)
    rotate_left
    · exact absurd c (hn3)
    refine mm_blk (pc' := 65) ok_Md_tick 1 _ _ _ rfl ?_
    refine mm_getf ok_Md_tick (mp_0 w) rfl f_Md_69 rfl ?_
    refine mm_blk (pc' := 70) ok_Md_tick 1 _ _ _ rfl ?_
    rw [hz]
    refine mm_ic_ne ok_Md_tick 79 rfl (by decide) (fun c => ?_) (fun c => ?_)
    rotate_left
    · exact absurd c (hn8)
    refine mm_blk (pc' := 80) ok_Md_tick 1 _ _ _ rfl ?_
    refine mm_getf ok_Md_tick (mp_0 w) rfl f_Md_69 rfl ?_
    refine mm_blk (pc' := 85) ok_Md_tick 1 _ _ _ rfl ?_
    rw [hz]
    refine mm_ic_ne ok_Md_tick 101 rfl (by decide) (fun c => ?_) (fun c => ?_)
    rotate_left
    · exact absurd c (hn15)
    refine mm_blk (pc' := 107) ok_Md_tick 4 _ _ _ rfl ?_
    refine mm_ic_ge ok_Md_tick 147 rfl (by decide) (fun c107 => ?_) (fun c107 => ?_)
    · -- 147 t
      refine mm_blk (pc' := 41) ok_Md_tick 2 _ _ _ rfl ?_
      rw [nI_1]
      refine mm_V_pick [0, 1, 2, 3, 4] rfl ?_
      have e9 : m_tk1 p i t = t := by unfold m_tk1; rw [if_neg hn3, if_neg hn8, if_neg hn15, if_neg hn10]
      refine ih (i + 1) (t) (same_ok (same_rf t) ok) (hz) (by omega) ?_
      rw [← e9]
      exact kk
    · -- 110 f
      refine mm_blk (pc' := 111) ok_Md_tick 1 _ _ _ rfl ?_
      refine mm_getf ok_Md_tick (mp_0 w) rfl f_Md_69 rfl ?_
      refine mm_blk (pc' := 116) ok_Md_tick 1 _ _ _ rfl ?_
      rw [hz]
      refine mm_ic_ne ok_Md_tick 147 rfl (by decide) (fun c => ?_) (fun c => ?_)
      rotate_left
      · exact absurd c (hn10)
      refine mm_blk (pc' := 41) ok_Md_tick 2 _ _ _ rfl ?_
      rw [nI_1]
      refine mm_V_pick [0, 1, 2, 3, 4] rfl ?_
      have e9 : m_tk1 p i t = t := by unfold m_tk1; rw [if_neg hn3, if_neg hn8, if_neg hn15, if_neg hn10]
      refine ih (i + 1) (t) (same_ok (same_rf t) ok) (hz) (by omega) ?_
      rw [← e9]
      exact kk
set_option maxHeartbeats 1000000 in
theorem l_Md_tickI (w : mm_inj mdom K) {i : Nat} (hi4 : i < 4) : ∀ (n k : Nat) (t : mS), t 0 19 = 10 → k + n = 4 → mm_V G M_Md_tick 147 [(0, .ref (K 0)), (1, .int tms), (2, .int tdi), (3, .int goes), (4, .int (nI i))] [] (MP K (up (fun k t => m_s t 6 (4 * i + k) (if k = 0 then 1 else 0)) n k t) h) 0 0 Q → mm_V G M_Md_tick 104 [(0, .ref (K 0)), (1, .int tms), (2, .int tdi), (3, .int goes), (4, .int (nI i)), (5, .int (nI k))] [] (MP K t h) 0 0 Q := by
  intro n
  induction n with
  | zero =>
    intro k t hz hk kk
    refine mm_blk (pc' := 107) ok_Md_tick 2 _ _ _ rfl ?_
    refine mm_ic_ge ok_Md_tick 147 rfl (by decide) (fun c => ?_) (fun c => ?_)
    rotate_left
    · exact absurd (show nI 4 ≤ nI k from nI_le (by omega) (by omega)) c
    refine mm_V_pick [0, 1, 2, 3, 4] rfl ?_
    exact kk
  | succ n ih =>
    intro k t hz hk kk
    have ek : (if nI k = 0 then (1 : Int32) else 0) = if k = 0 then 1 else 0 := by
      by_cases e : k = 0
      · rw [if_pos e, e]; rfl
      · rw [if_neg e, if_neg (nI_ne0 (by omega) (by omega))]
    refine mm_blk (pc' := 107) ok_Md_tick 2 _ _ _ rfl ?_
    refine mm_ic_ge ok_Md_tick 147 rfl (by decide) (fun c => ?_) (fun c => ?_)
    · exact absurd c (show ¬ nI 4 ≤ nI k from nI_ge (by omega) (by omega))
    refine mm_blk (pc' := 111) ok_Md_tick 1 _ _ _ rfl ?_
    refine mm_getf ok_Md_tick (mp_0 w) rfl f_Md_69 rfl ?_
    refine mm_blk (pc' := 116) ok_Md_tick 1 _ _ _ rfl ?_
    rw [hz]
    refine mm_ic_ne ok_Md_tick 147 rfl (by decide) (fun c => ?_) (fun c => ?_)
    · exact absurd rfl c
    refine mm_blk (pc' := 120) ok_Md_tick 1 _ _ _ rfl ?_
    refine mm_getf ok_Md_tick (mp_0 w) rfl f_Md_22 rfl ?_
    refine mm_blk (pc' := 132) ok_Md_tick 6 _ _ _ rfl ?_
    refine mm_ti_ne ok_Md_tick 139 rfl (by decide) rfl rfl rfl (by decide) ?_
    rw [ek]
    refine mm_iast (j := 4 * i + k) ok_Md_tick (mp_6 w) rfl (ix4 _ _) (by omega) (by rw [List.length_map, List.length_range]; exact (by omega)) ?_
    refine mm_V_heap (mu_6 w (by omega) _) ?_
    refine mm_blk (pc' := 104) ok_Md_tick 2 _ _ _ rfl ?_
    rw [nI_1]
    exact ih (k + 1) (m_s t 6 (4 * i + k) _) hz (by omega) kk
set_option maxHeartbeats 1000000 in
theorem l_Md_tick_10 (w : mm_inj mdom K) {p : Int32} (hp : p = 10) : ∀ (n i : Nat) (t : mS), m_ok nd nn t → t 0 19 = p → i + n = nd → mm_V G M_Md_tick 153 [(0, .ref (K 0)), (1, .int tms), (2, .int tdi), (3, .int goes), (4, .int (nI nd))] [] (MP K (up (m_tk1 p) n i t) h) 0 0 Q → mm_V G M_Md_tick 41 [(0, .ref (K 0)), (1, .int tms), (2, .int tdi), (3, .int goes), (4, .int (nI i))] [] (MP K t h) 0 0 Q := by
  intro n
  induction n with
  | zero =>
    intro i t ok hz hi kk
    have h4 := ok.1
    refine mm_blk (pc' := 44) ok_Md_tick 2 _ _ _ rfl ?_
    refine mm_getf ok_Md_tick (mp_0 w) rfl f_Md_66 rfl ?_
    rw [ok.2.2.1]
    refine mm_ic_ge ok_Md_tick 153 rfl (by decide) (fun c => ?_) (fun c => ?_)
    rotate_left
    · exact absurd (nI_le (by omega) (by omega)) c
    rw [show i = nd by omega]
    exact kk
  | succ n ih =>
    intro i t ok hz hi kk
    have h4 := ok.1
    have hlt : i < nd := by omega
    refine mm_blk (pc' := 44) ok_Md_tick 2 _ _ _ rfl ?_
    refine mm_getf ok_Md_tick (mp_0 w) rfl f_Md_66 rfl ?_
    rw [ok.2.2.1]
    refine mm_ic_ge ok_Md_tick 153 rfl (by decide) (fun c => ?_) (fun c => ?_)
    · exact absurd c (nI_ge (by omega) (by omega))
    refine mm_blk (pc' := 51) ok_Md_tick 1 _ _ _ rfl ?_
    refine mm_getf ok_Md_tick (mp_0 w) rfl f_Md_69 rfl ?_
    refine mm_blk (pc' := 55) ok_Md_tick 1 _ _ _ rfl ?_
    rw [hz]
    refine mm_ic_ne ok_Md_tick 64 rfl (by decide) (fun c => ?_) (fun c => ?_)
    rotate_left
    · exact absurd c (by rw [hp]; decide)
    refine mm_blk (pc' := 65) ok_Md_tick 1 _ _ _ rfl ?_
    refine mm_getf ok_Md_tick (mp_0 w) rfl f_Md_69 rfl ?_
    refine mm_blk (pc' := 70) ok_Md_tick 1 _ _ _ rfl ?_
    rw [hz]
    refine mm_ic_ne ok_Md_tick 79 rfl (by decide) (fun c => ?_) (fun c => ?_)
    rotate_left
    · exact absurd c (by rw [hp]; decide)
    refine mm_blk (pc' := 80) ok_Md_tick 1 _ _ _ rfl ?_
    refine mm_getf ok_Md_tick (mp_0 w) rfl f_Md_69 rfl ?_
    refine mm_blk (pc' := 85) ok_Md_tick 1 _ _ _ rfl ?_
    rw [hz]
    refine mm_ic_ne ok_Md_tick 101 rfl (by decide) (fun c => ?_) (fun c => ?_)
    rotate_left
    · exact absurd c (by rw [hp]; decide)
    refine mm_blk (pc' := 104) ok_Md_tick 2 _ _ _ rfl ?_
    refine l_Md_tickI w (by omega) 4 0 t (by rw [hz, hp]) (by omega) ?_
    refine mm_blk (pc' := 41) ok_Md_tick 2 _ _ _ rfl ?_
    rw [nI_1]
    refine mm_V_pick [0, 1, 2, 3, 4] rfl ?_
    have e9 : m_tk1 p i t = m_one i t := by unfold m_tk1; rw [if_neg (by rw [hp]; decide), if_neg (by rw [hp]; decide), if_neg (by rw [hp]; decide), if_pos hp]
    refine ih (i + 1) (m_one i t) (same_ok (same_one i t) ok) (by rw [one_0]; exact hz) (by omega) ?_
    rw [← e9]
    exact kk
theorem l_Md_tick (w : mm_inj mdom K) {p : Int32} (ok : m_ok nd nn t) (hz : t 0 19 = p) (kk : mm_V G M_Md_tick 153 [(0, .ref (K 0)), (1, .int tms), (2, .int tdi), (3, .int goes), (4, .int (nI nd))] [] (MP K (up (m_tk1 p) nd 0 t) h) 0 0 Q) : mm_V G M_Md_tick 41 [(0, .ref (K 0)), (1, .int tms), (2, .int tdi), (3, .int goes), (4, .int (nI 0))] [] (MP K t h) 0 0 Q := by
  by_cases h3 : p = 3
  · exact l_Md_tick_3 w h3 nd 0 t ok hz (by omega) kk
  · by_cases h8 : p = 8
    · exact l_Md_tick_8 w h8 nd 0 t ok hz (by omega) kk
    · by_cases h15 : p = 15
      · exact l_Md_tick_15 w h15 nd 0 t ok hz (by omega) kk
      · by_cases h10 : p = 10
        · exact l_Md_tick_10 w h10 nd 0 t ok hz (by omega) kk
        · exact l_Md_tick_o w h3 h8 h15 h10 nd 0 t ok hz (by omega) kk
set_option maxHeartbeats 2000000 in
theorem c_Md_tick (w : mm_inj mdom K) (ok : m_ok nd nn t) {k : Nat} (hk : k < 16) (hz : t 0 19 = nI k) (tms tdi : Int32) : mm_C G M_Md_tick [.ref (K 0), .int tms, .int tdi] (MP K t h) 0 0 (mm_E (some (.int (m_tick nd tms tdi t).1)) (MP K (m_tick nd tms tdi t).2 h)) := by
  have hk9 : m_ps t = k := by unfold m_ps; rw [hz]; exact nI_clamp (by omega)
  unfold m_tick
  rw [hk9]
  have hs0 : (m_shf nd k tdi t).2 0 = t 0 := by
    unfold m_shf
    repeat' split
    · exact sh_0 1 nd 0 (tdi, t)
    · exact sh_0 0 nd 0 (tdi, t)
    · rfl
  have ok2 := same_ok (same_shf nd k tdi t) ok
  have hz2 : (m_shf nd k tdi t).2 0 19 = nI k := by rw [hs0]; exact hz
  have fin : mm_V G M_Md_tick 41 [(0, .ref (K 0)), (1, .int tms), (2, .int tdi), (3, .int (m_shf nd k tdi t).1), (4, .int (nI 0))] [] (MP K (m_shf nd k tdi t).2 h) 0 0 (mm_E (some (.int (m_shf nd k tdi t).1)) (MP K (m_fin nd k tms (up (m_tk1 (nI k)) nd 0 (m_shf nd k tdi t).2)) h)) := by
    refine l_Md_tick w ok2 hz2 ?_
    refine t_Md_tick w (same_ok (same_up (fun i t => same_tk1 _ i t) _ _ _) ok2) hk ?_
    rw [up_0 (fun i t => tk1_0 _ i t)]
    exact hz2
  generalize mm_E (some (.int (m_shf nd k tdi t).1)) (MP K (m_fin nd k tms (up (m_tk1 (nI k)) nd 0 (m_shf nd k tdi t).2)) h) = Q9 at fin ⊢
  refine mm_C_of (by decide +kernel) rfl (Nat.le_of_ble_eq_true rfl) rfl ?_
  by_cases k4 : k = 4
  · have e4 : m_shf nd k tdi t = up (m_sh1 1) nd 0 (tdi, t) := if_pos k4
    rw [e4] at fin
    subst k4
    refine mm_blk (pc' := 3) ok_Md_tick 3 _ _ _ rfl ?_
    refine mm_getf ok_Md_tick (mp_0 w) rfl f_Md_69 rfl ?_
    refine mm_blk (pc' := 7) ok_Md_tick 1 _ _ _ rfl ?_
    rw [hz]
    refine mm_ic_eq ok_Md_tick 19 rfl (by decide) (fun c => ?_) (fun c => ?_)
    rotate_left
    · exact absurd rfl c
    refine mm_blk (pc' := 21) ok_Md_tick 2 _ _ _ rfl ?_
    refine mm_getf ok_Md_tick (mp_0 w) rfl f_Md_69 rfl ?_
    refine mm_blk (pc' := 25) ok_Md_tick 1 _ _ _ rfl ?_
    rw [hz]
    refine mm_ic_ne ok_Md_tick 32 rfl (by decide) (fun c => ?_) (fun c => ?_)
    · exact absurd rfl c
    refine mm_blk (pc' := 34) ok_Md_tick 3 _ _ _ rfl ?_
    refine mm_cVE ok_Md_tick (As := [.int 1, .int tdi]) rfl k_Md_tick_110 (mp_0 w) rfl rfl rfl (Nat.le_of_ble_eq_true rfl) (c_Md_shiftAll w ok 1 tdi) ?_
    refine mm_blk (pc' := 41) ok_Md_tick 3 _ _ _ rfl ?_
    exact fin
  · by_cases k11 : k = 11
    · have e11 : m_shf nd k tdi t = up (m_sh1 0) nd 0 (tdi, t) := by unfold m_shf; rw [if_neg k4, if_pos k11]
      rw [e11] at fin
      subst k11
      refine mm_blk (pc' := 3) ok_Md_tick 3 _ _ _ rfl ?_
      refine mm_getf ok_Md_tick (mp_0 w) rfl f_Md_69 rfl ?_
      refine mm_blk (pc' := 7) ok_Md_tick 1 _ _ _ rfl ?_
      rw [hz]
      refine mm_ic_eq ok_Md_tick 19 rfl (by decide) (fun c => ?_) (fun c => ?_)
      · exact absurd c (by decide)
      refine mm_blk (pc' := 11) ok_Md_tick 1 _ _ _ rfl ?_
      refine mm_getf ok_Md_tick (mp_0 w) rfl f_Md_69 rfl ?_
      refine mm_blk (pc' := 16) ok_Md_tick 1 _ _ _ rfl ?_
      rw [hz]
      refine mm_ic_ne ok_Md_tick 38 rfl (by decide) (fun c => ?_) (fun c => ?_)
      · exact absurd rfl c
      refine mm_blk (pc' := 21) ok_Md_tick 2 _ _ _ rfl ?_
      refine mm_getf ok_Md_tick (mp_0 w) rfl f_Md_69 rfl ?_
      refine mm_blk (pc' := 25) ok_Md_tick 1 _ _ _ rfl ?_
      rw [hz]
      refine mm_ic_ne ok_Md_tick 32 rfl (by decide) (fun c => ?_) (fun c => ?_)
      rotate_left
      · exact absurd c (by decide)
      refine mm_blk (pc' := 34) ok_Md_tick 2 _ _ _ rfl ?_
      refine mm_cVE ok_Md_tick (As := [.int 0, .int tdi]) rfl k_Md_tick_110 (mp_0 w) rfl rfl rfl (Nat.le_of_ble_eq_true rfl) (c_Md_shiftAll w ok 0 tdi) ?_
      refine mm_blk (pc' := 41) ok_Md_tick 3 _ _ _ rfl ?_
      exact fin
    · have eo : m_shf nd k tdi t = (0, t) := by unfold m_shf; rw [if_neg k4, if_neg k11]
      rw [eo] at fin
      refine mm_blk (pc' := 3) ok_Md_tick 3 _ _ _ rfl ?_
      refine mm_getf ok_Md_tick (mp_0 w) rfl f_Md_69 rfl ?_
      refine mm_blk (pc' := 7) ok_Md_tick 1 _ _ _ rfl ?_
      rw [hz]
      refine mm_ic_eq ok_Md_tick 19 rfl (by decide) (fun c => ?_) (fun c => ?_)
      · exact absurd ((nI_eq (b := 4) (by omega) (by decide)).mp c) k4
      refine mm_blk (pc' := 11) ok_Md_tick 1 _ _ _ rfl ?_
      refine mm_getf ok_Md_tick (mp_0 w) rfl f_Md_69 rfl ?_
      refine mm_blk (pc' := 16) ok_Md_tick 1 _ _ _ rfl ?_
      rw [hz]
      refine mm_ic_ne ok_Md_tick 38 rfl (by decide) (fun c => ?_) (fun c => ?_)
      rotate_left
      · exact absurd ((nI_eq (b := 11) (by omega) (by decide)).mp c) k11
      refine mm_blk (pc' := 41) ok_Md_tick 2 _ _ _ rfl ?_
      exact fin
end MD3
end
section
/-! the reference: runs of clocks, its shorter public methods -/
abbrev m_good (nd nn : Nat) (t : mS) : Prop := m_ok nd nn t ∧ ∃ k, k < 16 ∧ t 0 19 = nI k
theorem ok_s0 {nd nn : Nat} {t : mS} (ok : m_ok nd nn t) {f : Nat} (h1 : f ≠ 1) (h14 : f ≠ 14) (x : Int32) : m_ok nd nn (m_s t 0 f x) := by
  unfold m_ok m_cl m_wd m_dr m_no m_pt at *
  rw [m_s_ne t f x (show 2 ≠ 0 by decide), m_s_ne t f x (show 4 ≠ 0 by decide), m_s_ne t f x (show 13 ≠ 0 by decide), m_s_ne t f x (show 15 ≠ 0 by decide), m_s_ne t f x (show 16 ≠ 0 by decide), m_s_ne t f x (show 17 ≠ 0 by decide), m_s_off t 0 x (Ne.symm h1), m_s_off t 0 x (Ne.symm h14)]
  exact ok
theorem good_s0 {nd nn : Nat} {t : mS} (ok : m_good nd nn t) (x : Int32) : m_good nd nn (m_s t 0 0 x) := ⟨ok_s0 ok.1 (by decide) (by decide) x, ok.2⟩
theorem rst_0 (nd : Nat) (t : mS) : m_rst nd t 0 = t 0 := by
  refine up_0 ?_ _ _ _
  intro _ _; rfl
theorem fin_19 (nd k : Nat) (b : Int32) (t : mS) : m_fin nd k b t 0 19 = m_aft k b := by
  unfold m_fin
  split
  · rw [m_s_off _ _ _ (by decide), rst_0, m_s_at]
  · rw [m_s_off _ _ _ (by decide), m_s_at]
theorem aft_in {k : Nat} (hk : k < 16) (b : Int32) : ∃ j, j < 16 ∧ m_aft k b = nI j := by
  have key : ∀ k, k < 16 → (∃ j, j < 16 ∧ mm_t0.getD k 0 = nI j) ∧ ∃ j, j < 16 ∧ mm_t1.getD k 0 = nI j := by decide +kernel
  unfold m_aft
  split
  · exact (key k hk).1
  · exact (key k hk).2
theorem tick_good {nd nn : Nat} {t : mS} (g : m_good nd nn t) (b x : Int32) : m_good nd nn (m_tick nd b x t).2 := by
  obtain ⟨ok, k, hk, hz⟩ := g
  refine ⟨same_ok (same_tick nd b x t) ok, ?_⟩
  obtain ⟨j, hj, e⟩ := aft_in hk b
  refine ⟨j, hj, ?_⟩
  have hk9 : m_ps t = k := by unfold m_ps; rw [hz]; exact nI_clamp (by omega)
  show m_fin nd (m_ps t) b _ 0 19 = nI j
  rw [fin_19, hk9, e]
def m_tk (nd : Nat) (b x : Int32) (t : mS) : mS := (m_tick nd b x t).2
def m_go6 (nd : Nat) (t : mS) : mS := m_tk nd 0 0 (m_tk nd 1 0 (m_tk nd 1 0 (m_tk nd 1 0 (m_tk nd 1 0 (m_tk nd 1 0 t)))))
def m_com (nd : Nat) (t : mS) : mS := m_tk nd 0 0 (m_tk nd 0 0 (m_tk nd 1 0 t))
def m_lv (nd : Nat) (t : mS) : mS := m_tk nd 0 0 (m_tk nd 1 0 t)
theorem tk_good {nd nn : Nat} {t : mS} (g : m_good nd nn t) (b x : Int32) : m_good nd nn (m_tk nd b x t) := tick_good g b x
section MD4
variable {G : mm_G} {K : Nat → Nat} {t : mS} {h : mm_Hp} {nd nn : Nat} {Q : mm_O → mm_Hp → Prop}
theorem c_tk (w : mm_inj mdom K) (g : m_good nd nn t) (b x : Int32) : mm_C G M_Md_tick [.ref (K 0), .int b, .int x] (MP K t h) 0 0 (mm_E (some (.int (m_tick nd b x t).1)) (MP K (m_tk nd b x t) h)) := by
  obtain ⟨ok, k, hk, hz⟩ := g
  exact c_Md_tick w ok hk hz b x

set_option maxHeartbeats 1000000 in
theorem c_Md_goIdle (w : mm_inj mdom K) (g : m_good nd nn t) : mm_C G M_Md_goIdle [.ref (K 0)] (MP K t h) 0 0 (mm_E none (MP K (m_go6 nd t) h)) := by
  refine mm_C_of (by decide +kernel) rfl (Nat.le_of_ble_eq_true rfl) rfl ?_
  refine mm_blk (pc' := 2) ok_Md_goIdle 2 _ _ _ rfl ?_
  skip
  refine mm_blk (pc' := 5) ok_Md_goIdle 2 _ _ _ rfl ?_
  refine mm_ic_ge ok_Md_goIdle 30 rfl (by decide) (fun c => ?_) (fun c => ?_)
  · first | exact c (by decide) | exact absurd c (by decide)
  refine mm_blk (pc' := 11) ok_Md_goIdle 3 _ _ _ rfl ?_
  refine mm_ic_ge ok_Md_goIdle 18 rfl (by decide) (fun c => ?_) (fun c => ?_)
  · first | exact c (by decide) | exact absurd c (by decide)
  refine mm_blk (pc' := 20) ok_Md_goIdle 3 _ _ _ rfl ?_
  refine mm_cVE ok_Md_goIdle (As := [.int 1, .int 0]) rfl k_Md_goIdle_127 (mp_0 w) rfl rfl rfl (Nat.le_of_ble_eq_true rfl) (c_tk w g 1 0) ?_
  generalize (m_tick nd 1 0 t).1 = gg
  refine mm_blk (pc' := 2) ok_Md_goIdle 3 _ _ _ rfl ?_
  refine mm_V_pick (L' := [(0, .ref (K 0)), (1, .int 1)]) [0, 1] rfl ?_
  refine mm_blk (pc' := 5) ok_Md_goIdle 2 _ _ _ rfl ?_
  refine mm_ic_ge ok_Md_goIdle 30 rfl (by decide) (fun c => ?_) (fun c => ?_)
  · first | exact c (by decide) | exact absurd c (by decide)
  refine mm_blk (pc' := 11) ok_Md_goIdle 3 _ _ _ rfl ?_
  refine mm_ic_ge ok_Md_goIdle 18 rfl (by decide) (fun c => ?_) (fun c => ?_)
  · first | exact c (by decide) | exact absurd c (by decide)
  refine mm_blk (pc' := 20) ok_Md_goIdle 3 _ _ _ rfl ?_
  refine mm_cVE ok_Md_goIdle (As := [.int 1, .int 0]) rfl k_Md_goIdle_127 (mp_0 w) rfl rfl rfl (Nat.le_of_ble_eq_true rfl) (c_tk w (tk_good g 1 0) 1 0) ?_
  generalize (m_tick nd 1 0 (m_tk nd 1 0 t)).1 = gg
  refine mm_blk (pc' := 2) ok_Md_goIdle 3 _ _ _ rfl ?_
  refine mm_V_pick (L' := [(0, .ref (K 0)), (1, .int 2)]) [0, 1] rfl ?_
  refine mm_blk (pc' := 5) ok_Md_goIdle 2 _ _ _ rfl ?_
  refine mm_ic_ge ok_Md_goIdle 30 rfl (by decide) (fun c => ?_) (fun c => ?_)
  · first | exact c (by decide) | exact absurd c (by decide)
  refine mm_blk (pc' := 11) ok_Md_goIdle 3 _ _ _ rfl ?_
  refine mm_ic_ge ok_Md_goIdle 18 rfl (by decide) (fun c => ?_) (fun c => ?_)
  · first | exact c (by decide) | exact absurd c (by decide)
  refine mm_blk (pc' := 20) ok_Md_goIdle 3 _ _ _ rfl ?_
  refine mm_cVE ok_Md_goIdle (As := [.int 1, .int 0]) rfl k_Md_goIdle_127 (mp_0 w) rfl rfl rfl (Nat.le_of_ble_eq_true rfl) (c_tk w (tk_good (tk_good g 1 0) 1 0) 1 0) ?_
  generalize (m_tick nd 1 0 (m_tk nd 1 0 (m_tk nd 1 0 t))).1 = gg
  refine mm_blk (pc' := 2) ok_Md_goIdle 3 _ _ _ rfl ?_
  refine mm_V_pick (L' := [(0, .ref (K 0)), (1, .int 3)]) [0, 1] rfl ?_
  refine mm_blk (pc' := 5) ok_Md_goIdle 2 _ _ _ rfl ?_
  refine mm_ic_ge ok_Md_goIdle 30 rfl (by decide) (fun c => ?_) (fun c => ?_)
  · first | exact c (by decide) | exact absurd c (by decide)
  refine mm_blk (pc' := 11) ok_Md_goIdle 3 _ _ _ rfl ?_
  refine mm_ic_ge ok_Md_goIdle 18 rfl (by decide) (fun c => ?_) (fun c => ?_)
  · first | exact c (by decide) | exact absurd c (by decide)
  refine mm_blk (pc' := 20) ok_Md_goIdle 3 _ _ _ rfl ?_
  refine mm_cVE ok_Md_goIdle (As := [.int 1, .int 0]) rfl k_Md_goIdle_127 (mp_0 w) rfl rfl rfl (Nat.le_of_ble_eq_true rfl) (c_tk w (tk_good (tk_good (tk_good g 1 0) 1 0) 1 0) 1 0) ?_
  generalize (m_tick nd 1 0 (m_tk nd 1 0 (m_tk nd 1 0 (m_tk nd 1 0 t)))).1 = gg
  refine mm_blk (pc' := 2) ok_Md_goIdle 3 _ _ _ rfl ?_
  refine mm_V_pick (L' := [(0, .ref (K 0)), (1, .int 4)]) [0, 1] rfl ?_
  refine mm_blk (pc' := 5) ok_Md_goIdle 2 _ _ _ rfl ?_
  refine mm_ic_ge ok_Md_goIdle 30 rfl (by decide) (fun c => ?_) (fun c => ?_)
  · first | exact c (by decide) | exact absurd c (by decide)
  refine mm_blk (pc' := 11) ok_Md_goIdle 3 _ _ _ rfl ?_
  refine mm_ic_ge ok_Md_goIdle 18 rfl (by decide) (fun c => ?_) (fun c => ?_)
  · first | exact c (by decide) | exact absurd c (by decide)
  refine mm_blk (pc' := 20) ok_Md_goIdle 3 _ _ _ rfl ?_
  refine mm_cVE ok_Md_goIdle (As := [.int 1, .int 0]) rfl k_Md_goIdle_127 (mp_0 w) rfl rfl rfl (Nat.le_of_ble_eq_true rfl) (c_tk w (tk_good (tk_good (tk_good (tk_good g 1 0) 1 0) 1 0) 1 0) 1 0) ?_
  generalize (m_tick nd 1 0 (m_tk nd 1 0 (m_tk nd 1 0 (m_tk nd 1 0 (m_tk nd 1 0 t))))).1 = gg
  refine mm_blk (pc' := 2) ok_Md_goIdle 3 _ _ _ rfl ?_
  refine mm_V_pick (L' := [(0, .ref (K 0)), (1, .int 5)]) [0, 1] rfl ?_
  refine mm_blk (pc' := 5) ok_Md_goIdle 2 _ _ _ rfl ?_
  refine mm_ic_ge ok_Md_goIdle 30 rfl (by decide) (fun c => ?_) (fun c => ?_)
  · first | exact c (by decide) | exact absurd c (by decide)
  refine mm_blk (pc' := 11) ok_Md_goIdle 3 _ _ _ rfl ?_
  refine mm_ic_ge ok_Md_goIdle 18 rfl (by decide) (fun c => ?_) (fun c => ?_)
  rotate_left
  · first | exact c (by decide) | exact absurd c (by decide)
  refine mm_blk (pc' := 20) ok_Md_goIdle 2 _ _ _ rfl ?_
  refine mm_cVE ok_Md_goIdle (As := [.int 0, .int 0]) rfl k_Md_goIdle_127 (mp_0 w) rfl rfl rfl (Nat.le_of_ble_eq_true rfl) (c_tk w (tk_good (tk_good (tk_good (tk_good (tk_good g 1 0) 1 0) 1 0) 1 0) 1 0) 0 0) ?_
  generalize (m_tick nd 0 0 (m_tk nd 1 0 (m_tk nd 1 0 (m_tk nd 1 0 (m_tk nd 1 0 (m_tk nd 1 0 t)))))).1 = gg
  refine mm_blk (pc' := 2) ok_Md_goIdle 3 _ _ _ rfl ?_
  refine mm_V_pick (L' := [(0, .ref (K 0)), (1, .int 6)]) [0, 1] rfl ?_
  refine mm_blk (pc' := 5) ok_Md_goIdle 2 _ _ _ rfl ?_
  refine mm_ic_ge ok_Md_goIdle 30 rfl (by decide) (fun c => ?_) (fun c => ?_)
  rotate_left
  · first | exact c (by decide) | exact absurd c (by decide)
  exact mm_vret ok_Md_goIdle rfl rfl ⟨rfl, rfl⟩
set_option maxHeartbeats 1000000 in
theorem c_Md_comeTo0 (w : mm_inj mdom K) (g : m_good nd nn t) : mm_C G M_Md_comeTo [.ref (K 0), .int 0] (MP K t h) 0 0 (mm_E none (MP K (m_com nd t) h)) := by
  refine mm_C_of (by decide +kernel) rfl (Nat.le_of_ble_eq_true rfl) rfl ?_
  refine mm_blk (pc' := 1) ok_Md_comeTo 1 _ _ _ rfl ?_
  refine mm_if_eq ok_Md_comeTo 8 rfl (by decide) (fun c => ?_) (fun c => ?_)
  rotate_left
  · exact absurd rfl c
  refine mm_blk (pc' := 10) ok_Md_comeTo 2 _ _ _ rfl ?_
  refine mm_V_pick (L' := [(0, .ref (K 0)), (2, .int 1)]) [0, 2] rfl ?_
  refine mm_blk (pc' := 12) ok_Md_comeTo 2 _ _ _ rfl ?_
  refine mm_ic_ge ok_Md_comeTo 37 rfl (by decide) (fun c => ?_) (fun c => ?_)
  · first | exact c (by decide) | exact absurd c (by decide)
  refine mm_blk (pc' := 18) ok_Md_comeTo 3 _ _ _ rfl ?_
  refine mm_ic_ge ok_Md_comeTo 25 rfl (by decide) (fun c => ?_) (fun c => ?_)
  · first | exact c (by decide) | exact absurd c (by decide)
  refine mm_blk (pc' := 27) ok_Md_comeTo 3 _ _ _ rfl ?_
  refine mm_cVE ok_Md_comeTo (As := [.int 1, .int 0]) rfl k_Md_comeTo_127 (mp_0 w) rfl rfl rfl (Nat.le_of_ble_eq_true rfl) (c_tk w g 1 0) ?_
  generalize (m_tick nd 1 0 t).1 = gg
  refine mm_blk (pc' := 10) ok_Md_comeTo 3 _ _ _ rfl ?_
  refine mm_V_pick (L' := [(0, .ref (K 0)), (2, .int 2)]) [0, 1] rfl ?_
  refine mm_blk (pc' := 12) ok_Md_comeTo 2 _ _ _ rfl ?_
  refine mm_ic_ge ok_Md_comeTo 37 rfl (by decide) (fun c => ?_) (fun c => ?_)
  · first | exact c (by decide) | exact absurd c (by decide)
  refine mm_blk (pc' := 18) ok_Md_comeTo 3 _ _ _ rfl ?_
  refine mm_ic_ge ok_Md_comeTo 25 rfl (by decide) (fun c => ?_) (fun c => ?_)
  rotate_left
  · first | exact c (by decide) | exact absurd c (by decide)
  refine mm_blk (pc' := 27) ok_Md_comeTo 2 _ _ _ rfl ?_
  refine mm_cVE ok_Md_comeTo (As := [.int 0, .int 0]) rfl k_Md_comeTo_127 (mp_0 w) rfl rfl rfl (Nat.le_of_ble_eq_true rfl) (c_tk w (tk_good g 1 0) 0 0) ?_
  generalize (m_tick nd 0 0 (m_tk nd 1 0 t)).1 = gg
  refine mm_blk (pc' := 10) ok_Md_comeTo 3 _ _ _ rfl ?_
  refine mm_V_pick (L' := [(0, .ref (K 0)), (2, .int 3)]) [0, 1] rfl ?_
  refine mm_blk (pc' := 12) ok_Md_comeTo 2 _ _ _ rfl ?_
  refine mm_ic_ge ok_Md_comeTo 37 rfl (by decide) (fun c => ?_) (fun c => ?_)
  · first | exact c (by decide) | exact absurd c (by decide)
  refine mm_blk (pc' := 18) ok_Md_comeTo 3 _ _ _ rfl ?_
  refine mm_ic_ge ok_Md_comeTo 25 rfl (by decide) (fun c => ?_) (fun c => ?_)
  rotate_left
  · first | exact c (by decide) | exact absurd c (by decide)
  refine mm_blk (pc' := 27) ok_Md_comeTo 2 _ _ _ rfl ?_
  refine mm_cVE ok_Md_comeTo (As := [.int 0, .int 0]) rfl k_Md_comeTo_127 (mp_0 w) rfl rfl rfl (Nat.le_of_ble_eq_true rfl) (c_tk w (tk_good (tk_good g 1 0) 0 0) 0 0) ?_
  generalize (m_tick nd 0 0 (m_tk nd 0 0 (m_tk nd 1 0 t))).1 = gg
  refine mm_blk (pc' := 10) ok_Md_comeTo 3 _ _ _ rfl ?_
  refine mm_V_pick (L' := [(0, .ref (K 0)), (2, .int 4)]) [0, 1] rfl ?_
  refine mm_blk (pc' := 12) ok_Md_comeTo 2 _ _ _ rfl ?_
  refine mm_ic_ge ok_Md_comeTo 37 rfl (by decide) (fun c => ?_) (fun c => ?_)
  rotate_left
  · first | exact c (by decide) | exact absurd c (by decide)
  exact mm_vret ok_Md_comeTo rfl rfl ⟨rfl, rfl⟩
set_option maxHeartbeats 1000000 in
theorem c_Md_comeTo1 (w : mm_inj mdom K) (g : m_good nd nn t) : mm_C G M_Md_comeTo [.ref (K 0), .int 1] (MP K t h) 0 0 (mm_E none (MP K (m_com nd (m_tk nd 1 0 t)) h)) := by
  refine mm_C_of (by decide +kernel) rfl (Nat.le_of_ble_eq_true rfl) rfl ?_
  refine mm_blk (pc' := 1) ok_Md_comeTo 1 _ _ _ rfl ?_
  refine mm_if_eq ok_Md_comeTo 8 rfl (by decide) (fun c => ?_) (fun c => ?_)
  · first | exact c (by decide) | exact absurd c (by decide)
  refine mm_blk (pc' := 10) ok_Md_comeTo 3 _ _ _ rfl ?_
  refine mm_V_pick (L' := [(0, .ref (K 0)), (2, .int 0)]) [0, 2] rfl ?_
  refine mm_blk (pc' := 12) ok_Md_comeTo 2 _ _ _ rfl ?_
  refine mm_ic_ge ok_Md_comeTo 37 rfl (by decide) (fun c => ?_) (fun c => ?_)
  · first | exact c (by decide) | exact absurd c (by decide)
  refine mm_blk (pc' := 18) ok_Md_comeTo 3 _ _ _ rfl ?_
  refine mm_ic_ge ok_Md_comeTo 25 rfl (by decide) (fun c => ?_) (fun c => ?_)
  · first | exact c (by decide) | exact absurd c (by decide)
  refine mm_blk (pc' := 27) ok_Md_comeTo 3 _ _ _ rfl ?_
  refine mm_cVE ok_Md_comeTo (As := [.int 1, .int 0]) rfl k_Md_comeTo_127 (mp_0 w) rfl rfl rfl (Nat.le_of_ble_eq_true rfl) (c_tk w g 1 0) ?_
  generalize (m_tick nd 1 0 t).1 = gg
  refine mm_blk (pc' := 10) ok_Md_comeTo 3 _ _ _ rfl ?_
  refine mm_V_pick (L' := [(0, .ref (K 0)), (2, .int 1)]) [0, 1] rfl ?_
  refine mm_blk (pc' := 12) ok_Md_comeTo 2 _ _ _ rfl ?_
  refine mm_ic_ge ok_Md_comeTo 37 rfl (by decide) (fun c => ?_) (fun c => ?_)
  · first | exact c (by decide) | exact absurd c (by decide)
  refine mm_blk (pc' := 18) ok_Md_comeTo 3 _ _ _ rfl ?_
  refine mm_ic_ge ok_Md_comeTo 25 rfl (by decide) (fun c => ?_) (fun c => ?_)
  · first | exact c (by decide) | exact absurd c (by decide)
  refine mm_blk (pc' := 27) ok_Md_comeTo 3 _ _ _ rfl ?_
  refine mm_cVE ok_Md_comeTo (As := [.int 1, .int 0]) rfl k_Md_comeTo_127 (mp_0 w) rfl rfl rfl (Nat.le_of_ble_eq_true rfl) (c_tk w (tk_good g 1 0) 1 0) ?_
  generalize (m_tick nd 1 0 (m_tk nd 1 0 t)).1 = gg
  refine mm_blk (pc' := 10) ok_Md_comeTo 3 _ _ _ rfl ?_
  refine mm_V_pick (L' := [(0, .ref (K 0)), (2, .int 2)]) [0, 1] rfl ?_
  refine mm_blk (pc' := 12) ok_Md_comeTo 2 _ _ _ rfl ?_
  refine mm_ic_ge ok_Md_comeTo 37 rfl (by decide) (fun c => ?_) (fun c => ?_)
  · first | exact c (by decide) | exact absurd c (by decide)
  refine mm_blk (pc' := 18) ok_Md_comeTo 3 _ _ _ rfl ?_
  refine mm_ic_ge ok_Md_comeTo 25 rfl (by decide) (fun c => ?_) (fun c => ?_)
  rotate_left
  · first | exact c (by decide) | exact absurd c (by decide)
  refine mm_blk (pc' := 27) ok_Md_comeTo 2 _ _ _ rfl ?_
  refine mm_cVE ok_Md_comeTo (As := [.int 0, .int 0]) rfl k_Md_comeTo_127 (mp_0 w) rfl rfl rfl (Nat.le_of_ble_eq_true rfl) (c_tk w (tk_good (tk_good g 1 0) 1 0) 0 0) ?_
  generalize (m_tick nd 0 0 (m_tk nd 1 0 (m_tk nd 1 0 t))).1 = gg
  refine mm_blk (pc' := 10) ok_Md_comeTo 3 _ _ _ rfl ?_
  refine mm_V_pick (L' := [(0, .ref (K 0)), (2, .int 3)]) [0, 1] rfl ?_
  refine mm_blk (pc' := 12) ok_Md_comeTo 2 _ _ _ rfl ?_
  refine mm_ic_ge ok_Md_comeTo 37 rfl (by decide) (fun c => ?_) (fun c => ?_)
  · first | exact c (by decide) | exact absurd c (by decide)
  refine mm_blk (pc' := 18) ok_Md_comeTo 3 _ _ _ rfl ?_
  refine mm_ic_ge ok_Md_comeTo 25 rfl (by decide) (fun c => ?_) (fun c => ?_)
  rotate_left
  · first | exact c (by decide) | exact absurd c (by decide)
  refine mm_blk (pc' := 27) ok_Md_comeTo 2 _ _ _ rfl ?_
  refine mm_cVE ok_Md_comeTo (As := [.int 0, .int 0]) rfl k_Md_comeTo_127 (mp_0 w) rfl rfl rfl (Nat.le_of_ble_eq_true rfl) (c_tk w (tk_good (tk_good (tk_good g 1 0) 1 0) 0 0) 0 0) ?_
  generalize (m_tick nd 0 0 (m_tk nd 0 0 (m_tk nd 1 0 (m_tk nd 1 0 t)))).1 = gg
  refine mm_blk (pc' := 10) ok_Md_comeTo 3 _ _ _ rfl ?_
  refine mm_V_pick (L' := [(0, .ref (K 0)), (2, .int 4)]) [0, 1] rfl ?_
  refine mm_blk (pc' := 12) ok_Md_comeTo 2 _ _ _ rfl ?_
  refine mm_ic_ge ok_Md_comeTo 37 rfl (by decide) (fun c => ?_) (fun c => ?_)
  rotate_left
  · first | exact c (by decide) | exact absurd c (by decide)
  exact mm_vret ok_Md_comeTo rfl rfl ⟨rfl, rfl⟩
set_option maxHeartbeats 1000000 in
theorem c_Md_leave (w : mm_inj mdom K) (g : m_good nd nn t) : mm_C G M_Md_leave [.ref (K 0)] (MP K t h) 0 0 (mm_E none (MP K (m_lv nd t) h)) := by
  refine mm_C_of (by decide +kernel) rfl (Nat.le_of_ble_eq_true rfl) rfl ?_
  refine mm_blk (pc' := 2) ok_Md_leave 2 _ _ _ rfl ?_
  skip
  refine mm_blk (pc' := 4) ok_Md_leave 2 _ _ _ rfl ?_
  refine mm_ic_ge ok_Md_leave 28 rfl (by decide) (fun c => ?_) (fun c => ?_)
  · first | exact c (by decide) | exact absurd c (by decide)
  refine mm_blk (pc' := 9) ok_Md_leave 2 _ _ _ rfl ?_
  refine mm_if_ne ok_Md_leave 16 rfl (by decide) (fun c => ?_) (fun c => ?_)
  · first | exact c (by decide) | exact absurd c (by decide)
  refine mm_blk (pc' := 18) ok_Md_leave 3 _ _ _ rfl ?_
  refine mm_cVE ok_Md_leave (As := [.int 1, .int 0]) rfl k_Md_leave_127 (mp_0 w) rfl rfl rfl (Nat.le_of_ble_eq_true rfl) (c_tk w g 1 0) ?_
  generalize (m_tick nd 1 0 t).1 = gg
  refine mm_blk (pc' := 2) ok_Md_leave 3 _ _ _ rfl ?_
  refine mm_V_pick (L' := [(0, .ref (K 0)), (1, .int 1)]) [0, 1] rfl ?_
  refine mm_blk (pc' := 4) ok_Md_leave 2 _ _ _ rfl ?_
  refine mm_ic_ge ok_Md_leave 28 rfl (by decide) (fun c => ?_) (fun c => ?_)
  · first | exact c (by decide) | exact absurd c (by decide)
  refine mm_blk (pc' := 9) ok_Md_leave 2 _ _ _ rfl ?_
  refine mm_if_ne ok_Md_leave 16 rfl (by decide) (fun c => ?_) (fun c => ?_)
  rotate_left
  · first | exact c (by decide) | exact absurd c (by decide)
  refine mm_blk (pc' := 18) ok_Md_leave 2 _ _ _ rfl ?_
  refine mm_cVE ok_Md_leave (As := [.int 0, .int 0]) rfl k_Md_leave_127 (mp_0 w) rfl rfl rfl (Nat.le_of_ble_eq_true rfl) (c_tk w (tk_good g 1 0) 0 0) ?_
  generalize (m_tick nd 0 0 (m_tk nd 1 0 t)).1 = gg
  refine mm_blk (pc' := 2) ok_Md_leave 3 _ _ _ rfl ?_
  refine mm_V_pick (L' := [(0, .ref (K 0)), (1, .int 2)]) [0, 1] rfl ?_
  refine mm_blk (pc' := 4) ok_Md_leave 2 _ _ _ rfl ?_
  refine mm_ic_ge ok_Md_leave 28 rfl (by decide) (fun c => ?_) (fun c => ?_)
  rotate_left
  · first | exact c (by decide) | exact absurd c (by decide)
  exact mm_vret ok_Md_leave rfl rfl ⟨rfl, rfl⟩
set_option maxHeartbeats 1000000 in
theorem c_Md_clock_x (w : mm_inj mdom K) (e : t 0 1 = 0) {a b : Int32} : mm_C G M_Md_clock [.ref (K 0), .int a, .int b] (MP K t h) 0 0 (mm_E (some (.int 0)) (MP K (m_s t 0 0 1) h)) := by
  refine mm_C_of (by decide +kernel) rfl (Nat.le_of_ble_eq_true rfl) rfl ?_
  refine mm_blk (pc' := 2) ok_Md_clock 2 _ _ _ rfl ?_
  refine mm_getf ok_Md_clock (mp_0 w) rfl f_Md_66 rfl ?_
  refine mm_if_ne ok_Md_clock 12 rfl (by decide) (fun c => ?_) (fun c => ?_)
  · exact absurd e c
  refine mm_blk (pc' := 13) ok_Md_clock 2 _ _ _ rfl ?_
  refine mm_putf ok_Md_clock (mp_0 w) rfl f_Md_62 (Or.inl rfl) (mm_fit_I _) ?_
  refine mm_V_heap (mu_0 w 0 _) ?_
  refine mm_blk (pc' := 17) ok_Md_clock 1 _ _ _ rfl ?_
  refine mm_getf ok_Md_clock (mp_0 w) rfl f_Md_62 rfl ?_
  refine mm_if_ne ok_Md_clock 45 rfl (by decide) (fun c => ?_) (fun c => ?_)
  rotate_left
  · exact absurd (show (1 : Int32) = 0 from c) (by decide)
  refine mm_blk (pc' := 46) ok_Md_clock 1 _ _ _ rfl ?_
  exact mm_zret ok_Md_clock rfl rfl rfl ⟨rfl, rfl⟩
set_option maxHeartbeats 1000000 in
theorem c_Md_clock_r (w : mm_inj mdom K) (g : m_good nd nn t) (hn : 0 < nd) (a b : Int32) : mm_C G M_Md_clock [.ref (K 0), .int a, .int b] (MP K t h) 0 0 (mm_E (some (.int (if (m_tick nd a (if b = 0 then 0 else 1) (m_s t 0 0 0)).1 = 1 then 1 else 0))) (MP K (m_tk nd a (if b = 0 then 0 else 1) (m_s t 0 0 0)) h)) := by
  have h4 := g.1.1
  have e : ¬ t 0 1 = 0 := by rw [g.1.2.2.1]; exact nI_ne0 hn (by omega)
  have g0 := good_s0 g 0
  refine mm_C_of (by decide +kernel) rfl (Nat.le_of_ble_eq_true rfl) rfl ?_
  refine mm_blk (pc' := 2) ok_Md_clock 2 _ _ _ rfl ?_
  refine mm_getf ok_Md_clock (mp_0 w) rfl f_Md_66 rfl ?_
  refine mm_if_ne ok_Md_clock 12 rfl (by decide) (fun c => ?_) (fun c => ?_)
  rotate_left
  · exact absurd c e
  refine mm_blk (pc' := 13) ok_Md_clock 1 _ _ _ rfl ?_
  refine mm_putf ok_Md_clock (mp_0 w) rfl f_Md_62 (Or.inl rfl) (mm_fit_I _) ?_
  refine mm_V_heap (mu_0 w 0 _) ?_
  obtain ⟨t1, ht1⟩ : ∃ t1, t1 = m_s t 0 0 0 := ⟨_, rfl⟩
  have hv : t1 0 0 = 0 := by rw [ht1]; rfl
  rw [← ht1] at g0 ⊢
  refine mm_blk (pc' := 17) ok_Md_clock 1 _ _ _ rfl ?_
  refine mm_getf ok_Md_clock (mp_0 w) rfl f_Md_62 rfl ?_
  refine mm_if_ne ok_Md_clock 45 rfl (by decide) (fun c => ?_) (fun c => ?_)
  · exact absurd hv c
  refine mm_blk (pc' := 26) ok_Md_clock 3 _ _ _ rfl ?_
  refine mm_ti_eq ok_Md_clock 33 rfl (by decide) rfl rfl rfl (by decide) ?_
  refine mm_cVE ok_Md_clock (As := [.int a, .int (if b = 0 then 0 else 1)]) rfl k_Md_clock_127 (mp_0 w) rfl rfl rfl (Nat.le_of_ble_eq_true rfl) (c_tk w g0 a (if b = 0 then 0 else 1)) ?_
  refine mm_blk (pc' := 38) ok_Md_clock 1 _ _ _ rfl ?_
  refine mm_tc_ne ok_Md_clock 45 rfl (by decide) rfl rfl rfl (by decide) ?_
  exact mm_zret ok_Md_clock rfl rfl mm_nb ⟨rfl, rfl⟩
set_option maxHeartbeats 1000000 in
theorem c_Md_state (w : mm_inj mdom K) : mm_C G M_Md_state [.ref (K 0)] (MP K t h) 0 0 (mm_E (some (.int (t 0 19))) (MP K (m_s t 0 0 0) h)) := by
  refine mm_C_of (by decide +kernel) rfl (Nat.le_of_ble_eq_true rfl) rfl ?_
  refine mm_blk (pc' := 2) ok_Md_state 2 _ _ _ rfl ?_
  refine mm_putf ok_Md_state (mp_0 w) rfl f_Md_62 (Or.inl rfl) (mm_fit_I _) ?_
  refine mm_V_heap (mu_0 w 0 _) ?_
  refine mm_blk (pc' := 6) ok_Md_state 1 _ _ _ rfl ?_
  refine mm_getf ok_Md_state (mp_0 w) rfl f_Md_69 rfl ?_
  exact mm_iret ok_Md_state rfl rfl ⟨rfl, rfl⟩
set_option maxHeartbeats 1000000 in
theorem c_Md_clocks (w : mm_inj mdom K) : mm_C G M_Md_clocks [.ref (K 0)] (MP K t h) 0 0 (mm_E (some (.int (t 0 20))) (MP K (m_s t 0 0 0) h)) := by
  refine mm_C_of (by decide +kernel) rfl (Nat.le_of_ble_eq_true rfl) rfl ?_
  refine mm_blk (pc' := 2) ok_Md_clocks 2 _ _ _ rfl ?_
  refine mm_putf ok_Md_clocks (mp_0 w) rfl f_Md_62 (Or.inl rfl) (mm_fit_I _) ?_
  refine mm_V_heap (mu_0 w 0 _) ?_
  refine mm_blk (pc' := 6) ok_Md_clocks 1 _ _ _ rfl ?_
  refine mm_getf ok_Md_clocks (mp_0 w) rfl f_Md_72 rfl ?_
  exact mm_iret ok_Md_clocks rfl rfl ⟨rfl, rfl⟩
set_option maxHeartbeats 1000000 in
theorem v_Md_saw_x (w : mm_inj mdom K) (ok : m_ok nd nn t) {x : Int32} (hx : t 0 23 = 0 ∨ ¬ inR x nn) : mm_V G M_Md_saw 5 [(0, .ref (K 0)), (1, .int x)] [] (MP K t h) 0 0 (mm_E (some (.int (0))) (MP K (m_s t 0 0 1) h)) := by
  refine mm_blk (pc' := 6) ok_Md_saw 1 _ _ _ rfl ?_
  refine mm_getf ok_Md_saw (mp_0 w) rfl f_Md_78 rfl ?_
  refine mm_if_eq ok_Md_saw 23 rfl (by decide) (fun c9 => ?_) (fun c9 => ?_)
  · -- 23 t
    refine mm_blk (pc' := 25) ok_Md_saw 2 _ _ _ rfl ?_
    refine mm_cVE ok_Md_saw (As := [.int 1]) rfl k_Md_saw_140 (mp_0 w) rfl rfl rfl (Nat.le_of_ble_eq_true rfl) (c_Md_fail w 1) ?_
    refine mm_blk (pc' := 37) ok_Md_saw 1 _ _ _ rfl ?_
    exact mm_iret ok_Md_saw rfl rfl ⟨rfl, rfl⟩
  · -- 12 f
    refine mm_blk (pc' := 14) ok_Md_saw 2 _ _ _ rfl ?_
    refine mm_getf ok_Md_saw (mp_0 w) rfl f_Md_89 rfl ?_
    rw [ok.2.2.2.1]
    refine mm_cSE ok_Md_saw (As := [.int x, .int (nI nn)]) rfl k_Md_saw_82 rfl (Nat.le_of_ble_eq_true rfl) (c_Md_out1 (out_of (by have := ok.2.1; omega) (hx.resolve_left c9))) ?_
    refine mm_if_eq ok_Md_saw 31 rfl (by decide) (fun c => ?_) (fun c => ?_)
    · exact absurd c (by decide)
    refine mm_blk (pc' := 25) ok_Md_saw 2 _ _ _ rfl ?_
    refine mm_cVE ok_Md_saw (As := [.int 1]) rfl k_Md_saw_140 (mp_0 w) rfl rfl rfl (Nat.le_of_ble_eq_true rfl) (c_Md_fail w 1) ?_
    refine mm_blk (pc' := 37) ok_Md_saw 1 _ _ _ rfl ?_
    exact mm_iret ok_Md_saw rfl rfl ⟨rfl, rfl⟩
set_option maxHeartbeats 1000000 in
theorem v_Md_saw_r (w : mm_inj mdom K) (ok : m_ok nd nn t) {j : Nat} (ht : ¬ t 0 23 = 0) (hj : j < nn) : mm_V G M_Md_saw 5 [(0, .ref (K 0)), (1, .int (nI j))] [] (MP K t h) 0 0 (mm_E (some (.int (t 18 j))) (MP K (t) h)) := by
  have h8 := ok.2.1
  refine mm_blk (pc' := 6) ok_Md_saw 1 _ _ _ rfl ?_
  refine mm_getf ok_Md_saw (mp_0 w) rfl f_Md_78 rfl ?_
  refine mm_if_eq ok_Md_saw 23 rfl (by decide) (fun c => ?_) (fun c => ?_)
  · exact absurd c ht
  refine mm_blk (pc' := 14) ok_Md_saw 2 _ _ _ rfl ?_
  refine mm_getf ok_Md_saw (mp_0 w) rfl f_Md_89 rfl ?_
  rw [ok.2.2.2.1]
  refine mm_cSE ok_Md_saw (As := [.int (nI j), .int (nI nn)]) rfl k_Md_saw_82 rfl (Nat.le_of_ble_eq_true rfl) (c_Md_outN hj (by have := ok.2.1; omega)) ?_
  refine mm_if_eq ok_Md_saw 31 rfl (by decide) (fun c => ?_) (fun c => ?_)
  rotate_left
  · exact absurd rfl c
  refine mm_blk (pc' := 32) ok_Md_saw 1 _ _ _ rfl ?_
  refine mm_getf ok_Md_saw (mp_0 w) rfl f_Md_56 rfl ?_
  refine mm_blk (pc' := 36) ok_Md_saw 1 _ _ _ rfl ?_
  refine mm_iald (j := j) ok_Md_saw (mp_18 w) rfl rfl (by omega) (oIs_get (by omega) _) ?_
  exact mm_iret ok_Md_saw rfl rfl ⟨rfl, rfl⟩
set_option maxHeartbeats 1000000 in
theorem v_Md_found_x (w : mm_inj mdom K) {x : Int32} (hx : x < 0 ∨ ¬ x < t 0 21) : mm_V G M_Md_found 5 [(0, .ref (K 0)), (1, .int x)] [] (MP K t h) 0 0 (mm_E (some (.int (0))) (MP K (m_s t 0 0 1) h)) := by
  refine mm_blk (pc' := 7) ok_Md_found 2 _ _ _ rfl ?_
  refine mm_getf ok_Md_found (mp_0 w) rfl f_Md_75 rfl ?_
  refine mm_cSE ok_Md_found (As := [.int x, .int (t 0 21)]) rfl k_Md_found_82 rfl (Nat.le_of_ble_eq_true rfl) (c_Md_out1 hx) ?_
  refine mm_if_eq ok_Md_found 24 rfl (by decide) (fun c => ?_) (fun c => ?_)
  · exact absurd c (by decide)
  refine mm_blk (pc' := 18) ok_Md_found 2 _ _ _ rfl ?_
  refine mm_cVE ok_Md_found (As := [.int 1]) rfl k_Md_found_140 (mp_0 w) rfl rfl rfl (Nat.le_of_ble_eq_true rfl) (c_Md_fail w 1) ?_
  refine mm_blk (pc' := 37) ok_Md_found 1 _ _ _ rfl ?_
  exact mm_iret ok_Md_found rfl rfl ⟨rfl, rfl⟩
set_option maxHeartbeats 1000000 in
theorem v_Md_found_r (w : mm_inj mdom K) {j n : Nat} (hn : t 0 21 = nI n) (hj : j < n) (h4 : n ≤ 4) : mm_V G M_Md_found 5 [(0, .ref (K 0)), (1, .int (nI j))] [] (MP K t h) 0 0 (mm_E (some (.int (t 22 (n - 1 - j)))) (MP K (t) h)) := by
  refine mm_blk (pc' := 7) ok_Md_found 2 _ _ _ rfl ?_
  refine mm_getf ok_Md_found (mp_0 w) rfl f_Md_75 rfl ?_
  rw [hn]
  refine mm_cSE ok_Md_found (As := [.int (nI j), .int (nI n)]) rfl k_Md_found_82 rfl (Nat.le_of_ble_eq_true rfl) (c_Md_outN hj (by omega)) ?_
  refine mm_if_eq ok_Md_found 24 rfl (by decide) (fun c => ?_) (fun c => ?_)
  rotate_left
  · exact absurd rfl c
  refine mm_blk (pc' := 25) ok_Md_found 1 _ _ _ rfl ?_
  refine mm_getf ok_Md_found (mp_0 w) rfl f_Md_59 rfl ?_
  refine mm_blk (pc' := 29) ok_Md_found 1 _ _ _ rfl ?_
  refine mm_getf ok_Md_found (mp_0 w) rfl f_Md_75 rfl ?_
  refine mm_blk (pc' := 36) ok_Md_found 4 _ _ _ rfl ?_
  rw [hn]
  refine mm_iald (j := n - 1 - j) ok_Md_found (mp_22 w) rfl (by rw [show (1 : Int32) = nI 1 from rfl, pk_sub (by omega), pk_sub (by omega)]) (by omega) (oIs_get (by omega) _) ?_
  exact mm_iret ok_Md_found rfl rfl ⟨rfl, rfl⟩
set_option maxHeartbeats 1000000 in
theorem v_Md_look_x (w : mm_inj mdom K) (ok : m_ok nd nn t) {x k : Int32} (hx : ¬ inR x nd) : mm_V G M_Md_look 5 [(0, .ref (K 0)), (1, .int x), (2, .int k)] [] (MP K t h) 0 0 (mm_E (some (.int (0))) (MP K (m_s t 0 0 1) h)) := by
  refine mm_blk (pc' := 7) ok_Md_look 2 _ _ _ rfl ?_
  refine mm_getf ok_Md_look (mp_0 w) rfl f_Md_66 rfl ?_
  rw [ok.2.2.1]
  refine mm_cSE ok_Md_look (As := [.int x, .int (nI nd)]) rfl k_Md_look_82 rfl (Nat.le_of_ble_eq_true rfl) (c_Md_out1 (out_of (by have := ok.1; omega) hx)) ?_
  refine mm_if_ne ok_Md_look 24 rfl (by decide) (fun c => ?_) (fun c => ?_)
  rotate_left
  · exact absurd c (by decide)
  refine mm_blk (pc' := 26) ok_Md_look 2 _ _ _ rfl ?_
  refine mm_cVE ok_Md_look (As := [.int 1]) rfl k_Md_look_140 (mp_0 w) rfl rfl rfl (Nat.le_of_ble_eq_true rfl) (c_Md_fail w 1) ?_
  exact mm_iret ok_Md_look rfl rfl ⟨rfl, rfl⟩
set_option maxHeartbeats 1000000 in
theorem v_Md_look_y (w : mm_inj mdom K) (ok : m_ok nd nn t) {d : Nat} {k : Int32} (hd : d < nd) (hk : ¬ inR k 4) : mm_V G M_Md_look 5 [(0, .ref (K 0)), (1, .int (nI d)), (2, .int k)] [] (MP K t h) 0 0 (mm_E (some (.int (0))) (MP K (m_s t 0 0 1) h)) := by
  refine mm_blk (pc' := 7) ok_Md_look 2 _ _ _ rfl ?_
  refine mm_getf ok_Md_look (mp_0 w) rfl f_Md_66 rfl ?_
  rw [ok.2.2.1]
  refine mm_cSE ok_Md_look (As := [.int (nI d), .int (nI nd)]) rfl k_Md_look_82 rfl (Nat.le_of_ble_eq_true rfl) (c_Md_outN hd (by have := ok.1; omega)) ?_
  refine mm_if_ne ok_Md_look 24 rfl (by decide) (fun c => ?_) (fun c => ?_)
  · exact absurd rfl c
  refine mm_blk (pc' := 18) ok_Md_look 2 _ _ _ rfl ?_
  refine mm_cSE ok_Md_look (As := [.int k, .int 4]) rfl k_Md_look_82 rfl (Nat.le_of_ble_eq_true rfl) (c_Md_out1 (out_of (n := 4) (by decide) hk)) ?_
  refine mm_if_eq ok_Md_look 30 rfl (by decide) (fun c => ?_) (fun c => ?_)
  · exact absurd c (by decide)
  refine mm_blk (pc' := 26) ok_Md_look 2 _ _ _ rfl ?_
  refine mm_cVE ok_Md_look (As := [.int 1]) rfl k_Md_look_140 (mp_0 w) rfl rfl rfl (Nat.le_of_ble_eq_true rfl) (c_Md_fail w 1) ?_
  exact mm_iret ok_Md_look rfl rfl ⟨rfl, rfl⟩
set_option maxHeartbeats 1000000 in
theorem v_Md_look_0 (w : mm_inj mdom K) (ok : m_ok nd nn t) {d : Nat} (hd : d < nd) : mm_V G M_Md_look 5 [(0, .ref (K 0)), (1, .int (nI d)), (2, .int (nI 0))] [] (MP K t h) 0 0 (mm_E (some (.int (t 5 d))) (MP K (t) h)) := by
  have h4 := ok.1
  refine mm_blk (pc' := 7) ok_Md_look 2 _ _ _ rfl ?_
  refine mm_getf ok_Md_look (mp_0 w) rfl f_Md_66 rfl ?_
  rw [ok.2.2.1]
  refine mm_cSE ok_Md_look (As := [.int (nI d), .int (nI nd)]) rfl k_Md_look_82 rfl (Nat.le_of_ble_eq_true rfl) (c_Md_outN hd (by have := ok.1; omega)) ?_
  refine mm_if_ne ok_Md_look 24 rfl (by decide) (fun c => ?_) (fun c => ?_)
  · exact absurd rfl c
  refine mm_blk (pc' := 18) ok_Md_look 2 _ _ _ rfl ?_
  refine mm_cSE ok_Md_look (As := [.int (nI 0), .int 4]) rfl k_Md_look_82 rfl (Nat.le_of_ble_eq_true rfl) (c_Md_outN (a := 0) (b := 4) (by decide) (by decide)) ?_
  refine mm_if_eq ok_Md_look 30 rfl (by decide) (fun c => ?_) (fun c => ?_)
  rotate_left
  · exact absurd rfl c
  refine mm_blk (pc' := 32) ok_Md_look 2 _ _ _ rfl ?_
  refine mm_ic_ge ok_Md_look 54 rfl (by decide) (fun c => ?_) (fun c => ?_)
  · first | exact c (by decide) | exact absurd c (by decide)
  refine mm_blk (pc' := 36) ok_Md_look 1 _ _ _ rfl ?_
  refine mm_if_ne ok_Md_look 48 rfl (by decide) (fun c => ?_) (fun c => ?_)
  · first | exact c (by decide) | exact absurd c (by decide)
  refine mm_blk (pc' := 40) ok_Md_look 1 _ _ _ rfl ?_
  refine mm_getf ok_Md_look (mp_0 w) rfl f_Md_19 rfl ?_
  refine mm_blk (pc' := 44) ok_Md_look 1 _ _ _ rfl ?_
  refine mm_iald (j := d) ok_Md_look (mp_5 w) rfl rfl (by omega) (oIs_get (by omega) _) ?_
  refine mm_blk (pc' := 53) ok_Md_look 1 _ _ _ rfl ?_
  exact mm_iret ok_Md_look rfl rfl ⟨rfl, rfl⟩
set_option maxHeartbeats 1000000 in
theorem v_Md_look_1 (w : mm_inj mdom K) (ok : m_ok nd nn t) {d : Nat} (hd : d < nd) : mm_V G M_Md_look 5 [(0, .ref (K 0)), (1, .int (nI d)), (2, .int (nI 1))] [] (MP K t h) 0 0 (mm_E (some (.int (m_num t d))) (MP K (t) h)) := by
  have h4 := ok.1
  refine mm_blk (pc' := 7) ok_Md_look 2 _ _ _ rfl ?_
  refine mm_getf ok_Md_look (mp_0 w) rfl f_Md_66 rfl ?_
  rw [ok.2.2.1]
  refine mm_cSE ok_Md_look (As := [.int (nI d), .int (nI nd)]) rfl k_Md_look_82 rfl (Nat.le_of_ble_eq_true rfl) (c_Md_outN hd (by have := ok.1; omega)) ?_
  refine mm_if_ne ok_Md_look 24 rfl (by decide) (fun c => ?_) (fun c => ?_)
  · exact absurd rfl c
  refine mm_blk (pc' := 18) ok_Md_look 2 _ _ _ rfl ?_
  refine mm_cSE ok_Md_look (As := [.int (nI 1), .int 4]) rfl k_Md_look_82 rfl (Nat.le_of_ble_eq_true rfl) (c_Md_outN (a := 1) (b := 4) (by decide) (by decide)) ?_
  refine mm_if_eq ok_Md_look 30 rfl (by decide) (fun c => ?_) (fun c => ?_)
  rotate_left
  · exact absurd rfl c
  refine mm_blk (pc' := 32) ok_Md_look 2 _ _ _ rfl ?_
  refine mm_ic_ge ok_Md_look 54 rfl (by decide) (fun c => ?_) (fun c => ?_)
  · first | exact c (by decide) | exact absurd c (by decide)
  refine mm_blk (pc' := 36) ok_Md_look 1 _ _ _ rfl ?_
  refine mm_if_ne ok_Md_look 48 rfl (by decide) (fun c => ?_) (fun c => ?_)
  rotate_left
  · first | exact c (by decide) | exact absurd c (by decide)
  refine mm_blk (pc' := 50) ok_Md_look 2 _ _ _ rfl ?_
  refine mm_cVE ok_Md_look (As := [.int (nI d)]) rfl k_Md_look_120 (mp_0 w) rfl rfl rfl (Nat.le_of_ble_eq_true rfl) (c_Md_numberIn w ok hd) ?_
  exact mm_iret ok_Md_look rfl rfl ⟨rfl, rfl⟩
set_option maxHeartbeats 1000000 in
theorem l_Md_look2 (w : mm_inj mdom K) (ok : m_ok nd nn t) {d : Nat} (hd : d < nd) : ∀ (c : Nat) (v : Int32), c ≤ m_cl t d → mm_V G M_Md_look 66 [(0, .ref (K 0)), (1, .int (nI d)), (2, .int (nI 2)), (3, .int v), (4, .int (nI c - 1))] [] (MP K t h) 0 0 (mm_E (some (.int (dwn (fun c v => 2 * v + t 11 (6 * d + c)) c v))) (MP K t h)) := by
  have h4 := ok.1
  have h6 := (ok.2.2.2.2.1 d hd).2.1
  intro n
  induction n with
  | zero =>
    intro v hc
    refine mm_blk (pc' := 68) ok_Md_look 1 _ _ _ rfl ?_
    refine mm_if_lt ok_Md_look 113 rfl (by decide) (fun c => ?_) (fun c => ?_)
    rotate_left
    · first | exact c (by decide) | exact absurd c (by decide)
    refine mm_blk (pc' := 114) ok_Md_look 1 _ _ _ rfl ?_
    exact mm_iret ok_Md_look rfl rfl ⟨rfl, rfl⟩
  | succ n ih =>
    intro v hc
    rw [nI_pred]
    refine mm_blk (pc' := 68) ok_Md_look 1 _ _ _ rfl ?_
    refine mm_if_lt ok_Md_look 113 rfl (by decide) (fun c => ?_) (fun c => ?_)
    · exact absurd c (nI_pos (by omega))
    refine mm_blk (pc' := 76) ok_Md_look 5 _ _ _ rfl ?_
    refine mm_ic_ne ok_Md_look 94 rfl (by decide) (fun c => ?_) (fun c => ?_)
    · first | exact c (by decide) | exact absurd c (by decide)
    refine mm_blk (pc' := 80) ok_Md_look 1 _ _ _ rfl ?_
    refine mm_getf ok_Md_look (mp_0 w) rfl f_Md_38 rfl ?_
    refine mm_blk (pc' := 90) ok_Md_look 5 _ _ _ rfl ?_
    refine mm_iald (j := 6 * d + n) ok_Md_look (mp_11 w) rfl (ix6 _ _) (by omega) (oIs_get (by omega) _) ?_
    refine mm_blk (pc' := 66) ok_Md_look 5 _ _ _ rfl ?_
    rw [show nI n + (-1) = nI n - 1 from (Int32.sub_eq_add_neg _ _).symm]
    exact ih _ (by omega)
set_option maxHeartbeats 1000000 in
theorem v_Md_look_2 (w : mm_inj mdom K) (ok : m_ok nd nn t) {d : Nat} (hd : d < nd) : mm_V G M_Md_look 5 [(0, .ref (K 0)), (1, .int (nI d)), (2, .int (nI 2))] [] (MP K t h) 0 0 (mm_E (some (.int (dwn (fun c v => 2 * v + t 11 (6 * d + c)) (m_cl t d) 0))) (MP K (t) h)) := by
  have h4 := ok.1
  refine mm_blk (pc' := 7) ok_Md_look 2 _ _ _ rfl ?_
  refine mm_getf ok_Md_look (mp_0 w) rfl f_Md_66 rfl ?_
  rw [ok.2.2.1]
  refine mm_cSE ok_Md_look (As := [.int (nI d), .int (nI nd)]) rfl k_Md_look_82 rfl (Nat.le_of_ble_eq_true rfl) (c_Md_outN hd (by have := ok.1; omega)) ?_
  refine mm_if_ne ok_Md_look 24 rfl (by decide) (fun c => ?_) (fun c => ?_)
  · exact absurd rfl c
  refine mm_blk (pc' := 18) ok_Md_look 2 _ _ _ rfl ?_
  refine mm_cSE ok_Md_look (As := [.int (nI 2), .int 4]) rfl k_Md_look_82 rfl (Nat.le_of_ble_eq_true rfl) (c_Md_outN (a := 2) (b := 4) (by decide) (by decide)) ?_
  refine mm_if_eq ok_Md_look 30 rfl (by decide) (fun c => ?_) (fun c => ?_)
  rotate_left
  · exact absurd rfl c
  refine mm_blk (pc' := 32) ok_Md_look 2 _ _ _ rfl ?_
  refine mm_ic_ge ok_Md_look 54 rfl (by decide) (fun c => ?_) (fun c => ?_)
  rotate_left
  · first | exact c (by decide) | exact absurd c (by decide)
  refine mm_blk (pc' := 57) ok_Md_look 3 _ _ _ rfl ?_
  refine mm_getf ok_Md_look (mp_0 w) rfl f_Md_16 rfl ?_
  refine mm_blk (pc' := 61) ok_Md_look 1 _ _ _ rfl ?_
  refine mm_iald (j := d) ok_Md_look (mp_4 w) rfl rfl (by omega) (oIs_get (by omega) _) ?_
  rw [(ok.2.2.2.2.1 d hd).2.2]
  refine mm_blk (pc' := 66) ok_Md_look 3 _ _ _ rfl ?_
  exact l_Md_look2 w ok hd (m_cl t d) 0 (Nat.le_refl _)
set_option maxHeartbeats 1000000 in
theorem l_Md_look3 (w : mm_inj mdom K) (ok : m_ok nd nn t) {d : Nat} (hd : d < nd) : ∀ (c : Nat) (v : Int32), c ≤ m_cl t d → mm_V G M_Md_look 66 [(0, .ref (K 0)), (1, .int (nI d)), (2, .int (nI 3)), (3, .int v), (4, .int (nI c - 1))] [] (MP K t h) 0 0 (mm_E (some (.int (dwn (fun c v => 2 * v + m_sg t (6 * d + c)) c v))) (MP K t h)) := by
  have h4 := ok.1
  have h6 := (ok.2.2.2.2.1 d hd).2.1
  intro n
  induction n with
  | zero =>
    intro v hc
    refine mm_blk (pc' := 68) ok_Md_look 1 _ _ _ rfl ?_
    refine mm_if_lt ok_Md_look 113 rfl (by decide) (fun c => ?_) (fun c => ?_)
    rotate_left
    · first | exact c (by decide) | exact absurd c (by decide)
    refine mm_blk (pc' := 114) ok_Md_look 1 _ _ _ rfl ?_
    exact mm_iret ok_Md_look rfl rfl ⟨rfl, rfl⟩
  | succ n ih =>
    intro v hc
    rw [nI_pred]
    refine mm_blk (pc' := 68) ok_Md_look 1 _ _ _ rfl ?_
    refine mm_if_lt ok_Md_look 113 rfl (by decide) (fun c => ?_) (fun c => ?_)
    · exact absurd c (nI_pos (by omega))
    refine mm_blk (pc' := 76) ok_Md_look 5 _ _ _ rfl ?_
    refine mm_ic_ne ok_Md_look 94 rfl (by decide) (fun c => ?_) (fun c => ?_)
    rotate_left
    · first | exact c (by decide) | exact absurd c (by decide)
    refine mm_blk (pc' := 102) ok_Md_look 6 _ _ _ rfl ?_
    rw [ix6]
    refine mm_cVE ok_Md_look (As := [.int (nI (6 * d + n))]) rfl k_Md_look_107 (mp_0 w) rfl rfl rfl (Nat.le_of_ble_eq_true rfl) (c_Md_signal w ok (by omega) (ok.2.2.2.2.2.2.2.2 d n hd (by omega))) ?_
    refine mm_blk (pc' := 66) ok_Md_look 4 _ _ _ rfl ?_
    rw [show nI n + (-1) = nI n - 1 from (Int32.sub_eq_add_neg _ _).symm]
    exact ih _ (by omega)
set_option maxHeartbeats 1000000 in
theorem v_Md_look_3 (w : mm_inj mdom K) (ok : m_ok nd nn t) {d : Nat} (hd : d < nd) : mm_V G M_Md_look 5 [(0, .ref (K 0)), (1, .int (nI d)), (2, .int (nI 3))] [] (MP K t h) 0 0 (mm_E (some (.int (dwn (fun c v => 2 * v + m_sg t (6 * d + c)) (m_cl t d) 0))) (MP K (t) h)) := by
  have h4 := ok.1
  refine mm_blk (pc' := 7) ok_Md_look 2 _ _ _ rfl ?_
  refine mm_getf ok_Md_look (mp_0 w) rfl f_Md_66 rfl ?_
  rw [ok.2.2.1]
  refine mm_cSE ok_Md_look (As := [.int (nI d), .int (nI nd)]) rfl k_Md_look_82 rfl (Nat.le_of_ble_eq_true rfl) (c_Md_outN hd (by have := ok.1; omega)) ?_
  refine mm_if_ne ok_Md_look 24 rfl (by decide) (fun c => ?_) (fun c => ?_)
  · exact absurd rfl c
  refine mm_blk (pc' := 18) ok_Md_look 2 _ _ _ rfl ?_
  refine mm_cSE ok_Md_look (As := [.int (nI 3), .int 4]) rfl k_Md_look_82 rfl (Nat.le_of_ble_eq_true rfl) (c_Md_outN (a := 3) (b := 4) (by decide) (by decide)) ?_
  refine mm_if_eq ok_Md_look 30 rfl (by decide) (fun c => ?_) (fun c => ?_)
  rotate_left
  · exact absurd rfl c
  refine mm_blk (pc' := 32) ok_Md_look 2 _ _ _ rfl ?_
  refine mm_ic_ge ok_Md_look 54 rfl (by decide) (fun c => ?_) (fun c => ?_)
  rotate_left
  · first | exact c (by decide) | exact absurd c (by decide)
  refine mm_blk (pc' := 57) ok_Md_look 3 _ _ _ rfl ?_
  refine mm_getf ok_Md_look (mp_0 w) rfl f_Md_16 rfl ?_
  refine mm_blk (pc' := 61) ok_Md_look 1 _ _ _ rfl ?_
  refine mm_iald (j := d) ok_Md_look (mp_4 w) rfl rfl (by omega) (oIs_get (by omega) _) ?_
  rw [(ok.2.2.2.2.1 d hd).2.2]
  refine mm_blk (pc' := 66) ok_Md_look 3 _ _ _ rfl ?_
  exact l_Md_look3 w ok hd (m_cl t d) 0 (Nat.le_refl _)
set_option maxHeartbeats 1000000 in
theorem c_Md_saw_x (w : mm_inj mdom K) (ok : m_ok nd nn t) {x : Int32} (hx : t 0 23 = 0 ∨ ¬ inR x nn) : mm_C G M_Md_saw [.ref (K 0), .int x] (MP K t h) 0 0 (mm_E (some (.int (0))) (MP K (m_s (m_s t 0 0 0) 0 0 1) h)) := by
  refine mm_C_of (by decide +kernel) rfl (Nat.le_of_ble_eq_true rfl) rfl ?_
  refine mm_blk (pc' := 2) ok_Md_saw 2 _ _ _ rfl ?_
  refine mm_putf ok_Md_saw (mp_0 w) rfl f_Md_62 (Or.inl rfl) (mm_fit_I _) ?_
  refine mm_V_heap (mu_0 w 0 _) ?_
  exact v_Md_saw_x w (ok_s0 ok (by decide) (by decide) 0) hx
set_option maxHeartbeats 1000000 in
theorem c_Md_saw_r (w : mm_inj mdom K) (ok : m_ok nd nn t) {j : Nat} (ht : ¬ t 0 23 = 0) (hj : j < nn) : mm_C G M_Md_saw [.ref (K 0), .int (nI j)] (MP K t h) 0 0 (mm_E (some (.int (t 18 j))) (MP K (m_s t 0 0 0) h)) := by
  refine mm_C_of (by decide +kernel) rfl (Nat.le_of_ble_eq_true rfl) rfl ?_
  refine mm_blk (pc' := 2) ok_Md_saw 2 _ _ _ rfl ?_
  refine mm_putf ok_Md_saw (mp_0 w) rfl f_Md_62 (Or.inl rfl) (mm_fit_I _) ?_
  refine mm_V_heap (mu_0 w 0 _) ?_
  exact v_Md_saw_r w (ok_s0 ok (by decide) (by decide) 0) ht hj
set_option maxHeartbeats 1000000 in
theorem c_Md_found_x (w : mm_inj mdom K) {x : Int32} (hx : x < 0 ∨ ¬ x < t 0 21) : mm_C G M_Md_found [.ref (K 0), .int x] (MP K t h) 0 0 (mm_E (some (.int (0))) (MP K (m_s (m_s t 0 0 0) 0 0 1) h)) := by
  refine mm_C_of (by decide +kernel) rfl (Nat.le_of_ble_eq_true rfl) rfl ?_
  refine mm_blk (pc' := 2) ok_Md_found 2 _ _ _ rfl ?_
  refine mm_putf ok_Md_found (mp_0 w) rfl f_Md_62 (Or.inl rfl) (mm_fit_I _) ?_
  refine mm_V_heap (mu_0 w 0 _) ?_
  exact v_Md_found_x w (t := m_s t 0 0 0) hx
set_option maxHeartbeats 1000000 in
theorem c_Md_found_r (w : mm_inj mdom K) {j n : Nat} (hn : t 0 21 = nI n) (hj : j < n) (h4 : n ≤ 4) : mm_C G M_Md_found [.ref (K 0), .int (nI j)] (MP K t h) 0 0 (mm_E (some (.int (t 22 (n - 1 - j)))) (MP K (m_s t 0 0 0) h)) := by
  refine mm_C_of (by decide +kernel) rfl (Nat.le_of_ble_eq_true rfl) rfl ?_
  refine mm_blk (pc' := 2) ok_Md_found 2 _ _ _ rfl ?_
  refine mm_putf ok_Md_found (mp_0 w) rfl f_Md_62 (Or.inl rfl) (mm_fit_I _) ?_
  refine mm_V_heap (mu_0 w 0 _) ?_
  exact v_Md_found_r w (t := m_s t 0 0 0) hn hj h4
set_option maxHeartbeats 1000000 in
theorem c_Md_look_x (w : mm_inj mdom K) (ok : m_ok nd nn t) {x k : Int32} (hx : ¬ inR x nd) : mm_C G M_Md_look [.ref (K 0), .int x, .int k] (MP K t h) 0 0 (mm_E (some (.int (0))) (MP K (m_s (m_s t 0 0 0) 0 0 1) h)) := by
  refine mm_C_of (by decide +kernel) rfl (Nat.le_of_ble_eq_true rfl) rfl ?_
  refine mm_blk (pc' := 2) ok_Md_look 2 _ _ _ rfl ?_
  refine mm_putf ok_Md_look (mp_0 w) rfl f_Md_62 (Or.inl rfl) (mm_fit_I _) ?_
  refine mm_V_heap (mu_0 w 0 _) ?_
  exact v_Md_look_x w (ok_s0 ok (by decide) (by decide) 0) hx
set_option maxHeartbeats 1000000 in
theorem c_Md_look_y (w : mm_inj mdom K) (ok : m_ok nd nn t) {d : Nat} {k : Int32} (hd : d < nd) (hk : ¬ inR k 4) : mm_C G M_Md_look [.ref (K 0), .int (nI d), .int k] (MP K t h) 0 0 (mm_E (some (.int (0))) (MP K (m_s (m_s t 0 0 0) 0 0 1) h)) := by
  refine mm_C_of (by decide +kernel) rfl (Nat.le_of_ble_eq_true rfl) rfl ?_
  refine mm_blk (pc' := 2) ok_Md_look 2 _ _ _ rfl ?_
  refine mm_putf ok_Md_look (mp_0 w) rfl f_Md_62 (Or.inl rfl) (mm_fit_I _) ?_
  refine mm_V_heap (mu_0 w 0 _) ?_
  exact v_Md_look_y w (ok_s0 ok (by decide) (by decide) 0) hd hk
set_option maxHeartbeats 1000000 in
theorem c_Md_look_0 (w : mm_inj mdom K) (ok : m_ok nd nn t) {d : Nat} (hd : d < nd) : mm_C G M_Md_look [.ref (K 0), .int (nI d), .int (nI 0)] (MP K t h) 0 0 (mm_E (some (.int (t 5 d))) (MP K (m_s t 0 0 0) h)) := by
  refine mm_C_of (by decide +kernel) rfl (Nat.le_of_ble_eq_true rfl) rfl ?_
  refine mm_blk (pc' := 2) ok_Md_look 2 _ _ _ rfl ?_
  refine mm_putf ok_Md_look (mp_0 w) rfl f_Md_62 (Or.inl rfl) (mm_fit_I _) ?_
  refine mm_V_heap (mu_0 w 0 _) ?_
  exact v_Md_look_0 w (ok_s0 ok (by decide) (by decide) 0) hd
set_option maxHeartbeats 1000000 in
theorem c_Md_look_1 (w : mm_inj mdom K) (ok : m_ok nd nn t) {d : Nat} (hd : d < nd) : mm_C G M_Md_look [.ref (K 0), .int (nI d), .int (nI 1)] (MP K t h) 0 0 (mm_E (some (.int (m_num t d))) (MP K (m_s t 0 0 0) h)) := by
  refine mm_C_of (by decide +kernel) rfl (Nat.le_of_ble_eq_true rfl) rfl ?_
  refine mm_blk (pc' := 2) ok_Md_look 2 _ _ _ rfl ?_
  refine mm_putf ok_Md_look (mp_0 w) rfl f_Md_62 (Or.inl rfl) (mm_fit_I _) ?_
  refine mm_V_heap (mu_0 w 0 _) ?_
  exact v_Md_look_1 w (ok_s0 ok (by decide) (by decide) 0) hd
set_option maxHeartbeats 1000000 in
theorem c_Md_look_2 (w : mm_inj mdom K) (ok : m_ok nd nn t) {d : Nat} (hd : d < nd) : mm_C G M_Md_look [.ref (K 0), .int (nI d), .int (nI 2)] (MP K t h) 0 0 (mm_E (some (.int (dwn (fun c v => 2 * v + t 11 (6 * d + c)) (m_cl t d) 0))) (MP K (m_s t 0 0 0) h)) := by
  refine mm_C_of (by decide +kernel) rfl (Nat.le_of_ble_eq_true rfl) rfl ?_
  refine mm_blk (pc' := 2) ok_Md_look 2 _ _ _ rfl ?_
  refine mm_putf ok_Md_look (mp_0 w) rfl f_Md_62 (Or.inl rfl) (mm_fit_I _) ?_
  refine mm_V_heap (mu_0 w 0 _) ?_
  exact v_Md_look_2 w (ok_s0 ok (by decide) (by decide) 0) hd
set_option maxHeartbeats 1000000 in
theorem c_Md_look_3 (w : mm_inj mdom K) (ok : m_ok nd nn t) {d : Nat} (hd : d < nd) : mm_C G M_Md_look [.ref (K 0), .int (nI d), .int (nI 3)] (MP K t h) 0 0 (mm_E (some (.int (dwn (fun c v => 2 * v + m_sg t (6 * d + c)) (m_cl t d) 0))) (MP K (m_s t 0 0 0) h)) := by
  refine mm_C_of (by decide +kernel) rfl (Nat.le_of_ble_eq_true rfl) rfl ?_
  refine mm_blk (pc' := 2) ok_Md_look 2 _ _ _ rfl ?_
  refine mm_putf ok_Md_look (mp_0 w) rfl f_Md_62 (Or.inl rfl) (mm_fit_I _) ?_
  refine mm_V_heap (mu_0 w 0 _) ?_
  exact v_Md_look_3 w (ok_s0 ok (by decide) (by decide) 0) hd
set_option maxHeartbeats 1000000 in
theorem c_Md_value_x (w : mm_inj mdom K) (ok : m_ok nd nn t) {x : Int32} (hx : ¬ inR x nn) : mm_C G M_Md_value [.ref (K 0), .int x] (MP K t h) 0 0 (mm_E (some (.int 0)) (MP K (m_s t 0 0 1) h)) := by
  refine mm_C_of (by decide +kernel) rfl (Nat.le_of_ble_eq_true rfl) rfl ?_
  refine mm_blk (pc' := 3) ok_Md_value 3 _ _ _ rfl ?_
  refine mm_getf ok_Md_value (mp_0 w) rfl f_Md_89 rfl ?_
  rw [ok.2.2.2.1]
  refine mm_cSE ok_Md_value (As := [.int x, .int (nI nn)]) rfl k_Md_value_82 rfl (Nat.le_of_ble_eq_true rfl) (c_Md_out1 (out_of (by have := ok.2.1; omega) hx)) ?_
  refine mm_if_eq ok_Md_value 16 rfl (by decide) (fun c => ?_) (fun c => ?_)
  · exact absurd c (by decide)
  refine mm_blk (pc' := 17) ok_Md_value 2 _ _ _ rfl ?_
  refine mm_putf ok_Md_value (mp_0 w) rfl f_Md_62 (Or.inl rfl) (mm_fit_I _) ?_
  refine mm_V_heap (mu_0 w 0 _) ?_
  refine mm_blk (pc' := 21) ok_Md_value 1 _ _ _ rfl ?_
  refine mm_getf ok_Md_value (mp_0 w) rfl f_Md_62 rfl ?_
  refine mm_if_ne ok_Md_value 40 rfl (by decide) (fun c => ?_) (fun c => ?_)
  rotate_left
  · exact absurd (show (1 : Int32) = 0 from c) (by decide)
  refine mm_blk (pc' := 41) ok_Md_value 1 _ _ _ rfl ?_
  exact mm_zret ok_Md_value rfl rfl rfl ⟨rfl, rfl⟩
set_option maxHeartbeats 1000000 in
theorem c_Md_value_r (w : mm_inj mdom K) (ok : m_ok nd nn t) {j : Nat} (hj : j < nn) : mm_C G M_Md_value [.ref (K 0), .int (nI j)] (MP K t h) 0 0 (mm_E (some (.int (if m_val t j = 1 then 1 else 0))) (MP K (m_s t 0 0 0) h)) := by
  have h8 := ok.2.1
  refine mm_C_of (by decide +kernel) rfl (Nat.le_of_ble_eq_true rfl) rfl ?_
  refine mm_blk (pc' := 3) ok_Md_value 3 _ _ _ rfl ?_
  refine mm_getf ok_Md_value (mp_0 w) rfl f_Md_89 rfl ?_
  rw [ok.2.2.2.1]
  refine mm_cSE ok_Md_value (As := [.int (nI j), .int (nI nn)]) rfl k_Md_value_82 rfl (Nat.le_of_ble_eq_true rfl) (c_Md_outN hj (by omega)) ?_
  refine mm_if_eq ok_Md_value 16 rfl (by decide) (fun c => ?_) (fun c => ?_)
  rotate_left
  · exact absurd rfl c
  refine mm_blk (pc' := 17) ok_Md_value 1 _ _ _ rfl ?_
  refine mm_putf ok_Md_value (mp_0 w) rfl f_Md_62 (Or.inl rfl) (mm_fit_I _) ?_
  refine mm_V_heap (mu_0 w 0 _) ?_
  refine mm_blk (pc' := 21) ok_Md_value 1 _ _ _ rfl ?_
  refine mm_getf ok_Md_value (mp_0 w) rfl f_Md_62 rfl ?_
  refine mm_if_ne ok_Md_value 40 rfl (by decide) (fun c => ?_) (fun c => ?_)
  · exact absurd (show (0 : Int32) = 0 by decide) c
  refine mm_blk (pc' := 29) ok_Md_value 2 _ _ _ rfl ?_
  refine mm_cVE ok_Md_value (As := [.int (nI j)]) rfl k_Md_value_100 (mp_0 w) rfl rfl rfl (Nat.le_of_ble_eq_true rfl) (c_Md_valueOf (t := m_s t 0 0 0) w (ok_s0 ok (by decide) (by decide) 0) hj) ?_
  refine mm_blk (pc' := 33) ok_Md_value 1 _ _ _ rfl ?_
  refine mm_tc_ne ok_Md_value 40 rfl (by decide) rfl rfl rfl (by decide) ?_
  exact mm_zret ok_Md_value rfl rfl mm_nb ⟨rfl, rfl⟩
set_option maxHeartbeats 1000000 in
theorem c_Md_core_x (w : mm_inj mdom K) (ok : m_ok nd nn t) {x y one : Int32} (hx : ¬ ∃ d, d < nd ∧ x = nI d ∧ inR y (m_cl t d)) : mm_C G M_Md_core [.ref (K 0), .int x, .int y, .int one] (MP K t h) 0 0 (mm_E none (MP K (m_s t 0 0 1) h)) := by
  refine mm_C_of (by decide +kernel) rfl (Nat.le_of_ble_eq_true rfl) rfl ?_
  refine mm_blk (pc' := 4) ok_Md_core 4 _ _ _ rfl ?_
  refine mm_cVE ok_Md_core (As := [.int x, .int y]) rfl k_Md_core_86 (mp_0 w) rfl rfl rfl (Nat.le_of_ble_eq_true rfl) (c_Md_isCell0 w ok hx) ?_
  refine mm_if_eq ok_Md_core 28 rfl (by decide) (fun c => ?_) (fun c => ?_)
  rotate_left
  · exact absurd rfl c
  refine mm_blk (pc' := 29) ok_Md_core 1 _ _ _ rfl ?_
  refine mm_putf ok_Md_core (mp_0 w) rfl f_Md_62 (Or.inl rfl) (mm_fit_I _) ?_
  refine mm_V_heap (mu_0 w 0 _) ?_
  refine mm_blk (pc' := 33) ok_Md_core 1 _ _ _ rfl ?_
  refine mm_getf ok_Md_core (mp_0 w) rfl f_Md_62 rfl ?_
  refine mm_if_ne ok_Md_core 59 rfl (by decide) (fun c => ?_) (fun c => ?_)
  rotate_left
  · exact absurd (show (1 : Int32) = 0 from c) (by decide)
  exact mm_vret ok_Md_core rfl rfl ⟨rfl, rfl⟩
set_option maxHeartbeats 1000000 in
theorem c_Md_core_y (w : mm_inj mdom K) (ok : m_ok nd nn t) {d k : Nat} (hd : d < nd) (hk : k < m_cl t d) (hz : t 10 (6 * d + k) = 0) {one : Int32} : mm_C G M_Md_core [.ref (K 0), .int (nI d), .int (nI k), .int one] (MP K t h) 0 0 (mm_E none (MP K (m_s t 0 0 1) h)) := by
  have h4 := ok.1
  have h6 := (ok.2.2.2.2.1 d hd).2.1
  refine mm_C_of (by decide +kernel) rfl (Nat.le_of_ble_eq_true rfl) rfl ?_
  refine mm_blk (pc' := 4) ok_Md_core 4 _ _ _ rfl ?_
  refine mm_cVE ok_Md_core (As := [.int (nI d), .int (nI k)]) rfl k_Md_core_86 (mp_0 w) rfl rfl rfl (Nat.le_of_ble_eq_true rfl) (c_Md_isCell1 w ok hd hk) ?_
  refine mm_if_eq ok_Md_core 28 rfl (by decide) (fun c => ?_) (fun c => ?_)
  · first | exact c (by decide) | exact absurd c (by decide)
  refine mm_blk (pc' := 11) ok_Md_core 1 _ _ _ rfl ?_
  refine mm_getf ok_Md_core (mp_0 w) rfl f_Md_34 rfl ?_
  refine mm_blk (pc' := 20) ok_Md_core 5 _ _ _ rfl ?_
  refine mm_zald (j := 6 * d + k) ok_Md_core (mp_10 w) rfl (ix6 _ _) (by omega) (oIs_get (by omega) _) ?_
  refine mm_if_eq ok_Md_core 28 rfl (by decide) (fun c => ?_) (fun c => ?_)
  rotate_left
  · exact absurd hz c
  refine mm_blk (pc' := 29) ok_Md_core 1 _ _ _ rfl ?_
  refine mm_putf ok_Md_core (mp_0 w) rfl f_Md_62 (Or.inl rfl) (mm_fit_I _) ?_
  refine mm_V_heap (mu_0 w 0 _) ?_
  refine mm_blk (pc' := 33) ok_Md_core 1 _ _ _ rfl ?_
  refine mm_getf ok_Md_core (mp_0 w) rfl f_Md_62 rfl ?_
  refine mm_if_ne ok_Md_core 59 rfl (by decide) (fun c => ?_) (fun c => ?_)
  rotate_left
  · exact absurd (show (1 : Int32) = 0 from c) (by decide)
  exact mm_vret ok_Md_core rfl rfl ⟨rfl, rfl⟩
set_option maxHeartbeats 1000000 in
theorem c_Md_core_r (w : mm_inj mdom K) (ok : m_ok nd nn t) {d k : Nat} (hd : d < nd) (hk : k < m_cl t d) (hz : ¬ t 10 (6 * d + k) = 0) {one : Int32} : mm_C G M_Md_core [.ref (K 0), .int (nI d), .int (nI k), .int one] (MP K t h) 0 0 (mm_E none (MP K (m_s (m_s t 0 0 0) 12 (6 * d + k) (if one = 0 then 0 else 1)) h)) := by
  have h4 := ok.1
  have h6 := (ok.2.2.2.2.1 d hd).2.1
  refine mm_C_of (by decide +kernel) rfl (Nat.le_of_ble_eq_true rfl) rfl ?_
  refine mm_blk (pc' := 4) ok_Md_core 4 _ _ _ rfl ?_
  refine mm_cVE ok_Md_core (As := [.int (nI d), .int (nI k)]) rfl k_Md_core_86 (mp_0 w) rfl rfl rfl (Nat.le_of_ble_eq_true rfl) (c_Md_isCell1 w ok hd hk) ?_
  refine mm_if_eq ok_Md_core 28 rfl (by decide) (fun c => ?_) (fun c => ?_)
  · first | exact c (by decide) | exact absurd c (by decide)
  refine mm_blk (pc' := 11) ok_Md_core 1 _ _ _ rfl ?_
  refine mm_getf ok_Md_core (mp_0 w) rfl f_Md_34 rfl ?_
  refine mm_blk (pc' := 20) ok_Md_core 5 _ _ _ rfl ?_
  refine mm_zald (j := 6 * d + k) ok_Md_core (mp_10 w) rfl (ix6 _ _) (by omega) (oIs_get (by omega) _) ?_
  refine mm_if_eq ok_Md_core 28 rfl (by decide) (fun c => ?_) (fun c => ?_)
  · exact absurd c hz
  refine mm_blk (pc' := 29) ok_Md_core 2 _ _ _ rfl ?_
  refine mm_putf ok_Md_core (mp_0 w) rfl f_Md_62 (Or.inl rfl) (mm_fit_I _) ?_
  refine mm_V_heap (mu_0 w 0 _) ?_
  refine mm_blk (pc' := 33) ok_Md_core 1 _ _ _ rfl ?_
  refine mm_getf ok_Md_core (mp_0 w) rfl f_Md_62 rfl ?_
  refine mm_if_ne ok_Md_core 59 rfl (by decide) (fun c => ?_) (fun c => ?_)
  · exact absurd (show (0 : Int32) = 0 by decide) c
  refine mm_blk (pc' := 40) ok_Md_core 1 _ _ _ rfl ?_
  refine mm_getf ok_Md_core (mp_0 w) rfl f_Md_41 rfl ?_
  refine mm_blk (pc' := 50) ok_Md_core 6 _ _ _ rfl ?_
  refine mm_ti_eq ok_Md_core 57 rfl (by decide) rfl rfl rfl (by decide) ?_
  refine mm_iast (j := 6 * d + k) ok_Md_core (mp_12 w) rfl (ix6 _ _) (by omega) (by rw [List.length_map, List.length_range]; exact (by omega)) ?_
  refine mm_V_heap (mu_12 w (by omega) _) ?_
  exact mm_vret ok_Md_core rfl rfl ⟨rfl, rfl⟩
end MD4
end
section
/-! the reference: fault, net, device -/
def m_flt1 (t : mS) (j : Nat) (kd : Int32) : mS := m_s (m_heal (m_s t 0 0 0) j) 16 j kd
def m_flt2 (t : mS) (j i : Nat) (kd : Int32) : mS := m_s (m_s (m_s (m_heal (m_flt1 t j kd) i) 16 i kd) 17 j (nI i)) 17 i (nI j)
def m_net (t : mS) (nn a b : Nat) : mS := m_s (m_s (m_s (m_s (m_s (m_s (m_s (m_s (m_s t 0 0 0) 13 a (nI nn)) 13 b (nI nn)) 15 nn (nI a)) 16 nn (-1)) 17 nn (-1)) 18 nn 0) 0 14 (nI (nn + 1))) 0 23 0
def m_dv1 (d : Nat) (dr : Int32) (n i : Nat) (t : mS) : mS := up (fun k t => m_s (m_s t 10 (6 * d + k) (if ((dr >>> (nI k &&& 31)) &&& 1) = 1 then 1 else 0)) 13 (6 * d + k) (-1)) n i t
def m_dv2 (n i : Nat) (t : mS) : mS := up (fun k t => m_s (m_s t 11 k 0) 12 k 0) n i t
def m_dvA (t : mS) (d : Nat) (b id : Int32) (cl : Nat) : mS := m_s (m_s (m_s (m_s t 0 0 0) 2 d b) 3 d id) 4 d (nI cl)
def m_dev (t : mS) (d : Nat) (b id : Int32) (cl : Nat) (dr : Int32) : mS := m_s (m_s (m_s (m_s (m_rst (d + 1) (m_dv2 24 0 (m_s (m_dv1 d dr cl 0 (m_dvA t d b id cl)) 0 1 (nI (d + 1))))) 0 19 0) 0 20 0) 0 21 0) 0 23 0
section MD5
variable {G : mm_G} {K : Nat → Nat} {t : mS} {h : mm_Hp} {nd nn : Nat} {Q : mm_O → mm_Hp → Prop}
theorem heal_17 (t : mS) (j i : Nat) : m_heal t j 17 i = -1 ∨ m_heal t j 17 i = t 17 i := by
  have key : ∀ (t : mS) (j i : Nat), m_cut t j 17 i = -1 ∨ m_cut t j 17 i = t 17 i := by
    intro t j i
    unfold m_cut
    by_cases e : i = j
    · rw [e, m_s_at]; exact Or.inl rfl
    · rw [m_s_off _ _ _ e, m_s_ne _ _ _ (by decide)]; exact Or.inr rfl
  unfold m_heal
  split
  · exact key t j i
  · rcases key (m_cut t j) (m_pt t j) i with e | e
    · exact Or.inl e
    · rw [e]; exact key t j i

set_option maxHeartbeats 1000000 in
theorem c_Md_fault_x (w : mm_inj mdom K) (ok : m_ok nd nn t) {x k y : Int32} (hx : ¬ inR x nn) : mm_C G M_Md_fault [.ref (K 0), .int x, .int k, .int y] (MP K t h) 0 0 (mm_E none (MP K (m_s t 0 0 1) h)) := by
  refine mm_C_of (by decide +kernel) rfl (Nat.le_of_ble_eq_true rfl) rfl ?_
  refine mm_blk (pc' := 2) ok_Md_fault 2 _ _ _ rfl ?_
  refine mm_getf ok_Md_fault (mp_0 w) rfl f_Md_89 rfl ?_
  rw [ok.2.2.2.1]
  refine mm_cSE ok_Md_fault (As := [.int x, .int (nI nn)]) rfl k_Md_fault_82 rfl (Nat.le_of_ble_eq_true rfl) (c_Md_out1 (out_of (by have := ok.2.1; omega) hx)) ?_
  refine mm_if_ne ok_Md_fault 46 rfl (by decide) (fun c => ?_) (fun c => ?_)
  rotate_left
  · exact absurd c (by decide)
  refine mm_blk (pc' := 52) ok_Md_fault 4 _ _ _ rfl ?_
  refine mm_if_eq ok_Md_fault 59 rfl (by decide) (fun c => ?_) (fun c => ?_)
  rotate_left
  · exact absurd rfl c
  refine mm_blk (pc' := 60) ok_Md_fault 1 _ _ _ rfl ?_
  refine mm_putf ok_Md_fault (mp_0 w) rfl f_Md_62 (Or.inl rfl) (mm_fit_I _) ?_
  refine mm_V_heap (mu_0 w 0 _) ?_
  refine mm_blk (pc' := 64) ok_Md_fault 1 _ _ _ rfl ?_
  refine mm_getf ok_Md_fault (mp_0 w) rfl f_Md_62 rfl ?_
  refine mm_if_le ok_Md_fault 71 rfl (by decide) (fun c => ?_) (fun c => ?_)
  · exact absurd (show (1 : Int32) ≤ 0 from c) (by decide)
  exact mm_vret ok_Md_fault rfl rfl ⟨rfl, rfl⟩
set_option maxHeartbeats 1000000 in
theorem c_Md_fault_k (w : mm_inj mdom K) (ok : m_ok nd nn t) {j : Nat} (hj : j < nn) {k y : Int32} (hk : k < -1 ∨ ¬ k ≤ 3) : mm_C G M_Md_fault [.ref (K 0), .int (nI j), .int k, .int y] (MP K t h) 0 0 (mm_E none (MP K (m_s t 0 0 1) h)) := by
  refine mm_C_of (by decide +kernel) rfl (Nat.le_of_ble_eq_true rfl) rfl ?_
  refine mm_blk (pc' := 2) ok_Md_fault 2 _ _ _ rfl ?_
  refine mm_getf ok_Md_fault (mp_0 w) rfl f_Md_89 rfl ?_
  rw [ok.2.2.2.1]
  refine mm_cSE ok_Md_fault (As := [.int (nI j), .int (nI nn)]) rfl k_Md_fault_82 rfl (Nat.le_of_ble_eq_true rfl) (c_Md_outN hj (by have := ok.2.1; omega)) ?_
  refine mm_if_ne ok_Md_fault 46 rfl (by decide) (fun c => ?_) (fun c => ?_)
  · exact absurd rfl c
  refine mm_blk (pc' := 13) ok_Md_fault 2 _ _ _ rfl ?_
  refine mm_ic_lt ok_Md_fault 46 rfl (by decide) (fun c13 => ?_) (fun c13 => ?_)
  · -- 46 t
    refine mm_blk (pc' := 52) ok_Md_fault 4 _ _ _ rfl ?_
    refine mm_if_eq ok_Md_fault 59 rfl (by decide) (fun c => ?_) (fun c => ?_)
    rotate_left
    · exact absurd rfl c
    refine mm_blk (pc' := 60) ok_Md_fault 1 _ _ _ rfl ?_
    refine mm_putf ok_Md_fault (mp_0 w) rfl f_Md_62 (Or.inl rfl) (mm_fit_I _) ?_
    refine mm_V_heap (mu_0 w 0 _) ?_
    refine mm_blk (pc' := 64) ok_Md_fault 1 _ _ _ rfl ?_
    refine mm_getf ok_Md_fault (mp_0 w) rfl f_Md_62 rfl ?_
    refine mm_if_le ok_Md_fault 71 rfl (by decide) (fun c => ?_) (fun c => ?_)
    · exact absurd (show (1 : Int32) ≤ 0 from c) (by decide)
    exact mm_vret ok_Md_fault rfl rfl ⟨rfl, rfl⟩
  · -- 16 f
    refine mm_blk (pc' := 18) ok_Md_fault 2 _ _ _ rfl ?_
    refine mm_ic_gt ok_Md_fault 46 rfl (by decide) (fun c => ?_) (fun c => ?_)
    rotate_left
    · exact absurd (Int32.not_lt.mp c) (hk.resolve_left c13)
    refine mm_blk (pc' := 52) ok_Md_fault 4 _ _ _ rfl ?_
    refine mm_if_eq ok_Md_fault 59 rfl (by decide) (fun c => ?_) (fun c => ?_)
    rotate_left
    · exact absurd rfl c
    refine mm_blk (pc' := 60) ok_Md_fault 1 _ _ _ rfl ?_
    refine mm_putf ok_Md_fault (mp_0 w) rfl f_Md_62 (Or.inl rfl) (mm_fit_I _) ?_
    refine mm_V_heap (mu_0 w 0 _) ?_
    refine mm_blk (pc' := 64) ok_Md_fault 1 _ _ _ rfl ?_
    refine mm_getf ok_Md_fault (mp_0 w) rfl f_Md_62 rfl ?_
    refine mm_if_le ok_Md_fault 71 rfl (by decide) (fun c => ?_) (fun c => ?_)
    · exact absurd (show (1 : Int32) ≤ 0 from c) (by decide)
    exact mm_vret ok_Md_fault rfl rfl ⟨rfl, rfl⟩
set_option maxHeartbeats 1000000 in
theorem c_Md_fault_y (w : mm_inj mdom K) (ok : m_ok nd nn t) {j : Nat} (hj : j < nn) {k y : Int32} (hk : ¬ k < -1) (hk3 : k ≤ 3) (h2 : ¬ k < 2) (hy : ¬ inR y nn) : mm_C G M_Md_fault [.ref (K 0), .int (nI j), .int k, .int y] (MP K t h) 0 0 (mm_E none (MP K (m_s t 0 0 1) h)) := by
  refine mm_C_of (by decide +kernel) rfl (Nat.le_of_ble_eq_true rfl) rfl ?_
  refine mm_blk (pc' := 2) ok_Md_fault 2 _ _ _ rfl ?_
  refine mm_getf ok_Md_fault (mp_0 w) rfl f_Md_89 rfl ?_
  rw [ok.2.2.2.1]
  refine mm_cSE ok_Md_fault (As := [.int (nI j), .int (nI nn)]) rfl k_Md_fault_82 rfl (Nat.le_of_ble_eq_true rfl) (c_Md_outN hj (by have := ok.2.1; omega)) ?_
  refine mm_if_ne ok_Md_fault 46 rfl (by decide) (fun c => ?_) (fun c => ?_)
  · exact absurd rfl c
  refine mm_blk (pc' := 13) ok_Md_fault 2 _ _ _ rfl ?_
  refine mm_ic_lt ok_Md_fault 46 rfl (by decide) (fun c => ?_) (fun c => ?_)
  · exact absurd c hk
  refine mm_blk (pc' := 18) ok_Md_fault 2 _ _ _ rfl ?_
  refine mm_ic_gt ok_Md_fault 46 rfl (by decide) (fun c => ?_) (fun c => ?_)
  · exact absurd hk3 (Int32.not_le.mpr c)
  refine mm_blk (pc' := 23) ok_Md_fault 2 _ _ _ rfl ?_
  refine mm_ic_lt ok_Md_fault 42 rfl (by decide) (fun c => ?_) (fun c => ?_)
  · exact absurd c h2
  refine mm_blk (pc' := 28) ok_Md_fault 2 _ _ _ rfl ?_
  refine mm_getf ok_Md_fault (mp_0 w) rfl f_Md_89 rfl ?_
  rw [ok.2.2.2.1]
  refine mm_cSE ok_Md_fault (As := [.int y, .int (nI nn)]) rfl k_Md_fault_82 rfl (Nat.le_of_ble_eq_true rfl) (c_Md_out1 (out_of (by have := ok.2.1; omega) hy)) ?_
  refine mm_if_ne ok_Md_fault 46 rfl (by decide) (fun c => ?_) (fun c => ?_)
  rotate_left
  · exact absurd c (by decide)
  refine mm_blk (pc' := 52) ok_Md_fault 4 _ _ _ rfl ?_
  refine mm_if_eq ok_Md_fault 59 rfl (by decide) (fun c => ?_) (fun c => ?_)
  rotate_left
  · exact absurd rfl c
  refine mm_blk (pc' := 60) ok_Md_fault 1 _ _ _ rfl ?_
  refine mm_putf ok_Md_fault (mp_0 w) rfl f_Md_62 (Or.inl rfl) (mm_fit_I _) ?_
  refine mm_V_heap (mu_0 w 0 _) ?_
  refine mm_blk (pc' := 64) ok_Md_fault 1 _ _ _ rfl ?_
  refine mm_getf ok_Md_fault (mp_0 w) rfl f_Md_62 rfl ?_
  refine mm_if_le ok_Md_fault 71 rfl (by decide) (fun c => ?_) (fun c => ?_)
  · exact absurd (show (1 : Int32) ≤ 0 from c) (by decide)
  exact mm_vret ok_Md_fault rfl rfl ⟨rfl, rfl⟩
set_option maxHeartbeats 1000000 in
theorem c_Md_fault_z (w : mm_inj mdom K) (ok : m_ok nd nn t) {j : Nat} (hj : j < nn) {k : Int32} (hk : ¬ k < -1) (hk3 : k ≤ 3) (h2 : ¬ k < 2) : mm_C G M_Md_fault [.ref (K 0), .int (nI j), .int k, .int (nI j)] (MP K t h) 0 0 (mm_E none (MP K (m_s t 0 0 1) h)) := by
  refine mm_C_of (by decide +kernel) rfl (Nat.le_of_ble_eq_true rfl) rfl ?_
  refine mm_blk (pc' := 2) ok_Md_fault 2 _ _ _ rfl ?_
  refine mm_getf ok_Md_fault (mp_0 w) rfl f_Md_89 rfl ?_
  rw [ok.2.2.2.1]
  refine mm_cSE ok_Md_fault (As := [.int (nI j), .int (nI nn)]) rfl k_Md_fault_82 rfl (Nat.le_of_ble_eq_true rfl) (c_Md_outN hj (by have := ok.2.1; omega)) ?_
  refine mm_if_ne ok_Md_fault 46 rfl (by decide) (fun c => ?_) (fun c => ?_)
  · exact absurd rfl c
  refine mm_blk (pc' := 13) ok_Md_fault 2 _ _ _ rfl ?_
  refine mm_ic_lt ok_Md_fault 46 rfl (by decide) (fun c => ?_) (fun c => ?_)
  · exact absurd c hk
  refine mm_blk (pc' := 18) ok_Md_fault 2 _ _ _ rfl ?_
  refine mm_ic_gt ok_Md_fault 46 rfl (by decide) (fun c => ?_) (fun c => ?_)
  · exact absurd hk3 (Int32.not_le.mpr c)
  refine mm_blk (pc' := 23) ok_Md_fault 2 _ _ _ rfl ?_
  refine mm_ic_lt ok_Md_fault 42 rfl (by decide) (fun c => ?_) (fun c => ?_)
  · exact absurd c h2
  refine mm_blk (pc' := 28) ok_Md_fault 2 _ _ _ rfl ?_
  refine mm_getf ok_Md_fault (mp_0 w) rfl f_Md_89 rfl ?_
  rw [ok.2.2.2.1]
  refine mm_cSE ok_Md_fault (As := [.int (nI j), .int (nI nn)]) rfl k_Md_fault_82 rfl (Nat.le_of_ble_eq_true rfl) (c_Md_outN hj (by have := ok.2.1; omega)) ?_
  refine mm_if_ne ok_Md_fault 46 rfl (by decide) (fun c => ?_) (fun c => ?_)
  · exact absurd rfl c
  refine mm_blk (pc' := 39) ok_Md_fault 2 _ _ _ rfl ?_
  refine mm_ic_eq ok_Md_fault 46 rfl (by decide) (fun c => ?_) (fun c => ?_)
  rotate_left
  · exact absurd rfl c
  refine mm_blk (pc' := 52) ok_Md_fault 4 _ _ _ rfl ?_
  refine mm_if_eq ok_Md_fault 59 rfl (by decide) (fun c => ?_) (fun c => ?_)
  rotate_left
  · exact absurd rfl c
  refine mm_blk (pc' := 60) ok_Md_fault 1 _ _ _ rfl ?_
  refine mm_putf ok_Md_fault (mp_0 w) rfl f_Md_62 (Or.inl rfl) (mm_fit_I _) ?_
  refine mm_V_heap (mu_0 w 0 _) ?_
  refine mm_blk (pc' := 64) ok_Md_fault 1 _ _ _ rfl ?_
  refine mm_getf ok_Md_fault (mp_0 w) rfl f_Md_62 rfl ?_
  refine mm_if_le ok_Md_fault 71 rfl (by decide) (fun c => ?_) (fun c => ?_)
  · exact absurd (show (1 : Int32) ≤ 0 from c) (by decide)
  exact mm_vret ok_Md_fault rfl rfl ⟨rfl, rfl⟩
set_option maxHeartbeats 1000000 in
theorem c_Md_fault_1 (w : mm_inj mdom K) (ok : m_ok nd nn t) {j : Nat} (hj : j < nn) {k y : Int32} (hk : ¬ k < -1) (hk3 : k ≤ 3) (h2 : k < 2) : mm_C G M_Md_fault [.ref (K 0), .int (nI j), .int k, .int y] (MP K t h) 0 0 (mm_E none (MP K (m_flt1 t j k) h)) := by
  have h8 := ok.2.1
  have ok0 := ok_s0 ok (f := 0) (by decide) (by decide) 0
  have hp0 : ∀ i, i < nn → ¬ t 17 i < 0 → m_pt t i < 8 ∧ t 17 i = nI (m_pt t i) := fun i hi z => ⟨by have := ((ok.2.2.2.2.2.2.2.1 i hi).2 z).1; omega, ((ok.2.2.2.2.2.2.2.1 i hi).2 z).2⟩
  refine mm_C_of (by decide +kernel) rfl (Nat.le_of_ble_eq_true rfl) rfl ?_
  refine mm_blk (pc' := 2) ok_Md_fault 2 _ _ _ rfl ?_
  refine mm_getf ok_Md_fault (mp_0 w) rfl f_Md_89 rfl ?_
  rw [ok.2.2.2.1]
  refine mm_cSE ok_Md_fault (As := [.int (nI j), .int (nI nn)]) rfl k_Md_fault_82 rfl (Nat.le_of_ble_eq_true rfl) (c_Md_outN hj (by have := ok.2.1; omega)) ?_
  refine mm_if_ne ok_Md_fault 46 rfl (by decide) (fun c => ?_) (fun c => ?_)
  · exact absurd rfl c
  refine mm_blk (pc' := 13) ok_Md_fault 2 _ _ _ rfl ?_
  refine mm_ic_lt ok_Md_fault 46 rfl (by decide) (fun c => ?_) (fun c => ?_)
  · exact absurd c hk
  refine mm_blk (pc' := 18) ok_Md_fault 2 _ _ _ rfl ?_
  refine mm_ic_gt ok_Md_fault 46 rfl (by decide) (fun c => ?_) (fun c => ?_)
  · exact absurd hk3 (Int32.not_le.mpr c)
  refine mm_blk (pc' := 23) ok_Md_fault 2 _ _ _ rfl ?_
  refine mm_ic_lt ok_Md_fault 42 rfl (by decide) (fun c => ?_) (fun c => ?_)
  rotate_left
  · exact absurd h2 c
  refine mm_blk (pc' := 52) ok_Md_fault 5 _ _ _ rfl ?_
  refine mm_if_eq ok_Md_fault 59 rfl (by decide) (fun c => ?_) (fun c => ?_)
  · exact absurd c (by decide)
  refine mm_blk (pc' := 60) ok_Md_fault 2 _ _ _ rfl ?_
  refine mm_putf ok_Md_fault (mp_0 w) rfl f_Md_62 (Or.inl rfl) (mm_fit_I _) ?_
  refine mm_V_heap (mu_0 w 0 _) ?_
  refine mm_blk (pc' := 64) ok_Md_fault 1 _ _ _ rfl ?_
  refine mm_getf ok_Md_fault (mp_0 w) rfl f_Md_62 rfl ?_
  refine mm_if_le ok_Md_fault 71 rfl (by decide) (fun c => ?_) (fun c => ?_)
  rotate_left
  · exact absurd (show (0 : Int32) ≤ 0 by decide) c
  refine mm_blk (pc' := 73) ok_Md_fault 2 _ _ _ rfl ?_
  refine mm_cVE ok_Md_fault (As := [.int (nI j)]) rfl k_Md_fault_92 (mp_0 w) rfl rfl rfl (Nat.le_of_ble_eq_true rfl) (c_Md_heal (t := (m_s t 0 0 0)) w (by omega) (hp0 j hj)) ?_
  refine mm_blk (pc' := 77) ok_Md_fault 1 _ _ _ rfl ?_
  refine mm_getf ok_Md_fault (mp_0 w) rfl f_Md_50 rfl ?_
  refine mm_blk (pc' := 82) ok_Md_fault 2 _ _ _ rfl ?_
  refine mm_iast (j := j) ok_Md_fault (mp_16 w) rfl rfl (by omega) (by rw [List.length_map, List.length_range]; exact (by omega)) ?_
  refine mm_V_heap (mu_16 w (by omega) _) ?_
  refine mm_blk (pc' := 85) ok_Md_fault 2 _ _ _ rfl ?_
  refine mm_ic_ge ok_Md_fault 89 rfl (by decide) (fun c => ?_) (fun c => ?_)
  · exact absurd h2 (Int32.not_lt.mpr c)
  exact mm_vret ok_Md_fault rfl rfl ⟨rfl, rfl⟩
set_option maxHeartbeats 1000000 in
theorem c_Md_fault_2 (w : mm_inj mdom K) (ok : m_ok nd nn t) {j i : Nat} (hj : j < nn) (hi : i < nn) (hij : i ≠ j) {k : Int32} (hk : ¬ k < -1) (hk3 : k ≤ 3) (h2 : ¬ k < 2) : mm_C G M_Md_fault [.ref (K 0), .int (nI j), .int k, .int (nI i)] (MP K t h) 0 0 (mm_E none (MP K (m_flt2 t j i k) h)) := by
  have h8 := ok.2.1
  have ok0 := ok_s0 ok (f := 0) (by decide) (by decide) 0
  have hp0 : ∀ i, i < nn → ¬ t 17 i < 0 → m_pt t i < 8 ∧ t 17 i = nI (m_pt t i) := fun i hi z => ⟨by have := ((ok.2.2.2.2.2.2.2.1 i hi).2 z).1; omega, ((ok.2.2.2.2.2.2.2.1 i hi).2 z).2⟩
  have hp2 : ¬ m_flt1 t j k 17 i < 0 → m_pt (m_flt1 t j k) i < 8 ∧ m_flt1 t j k 17 i = nI (m_pt (m_flt1 t j k) i) := by
    have e : m_flt1 t j k 17 i = m_heal (m_s t 0 0 0) j 17 i := by unfold m_flt1; rw [m_s_ne _ _ _ (by decide)]
    unfold m_pt
    rw [e]
    rcases heal_17 (m_s t 0 0 0) j i with z | z
    · rw [z]; intro z2; exact absurd (by decide) z2
    · rw [z]; exact hp0 i hi
  refine mm_C_of (by decide +kernel) rfl (Nat.le_of_ble_eq_true rfl) rfl ?_
  refine mm_blk (pc' := 2) ok_Md_fault 2 _ _ _ rfl ?_
  refine mm_getf ok_Md_fault (mp_0 w) rfl f_Md_89 rfl ?_
  rw [ok.2.2.2.1]
  refine mm_cSE ok_Md_fault (As := [.int (nI j), .int (nI nn)]) rfl k_Md_fault_82 rfl (Nat.le_of_ble_eq_true rfl) (c_Md_outN hj (by have := ok.2.1; omega)) ?_
  refine mm_if_ne ok_Md_fault 46 rfl (by decide) (fun c => ?_) (fun c => ?_)
  · exact absurd rfl c
  refine mm_blk (pc' := 13) ok_Md_fault 2 _ _ _ rfl ?_
  refine mm_ic_lt ok_Md_fault 46 rfl (by decide) (fun c => ?_) (fun c => ?_)
  · exact absurd c hk
  refine mm_blk (pc' := 18) ok_Md_fault 2 _ _ _ rfl ?_
  refine mm_ic_gt ok_Md_fault 46 rfl (by decide) (fun c => ?_) (fun c => ?_)
  · exact absurd hk3 (Int32.not_le.mpr c)
  refine mm_blk (pc' := 23) ok_Md_fault 2 _ _ _ rfl ?_
  refine mm_ic_lt ok_Md_fault 42 rfl (by decide) (fun c => ?_) (fun c => ?_)
  · exact absurd c h2
  refine mm_blk (pc' := 28) ok_Md_fault 2 _ _ _ rfl ?_
  refine mm_getf ok_Md_fault (mp_0 w) rfl f_Md_89 rfl ?_
  rw [ok.2.2.2.1]
  refine mm_cSE ok_Md_fault (As := [.int (nI i), .int (nI nn)]) rfl k_Md_fault_82 rfl (Nat.le_of_ble_eq_true rfl) (c_Md_outN hi (by have := ok.2.1; omega)) ?_
  refine mm_if_ne ok_Md_fault 46 rfl (by decide) (fun c => ?_) (fun c => ?_)
  · exact absurd rfl c
  refine mm_blk (pc' := 39) ok_Md_fault 2 _ _ _ rfl ?_
  refine mm_ic_eq ok_Md_fault 46 rfl (by decide) (fun c => ?_) (fun c => ?_)
  · exact absurd ((nI_eq (by omega) (by omega)).mp c) hij
  refine mm_blk (pc' := 52) ok_Md_fault 5 _ _ _ rfl ?_
  refine mm_if_eq ok_Md_fault 59 rfl (by decide) (fun c => ?_) (fun c => ?_)
  · exact absurd c (by decide)
  refine mm_blk (pc' := 60) ok_Md_fault 2 _ _ _ rfl ?_
  refine mm_putf ok_Md_fault (mp_0 w) rfl f_Md_62 (Or.inl rfl) (mm_fit_I _) ?_
  refine mm_V_heap (mu_0 w 0 _) ?_
  refine mm_blk (pc' := 64) ok_Md_fault 1 _ _ _ rfl ?_
  refine mm_getf ok_Md_fault (mp_0 w) rfl f_Md_62 rfl ?_
  refine mm_if_le ok_Md_fault 71 rfl (by decide) (fun c => ?_) (fun c => ?_)
  rotate_left
  · exact absurd (show (0 : Int32) ≤ 0 by decide) c
  refine mm_blk (pc' := 73) ok_Md_fault 2 _ _ _ rfl ?_
  refine mm_cVE ok_Md_fault (As := [.int (nI j)]) rfl k_Md_fault_92 (mp_0 w) rfl rfl rfl (Nat.le_of_ble_eq_true rfl) (c_Md_heal (t := (m_s t 0 0 0)) w (by omega) (hp0 j hj)) ?_
  refine mm_blk (pc' := 77) ok_Md_fault 1 _ _ _ rfl ?_
  refine mm_getf ok_Md_fault (mp_0 w) rfl f_Md_50 rfl ?_
  refine mm_blk (pc' := 82) ok_Md_fault 2 _ _ _ rfl ?_
  refine mm_iast (j := j) ok_Md_fault (mp_16 w) rfl rfl (by omega) (by rw [List.length_map, List.length_range]; exact (by omega)) ?_
  refine mm_V_heap (mu_16 w (by omega) _) ?_
  refine mm_blk (pc' := 85) ok_Md_fault 2 _ _ _ rfl ?_
  refine mm_ic_ge ok_Md_fault 89 rfl (by decide) (fun c => ?_) (fun c => ?_)
  rotate_left
  · exact absurd (Int32.not_lt.mp h2) c
  refine mm_blk (pc' := 91) ok_Md_fault 2 _ _ _ rfl ?_
  refine mm_cVE ok_Md_fault (As := [.int (nI i)]) rfl k_Md_fault_92 (mp_0 w) rfl rfl rfl (Nat.le_of_ble_eq_true rfl) (c_Md_heal (t := m_flt1 t j k) w (by omega) hp2) ?_
  refine mm_blk (pc' := 95) ok_Md_fault 1 _ _ _ rfl ?_
  refine mm_getf ok_Md_fault (mp_0 w) rfl f_Md_50 rfl ?_
  refine mm_blk (pc' := 100) ok_Md_fault 2 _ _ _ rfl ?_
  refine mm_iast (j := i) ok_Md_fault (mp_16 w) rfl rfl (by omega) (by rw [List.length_map, List.length_range]; exact (by omega)) ?_
  refine mm_V_heap (mu_16 w (by omega) _) ?_
  refine mm_blk (pc' := 102) ok_Md_fault 1 _ _ _ rfl ?_
  refine mm_getf ok_Md_fault (mp_0 w) rfl f_Md_53 rfl ?_
  refine mm_blk (pc' := 107) ok_Md_fault 2 _ _ _ rfl ?_
  refine mm_iast (j := j) ok_Md_fault (mp_17 w) rfl rfl (by omega) (by rw [List.length_map, List.length_range]; exact (by omega)) ?_
  refine mm_V_heap (mu_17 w (by omega) _) ?_
  refine mm_blk (pc' := 109) ok_Md_fault 1 _ _ _ rfl ?_
  refine mm_getf ok_Md_fault (mp_0 w) rfl f_Md_53 rfl ?_
  refine mm_blk (pc' := 114) ok_Md_fault 2 _ _ _ rfl ?_
  refine mm_iast (j := i) ok_Md_fault (mp_17 w) rfl rfl (by omega) (by rw [List.length_map, List.length_range]; exact (by omega)) ?_
  refine mm_V_heap (mu_17 w (by omega) _) ?_
  exact mm_vret ok_Md_fault rfl rfl ⟨rfl, rfl⟩
set_option maxHeartbeats 1000000 in
theorem c_Md_net_x (w : mm_inj mdom K) (ok : m_ok nd nn t) {x c1 y c2 : Int32} (hx : ¬ ∃ d, d < nd ∧ x = nI d ∧ inR c1 (m_cl t d)) : mm_C G M_Md_net [.ref (K 0), .int x, .int c1, .int y, .int c2] (MP K t h) 0 0 (mm_E (some (.int 0)) (MP K (m_s t 0 0 1) h)) := by
  refine mm_C_of (by decide +kernel) rfl (Nat.le_of_ble_eq_true rfl) rfl ?_
  refine mm_blk (pc' := 3) ok_Md_net 3 _ _ _ rfl ?_
  refine mm_cVE ok_Md_net (As := [.int x, .int c1]) rfl k_Md_net_86 (mp_0 w) rfl rfl rfl (Nat.le_of_ble_eq_true rfl) (c_Md_isCell0 w ok hx) ?_
  refine mm_if_eq ok_Md_net 23 rfl (by decide) (fun c => ?_) (fun c => ?_)
  rotate_left
  · exact absurd rfl c
  refine mm_blk (pc' := 45) ok_Md_net 15 _ _ _ rfl ?_
  refine mm_if_eq ok_Md_net 92 rfl (by decide) (fun c => ?_) (fun c => ?_)
  rotate_left
  · exact absurd rfl c
  refine mm_blk (pc' := 98) ok_Md_net 4 _ _ _ rfl ?_
  refine mm_if_ne ok_Md_net 105 rfl (by decide) (fun c => ?_) (fun c => ?_)
  · exact absurd rfl c
  refine mm_blk (pc' := 119) ok_Md_net 2 _ _ _ rfl ?_
  refine mm_putf ok_Md_net (mp_0 w) rfl f_Md_62 (Or.inl rfl) (mm_fit_I _) ?_
  refine mm_V_heap (mu_0 w 0 _) ?_
  refine mm_blk (pc' := 123) ok_Md_net 1 _ _ _ rfl ?_
  refine mm_getf ok_Md_net (mp_0 w) rfl f_Md_62 rfl ?_
  refine mm_if_le ok_Md_net 131 rfl (by decide) (fun c => ?_) (fun c => ?_)
  · exact absurd (show (1 : Int32) ≤ 0 from c) (by decide)
  refine mm_blk (pc' := 130) ok_Md_net 1 _ _ _ rfl ?_
  exact mm_iret ok_Md_net rfl rfl ⟨rfl, rfl⟩
set_option maxHeartbeats 1000000 in
theorem c_Md_net_y (w : mm_inj mdom K) (ok : m_ok nd nn t) {i a : Nat} (hi : i < nd) (ha : a < m_cl t i) {y c2 : Int32} (hy : ¬ ∃ d, d < nd ∧ y = nI d ∧ inR c2 (m_cl t d)) : mm_C G M_Md_net [.ref (K 0), .int (nI i), .int (nI a), .int y, .int c2] (MP K t h) 0 0 (mm_E (some (.int 0)) (MP K (m_s t 0 0 1) h)) := by
  refine mm_C_of (by decide +kernel) rfl (Nat.le_of_ble_eq_true rfl) rfl ?_
  refine mm_blk (pc' := 3) ok_Md_net 3 _ _ _ rfl ?_
  refine mm_cVE ok_Md_net (As := [.int (nI i), .int (nI a)]) rfl k_Md_net_86 (mp_0 w) rfl rfl rfl (Nat.le_of_ble_eq_true rfl) (c_Md_isCell1 w ok hi ha) ?_
  refine mm_if_eq ok_Md_net 23 rfl (by decide) (fun c => ?_) (fun c => ?_)
  · first | exact c (by decide) | exact absurd c (by decide)
  refine mm_blk (pc' := 13) ok_Md_net 3 _ _ _ rfl ?_
  refine mm_cVE ok_Md_net (As := [.int y, .int c2]) rfl k_Md_net_86 (mp_0 w) rfl rfl rfl (Nat.le_of_ble_eq_true rfl) (c_Md_isCell0 w ok hy) ?_
  refine mm_if_eq ok_Md_net 23 rfl (by decide) (fun c => ?_) (fun c => ?_)
  rotate_left
  · exact absurd rfl c
  refine mm_blk (pc' := 45) ok_Md_net 15 _ _ _ rfl ?_
  refine mm_if_eq ok_Md_net 92 rfl (by decide) (fun c => ?_) (fun c => ?_)
  rotate_left
  · exact absurd rfl c
  refine mm_blk (pc' := 98) ok_Md_net 4 _ _ _ rfl ?_
  refine mm_if_ne ok_Md_net 105 rfl (by decide) (fun c => ?_) (fun c => ?_)
  · exact absurd rfl c
  refine mm_blk (pc' := 119) ok_Md_net 2 _ _ _ rfl ?_
  refine mm_putf ok_Md_net (mp_0 w) rfl f_Md_62 (Or.inl rfl) (mm_fit_I _) ?_
  refine mm_V_heap (mu_0 w 0 _) ?_
  refine mm_blk (pc' := 123) ok_Md_net 1 _ _ _ rfl ?_
  refine mm_getf ok_Md_net (mp_0 w) rfl f_Md_62 rfl ?_
  refine mm_if_le ok_Md_net 131 rfl (by decide) (fun c => ?_) (fun c => ?_)
  · exact absurd (show (1 : Int32) ≤ 0 from c) (by decide)
  refine mm_blk (pc' := 130) ok_Md_net 1 _ _ _ rfl ?_
  exact mm_iret ok_Md_net rfl rfl ⟨rfl, rfl⟩
set_option maxHeartbeats 1000000 in
theorem c_Md_net_b (w : mm_inj mdom K) (ok : m_ok nd nn t) {i a j b : Nat} (hi : i < nd) (ha : a < m_cl t i) (hj : j < nd) (hb : b < m_cl t j) (hx : t 10 (6 * i + a) = 0 ∨ ¬ t 10 (6 * j + b) = 0 ∨ ¬ t 13 (6 * i + a) < 0 ∨ ¬ t 13 (6 * j + b) < 0) : mm_C G M_Md_net [.ref (K 0), .int (nI i), .int (nI a), .int (nI j), .int (nI b)] (MP K t h) 0 0 (mm_E (some (.int 0)) (MP K (m_s t 0 0 1) h)) := by
  have h4 := ok.1
  have h8 := ok.2.1
  have a6 := (ok.2.2.2.2.1 i hi).2.1
  have b6 := (ok.2.2.2.2.1 j hj).2.1
  refine mm_C_of (by decide +kernel) rfl (Nat.le_of_ble_eq_true rfl) rfl ?_
  refine mm_blk (pc' := 3) ok_Md_net 3 _ _ _ rfl ?_
  refine mm_cVE ok_Md_net (As := [.int (nI i), .int (nI a)]) rfl k_Md_net_86 (mp_0 w) rfl rfl rfl (Nat.le_of_ble_eq_true rfl) (c_Md_isCell1 w ok hi ha) ?_
  refine mm_if_eq ok_Md_net 23 rfl (by decide) (fun c => ?_) (fun c => ?_)
  · first | exact c (by decide) | exact absurd c (by decide)
  refine mm_blk (pc' := 13) ok_Md_net 3 _ _ _ rfl ?_
  refine mm_cVE ok_Md_net (As := [.int (nI j), .int (nI b)]) rfl k_Md_net_86 (mp_0 w) rfl rfl rfl (Nat.le_of_ble_eq_true rfl) (c_Md_isCell1 w ok hj hb) ?_
  refine mm_if_eq ok_Md_net 23 rfl (by decide) (fun c => ?_) (fun c => ?_)
  · first | exact c (by decide) | exact absurd c (by decide)
  refine mm_blk (pc' := 45) ok_Md_net 16 _ _ _ rfl ?_
  refine mm_if_eq ok_Md_net 92 rfl (by decide) (fun c => ?_) (fun c => ?_)
  · first | exact c (by decide) | exact absurd c (by decide)
  refine mm_blk (pc' := 49) ok_Md_net 1 _ _ _ rfl ?_
  refine mm_getf ok_Md_net (mp_0 w) rfl f_Md_34 rfl ?_
  refine mm_blk (pc' := 54) ok_Md_net 1 _ _ _ rfl ?_
  refine mm_zald (j := 6 * i + a) ok_Md_net (mp_10 w) rfl (ix6 _ _) (by omega) (oIs_get (by omega) _) ?_
  refine mm_if_eq ok_Md_net 92 rfl (by decide) (fun c55 => ?_) (fun c55 => ?_)
  · -- 92 t
    refine mm_blk (pc' := 98) ok_Md_net 4 _ _ _ rfl ?_
    refine mm_if_ne ok_Md_net 105 rfl (by decide) (fun c => ?_) (fun c => ?_)
    · exact absurd rfl c
    refine mm_blk (pc' := 119) ok_Md_net 2 _ _ _ rfl ?_
    refine mm_putf ok_Md_net (mp_0 w) rfl f_Md_62 (Or.inl rfl) (mm_fit_I _) ?_
    refine mm_V_heap (mu_0 w 0 _) ?_
    refine mm_blk (pc' := 123) ok_Md_net 1 _ _ _ rfl ?_
    refine mm_getf ok_Md_net (mp_0 w) rfl f_Md_62 rfl ?_
    refine mm_if_le ok_Md_net 131 rfl (by decide) (fun c => ?_) (fun c => ?_)
    · exact absurd (show (1 : Int32) ≤ 0 from c) (by decide)
    refine mm_blk (pc' := 130) ok_Md_net 1 _ _ _ rfl ?_
    exact mm_iret ok_Md_net rfl rfl ⟨rfl, rfl⟩
  · -- 58 f
    refine mm_blk (pc' := 59) ok_Md_net 1 _ _ _ rfl ?_
    refine mm_getf ok_Md_net (mp_0 w) rfl f_Md_34 rfl ?_
    refine mm_blk (pc' := 64) ok_Md_net 1 _ _ _ rfl ?_
    refine mm_zald (j := 6 * j + b) ok_Md_net (mp_10 w) rfl (ix6 _ _) (by omega) (oIs_get (by omega) _) ?_
    refine mm_if_ne ok_Md_net 92 rfl (by decide) (fun c65 => ?_) (fun c65 => ?_)
    · -- 92 t
      refine mm_blk (pc' := 98) ok_Md_net 4 _ _ _ rfl ?_
      refine mm_if_ne ok_Md_net 105 rfl (by decide) (fun c => ?_) (fun c => ?_)
      · exact absurd rfl c
      refine mm_blk (pc' := 119) ok_Md_net 2 _ _ _ rfl ?_
      refine mm_putf ok_Md_net (mp_0 w) rfl f_Md_62 (Or.inl rfl) (mm_fit_I _) ?_
      refine mm_V_heap (mu_0 w 0 _) ?_
      refine mm_blk (pc' := 123) ok_Md_net 1 _ _ _ rfl ?_
      refine mm_getf ok_Md_net (mp_0 w) rfl f_Md_62 rfl ?_
      refine mm_if_le ok_Md_net 131 rfl (by decide) (fun c => ?_) (fun c => ?_)
      · exact absurd (show (1 : Int32) ≤ 0 from c) (by decide)
      refine mm_blk (pc' := 130) ok_Md_net 1 _ _ _ rfl ?_
      exact mm_iret ok_Md_net rfl rfl ⟨rfl, rfl⟩
    · -- 68 f
      refine mm_blk (pc' := 69) ok_Md_net 1 _ _ _ rfl ?_
      refine mm_getf ok_Md_net (mp_0 w) rfl f_Md_44 rfl ?_
      refine mm_blk (pc' := 74) ok_Md_net 1 _ _ _ rfl ?_
      refine mm_iald (j := 6 * i + a) ok_Md_net (mp_13 w) rfl (ix6 _ _) (by omega) (oIs_get (by omega) _) ?_
      refine mm_if_ge ok_Md_net 92 rfl (by decide) (fun c75 => ?_) (fun c75 => ?_)
      · -- 92 t
        refine mm_blk (pc' := 98) ok_Md_net 4 _ _ _ rfl ?_
        refine mm_if_ne ok_Md_net 105 rfl (by decide) (fun c => ?_) (fun c => ?_)
        · exact absurd rfl c
        refine mm_blk (pc' := 119) ok_Md_net 2 _ _ _ rfl ?_
        refine mm_putf ok_Md_net (mp_0 w) rfl f_Md_62 (Or.inl rfl) (mm_fit_I _) ?_
        refine mm_V_heap (mu_0 w 0 _) ?_
        refine mm_blk (pc' := 123) ok_Md_net 1 _ _ _ rfl ?_
        refine mm_getf ok_Md_net (mp_0 w) rfl f_Md_62 rfl ?_
        refine mm_if_le ok_Md_net 131 rfl (by decide) (fun c => ?_) (fun c => ?_)
        · exact absurd (show (1 : Int32) ≤ 0 from c) (by decide)
        refine mm_blk (pc' := 130) ok_Md_net 1 _ _ _ rfl ?_
        exact mm_iret ok_Md_net rfl rfl ⟨rfl, rfl⟩
      · -- 78 f
        refine mm_blk (pc' := 79) ok_Md_net 1 _ _ _ rfl ?_
        refine mm_getf ok_Md_net (mp_0 w) rfl f_Md_44 rfl ?_
        refine mm_blk (pc' := 84) ok_Md_net 1 _ _ _ rfl ?_
        refine mm_iald (j := 6 * j + b) ok_Md_net (mp_13 w) rfl (ix6 _ _) (by omega) (oIs_get (by omega) _) ?_
        refine mm_if_ge ok_Md_net 92 rfl (by decide) (fun c => ?_) (fun c => ?_)
        rotate_left
        · exfalso; rcases hx with z | z | z | z <;> first | exact c55 z | exact z c65 | exact z (Int32.not_le.mp c75) | exact z (Int32.not_le.mp c)
        refine mm_blk (pc' := 98) ok_Md_net 4 _ _ _ rfl ?_
        refine mm_if_ne ok_Md_net 105 rfl (by decide) (fun c => ?_) (fun c => ?_)
        · exact absurd rfl c
        refine mm_blk (pc' := 119) ok_Md_net 2 _ _ _ rfl ?_
        refine mm_putf ok_Md_net (mp_0 w) rfl f_Md_62 (Or.inl rfl) (mm_fit_I _) ?_
        refine mm_V_heap (mu_0 w 0 _) ?_
        refine mm_blk (pc' := 123) ok_Md_net 1 _ _ _ rfl ?_
        refine mm_getf ok_Md_net (mp_0 w) rfl f_Md_62 rfl ?_
        refine mm_if_le ok_Md_net 131 rfl (by decide) (fun c => ?_) (fun c => ?_)
        · exact absurd (show (1 : Int32) ≤ 0 from c) (by decide)
        refine mm_blk (pc' := 130) ok_Md_net 1 _ _ _ rfl ?_
        exact mm_iret ok_Md_net rfl rfl ⟨rfl, rfl⟩
set_option maxHeartbeats 1000000 in
theorem c_Md_net_f (w : mm_inj mdom K) (ok : m_ok nd nn t) {i a j b : Nat} (hi : i < nd) (ha : a < m_cl t i) (hj : j < nd) (hb : b < m_cl t j) (d1 : ¬ t 10 (6 * i + a) = 0) (d2 : t 10 (6 * j + b) = 0) (d3 : t 13 (6 * i + a) < 0) (d4 : t 13 (6 * j + b) < 0) (hn : ¬ nn < 8) : mm_C G M_Md_net [.ref (K 0), .int (nI i), .int (nI a), .int (nI j), .int (nI b)] (MP K t h) 0 0 (mm_E (some (.int 0)) (MP K (m_s t 0 0 2) h)) := by
  have h4 := ok.1
  have h8 := ok.2.1
  have a6 := (ok.2.2.2.2.1 i hi).2.1
  have b6 := (ok.2.2.2.2.1 j hj).2.1
  refine mm_C_of (by decide +kernel) rfl (Nat.le_of_ble_eq_true rfl) rfl ?_
  refine mm_blk (pc' := 3) ok_Md_net 3 _ _ _ rfl ?_
  refine mm_cVE ok_Md_net (As := [.int (nI i), .int (nI a)]) rfl k_Md_net_86 (mp_0 w) rfl rfl rfl (Nat.le_of_ble_eq_true rfl) (c_Md_isCell1 w ok hi ha) ?_
  refine mm_if_eq ok_Md_net 23 rfl (by decide) (fun c => ?_) (fun c => ?_)
  · first | exact c (by decide) | exact absurd c (by decide)
  refine mm_blk (pc' := 13) ok_Md_net 3 _ _ _ rfl ?_
  refine mm_cVE ok_Md_net (As := [.int (nI j), .int (nI b)]) rfl k_Md_net_86 (mp_0 w) rfl rfl rfl (Nat.le_of_ble_eq_true rfl) (c_Md_isCell1 w ok hj hb) ?_
  refine mm_if_eq ok_Md_net 23 rfl (by decide) (fun c => ?_) (fun c => ?_)
  · first | exact c (by decide) | exact absurd c (by decide)
  refine mm_blk (pc' := 45) ok_Md_net 16 _ _ _ rfl ?_
  refine mm_if_eq ok_Md_net 92 rfl (by decide) (fun c => ?_) (fun c => ?_)
  · first | exact c (by decide) | exact absurd c (by decide)
  refine mm_blk (pc' := 49) ok_Md_net 1 _ _ _ rfl ?_
  refine mm_getf ok_Md_net (mp_0 w) rfl f_Md_34 rfl ?_
  refine mm_blk (pc' := 54) ok_Md_net 1 _ _ _ rfl ?_
  refine mm_zald (j := 6 * i + a) ok_Md_net (mp_10 w) rfl (ix6 _ _) (by omega) (oIs_get (by omega) _) ?_
  refine mm_if_eq ok_Md_net 92 rfl (by decide) (fun c => ?_) (fun c => ?_)
  · exact absurd c d1
  refine mm_blk (pc' := 59) ok_Md_net 1 _ _ _ rfl ?_
  refine mm_getf ok_Md_net (mp_0 w) rfl f_Md_34 rfl ?_
  refine mm_blk (pc' := 64) ok_Md_net 1 _ _ _ rfl ?_
  refine mm_zald (j := 6 * j + b) ok_Md_net (mp_10 w) rfl (ix6 _ _) (by omega) (oIs_get (by omega) _) ?_
  refine mm_if_ne ok_Md_net 92 rfl (by decide) (fun c => ?_) (fun c => ?_)
  · exact absurd d2 c
  refine mm_blk (pc' := 69) ok_Md_net 1 _ _ _ rfl ?_
  refine mm_getf ok_Md_net (mp_0 w) rfl f_Md_44 rfl ?_
  refine mm_blk (pc' := 74) ok_Md_net 1 _ _ _ rfl ?_
  refine mm_iald (j := 6 * i + a) ok_Md_net (mp_13 w) rfl (ix6 _ _) (by omega) (oIs_get (by omega) _) ?_
  refine mm_if_ge ok_Md_net 92 rfl (by decide) (fun c => ?_) (fun c => ?_)
  · exact absurd d3 (Int32.not_lt.mpr c)
  refine mm_blk (pc' := 79) ok_Md_net 1 _ _ _ rfl ?_
  refine mm_getf ok_Md_net (mp_0 w) rfl f_Md_44 rfl ?_
  refine mm_blk (pc' := 84) ok_Md_net 1 _ _ _ rfl ?_
  refine mm_iald (j := 6 * j + b) ok_Md_net (mp_13 w) rfl (ix6 _ _) (by omega) (oIs_get (by omega) _) ?_
  refine mm_if_ge ok_Md_net 92 rfl (by decide) (fun c => ?_) (fun c => ?_)
  · exact absurd d4 (Int32.not_lt.mpr c)
  refine mm_blk (pc' := 98) ok_Md_net 5 _ _ _ rfl ?_
  refine mm_if_ne ok_Md_net 105 rfl (by decide) (fun c => ?_) (fun c => ?_)
  rotate_left
  · exact absurd c (by decide)
  refine mm_blk (pc' := 106) ok_Md_net 1 _ _ _ rfl ?_
  refine mm_getf ok_Md_net (mp_0 w) rfl f_Md_89 rfl ?_
  refine mm_blk (pc' := 111) ok_Md_net 1 _ _ _ rfl ?_
  rw [ok.2.2.2.1]
  refine mm_ic_ne ok_Md_net 118 rfl (by decide) (fun c => ?_) (fun c => ?_)
  · exact absurd (show nI nn = nI 8 by rw [show nn = 8 by omega]) c
  refine mm_blk (pc' := 119) ok_Md_net 2 _ _ _ rfl ?_
  refine mm_putf ok_Md_net (mp_0 w) rfl f_Md_62 (Or.inl rfl) (mm_fit_I _) ?_
  refine mm_V_heap (mu_0 w 0 _) ?_
  refine mm_blk (pc' := 123) ok_Md_net 1 _ _ _ rfl ?_
  refine mm_getf ok_Md_net (mp_0 w) rfl f_Md_62 rfl ?_
  refine mm_if_le ok_Md_net 131 rfl (by decide) (fun c => ?_) (fun c => ?_)
  · exact absurd (show (2 : Int32) ≤ 0 from c) (by decide)
  refine mm_blk (pc' := 130) ok_Md_net 1 _ _ _ rfl ?_
  exact mm_iret ok_Md_net rfl rfl ⟨rfl, rfl⟩
set_option maxHeartbeats 2000000 in
theorem c_Md_net_r (w : mm_inj mdom K) (ok : m_ok nd nn t) {i a j b : Nat} (hi : i < nd) (ha : a < m_cl t i) (hj : j < nd) (hb : b < m_cl t j) (d1 : ¬ t 10 (6 * i + a) = 0) (d2 : t 10 (6 * j + b) = 0) (d3 : t 13 (6 * i + a) < 0) (d4 : t 13 (6 * j + b) < 0) (hn : nn < 8) : mm_C G M_Md_net [.ref (K 0), .int (nI i), .int (nI a), .int (nI j), .int (nI b)] (MP K t h) 0 0 (mm_E (some (.int (nI nn))) (MP K (m_net t nn (6 * i + a) (6 * j + b)) h)) := by
  have h4 := ok.1
  have h8 := ok.2.1
  have a6 := (ok.2.2.2.2.1 i hi).2.1
  have b6 := (ok.2.2.2.2.1 j hj).2.1
  have en := ok.2.2.2.1
  refine mm_C_of (by decide +kernel) rfl (Nat.le_of_ble_eq_true rfl) rfl ?_
  refine mm_blk (pc' := 3) ok_Md_net 3 _ _ _ rfl ?_
  refine mm_cVE ok_Md_net (As := [.int (nI i), .int (nI a)]) rfl k_Md_net_86 (mp_0 w) rfl rfl rfl (Nat.le_of_ble_eq_true rfl) (c_Md_isCell1 w ok hi ha) ?_
  refine mm_if_eq ok_Md_net 23 rfl (by decide) (fun c => ?_) (fun c => ?_)
  · first | exact c (by decide) | exact absurd c (by decide)
  refine mm_blk (pc' := 13) ok_Md_net 3 _ _ _ rfl ?_
  refine mm_cVE ok_Md_net (As := [.int (nI j), .int (nI b)]) rfl k_Md_net_86 (mp_0 w) rfl rfl rfl (Nat.le_of_ble_eq_true rfl) (c_Md_isCell1 w ok hj hb) ?_
  refine mm_if_eq ok_Md_net 23 rfl (by decide) (fun c => ?_) (fun c => ?_)
  · first | exact c (by decide) | exact absurd c (by decide)
  refine mm_blk (pc' := 32) ok_Md_net 8 _ _ _ rfl ?_
  rw [ix6]
  refine mm_blk (pc' := 41) ok_Md_net 6 _ _ _ rfl ?_
  rw [ix6]
  refine mm_blk (pc' := 45) ok_Md_net 2 _ _ _ rfl ?_
  refine mm_if_eq ok_Md_net 92 rfl (by decide) (fun c => ?_) (fun c => ?_)
  · first | exact c (by decide) | exact absurd c (by decide)
  refine mm_blk (pc' := 49) ok_Md_net 1 _ _ _ rfl ?_
  refine mm_getf ok_Md_net (mp_0 w) rfl f_Md_34 rfl ?_
  refine mm_blk (pc' := 54) ok_Md_net 1 _ _ _ rfl ?_
  refine mm_zald (j := 6 * i + a) ok_Md_net (mp_10 w) rfl rfl (by omega) (oIs_get (by omega) _) ?_
  refine mm_if_eq ok_Md_net 92 rfl (by decide) (fun c => ?_) (fun c => ?_)
  · exact absurd c d1
  refine mm_blk (pc' := 59) ok_Md_net 1 _ _ _ rfl ?_
  refine mm_getf ok_Md_net (mp_0 w) rfl f_Md_34 rfl ?_
  refine mm_blk (pc' := 64) ok_Md_net 1 _ _ _ rfl ?_
  refine mm_zald (j := 6 * j + b) ok_Md_net (mp_10 w) rfl rfl (by omega) (oIs_get (by omega) _) ?_
  refine mm_if_ne ok_Md_net 92 rfl (by decide) (fun c => ?_) (fun c => ?_)
  · exact absurd d2 c
  refine mm_blk (pc' := 69) ok_Md_net 1 _ _ _ rfl ?_
  refine mm_getf ok_Md_net (mp_0 w) rfl f_Md_44 rfl ?_
  refine mm_blk (pc' := 74) ok_Md_net 1 _ _ _ rfl ?_
  refine mm_iald (j := 6 * i + a) ok_Md_net (mp_13 w) rfl rfl (by omega) (oIs_get (by omega) _) ?_
  refine mm_if_ge ok_Md_net 92 rfl (by decide) (fun c => ?_) (fun c => ?_)
  · exact absurd d3 (Int32.not_lt.mpr c)
  refine mm_blk (pc' := 79) ok_Md_net 1 _ _ _ rfl ?_
  refine mm_getf ok_Md_net (mp_0 w) rfl f_Md_44 rfl ?_
  refine mm_blk (pc' := 84) ok_Md_net 1 _ _ _ rfl ?_
  refine mm_iald (j := 6 * j + b) ok_Md_net (mp_13 w) rfl rfl (by omega) (oIs_get (by omega) _) ?_
  refine mm_if_ge ok_Md_net 92 rfl (by decide) (fun c => ?_) (fun c => ?_)
  · exact absurd d4 (Int32.not_lt.mpr c)
  refine mm_blk (pc' := 98) ok_Md_net 5 _ _ _ rfl ?_
  refine mm_if_ne ok_Md_net 105 rfl (by decide) (fun c => ?_) (fun c => ?_)
  rotate_left
  · exact absurd c (by decide)
  refine mm_blk (pc' := 106) ok_Md_net 1 _ _ _ rfl ?_
  refine mm_getf ok_Md_net (mp_0 w) rfl f_Md_89 rfl ?_
  refine mm_blk (pc' := 111) ok_Md_net 1 _ _ _ rfl ?_
  rw [en]
  refine mm_ic_ne ok_Md_net 118 rfl (by decide) (fun c => ?_) (fun c => ?_)
  rotate_left
  · exact absurd ((nI_eq (b := 8) (by omega) (by decide)).mp c) (by omega)
  refine mm_blk (pc' := 119) ok_Md_net 1 _ _ _ rfl ?_
  refine mm_putf ok_Md_net (mp_0 w) rfl f_Md_62 (Or.inl rfl) (mm_fit_I _) ?_
  refine mm_V_heap (mu_0 w 0 _) ?_
  refine mm_blk (pc' := 123) ok_Md_net 1 _ _ _ rfl ?_
  refine mm_getf ok_Md_net (mp_0 w) rfl f_Md_62 rfl ?_
  refine mm_if_le ok_Md_net 131 rfl (by decide) (fun c => ?_) (fun c => ?_)
  rotate_left
  · exact absurd (show (0 : Int32) ≤ 0 by decide) c
  refine mm_blk (pc' := 132) ok_Md_net 1 _ _ _ rfl ?_
  refine mm_getf ok_Md_net (mp_0 w) rfl f_Md_44 rfl ?_
  refine mm_blk (pc' := 138) ok_Md_net 2 _ _ _ rfl ?_
  refine mm_getf ok_Md_net (mp_0 w) rfl f_Md_89 rfl ?_
  rw [show m_s t 0 0 0 0 14 = nI nn from en]
  refine mm_iast (j := 6 * i + a) ok_Md_net (mp_13 w) rfl rfl (by omega) (by rw [List.length_map, List.length_range]; exact (by omega)) ?_
  refine mm_V_heap (mu_13 w (by omega) _) ?_
  refine mm_blk (pc' := 143) ok_Md_net 1 _ _ _ rfl ?_
  refine mm_getf ok_Md_net (mp_0 w) rfl f_Md_44 rfl ?_
  refine mm_blk (pc' := 149) ok_Md_net 2 _ _ _ rfl ?_
  refine mm_getf ok_Md_net (mp_0 w) rfl f_Md_89 rfl ?_
  rw [show m_s (m_s t 0 0 0) 13 (6 * i + a) (nI nn) 0 14 = nI nn from en]
  refine mm_iast (j := 6 * j + b) ok_Md_net (mp_13 w) rfl rfl (by omega) (by rw [List.length_map, List.length_range]; exact (by omega)) ?_
  refine mm_V_heap (mu_13 w (by omega) _) ?_
  refine mm_blk (pc' := 154) ok_Md_net 1 _ _ _ rfl ?_
  refine mm_getf ok_Md_net (mp_0 w) rfl f_Md_47 rfl ?_
  refine mm_blk (pc' := 158) ok_Md_net 1 _ _ _ rfl ?_
  refine mm_getf ok_Md_net (mp_0 w) rfl f_Md_89 rfl ?_
  refine mm_blk (pc' := 163) ok_Md_net 1 _ _ _ rfl ?_
  refine mm_iast (j := nn) ok_Md_net (mp_15 w) rfl en (by omega) (by rw [List.length_map, List.length_range]; exact (by omega)) ?_
  refine mm_V_heap (mu_15 w (by omega) _) ?_
  refine mm_blk (pc' := 165) ok_Md_net 1 _ _ _ rfl ?_
  refine mm_getf ok_Md_net (mp_0 w) rfl f_Md_50 rfl ?_
  refine mm_blk (pc' := 169) ok_Md_net 1 _ _ _ rfl ?_
  refine mm_getf ok_Md_net (mp_0 w) rfl f_Md_89 rfl ?_
  refine mm_blk (pc' := 173) ok_Md_net 1 _ _ _ rfl ?_
  refine mm_iast (j := nn) ok_Md_net (mp_16 w) rfl en (by omega) (by rw [List.length_map, List.length_range]; exact (by omega)) ?_
  refine mm_V_heap (mu_16 w (by omega) _) ?_
  refine mm_blk (pc' := 175) ok_Md_net 1 _ _ _ rfl ?_
  refine mm_getf ok_Md_net (mp_0 w) rfl f_Md_53 rfl ?_
  refine mm_blk (pc' := 179) ok_Md_net 1 _ _ _ rfl ?_
  refine mm_getf ok_Md_net (mp_0 w) rfl f_Md_89 rfl ?_
  refine mm_blk (pc' := 183) ok_Md_net 1 _ _ _ rfl ?_
  refine mm_iast (j := nn) ok_Md_net (mp_17 w) rfl en (by omega) (by rw [List.length_map, List.length_range]; exact (by omega)) ?_
  refine mm_V_heap (mu_17 w (by omega) _) ?_
  refine mm_blk (pc' := 185) ok_Md_net 1 _ _ _ rfl ?_
  refine mm_getf ok_Md_net (mp_0 w) rfl f_Md_56 rfl ?_
  refine mm_blk (pc' := 189) ok_Md_net 1 _ _ _ rfl ?_
  refine mm_getf ok_Md_net (mp_0 w) rfl f_Md_89 rfl ?_
  refine mm_blk (pc' := 193) ok_Md_net 1 _ _ _ rfl ?_
  refine mm_iast (j := nn) ok_Md_net (mp_18 w) rfl en (by omega) (by rw [List.length_map, List.length_range]; exact (by omega)) ?_
  refine mm_V_heap (mu_18 w (by omega) _) ?_
  refine mm_blk (pc' := 196) ok_Md_net 2 _ _ _ rfl ?_
  refine mm_getf ok_Md_net (mp_0 w) rfl f_Md_89 rfl ?_
  refine mm_blk (pc' := 201) ok_Md_net 2 _ _ _ rfl ?_
  rw [show m_s (m_s (m_s (m_s (m_s (m_s (m_s t 0 0 0) 13 (6 * i + a) (nI nn)) 13 (6 * j + b) (nI nn)) 15 nn (nI (6 * i + a))) 16 nn (-1)) 17 nn (-1)) 18 nn 0 0 14 = nI nn from en, nI_1]
  refine mm_putf ok_Md_net (mp_0 w) rfl f_Md_89 (Or.inl rfl) (mm_fit_I _) ?_
  refine mm_V_heap (mu_0 w 14 (nI (nn + 1))) ?_
  refine mm_blk (pc' := 206) ok_Md_net 2 _ _ _ rfl ?_
  refine mm_putf ok_Md_net (mp_0 w) rfl f_Md_78 (Or.inl rfl) mm_fit_Z0 ?_
  refine mm_V_heap (mu_0 w 23 (0)) ?_
  refine mm_blk (pc' := 210) ok_Md_net 1 _ _ _ rfl ?_
  refine mm_getf ok_Md_net (mp_0 w) rfl f_Md_89 rfl ?_
  refine mm_blk (pc' := 215) ok_Md_net 2 _ _ _ rfl ?_
  rw [show m_s (m_s (m_s (m_s (m_s (m_s (m_s (m_s (m_s t 0 0 0) 13 (6 * i + a) (nI nn)) 13 (6 * j + b) (nI nn)) 15 nn (nI (6 * i + a))) 16 nn (-1)) 17 nn (-1)) 18 nn 0) 0 14 (nI (nn + 1))) 0 23 0 0 14 = nI (nn + 1) from rfl, nI_pred]
  exact mm_iret ok_Md_net rfl rfl ⟨rfl, rfl⟩
set_option maxHeartbeats 1000000 in
theorem c_Md_device_x (w : mm_inj mdom K) {b id cl dr : Int32} (hb : (b < 2 ∨ 4 < b ∨ id - id / 2 * 2 = 0 ∨ id = -1 ∨ cl < 1 ∨ 6 < cl)) : mm_C G M_Md_device [.ref (K 0), .int b, .int id, .int cl, .int dr] (MP K t h) 0 0 (mm_E (some (.int 0)) (MP K (m_s t 0 0 1) h)) := by
  refine mm_C_of (by decide +kernel) rfl (Nat.le_of_ble_eq_true rfl) rfl ?_
  refine mm_blk (pc' := 2) ok_Md_device 2 _ _ _ rfl ?_
  refine mm_ic_lt ok_Md_device 36 rfl (by decide) (fun c2 => ?_) (fun c2 => ?_)
  · -- 36 t
    refine mm_blk (pc' := 42) ok_Md_device 4 _ _ _ rfl ?_
    refine mm_if_ne ok_Md_device 49 rfl (by decide) (fun c => ?_) (fun c => ?_)
    · exact absurd rfl c
    refine mm_blk (pc' := 62) ok_Md_device 2 _ _ _ rfl ?_
    refine mm_putf ok_Md_device (mp_0 w) rfl f_Md_62 (Or.inl rfl) (mm_fit_I _) ?_
    refine mm_V_heap (mu_0 w 0 _) ?_
    refine mm_blk (pc' := 66) ok_Md_device 1 _ _ _ rfl ?_
    refine mm_getf ok_Md_device (mp_0 w) rfl f_Md_62 rfl ?_
    refine mm_if_le ok_Md_device 74 rfl (by decide) (fun c => ?_) (fun c => ?_)
    · exact absurd (show (1 : Int32) ≤ 0 from c) (by decide)
    refine mm_blk (pc' := 73) ok_Md_device 1 _ _ _ rfl ?_
    exact mm_iret ok_Md_device rfl rfl ⟨rfl, rfl⟩
  · -- 5 f
    refine mm_blk (pc' := 7) ok_Md_device 2 _ _ _ rfl ?_
    refine mm_ic_gt ok_Md_device 36 rfl (by decide) (fun c7 => ?_) (fun c7 => ?_)
    · -- 36 t
      refine mm_blk (pc' := 42) ok_Md_device 4 _ _ _ rfl ?_
      refine mm_if_ne ok_Md_device 49 rfl (by decide) (fun c => ?_) (fun c => ?_)
      · exact absurd rfl c
      refine mm_blk (pc' := 62) ok_Md_device 2 _ _ _ rfl ?_
      refine mm_putf ok_Md_device (mp_0 w) rfl f_Md_62 (Or.inl rfl) (mm_fit_I _) ?_
      refine mm_V_heap (mu_0 w 0 _) ?_
      refine mm_blk (pc' := 66) ok_Md_device 1 _ _ _ rfl ?_
      refine mm_getf ok_Md_device (mp_0 w) rfl f_Md_62 rfl ?_
      refine mm_if_le ok_Md_device 74 rfl (by decide) (fun c => ?_) (fun c => ?_)
      · exact absurd (show (1 : Int32) ≤ 0 from c) (by decide)
      refine mm_blk (pc' := 73) ok_Md_device 1 _ _ _ rfl ?_
      exact mm_iret ok_Md_device rfl rfl ⟨rfl, rfl⟩
    · -- 10 f
      refine mm_blk (pc' := 12) ok_Md_device 2 _ _ _ rfl ?_
      refine mm_irem ok_Md_device rfl (by decide) ?_
      refine mm_if_eq ok_Md_device 36 rfl (by decide) (fun c13 => ?_) (fun c13 => ?_)
      · -- 36 t
        refine mm_blk (pc' := 42) ok_Md_device 4 _ _ _ rfl ?_
        refine mm_if_ne ok_Md_device 49 rfl (by decide) (fun c => ?_) (fun c => ?_)
        · exact absurd rfl c
        refine mm_blk (pc' := 62) ok_Md_device 2 _ _ _ rfl ?_
        refine mm_putf ok_Md_device (mp_0 w) rfl f_Md_62 (Or.inl rfl) (mm_fit_I _) ?_
        refine mm_V_heap (mu_0 w 0 _) ?_
        refine mm_blk (pc' := 66) ok_Md_device 1 _ _ _ rfl ?_
        refine mm_getf ok_Md_device (mp_0 w) rfl f_Md_62 rfl ?_
        refine mm_if_le ok_Md_device 74 rfl (by decide) (fun c => ?_) (fun c => ?_)
        · exact absurd (show (1 : Int32) ≤ 0 from c) (by decide)
        refine mm_blk (pc' := 73) ok_Md_device 1 _ _ _ rfl ?_
        exact mm_iret ok_Md_device rfl rfl ⟨rfl, rfl⟩
      · -- 16 f
        refine mm_blk (pc' := 18) ok_Md_device 2 _ _ _ rfl ?_
        refine mm_ic_eq ok_Md_device 36 rfl (by decide) (fun c18 => ?_) (fun c18 => ?_)
        · -- 36 t
          refine mm_blk (pc' := 42) ok_Md_device 4 _ _ _ rfl ?_
          refine mm_if_ne ok_Md_device 49 rfl (by decide) (fun c => ?_) (fun c => ?_)
          · exact absurd rfl c
          refine mm_blk (pc' := 62) ok_Md_device 2 _ _ _ rfl ?_
          refine mm_putf ok_Md_device (mp_0 w) rfl f_Md_62 (Or.inl rfl) (mm_fit_I _) ?_
          refine mm_V_heap (mu_0 w 0 _) ?_
          refine mm_blk (pc' := 66) ok_Md_device 1 _ _ _ rfl ?_
          refine mm_getf ok_Md_device (mp_0 w) rfl f_Md_62 rfl ?_
          refine mm_if_le ok_Md_device 74 rfl (by decide) (fun c => ?_) (fun c => ?_)
          · exact absurd (show (1 : Int32) ≤ 0 from c) (by decide)
          refine mm_blk (pc' := 73) ok_Md_device 1 _ _ _ rfl ?_
          exact mm_iret ok_Md_device rfl rfl ⟨rfl, rfl⟩
        · -- 21 f
          refine mm_blk (pc' := 23) ok_Md_device 2 _ _ _ rfl ?_
          refine mm_ic_lt ok_Md_device 36 rfl (by decide) (fun c23 => ?_) (fun c23 => ?_)
          · -- 36 t
            refine mm_blk (pc' := 42) ok_Md_device 4 _ _ _ rfl ?_
            refine mm_if_ne ok_Md_device 49 rfl (by decide) (fun c => ?_) (fun c => ?_)
            · exact absurd rfl c
            refine mm_blk (pc' := 62) ok_Md_device 2 _ _ _ rfl ?_
            refine mm_putf ok_Md_device (mp_0 w) rfl f_Md_62 (Or.inl rfl) (mm_fit_I _) ?_
            refine mm_V_heap (mu_0 w 0 _) ?_
            refine mm_blk (pc' := 66) ok_Md_device 1 _ _ _ rfl ?_
            refine mm_getf ok_Md_device (mp_0 w) rfl f_Md_62 rfl ?_
            refine mm_if_le ok_Md_device 74 rfl (by decide) (fun c => ?_) (fun c => ?_)
            · exact absurd (show (1 : Int32) ≤ 0 from c) (by decide)
            refine mm_blk (pc' := 73) ok_Md_device 1 _ _ _ rfl ?_
            exact mm_iret ok_Md_device rfl rfl ⟨rfl, rfl⟩
          · -- 26 f
            refine mm_blk (pc' := 29) ok_Md_device 2 _ _ _ rfl ?_
            refine mm_ic_gt ok_Md_device 36 rfl (by decide) (fun c => ?_) (fun c => ?_)
            rotate_left
            · exfalso; rcases hb with z | z | z | z | z | z <;> contradiction
            refine mm_blk (pc' := 42) ok_Md_device 4 _ _ _ rfl ?_
            refine mm_if_ne ok_Md_device 49 rfl (by decide) (fun c => ?_) (fun c => ?_)
            · exact absurd rfl c
            refine mm_blk (pc' := 62) ok_Md_device 2 _ _ _ rfl ?_
            refine mm_putf ok_Md_device (mp_0 w) rfl f_Md_62 (Or.inl rfl) (mm_fit_I _) ?_
            refine mm_V_heap (mu_0 w 0 _) ?_
            refine mm_blk (pc' := 66) ok_Md_device 1 _ _ _ rfl ?_
            refine mm_getf ok_Md_device (mp_0 w) rfl f_Md_62 rfl ?_
            refine mm_if_le ok_Md_device 74 rfl (by decide) (fun c => ?_) (fun c => ?_)
            · exact absurd (show (1 : Int32) ≤ 0 from c) (by decide)
            refine mm_blk (pc' := 73) ok_Md_device 1 _ _ _ rfl ?_
            exact mm_iret ok_Md_device rfl rfl ⟨rfl, rfl⟩
set_option maxHeartbeats 1000000 in
theorem c_Md_device_y (w : mm_inj mdom K) (ok : m_ok nd nn t) {b id cl dr : Int32} (hb : ¬ (b < 2 ∨ 4 < b ∨ id - id / 2 * 2 = 0 ∨ id = -1 ∨ cl < 1 ∨ 6 < cl)) (hn : ¬ nd < 4) : mm_C G M_Md_device [.ref (K 0), .int b, .int id, .int cl, .int dr] (MP K t h) 0 0 (mm_E (some (.int 0)) (MP K (m_s t 0 0 2) h)) := by
  have h4 := ok.1
  refine mm_C_of (by decide +kernel) rfl (Nat.le_of_ble_eq_true rfl) rfl ?_
  refine mm_blk (pc' := 2) ok_Md_device 2 _ _ _ rfl ?_
  refine mm_ic_lt ok_Md_device 36 rfl (by decide) (fun c => ?_) (fun c => ?_)
  · exact absurd (Or.inl c) hb
  refine mm_blk (pc' := 7) ok_Md_device 2 _ _ _ rfl ?_
  refine mm_ic_gt ok_Md_device 36 rfl (by decide) (fun c => ?_) (fun c => ?_)
  · exact absurd (Or.inr (Or.inl c)) hb
  refine mm_blk (pc' := 12) ok_Md_device 2 _ _ _ rfl ?_
  refine mm_irem ok_Md_device rfl (by decide) ?_
  refine mm_if_eq ok_Md_device 36 rfl (by decide) (fun c => ?_) (fun c => ?_)
  · exact absurd (Or.inr (Or.inr (Or.inl c))) hb
  refine mm_blk (pc' := 18) ok_Md_device 2 _ _ _ rfl ?_
  refine mm_ic_eq ok_Md_device 36 rfl (by decide) (fun c => ?_) (fun c => ?_)
  · exact absurd (Or.inr (Or.inr (Or.inr (Or.inl c)))) hb
  refine mm_blk (pc' := 23) ok_Md_device 2 _ _ _ rfl ?_
  refine mm_ic_lt ok_Md_device 36 rfl (by decide) (fun c => ?_) (fun c => ?_)
  · exact absurd (Or.inr (Or.inr (Or.inr (Or.inr (Or.inl c))))) hb
  refine mm_blk (pc' := 29) ok_Md_device 2 _ _ _ rfl ?_
  refine mm_ic_gt ok_Md_device 36 rfl (by decide) (fun c => ?_) (fun c => ?_)
  · exact absurd (Or.inr (Or.inr (Or.inr (Or.inr (Or.inr c))))) hb
  refine mm_blk (pc' := 42) ok_Md_device 5 _ _ _ rfl ?_
  refine mm_if_ne ok_Md_device 49 rfl (by decide) (fun c => ?_) (fun c => ?_)
  rotate_left
  · exact absurd c (by decide)
  refine mm_blk (pc' := 50) ok_Md_device 1 _ _ _ rfl ?_
  refine mm_getf ok_Md_device (mp_0 w) rfl f_Md_66 rfl ?_
  refine mm_blk (pc' := 54) ok_Md_device 1 _ _ _ rfl ?_
  rw [ok.2.2.1]
  refine mm_ic_ne ok_Md_device 61 rfl (by decide) (fun c => ?_) (fun c => ?_)
  · exact absurd (show nI nd = nI 4 by rw [show nd = 4 by omega]) c
  refine mm_blk (pc' := 62) ok_Md_device 2 _ _ _ rfl ?_
  refine mm_putf ok_Md_device (mp_0 w) rfl f_Md_62 (Or.inl rfl) (mm_fit_I _) ?_
  refine mm_V_heap (mu_0 w 0 _) ?_
  refine mm_blk (pc' := 66) ok_Md_device 1 _ _ _ rfl ?_
  refine mm_getf ok_Md_device (mp_0 w) rfl f_Md_62 rfl ?_
  refine mm_if_le ok_Md_device 74 rfl (by decide) (fun c => ?_) (fun c => ?_)
  · exact absurd (show (2 : Int32) ≤ 0 from c) (by decide)
  refine mm_blk (pc' := 73) ok_Md_device 1 _ _ _ rfl ?_
  exact mm_iret ok_Md_device rfl rfl ⟨rfl, rfl⟩
set_option maxHeartbeats 1000000 in
theorem l_Md_dev1 (w : mm_inj mdom K) {b id dr g : Int32} {d cl : Nat} (hd : d < 4) (hc : cl ≤ 6) : ∀ (n i : Nat) (t : mS), i + n = cl → mm_V G M_Md_device 162 [(0, .ref (K 0)), (1, .int b), (2, .int id), (3, .int (nI cl)), (4, .int dr), (5, .int g), (6, .int (nI d)), (7, .int (nI cl))] [] (MP K (m_dv1 d dr n i t) h) 0 0 Q → mm_V G M_Md_device 107 [(0, .ref (K 0)), (1, .int b), (2, .int id), (3, .int (nI cl)), (4, .int dr), (5, .int g), (6, .int (nI d)), (7, .int (nI i))] [] (MP K t h) 0 0 Q := by
  intro n
  induction n with
  | zero =>
    intro i t hi kk
    refine mm_blk (pc' := 110) ok_Md_device 2 _ _ _ rfl ?_
    refine mm_ic_ge ok_Md_device 162 rfl (by decide) (fun c => ?_) (fun c => ?_)
    rotate_left
    · exact absurd (nI_le (by omega) (by omega)) c
    rw [show i = cl by omega]
    exact kk
  | succ n ih =>
    intro i t hi kk
    refine mm_blk (pc' := 110) ok_Md_device 2 _ _ _ rfl ?_
    refine mm_ic_ge ok_Md_device 162 rfl (by decide) (fun c => ?_) (fun c => ?_)
    · exact absurd c (nI_ge (by omega) (by omega))
    refine mm_blk (pc' := 114) ok_Md_device 1 _ _ _ rfl ?_
    refine mm_getf ok_Md_device (mp_0 w) rfl f_Md_34 rfl ?_
    refine mm_blk (pc' := 133) ok_Md_device 11 _ _ _ rfl ?_
    refine mm_tc_ne ok_Md_device 140 rfl (by decide) rfl rfl rfl (by decide) ?_
    refine mm_zast (j := 6 * d + i) ok_Md_device (mp_10 w) rfl (ix6 _ _) (by omega) (by rw [List.length_map, List.length_range]; exact (by omega)) mm_nb ?_
    refine mm_V_heap (mu_10 w (by omega) _) ?_
    refine mm_blk (pc' := 143) ok_Md_device 1 _ _ _ rfl ?_
    refine mm_getf ok_Md_device (mp_0 w) rfl f_Md_44 rfl ?_
    refine mm_blk (pc' := 155) ok_Md_device 6 _ _ _ rfl ?_
    refine mm_iast (j := 6 * d + i) ok_Md_device (mp_13 w) rfl (ix6 _ _) (by omega) (by rw [List.length_map, List.length_range]; exact (by omega)) ?_
    refine mm_V_heap (mu_13 w (by omega) _) ?_
    refine mm_blk (pc' := 107) ok_Md_device 2 _ _ _ rfl ?_
    rw [nI_1]
    exact ih (i + 1) _ (by omega) kk
set_option maxHeartbeats 1000000 in
theorem l_Md_dev2 (w : mm_inj mdom K) {b id dr g : Int32} {d cl : Nat}  : ∀ (n i : Nat) (t : mS), i + n = 24 → mm_V G M_Md_device 204 [(0, .ref (K 0)), (1, .int b), (2, .int id), (3, .int (nI cl)), (4, .int dr), (5, .int g), (6, .int (nI d)), (7, .int (nI 24))] [] (MP K (m_dv2 n i t) h) 0 0 Q → mm_V G M_Md_device 175 [(0, .ref (K 0)), (1, .int b), (2, .int id), (3, .int (nI cl)), (4, .int dr), (5, .int g), (6, .int (nI d)), (7, .int (nI i))] [] (MP K t h) 0 0 Q := by
  intro n
  induction n with
  | zero =>
    intro i t hi kk
    refine mm_blk (pc' := 179) ok_Md_device 2 _ _ _ rfl ?_
    refine mm_ic_ge ok_Md_device 204 rfl (by decide) (fun c => ?_) (fun c => ?_)
    rotate_left
    · exact absurd (show nI 24 ≤ nI i from nI_le (by omega) (by omega)) c
    rw [show i = 24 by omega]
    exact kk
  | succ n ih =>
    intro i t hi kk
    refine mm_blk (pc' := 179) ok_Md_device 2 _ _ _ rfl ?_
    refine mm_ic_ge ok_Md_device 204 rfl (by decide) (fun c => ?_) (fun c => ?_)
    · exact absurd c (show ¬ nI 24 ≤ nI i from nI_ge (by omega) (by omega))
    refine mm_blk (pc' := 183) ok_Md_device 1 _ _ _ rfl ?_
    refine mm_getf ok_Md_device (mp_0 w) rfl f_Md_38 rfl ?_
    refine mm_blk (pc' := 189) ok_Md_device 2 _ _ _ rfl ?_
    refine mm_iast (j := i) ok_Md_device (mp_11 w) rfl rfl (by omega) (by rw [List.length_map, List.length_range]; exact (by omega)) ?_
    refine mm_V_heap (mu_11 w (by omega) _) ?_
    refine mm_blk (pc' := 191) ok_Md_device 1 _ _ _ rfl ?_
    refine mm_getf ok_Md_device (mp_0 w) rfl f_Md_41 rfl ?_
    refine mm_blk (pc' := 197) ok_Md_device 2 _ _ _ rfl ?_
    refine mm_iast (j := i) ok_Md_device (mp_12 w) rfl rfl (by omega) (by rw [List.length_map, List.length_range]; exact (by omega)) ?_
    refine mm_V_heap (mu_12 w (by omega) _) ?_
    refine mm_blk (pc' := 175) ok_Md_device 2 _ _ _ rfl ?_
    rw [nI_1]
    exact ih (i + 1) _ (by omega) kk
set_option maxHeartbeats 1000000 in
theorem l_Md_dev3 (w : mm_inj mdom K) {b id dr g : Int32} {d cl : Nat} {m : Nat} (hm : m ≤ 4) : ∀ (n i : Nat) (t : mS), t 0 1 = nI m → i + n = m → mm_V G M_Md_device 230 [(0, .ref (K 0)), (1, .int b), (2, .int id), (3, .int (nI cl)), (4, .int dr), (5, .int g), (6, .int (nI d)), (7, .int (nI m))] [] (MP K (up (fun d t => m_s t 5 d 1) n i t) h) 0 0 Q → mm_V G M_Md_device 207 [(0, .ref (K 0)), (1, .int b), (2, .int id), (3, .int (nI cl)), (4, .int dr), (5, .int g), (6, .int (nI d)), (7, .int (nI i))] [] (MP K t h) 0 0 Q := by
  intro n
  induction n with
  | zero =>
    intro i t hz hi kk
    refine mm_blk (pc' := 210) ok_Md_device 2 _ _ _ rfl ?_
    refine mm_getf ok_Md_device (mp_0 w) rfl f_Md_66 rfl ?_
    rw [hz]
    refine mm_ic_ge ok_Md_device 230 rfl (by decide) (fun c => ?_) (fun c => ?_)
    rotate_left
    · exact absurd (nI_le (by omega) (by omega)) c
    rw [show i = m by omega]
    exact kk
  | succ n ih =>
    intro i t hz hi kk
    refine mm_blk (pc' := 210) ok_Md_device 2 _ _ _ rfl ?_
    refine mm_getf ok_Md_device (mp_0 w) rfl f_Md_66 rfl ?_
    rw [hz]
    refine mm_ic_ge ok_Md_device 230 rfl (by decide) (fun c => ?_) (fun c => ?_)
    · exact absurd c (nI_ge (by omega) (by omega))
    refine mm_blk (pc' := 217) ok_Md_device 1 _ _ _ rfl ?_
    refine mm_getf ok_Md_device (mp_0 w) rfl f_Md_19 rfl ?_
    refine mm_blk (pc' := 223) ok_Md_device 2 _ _ _ rfl ?_
    refine mm_iast (j := i) ok_Md_device (mp_5 w) rfl rfl (by omega) (by rw [List.length_map, List.length_range]; exact (by omega)) ?_
    refine mm_V_heap (mu_5 w (by omega) _) ?_
    refine mm_blk (pc' := 207) ok_Md_device 2 _ _ _ rfl ?_
    rw [nI_1]
    exact ih (i + 1) (m_s t 5 i 1) hz (by omega) kk
set_option maxHeartbeats 4000000 in
theorem c_Md_device_r (w : mm_inj mdom K) (ok : m_ok nd nn t) {b id dr : Int32} {cl : Nat} (hcl : cl ≤ 6) (hb : ¬ (b < 2 ∨ 4 < b ∨ id - id / 2 * 2 = 0 ∨ id = -1 ∨ nI cl < 1 ∨ 6 < nI cl)) (hn : nd < 4) : mm_C G M_Md_device [.ref (K 0), .int b, .int id, .int (nI cl), .int dr] (MP K t h) 0 0 (mm_E (some (.int (nI nd))) (MP K (m_dev t nd b id cl dr) h)) := by
  have en := ok.2.2.1
  refine mm_C_of (by decide +kernel) rfl (Nat.le_of_ble_eq_true rfl) rfl ?_
  refine mm_blk (pc' := 2) ok_Md_device 2 _ _ _ rfl ?_
  refine mm_ic_lt ok_Md_device 36 rfl (by decide) (fun c => ?_) (fun c => ?_)
  · exact absurd (Or.inl c) hb
  refine mm_blk (pc' := 7) ok_Md_device 2 _ _ _ rfl ?_
  refine mm_ic_gt ok_Md_device 36 rfl (by decide) (fun c => ?_) (fun c => ?_)
  · exact absurd (Or.inr (Or.inl c)) hb
  refine mm_blk (pc' := 12) ok_Md_device 2 _ _ _ rfl ?_
  refine mm_irem ok_Md_device rfl (by decide) ?_
  refine mm_if_eq ok_Md_device 36 rfl (by decide) (fun c => ?_) (fun c => ?_)
  · exact absurd (Or.inr (Or.inr (Or.inl c))) hb
  refine mm_blk (pc' := 18) ok_Md_device 2 _ _ _ rfl ?_
  refine mm_ic_eq ok_Md_device 36 rfl (by decide) (fun c => ?_) (fun c => ?_)
  · exact absurd (Or.inr (Or.inr (Or.inr (Or.inl c)))) hb
  refine mm_blk (pc' := 23) ok_Md_device 2 _ _ _ rfl ?_
  refine mm_ic_lt ok_Md_device 36 rfl (by decide) (fun c => ?_) (fun c => ?_)
  · exact absurd (Or.inr (Or.inr (Or.inr (Or.inr (Or.inl c))))) hb
  refine mm_blk (pc' := 29) ok_Md_device 2 _ _ _ rfl ?_
  refine mm_ic_gt ok_Md_device 36 rfl (by decide) (fun c => ?_) (fun c => ?_)
  · exact absurd (Or.inr (Or.inr (Or.inr (Or.inr (Or.inr c))))) hb
  refine mm_blk (pc' := 42) ok_Md_device 5 _ _ _ rfl ?_
  refine mm_if_ne ok_Md_device 49 rfl (by decide) (fun c => ?_) (fun c => ?_)
  rotate_left
  · exact absurd c (by decide)
  refine mm_blk (pc' := 50) ok_Md_device 1 _ _ _ rfl ?_
  refine mm_getf ok_Md_device (mp_0 w) rfl f_Md_66 rfl ?_
  refine mm_blk (pc' := 54) ok_Md_device 1 _ _ _ rfl ?_
  rw [en]
  refine mm_ic_ne ok_Md_device 61 rfl (by decide) (fun c => ?_) (fun c => ?_)
  rotate_left
  · exact absurd ((nI_eq (b := 4) (by omega) (by decide)).mp c) (by omega)
  refine mm_blk (pc' := 62) ok_Md_device 1 _ _ _ rfl ?_
  refine mm_putf ok_Md_device (mp_0 w) rfl f_Md_62 (Or.inl rfl) (mm_fit_I _) ?_
  refine mm_V_heap (mu_0 w 0 _) ?_
  refine mm_blk (pc' := 66) ok_Md_device 1 _ _ _ rfl ?_
  refine mm_getf ok_Md_device (mp_0 w) rfl f_Md_62 rfl ?_
  refine mm_if_le ok_Md_device 74 rfl (by decide) (fun c => ?_) (fun c => ?_)
  rotate_left
  · exact absurd (show (0 : Int32) ≤ 0 by decide) c
  refine mm_blk (pc' := 75) ok_Md_device 1 _ _ _ rfl ?_
  refine mm_getf ok_Md_device (mp_0 w) rfl f_Md_66 rfl ?_
  rw [show m_s t 0 0 0 0 1 = nI nd from en]
  refine mm_blk (pc' := 81) ok_Md_device 2 _ _ _ rfl ?_
  refine mm_getf ok_Md_device (mp_0 w) rfl f_Md_7 rfl ?_
  refine mm_blk (pc' := 87) ok_Md_device 2 _ _ _ rfl ?_
  refine mm_iast (j := nd) ok_Md_device (mp_2 w) rfl rfl (by omega) (by rw [List.length_map, List.length_range]; exact (by omega)) ?_
  refine mm_V_heap (mu_2 w (by omega) _) ?_
  refine mm_blk (pc' := 89) ok_Md_device 1 _ _ _ rfl ?_
  refine mm_getf ok_Md_device (mp_0 w) rfl f_Md_13 rfl ?_
  refine mm_blk (pc' := 95) ok_Md_device 2 _ _ _ rfl ?_
  refine mm_iast (j := nd) ok_Md_device (mp_3 w) rfl rfl (by omega) (by rw [List.length_map, List.length_range]; exact (by omega)) ?_
  refine mm_V_heap (mu_3 w (by omega) _) ?_
  refine mm_blk (pc' := 97) ok_Md_device 1 _ _ _ rfl ?_
  refine mm_getf ok_Md_device (mp_0 w) rfl f_Md_16 rfl ?_
  refine mm_blk (pc' := 103) ok_Md_device 2 _ _ _ rfl ?_
  refine mm_iast (j := nd) ok_Md_device (mp_4 w) rfl rfl (by omega) (by rw [List.length_map, List.length_range]; exact (by omega)) ?_
  refine mm_V_heap (mu_4 w (by omega) _) ?_
  refine mm_blk (pc' := 107) ok_Md_device 2 _ _ _ rfl ?_
  refine l_Md_dev1 (d := nd) w hn hcl cl 0 _ (by omega) ?_
  obtain ⟨t1, ht1⟩ : ∃ t1, t1 = m_dv1 nd dr cl 0 (m_dvA t nd b id cl) := ⟨_, rfl⟩
  have e1 : t1 0 1 = nI nd := by
    rw [ht1]
    have e0 : m_dv1 nd dr cl 0 (m_dvA t nd b id cl) 0 = m_dvA t nd b id cl 0 := by
      refine up_0 ?_ _ _ _
      intro _ _; rfl
    rw [e0]; exact en
  unfold m_dev
  rw [← ht1]
  refine mm_V_heap (show MP K (m_dv1 nd dr cl 0 _) h = MP K t1 h by rw [ht1]; rfl) ?_
  refine mm_blk (pc' := 164) ok_Md_device 2 _ _ _ rfl ?_
  refine mm_getf ok_Md_device (mp_0 w) rfl f_Md_66 rfl ?_
  refine mm_blk (pc' := 169) ok_Md_device 2 _ _ _ rfl ?_
  rw [e1, nI_1]
  refine mm_putf ok_Md_device (mp_0 w) rfl f_Md_66 (Or.inl rfl) (mm_fit_I _) ?_
  refine mm_V_heap (mu_0 w 1 (nI (nd + 1))) ?_
  refine mm_blk (pc' := 175) ok_Md_device 2 _ _ _ rfl ?_
  obtain ⟨t2, ht2⟩ : ∃ t2, t2 = m_s t1 0 1 (nI (nd + 1)) := ⟨_, rfl⟩
  have e2 : t2 0 1 = nI (nd + 1) := by rw [ht2]; rfl
  rw [← ht2]
  refine l_Md_dev2 w 24 0 t2 (by omega) ?_
  obtain ⟨t3, ht3⟩ : ∃ t3, t3 = m_dv2 24 0 t2 := ⟨_, rfl⟩
  have e3 : t3 0 1 = nI (nd + 1) := by
    rw [ht3, show m_dv2 24 0 t2 0 = t2 0 by
      refine up_0 ?_ _ _ _
      intro _ _; rfl]
    exact e2
  rw [← ht3]
  refine mm_blk (pc' := 207) ok_Md_device 2 _ _ _ rfl ?_
  refine l_Md_dev3 w (m := nd + 1) (by omega) (nd + 1) 0 t3 e3 (by omega) ?_
  rw [show up (fun d t => m_s t 5 d 1) (nd + 1) 0 t3 = m_rst (nd + 1) t3 from rfl]
  generalize m_rst (nd + 1) t3 = t4
  refine mm_blk (pc' := 232) ok_Md_device 2 _ _ _ rfl ?_
  refine mm_putf ok_Md_device (mp_0 w) rfl f_Md_69 (Or.inl rfl) (mm_fit_I _) ?_
  refine mm_V_heap (mu_0 w 19 (0)) ?_
  refine mm_blk (pc' := 237) ok_Md_device 2 _ _ _ rfl ?_
  refine mm_putf ok_Md_device (mp_0 w) rfl f_Md_72 (Or.inl rfl) (mm_fit_I _) ?_
  refine mm_V_heap (mu_0 w 20 (0)) ?_
  refine mm_blk (pc' := 242) ok_Md_device 2 _ _ _ rfl ?_
  refine mm_putf ok_Md_device (mp_0 w) rfl f_Md_75 (Or.inl rfl) (mm_fit_I _) ?_
  refine mm_V_heap (mu_0 w 21 (0)) ?_
  refine mm_blk (pc' := 247) ok_Md_device 2 _ _ _ rfl ?_
  refine mm_putf ok_Md_device (mp_0 w) rfl f_Md_78 (Or.inl rfl) mm_fit_Z0 ?_
  refine mm_V_heap (mu_0 w 23 (0)) ?_
  refine mm_blk (pc' := 252) ok_Md_device 1 _ _ _ rfl ?_
  exact mm_iret ok_Md_device rfl rfl ⟨rfl, rfl⟩
end MD5
end
section
/-! the reference: find, test -/
def m_fw (b : Nat) (bit wd : Int32) : Int32 := if b % 32 = 0 then bit else wd ||| bit <<< (nI (b % 32) &&& 31)
def m_fm (mo wd : Int32) : Int32 := if mo = 0 then 0 else if wd = -1 then 0 else 1
def m_ff (mo wd : Int32) (t : mS) : mS := if mo = 0 then t else if t 0 21 < 4 then m_s (m_s t 22 (t 0 21).toNatClampNeg wd) 0 21 (t 0 21 + 1) else t
def m_ft (b : Nat) : Int32 := if b = 159 then 1 else 0
def m_fs (nd b : Nat) (x : Int32 × Int32 × mS) : Int32 × Int32 × mS :=
  if b % 32 = 31 then (m_fm x.1 (m_fw b (m_tick nd (m_ft b) 1 x.2.2).1 x.2.1), m_fw b (m_tick nd (m_ft b) 1 x.2.2).1 x.2.1, m_ff (m_fm x.1 (m_fw b (m_tick nd (m_ft b) 1 x.2.2).1 x.2.1)) (m_fw b (m_tick nd (m_ft b) 1 x.2.2).1 x.2.1) (m_tk nd (m_ft b) 1 x.2.2))
  else (x.1, m_fw b (m_tick nd (m_ft b) 1 x.2.2).1 x.2.1, m_tk nd (m_ft b) 1 x.2.2)
def m_fnd (nd : Nat) (t : mS) : mS := m_lv nd (up (m_fs nd) 160 0 (1, 0, m_s (m_com nd (m_go6 nd (m_s t 0 0 0))) 0 21 0)).2.2
def m_rbit (t : mS) (r : Int32) (c : Nat) : Int32 := if t 13 c < 0 then 0 else if t 10 c = 0 then 0 else ((t 13 c + 1) >>> (r &&& 31)) &&& 1
def m_rt (t : mS) (d c : Nat) : Int32 := if d = 0 ∧ c + 1 = m_cl t 0 then 1 else 0
def m_rs (takes r n dv bit : Int32) (t : mS) : mS := if takes = 0 then t else if n < 0 then t else if dv = 0 then m_s t 18 n.toNatClampNeg (t 18 n.toNatClampNeg ||| bit <<< (r &&& 31)) else t
def m_rc (nd : Nat) (r takes : Int32) (d c : Nat) (t : mS) : mS := m_rs takes r (t 13 (6 * d + c)) (t 10 (6 * d + c)) (m_tick nd (m_rt t d c) (m_rbit t r (6 * d + c)) t).1 (m_tk nd (m_rt t d c) (m_rbit t r (6 * d + c)) t)
def m_rd (nd : Nat) (r takes : Int32) : Nat → mS → mS
  | 0, t => t
  | d + 1, t => m_rd nd r takes d (up (m_rc nd r takes d) (m_cl t d) 0 t)
def m_rnd (nd : Nat) (r takes : Int32) (t : mS) : mS := m_lv nd (m_rd nd r takes nd (m_com nd t))
def m_tl (nd nn : Nat) : Nat → Nat → mS → mS
  | 0, _, t => t
  | n + 1, r, t => if 2 ^ r ≤ nn + 1 then m_tl nd nn n (r + 1) (m_rnd nd (nI r) 1 (m_rnd nd (nI r) 0 t)) else t
def m_ex (nd all : Nat) (t : mS) : mS := up (fun b t => m_tk nd (if b + 1 = all then 1 else 0) 0 t) all 0 t
def m_fg (nn : Nat) (t : mS) : mS := up (fun n t => m_s t 18 n 0) nn 0 t
def m_cnt (nn : Nat) (t : mS) : Int32 := up (fun n a => if t 18 n = nI n + 1 then a else a + 1) nn 0 0
def m_tst (nd nn all : Nat) (t : mS) : mS := m_s (m_tl nd nn 4 0 (m_fg nn (m_lv nd (m_ex nd all (m_com nd (m_tk nd 1 0 (m_go6 nd (m_s t 0 0 0)))))))) 0 23 1
def m_fd (t : mS) : Prop := ∃ f, f ≤ 4 ∧ t 0 21 = nI f
theorem tk_fd {nd : Nat} {t : mS} (f : m_fd t) (b x : Int32) : m_fd (m_tk nd b x t) := by
  obtain ⟨f, h1, h2⟩ := f
  exact ⟨f, h1, by rw [← h2]; exact (same_tick nd b x t).2 21 (by decide) (by decide)⟩
theorem ok_18 {nd nn : Nat} {t : mS} (ok : m_ok nd nn t) (k : Nat) (x : Int32) : m_ok nd nn (m_s t 18 k x) := ok
theorem ok_22 {nd nn : Nat} {t : mS} (ok : m_ok nd nn t) (k : Nat) (x : Int32) : m_ok nd nn (m_s t 22 k x) := ok
theorem go6_good {nd nn : Nat} {t : mS} (g : m_good nd nn t) : m_good nd nn (m_go6 nd t) := tk_good (tk_good (tk_good (tk_good (tk_good (tk_good g _ _) _ _) _ _) _ _) _ _) _ _
theorem com_good {nd nn : Nat} {t : mS} (g : m_good nd nn t) : m_good nd nn (m_com nd t) := tk_good (tk_good (tk_good g _ _) _ _) _ _
theorem lv_good {nd nn : Nat} {t : mS} (g : m_good nd nn t) : m_good nd nn (m_lv nd t) := tk_good (tk_good g _ _) _ _
theorem ff_good {nd nn : Nat} {t : mS} (g : m_good nd nn t) (f : m_fd t) (mo wd : Int32) : m_good nd nn (m_ff mo wd t) ∧ m_fd (m_ff mo wd t) := by
  unfold m_ff
  split
  · exact ⟨g, f⟩
  · split
    · rename_i h4
      obtain ⟨f, h1, h2⟩ := f
      refine ⟨⟨ok_s0 (ok_22 g.1 _ _) (by decide) (by decide) _, g.2⟩, f + 1, ?_, ?_⟩
      · rw [h2] at h4
        have := (nI_ltI (b := 4) (by omega) (by decide)).mp h4
        omega
      · rw [m_s_at, h2, nI_1]
    · exact ⟨g, f⟩
theorem fs_good {nd nn : Nat} (b : Nat) {x : Int32 × Int32 × mS} (g : m_good nd nn x.2.2) (f : m_fd x.2.2) : m_good nd nn (m_fs nd b x).2.2 ∧ m_fd (m_fs nd b x).2.2 := by
  unfold m_fs
  split
  · exact ff_good (tk_good g _ _) (tk_fd f _ _) _ _
  · exact ⟨tk_good g _ _, tk_fd f _ _⟩
theorem rs_good {nd nn : Nat} {t : mS} (g : m_good nd nn t) (a r n v b : Int32) : m_good nd nn (m_rs a r n v b t) := by
  unfold m_rs
  repeat' split
  · exact g
  · exact g
  · exact ⟨ok_18 g.1 _ _, g.2⟩
  · exact g
theorem rs_same (a r n v b : Int32) (t : mS) : ∀ k, k ≠ 18 → m_rs a r n v b t k = t k := by
  intro k hk
  unfold m_rs
  repeat' split
  · rfl
  · rfl
  · exact m_s_ne _ _ _ hk
  · rfl
theorem rc_good {nd nn : Nat} {t : mS} (g : m_good nd nn t) (r takes : Int32) (d c : Nat) : m_good nd nn (m_rc nd r takes d c t) := rs_good (tk_good g _ _) _ _ _ _ _
theorem rc_same (nd : Nat) (r takes : Int32) (d c : Nat) (t : mS) {k : Nat} (h18 : k ≠ 18) (hk : k ∉ [0, 5, 6, 7, 8, 9, 11]) : m_rc nd r takes d c t k = t k := by
  unfold m_rc
  rw [rs_same _ _ _ _ _ _ k h18]
  exact (same_tick nd _ _ t).1 k hk
section MD6
variable {G : mm_G} {K : Nat → Nat} {t : mS} {h : mm_Hp} {nd nn : Nat} {Q : mm_O → mm_Hp → Prop}

set_option maxHeartbeats 1000000 in
theorem c_Md_find_x (w : mm_inj mdom K) (e : t 0 1 = 0) : mm_C G M_Md_find [.ref (K 0)] (MP K t h) 0 0 (mm_E (some (.int 0)) (MP K (m_s t 0 0 1) h)) := by
  refine mm_C_of (by decide +kernel) rfl (Nat.le_of_ble_eq_true rfl) rfl ?_
  refine mm_blk (pc' := 2) ok_Md_find 2 _ _ _ rfl ?_
  refine mm_getf ok_Md_find (mp_0 w) rfl f_Md_66 rfl ?_
  refine mm_if_ne ok_Md_find 12 rfl (by decide) (fun c => ?_) (fun c => ?_)
  · exact absurd e c
  refine mm_blk (pc' := 13) ok_Md_find 2 _ _ _ rfl ?_
  refine mm_putf ok_Md_find (mp_0 w) rfl f_Md_62 (Or.inl rfl) (mm_fit_I _) ?_
  refine mm_V_heap (mu_0 w 0 _) ?_
  refine mm_blk (pc' := 17) ok_Md_find 1 _ _ _ rfl ?_
  refine mm_getf ok_Md_find (mp_0 w) rfl f_Md_62 rfl ?_
  refine mm_if_le ok_Md_find 25 rfl (by decide) (fun c => ?_) (fun c => ?_)
  · exact absurd (show (1 : Int32) ≤ 0 from c) (by decide)
  refine mm_blk (pc' := 24) ok_Md_find 1 _ _ _ rfl ?_
  exact mm_iret ok_Md_find rfl rfl ⟨rfl, rfl⟩
set_option maxHeartbeats 4000000 in
theorem l_Md_find (w : mm_inj mdom K) : ∀ (n b : Nat) (mo wd : Int32) (t : mS), m_good nd nn t → m_fd t → b + n = 160 → mm_V G M_Md_find 45 [(0, .ref (K 0)), (1, .int mo), (2, .int wd), (3, .int (nI b))] [] (MP K t h) 0 0 (mm_E (some (.int (m_lv nd (up (m_fs nd) n b (mo, wd, t)).2.2 0 21))) (MP K (m_lv nd (up (m_fs nd) n b (mo, wd, t)).2.2) h)) := by
  intro n
  induction n with
  | zero =>
    intro b mo wd t g f hi
    refine mm_blk (pc' := 49) ok_Md_find 2 _ _ _ rfl ?_
    refine mm_ic_ge ok_Md_find 155 rfl (by decide) (fun c => ?_) (fun c => ?_)
    rotate_left
    · exact absurd (show nI 160 ≤ nI b from nI_le (by omega) (by omega)) c
    refine mm_blk (pc' := 156) ok_Md_find 1 _ _ _ rfl ?_
    refine mm_cVE ok_Md_find (As := []) rfl k_Md_find_137 (mp_0 w) rfl rfl rfl (Nat.le_of_ble_eq_true rfl) (c_Md_leave w g) ?_
    refine mm_blk (pc' := 160) ok_Md_find 1 _ _ _ rfl ?_
    refine mm_getf ok_Md_find (mp_0 w) rfl f_Md_75 rfl ?_
    exact mm_iret ok_Md_find rfl rfl ⟨rfl, rfl⟩
  | succ n ih =>
    intro b mo wd t g f hi
    have eb : (if nI b = 159 then (1 : Int32) else 0) = m_ft b := by
      unfold m_ft
      by_cases e : b = 159
      · rw [if_pos e, e]; rfl
      · rw [if_neg e, if_neg (show ¬ nI b = 159 from fun z => e ((nI_eq (b := 159) (by omega) (by decide)).mp z))]
    by_cases h0 : b % 32 = 0
    · skip
      refine mm_blk (pc' := 49) ok_Md_find 2 _ _ _ rfl ?_
      refine mm_ic_ge ok_Md_find 155 rfl (by decide) (fun c => ?_) (fun c => ?_)
      · exact absurd c (show ¬ nI 160 ≤ nI b from nI_ge (by omega) (by omega))
      refine mm_blk (pc' := 57) ok_Md_find 3 _ _ _ rfl ?_
      refine mm_tc_ne ok_Md_find 64 rfl (by decide) rfl rfl rfl (by decide) ?_
      refine mm_blk (pc' := 66) ok_Md_find 1 _ _ _ rfl ?_
      rw [eb]
      refine mm_cVE ok_Md_find (As := [.int (m_ft b), .int 1]) rfl k_Md_find_127 (mp_0 w) rfl rfl rfl (Nat.le_of_ble_eq_true rfl) (c_tk w g (m_ft b) 1) ?_
      obtain ⟨bit, hbit⟩ : ∃ bit, bit = (m_tick nd (m_ft b) 1 t).1 := ⟨_, rfl⟩
      obtain ⟨T, hT⟩ : ∃ T, T = m_tk nd (m_ft b) 1 t := ⟨_, rfl⟩
      rw [← hbit, ← hT]
      have fT : m_fd T := by rw [hT]; exact tk_fd f _ _
      obtain ⟨fc, hf4, hfe⟩ := fT
      refine mm_blk (pc' := 74) ok_Md_find 3 _ _ _ rfl ?_
      refine mm_irem ok_Md_find rfl (by decide) ?_
      rw [show nI b - nI b / 32 * 32 = nI (b % 32) from pk_rem (d := 32) (by omega) (by decide) (by decide)]
      refine mm_if_ne ok_Md_find 83 rfl (by decide) (fun c => ?_) (fun c => ?_)
      · exact absurd (show nI (b % 32) = 0 by rw [h0]; rfl) c
      refine mm_blk (pc' := 96) ok_Md_find 5 _ _ _ rfl ?_
      refine mm_irem ok_Md_find rfl (by decide) ?_
      rw [show nI b - nI b / 32 * 32 = nI (b % 32) from pk_rem (d := 32) (by omega) (by decide) (by decide)]
      refine mm_blk (pc' := 99) ok_Md_find 1 _ _ _ rfl ?_
      refine mm_ic_ne ok_Md_find 149 rfl (by decide) (fun c => ?_) (fun c => ?_)
      rotate_left
      · exact absurd ((nI_eq (b := 31) (by omega) (by decide)).mp c) (by omega)
      refine mm_blk (pc' := 45) ok_Md_find 2 _ _ _ rfl ?_
      rw [nI_1]
      refine mm_V_pick [0, 1, 2, 3] rfl ?_
      have e9 : m_fs nd b (mo, wd, t) = (mo, bit, T) := by unfold m_fs m_fw; rw [if_neg (show ¬ b % 32 = 31 by omega), if_pos h0, ← hbit, ← hT]
      have gf := fs_good b (x := (mo, wd, t)) g f
      show mm_V _ _ _ _ _ _ _ _ (mm_E (some (.int (m_lv nd (up (m_fs nd) n (b + 1) (m_fs nd b (mo, wd, t))).2.2 0 21))) (MP K (m_lv nd (up (m_fs nd) n (b + 1) (m_fs nd b (mo, wd, t))).2.2) h))
      rw [e9] at gf ⊢
      exact ih (b + 1) _ _ _ gf.1 gf.2 (by omega)
    · by_cases h31 : b % 32 = 31
      · skip
        refine mm_blk (pc' := 49) ok_Md_find 2 _ _ _ rfl ?_
        refine mm_ic_ge ok_Md_find 155 rfl (by decide) (fun c => ?_) (fun c => ?_)
        · exact absurd c (show ¬ nI 160 ≤ nI b from nI_ge (by omega) (by omega))
        refine mm_blk (pc' := 57) ok_Md_find 3 _ _ _ rfl ?_
        refine mm_tc_ne ok_Md_find 64 rfl (by decide) rfl rfl rfl (by decide) ?_
        refine mm_blk (pc' := 66) ok_Md_find 1 _ _ _ rfl ?_
        rw [eb]
        refine mm_cVE ok_Md_find (As := [.int (m_ft b), .int 1]) rfl k_Md_find_127 (mp_0 w) rfl rfl rfl (Nat.le_of_ble_eq_true rfl) (c_tk w g (m_ft b) 1) ?_
        obtain ⟨bit, hbit⟩ : ∃ bit, bit = (m_tick nd (m_ft b) 1 t).1 := ⟨_, rfl⟩
        obtain ⟨T, hT⟩ : ∃ T, T = m_tk nd (m_ft b) 1 t := ⟨_, rfl⟩
        rw [← hbit, ← hT]
        have fT : m_fd T := by rw [hT]; exact tk_fd f _ _
        obtain ⟨fc, hf4, hfe⟩ := fT
        refine mm_blk (pc' := 74) ok_Md_find 3 _ _ _ rfl ?_
        refine mm_irem ok_Md_find rfl (by decide) ?_
        rw [show nI b - nI b / 32 * 32 = nI (b % 32) from pk_rem (d := 32) (by omega) (by decide) (by decide)]
        refine mm_if_ne ok_Md_find 83 rfl (by decide) (fun c => ?_) (fun c => ?_)
        rotate_left
        · exact absurd c (nI_ne0 (by omega) (by omega))
        refine mm_blk (pc' := 89) ok_Md_find 4 _ _ _ rfl ?_
        refine mm_irem ok_Md_find rfl (by decide) ?_
        rw [show nI b - nI b / 32 * 32 = nI (b % 32) from pk_rem (d := 32) (by omega) (by decide) (by decide)]
        refine mm_blk (pc' := 92) ok_Md_find 2 _ _ _ rfl ?_
        obtain ⟨W, hW⟩ : ∃ W, W = wd ||| bit <<< (nI (b % 32) &&& 31) := ⟨_, rfl⟩
        rw [← hW]
        refine mm_blk (pc' := 96) ok_Md_find 3 _ _ _ rfl ?_
        refine mm_irem ok_Md_find rfl (by decide) ?_
        rw [show nI b - nI b / 32 * 32 = nI (b % 32) from pk_rem (d := 32) (by omega) (by decide) (by decide)]
        refine mm_blk (pc' := 99) ok_Md_find 1 _ _ _ rfl ?_
        refine mm_ic_ne ok_Md_find 149 rfl (by decide) (fun c => ?_) (fun c => ?_)
        · exact absurd (show nI (b % 32) = 31 by rw [h31]; rfl) c
        refine mm_blk (pc' := 103) ok_Md_find 1 _ _ _ rfl ?_
        refine mm_if_eq ok_Md_find 115 rfl (by decide) (fun c103 => ?_) (fun c103 => ?_)
        · -- 115 t
          have hfm : m_fm mo W = 0 := by unfold m_fm; first | rw [if_pos c103] | (rw [if_neg c103]; exact if_pos c108)
          refine mm_blk (pc' := 118) ok_Md_find 3 _ _ _ rfl ?_
          refine mm_if_eq ok_Md_find 149 rfl (by decide) (fun c => ?_) (fun c => ?_)
          rotate_left
          · exact absurd rfl c
          refine mm_blk (pc' := 45) ok_Md_find 2 _ _ _ rfl ?_
          rw [nI_1]
          refine mm_V_pick [0, 1, 2, 3] rfl ?_
          have e9 : m_fs nd b (mo, wd, t) = (0, W, T) := by unfold m_fs m_fw; rw [if_pos h31, if_neg h0, ← hbit, ← hT, ← hW, hfm]; unfold m_ff; rw [if_pos rfl]
          have gf := fs_good b (x := (mo, wd, t)) g f
          show mm_V _ _ _ _ _ _ _ _ (mm_E (some (.int (m_lv nd (up (m_fs nd) n (b + 1) (m_fs nd b (mo, wd, t))).2.2 0 21))) (MP K (m_lv nd (up (m_fs nd) n (b + 1) (m_fs nd b (mo, wd, t))).2.2) h))
          rw [e9] at gf ⊢
          exact ih (b + 1) _ _ _ gf.1 gf.2 (by omega)
        · -- 106 f
          refine mm_blk (pc' := 108) ok_Md_find 2 _ _ _ rfl ?_
          refine mm_ic_eq ok_Md_find 115 rfl (by decide) (fun c108 => ?_) (fun c108 => ?_)
          · -- 115 t
            have hfm : m_fm mo W = 0 := by unfold m_fm; first | rw [if_pos c103] | (rw [if_neg c103]; exact if_pos c108)
            refine mm_blk (pc' := 118) ok_Md_find 3 _ _ _ rfl ?_
            refine mm_if_eq ok_Md_find 149 rfl (by decide) (fun c => ?_) (fun c => ?_)
            rotate_left
            · exact absurd rfl c
            refine mm_blk (pc' := 45) ok_Md_find 2 _ _ _ rfl ?_
            rw [nI_1]
            refine mm_V_pick [0, 1, 2, 3] rfl ?_
            have e9 : m_fs nd b (mo, wd, t) = (0, W, T) := by unfold m_fs m_fw; rw [if_pos h31, if_neg h0, ← hbit, ← hT, ← hW, hfm]; unfold m_ff; rw [if_pos rfl]
            have gf := fs_good b (x := (mo, wd, t)) g f
            show mm_V _ _ _ _ _ _ _ _ (mm_E (some (.int (m_lv nd (up (m_fs nd) n (b + 1) (m_fs nd b (mo, wd, t))).2.2 0 21))) (MP K (m_lv nd (up (m_fs nd) n (b + 1) (m_fs nd b (mo, wd, t))).2.2) h))
            rw [e9] at gf ⊢
            exact ih (b + 1) _ _ _ gf.1 gf.2 (by omega)
          · -- 111 f
            have hfm : m_fm mo W = 1 := by unfold m_fm; rw [if_neg c103]; exact if_neg c108
            refine mm_blk (pc' := 118) ok_Md_find 4 _ _ _ rfl ?_
            refine mm_if_eq ok_Md_find 149 rfl (by decide) (fun c => ?_) (fun c => ?_)
            · exact absurd c (by decide)
            refine mm_blk (pc' := 122) ok_Md_find 1 _ _ _ rfl ?_
            refine mm_getf ok_Md_find (mp_0 w) rfl f_Md_75 rfl ?_
            refine mm_blk (pc' := 126) ok_Md_find 1 _ _ _ rfl ?_
            refine mm_ic_ge ok_Md_find 149 rfl (by decide) (fun c126 => ?_) (fun c126 => ?_)
            · -- 149 t
              refine mm_blk (pc' := 45) ok_Md_find 2 _ _ _ rfl ?_
              rw [nI_1]
              refine mm_V_pick [0, 1, 2, 3] rfl ?_
              have e9 : m_fs nd b (mo, wd, t) = (1, W, T) := by unfold m_fs m_fw; rw [if_pos h31, if_neg h0, ← hbit, ← hT, ← hW, hfm]; unfold m_ff; rw [if_neg (by decide), if_neg (Int32.not_lt.mpr c126)]
              have gf := fs_good b (x := (mo, wd, t)) g f
              show mm_V _ _ _ _ _ _ _ _ (mm_E (some (.int (m_lv nd (up (m_fs nd) n (b + 1) (m_fs nd b (mo, wd, t))).2.2 0 21))) (MP K (m_lv nd (up (m_fs nd) n (b + 1) (m_fs nd b (mo, wd, t))).2.2) h))
              rw [e9] at gf ⊢
              exact ih (b + 1) _ _ _ gf.1 gf.2 (by omega)
            · -- 129 f
              have hlt : fc < 4 := by
                by_cases z : fc < 4
                · exact z
                · exact absurd (show (4 : Int32) ≤ T 0 21 by rw [hfe]; exact nI_le (a := 4) (by omega) (by omega)) c126
              have hcl : (T 0 21).toNatClampNeg = fc := by rw [hfe]; exact nI_clamp (by omega)
              refine mm_blk (pc' := 130) ok_Md_find 1 _ _ _ rfl ?_
              refine mm_getf ok_Md_find (mp_0 w) rfl f_Md_59 rfl ?_
              refine mm_blk (pc' := 134) ok_Md_find 1 _ _ _ rfl ?_
              refine mm_getf ok_Md_find (mp_0 w) rfl f_Md_75 rfl ?_
              refine mm_blk (pc' := 138) ok_Md_find 1 _ _ _ rfl ?_
              refine mm_iast (j := fc) ok_Md_find (mp_22 w) rfl hfe (by omega) (by rw [List.length_map, List.length_range]; exact (by omega)) ?_
              refine mm_V_heap (mu_22 w (by omega) _) ?_
              refine mm_blk (pc' := 141) ok_Md_find 2 _ _ _ rfl ?_
              refine mm_getf ok_Md_find (mp_0 w) rfl f_Md_75 rfl ?_
              refine mm_blk (pc' := 146) ok_Md_find 2 _ _ _ rfl ?_
              refine mm_putf ok_Md_find (mp_0 w) rfl f_Md_75 (Or.inl rfl) (mm_fit_I _) ?_
              refine mm_V_heap (mu_0 w 21 (T 0 21 + 1)) ?_
              refine mm_blk (pc' := 45) ok_Md_find 2 _ _ _ rfl ?_
              rw [nI_1]
              refine mm_V_pick [0, 1, 2, 3] rfl ?_
              have e9 : m_fs nd b (mo, wd, t) = (1, W, m_s (m_s T 22 fc W) 0 21 (T 0 21 + 1)) := by unfold m_fs m_fw; rw [if_pos h31, if_neg h0, ← hbit, ← hT, ← hW, hfm]; unfold m_ff; rw [if_neg (by decide), if_pos (Int32.not_le.mp c126), hcl]
              have gf := fs_good b (x := (mo, wd, t)) g f
              show mm_V _ _ _ _ _ _ _ _ (mm_E (some (.int (m_lv nd (up (m_fs nd) n (b + 1) (m_fs nd b (mo, wd, t))).2.2 0 21))) (MP K (m_lv nd (up (m_fs nd) n (b + 1) (m_fs nd b (mo, wd, t))).2.2) h))
              rw [e9] at gf ⊢
              exact ih (b + 1) _ _ _ gf.1 gf.2 (by omega)
      · skip
        refine mm_blk (pc' := 49) ok_Md_find 2 _ _ _ rfl ?_
        refine mm_ic_ge ok_Md_find 155 rfl (by decide) (fun c => ?_) (fun c => ?_)
        · exact absurd c (show ¬ nI 160 ≤ nI b from nI_ge (by omega) (by omega))
        refine mm_blk (pc' := 57) ok_Md_find 3 _ _ _ rfl ?_
        refine mm_tc_ne ok_Md_find 64 rfl (by decide) rfl rfl rfl (by decide) ?_
        refine mm_blk (pc' := 66) ok_Md_find 1 _ _ _ rfl ?_
        rw [eb]
        refine mm_cVE ok_Md_find (As := [.int (m_ft b), .int 1]) rfl k_Md_find_127 (mp_0 w) rfl rfl rfl (Nat.le_of_ble_eq_true rfl) (c_tk w g (m_ft b) 1) ?_
        obtain ⟨bit, hbit⟩ : ∃ bit, bit = (m_tick nd (m_ft b) 1 t).1 := ⟨_, rfl⟩
        obtain ⟨T, hT⟩ : ∃ T, T = m_tk nd (m_ft b) 1 t := ⟨_, rfl⟩
        rw [← hbit, ← hT]
        have fT : m_fd T := by rw [hT]; exact tk_fd f _ _
        obtain ⟨fc, hf4, hfe⟩ := fT
        refine mm_blk (pc' := 74) ok_Md_find 3 _ _ _ rfl ?_
        refine mm_irem ok_Md_find rfl (by decide) ?_
        rw [show nI b - nI b / 32 * 32 = nI (b % 32) from pk_rem (d := 32) (by omega) (by decide) (by decide)]
        refine mm_if_ne ok_Md_find 83 rfl (by decide) (fun c => ?_) (fun c => ?_)
        rotate_left
        · exact absurd c (nI_ne0 (by omega) (by omega))
        refine mm_blk (pc' := 89) ok_Md_find 4 _ _ _ rfl ?_
        refine mm_irem ok_Md_find rfl (by decide) ?_
        rw [show nI b - nI b / 32 * 32 = nI (b % 32) from pk_rem (d := 32) (by omega) (by decide) (by decide)]
        refine mm_blk (pc' := 96) ok_Md_find 5 _ _ _ rfl ?_
        refine mm_irem ok_Md_find rfl (by decide) ?_
        rw [show nI b - nI b / 32 * 32 = nI (b % 32) from pk_rem (d := 32) (by omega) (by decide) (by decide)]
        refine mm_blk (pc' := 99) ok_Md_find 1 _ _ _ rfl ?_
        refine mm_ic_ne ok_Md_find 149 rfl (by decide) (fun c => ?_) (fun c => ?_)
        rotate_left
        · exact absurd ((nI_eq (b := 31) (by omega) (by decide)).mp c) (by omega)
        refine mm_blk (pc' := 45) ok_Md_find 2 _ _ _ rfl ?_
        rw [nI_1]
        refine mm_V_pick [0, 1, 2, 3] rfl ?_
        have e9 : m_fs nd b (mo, wd, t) = (mo, wd ||| bit <<< (nI (b % 32) &&& 31), T) := by unfold m_fs m_fw; rw [if_neg (show ¬ b % 32 = 31 by omega), if_neg h0, ← hbit, ← hT]
        have gf := fs_good b (x := (mo, wd, t)) g f
        show mm_V _ _ _ _ _ _ _ _ (mm_E (some (.int (m_lv nd (up (m_fs nd) n (b + 1) (m_fs nd b (mo, wd, t))).2.2 0 21))) (MP K (m_lv nd (up (m_fs nd) n (b + 1) (m_fs nd b (mo, wd, t))).2.2) h))
        rw [e9] at gf ⊢
        exact ih (b + 1) _ _ _ gf.1 gf.2 (by omega)
set_option maxHeartbeats 1000000 in
theorem c_Md_find_r (w : mm_inj mdom K) (g : m_good nd nn t) (hn : 0 < nd) : mm_C G M_Md_find [.ref (K 0)] (MP K t h) 0 0 (mm_E (some (.int (m_fnd nd t 0 21))) (MP K (m_fnd nd t) h)) := by
  have h4 := g.1.1
  have e : ¬ t 0 1 = 0 := by rw [g.1.2.2.1]; exact nI_ne0 hn (by omega)
  have g0 := good_s0 g 0
  have g1 := go6_good g0
  have g2 := com_good g1
  refine mm_C_of (by decide +kernel) rfl (Nat.le_of_ble_eq_true rfl) rfl ?_
  refine mm_blk (pc' := 2) ok_Md_find 2 _ _ _ rfl ?_
  refine mm_getf ok_Md_find (mp_0 w) rfl f_Md_66 rfl ?_
  refine mm_if_ne ok_Md_find 12 rfl (by decide) (fun c => ?_) (fun c => ?_)
  rotate_left
  · exact absurd c e
  refine mm_blk (pc' := 13) ok_Md_find 1 _ _ _ rfl ?_
  refine mm_putf ok_Md_find (mp_0 w) rfl f_Md_62 (Or.inl rfl) (mm_fit_I _) ?_
  refine mm_V_heap (mu_0 w 0 _) ?_
  refine mm_blk (pc' := 17) ok_Md_find 1 _ _ _ rfl ?_
  refine mm_getf ok_Md_find (mp_0 w) rfl f_Md_62 rfl ?_
  refine mm_if_le ok_Md_find 25 rfl (by decide) (fun c => ?_) (fun c => ?_)
  rotate_left
  · exact absurd (show (0 : Int32) ≤ 0 by decide) c
  refine mm_blk (pc' := 26) ok_Md_find 1 _ _ _ rfl ?_
  refine mm_cVE ok_Md_find (As := []) rfl k_Md_find_130 (mp_0 w) rfl rfl rfl (Nat.le_of_ble_eq_true rfl) (c_Md_goIdle w g0) ?_
  refine mm_blk (pc' := 31) ok_Md_find 2 _ _ _ rfl ?_
  refine mm_cVE ok_Md_find (As := [.int 0]) rfl k_Md_find_133 (mp_0 w) rfl rfl rfl (Nat.le_of_ble_eq_true rfl) (c_Md_comeTo0 w g1) ?_
  refine mm_blk (pc' := 36) ok_Md_find 2 _ _ _ rfl ?_
  refine mm_putf ok_Md_find (mp_0 w) rfl f_Md_75 (Or.inl rfl) (mm_fit_I _) ?_
  refine mm_V_heap (mu_0 w 21 (0)) ?_
  refine mm_blk (pc' := 45) ok_Md_find 6 _ _ _ rfl ?_
  unfold m_fnd
  generalize m_com nd (m_go6 nd (m_s t 0 0 0)) = t2 at g2 ⊢
  exact l_Md_find w 160 0 1 0 (m_s t2 0 21 0) ⟨ok_s0 g2.1 (by decide) (by decide) 0, g2.2⟩ ⟨0, by omega, rfl⟩ (by omega)
set_option maxHeartbeats 4000000 in
theorem l_Md_roundC (w : mm_inj mdom K) {r takes : Int32} {d m : Nat} (hd : d < nd) (hm6 : m ≤ 6) : ∀ (n cx : Nat) (t : mS), m_good nd nn t → m_cl t d = m → cx + n = m → mm_V G M_Md_round 151 [(0, .ref (K 0)), (1, .int r), (2, .int takes), (3, .int (nI d)), (4, .int (nI m))] [] (MP K (up (m_rc nd r takes d) n cx t) h) 0 0 Q → mm_V G M_Md_round 19 [(0, .ref (K 0)), (1, .int r), (2, .int takes), (3, .int (nI d)), (4, .int (nI cx))] [] (MP K t h) 0 0 Q := by
  intro n
  induction n with
  | zero =>
    intro cx t g hm hi kk
    have h4 := g.1.1
    have el := (g.1.2.2.2.2.1 d hd).2.2
    have el0 := (g.1.2.2.2.2.1 0 (by omega)).2.2
    have hl0 := g.1.2.2.2.2.1 0 (by omega)
    rw [hm] at el
    refine mm_blk (pc' := 22) ok_Md_round 2 _ _ _ rfl ?_
    refine mm_getf ok_Md_round (mp_0 w) rfl f_Md_16 rfl ?_
    refine mm_blk (pc' := 26) ok_Md_round 1 _ _ _ rfl ?_
    refine mm_iald (j := d) ok_Md_round (mp_4 w) rfl rfl (by omega) (oIs_get (by omega) _) ?_
    rw [el]
    refine mm_ic_ge ok_Md_round 151 rfl (by decide) (fun c => ?_) (fun c => ?_)
    rotate_left
    · exact absurd (nI_le (by omega) (by omega)) c
    rw [show cx = m by omega]
    exact kk
  | succ n ih =>
    intro cx t g hm hi kk
    have h4 := g.1.1
    have el := (g.1.2.2.2.2.1 d hd).2.2
    have el0 := (g.1.2.2.2.2.1 0 (by omega)).2.2
    have hl0 := g.1.2.2.2.2.1 0 (by omega)
    rw [hm] at el
    refine mm_blk (pc' := 22) ok_Md_round 2 _ _ _ rfl ?_
    refine mm_getf ok_Md_round (mp_0 w) rfl f_Md_16 rfl ?_
    refine mm_blk (pc' := 26) ok_Md_round 1 _ _ _ rfl ?_
    refine mm_iald (j := d) ok_Md_round (mp_4 w) rfl rfl (by omega) (oIs_get (by omega) _) ?_
    rw [el]
    refine mm_ic_ge ok_Md_round 151 rfl (by decide) (fun c => ?_) (fun c => ?_)
    · exact absurd c (nI_ge (by omega) (by omega))
    refine mm_blk (pc' := 31) ok_Md_round 1 _ _ _ rfl ?_
    refine mm_getf ok_Md_round (mp_0 w) rfl f_Md_44 rfl ?_
    refine mm_blk (pc' := 41) ok_Md_round 5 _ _ _ rfl ?_
    refine mm_iald (j := 6 * d + cx) ok_Md_round (mp_13 w) rfl (ix6 _ _) (by omega) (oIs_get (by omega) _) ?_
    refine mm_blk (pc' := 45) ok_Md_round 2 _ _ _ rfl ?_
    refine mm_getf ok_Md_round (mp_0 w) rfl f_Md_34 rfl ?_
    refine mm_blk (pc' := 55) ok_Md_round 5 _ _ _ rfl ?_
    refine mm_zald (j := 6 * d + cx) ok_Md_round (mp_10 w) rfl (ix6 _ _) (by omega) (oIs_get (by omega) _) ?_
    obtain ⟨n5, hn5⟩ : ∃ n5, n5 = t 13 (6 * d + cx) := ⟨_, rfl⟩
    obtain ⟨n6, hn6⟩ : ∃ n6, n6 = t 10 (6 * d + cx) := ⟨_, rfl⟩
    obtain ⟨rb, hrb⟩ : ∃ rb, rb = m_rbit t r (6 * d + cx) := ⟨_, rfl⟩
    obtain ⟨rt, hrt⟩ : ∃ rt, rt = m_rt t d cx := ⟨_, rfl⟩
    rw [← hn5, ← hn6]
    refine mm_blk (pc' := 60) ok_Md_round 2 _ _ _ rfl ?_
    refine mm_V_heap rfl ?_
    have step : ∀ q : Int32, q = rb → mm_V G M_Md_round 80 [(0, .ref (K 0)), (1, .int r), (2, .int takes), (3, .int (nI d)), (4, .int (nI cx)), (5, .int n5), (6, .int n6)] [.int q] (MP K t h) 0 0 Q := by
      intro q hq
      rw [hq]
      refine mm_blk (pc' := 84) ok_Md_round 3 _ _ _ rfl ?_
      have hrt9 : ∀ q : Int32, q = rt → mm_V G M_Md_round 105 [(0, .ref (K 0)), (1, .int r), (2, .int takes), (3, .int (nI d)), (4, .int (nI cx)), (5, .int n5), (6, .int n6), (7, .int rb)] [.int q, .ref (K 0)] (MP K t h) 0 0 Q := by
        intro q hq
        rw [hq]
        refine mm_blk (pc' := 107) ok_Md_round 1 _ _ _ rfl ?_
        refine mm_cVE ok_Md_round (As := [.int rt, .int rb]) rfl k_Md_round_127 (mp_0 w) rfl rfl rfl (Nat.le_of_ble_eq_true rfl) (c_tk w g rt rb) ?_
        obtain ⟨bit, hbit⟩ : ∃ bit, bit = (m_tick nd rt rb t).1 := ⟨_, rfl⟩
        obtain ⟨T, hT⟩ : ∃ T, T = m_tk nd rt rb t := ⟨_, rfl⟩
        rw [← hbit, ← hT]
        refine mm_blk (pc' := 113) ok_Md_round 2 _ _ _ rfl ?_
        refine mm_if_eq ok_Md_round 145 rfl (by decide) (fun c113 => ?_) (fun c113 => ?_)
        · -- 145 t
          refine mm_blk (pc' := 19) ok_Md_round 2 _ _ _ rfl ?_
          rw [nI_1]
          refine mm_V_pick [0, 1, 2, 3, 4] rfl ?_
          have e9 : m_rc nd r takes d cx t = T := by unfold m_rc m_rs; rw [← hn5, ← hn6, ← hrt, ← hrb, ← hbit, ← hT]; rw [if_pos c113]
          refine ih (cx + 1) (T) ?_ ?_ (by omega) ?_
          · rw [← e9]; exact rc_good g r takes d cx
          · rw [← e9]; unfold m_cl; rw [rc_same nd r takes d cx t (by decide) (by decide)]; exact hm
          · rw [← e9]; exact kk
        · -- 116 f
          refine mm_blk (pc' := 118) ok_Md_round 1 _ _ _ rfl ?_
          refine mm_if_lt ok_Md_round 145 rfl (by decide) (fun c118 => ?_) (fun c118 => ?_)
          · -- 145 t
            refine mm_blk (pc' := 19) ok_Md_round 2 _ _ _ rfl ?_
            rw [nI_1]
            refine mm_V_pick [0, 1, 2, 3, 4] rfl ?_
            have e9 : m_rc nd r takes d cx t = T := by unfold m_rc m_rs; rw [← hn5, ← hn6, ← hrt, ← hrb, ← hbit, ← hT]; rw [if_neg c113, if_pos c118]
            refine ih (cx + 1) (T) ?_ ?_ (by omega) ?_
            · rw [← e9]; exact rc_good g r takes d cx
            · rw [← e9]; unfold m_cl; rw [rc_same nd r takes d cx t (by decide) (by decide)]; exact hm
            · rw [← e9]; exact kk
          · -- 121 f
            refine mm_blk (pc' := 123) ok_Md_round 1 _ _ _ rfl ?_
            refine mm_if_ne ok_Md_round 145 rfl (by decide) (fun c123 => ?_) (fun c123 => ?_)
            · -- 145 t
              refine mm_blk (pc' := 19) ok_Md_round 2 _ _ _ rfl ?_
              rw [nI_1]
              refine mm_V_pick [0, 1, 2, 3, 4] rfl ?_
              have e9 : m_rc nd r takes d cx t = T := by unfold m_rc m_rs; rw [← hn5, ← hn6, ← hrt, ← hrb, ← hbit, ← hT]; rw [if_neg c113, if_neg c118, if_neg c123]
              refine ih (cx + 1) (T) ?_ ?_ (by omega) ?_
              · rw [← e9]; exact rc_good g r takes d cx
              · rw [← e9]; unfold m_cl; rw [rc_same nd r takes d cx t (by decide) (by decide)]; exact hm
              · rw [← e9]; exact kk
            · -- 126 f
              obtain ⟨no, hno, hne⟩ : ∃ no, no < 8 ∧ n5 = nI no := by
                have h9 := g.1.2.2.2.2.2.2.2.2 d cx hd (by rw [hm]; omega) (by rw [← hn5]; exact c118)
                exact ⟨m_no t (6 * d + cx), by have := g.1.2.1; omega, by rw [hn5]; exact h9.2⟩
              have hcl : n5.toNatClampNeg = no := by rw [hne]; exact nI_clamp (by omega)
              refine mm_blk (pc' := 127) ok_Md_round 1 _ _ _ rfl ?_
              refine mm_getf ok_Md_round (mp_0 w) rfl f_Md_56 rfl ?_
              refine mm_blk (pc' := 133) ok_Md_round 2 _ _ _ rfl ?_
              refine mm_getf ok_Md_round (mp_0 w) rfl f_Md_56 rfl ?_
              refine mm_blk (pc' := 138) ok_Md_round 1 _ _ _ rfl ?_
              refine mm_iald (j := no) ok_Md_round (mp_18 w) rfl hne (by omega) (oIs_get (by omega) _) ?_
              refine mm_blk (pc' := 144) ok_Md_round 4 _ _ _ rfl ?_
              refine mm_iast (j := no) ok_Md_round (mp_18 w) rfl hne (by omega) (by rw [List.length_map, List.length_range]; exact (by omega)) ?_
              refine mm_V_heap (mu_18 w (by omega) _) ?_
              refine mm_blk (pc' := 19) ok_Md_round 2 _ _ _ rfl ?_
              rw [nI_1]
              refine mm_V_pick [0, 1, 2, 3, 4] rfl ?_
              have e9 : m_rc nd r takes d cx t = m_s T 18 no (T 18 no ||| bit <<< (r &&& 31)) := by unfold m_rc m_rs; rw [← hn5, ← hn6, ← hrt, ← hrb, ← hbit, ← hT]; rw [if_neg c113, if_neg c118, if_pos c123, hcl]
              refine ih (cx + 1) (m_s T 18 no (T 18 no ||| bit <<< (r &&& 31))) ?_ ?_ (by omega) ?_
              · rw [← e9]; exact rc_good g r takes d cx
              · rw [← e9]; unfold m_cl; rw [rc_same nd r takes d cx t (by decide) (by decide)]; exact hm
              · rw [← e9]; exact kk
      refine mm_if_ne ok_Md_round 104 rfl (by decide) (fun c84 => ?_) (fun c84 => ?_)
      · refine mm_blk (pc' := 105) ok_Md_round 1 _ _ _ rfl ?_
        exact hrt9 0 (by rw [hrt]; unfold m_rt; rw [if_neg (fun z => c84 (by rw [z.1]; rfl))])
      have hd0 : d = 0 := by
        by_cases z : d = 0
        · exact z
        · exact absurd c84 (nI_ne0 (by omega) (by omega))
      refine mm_blk (pc' := 90) ok_Md_round 2 _ _ _ rfl ?_
      refine mm_getf ok_Md_round (mp_0 w) rfl f_Md_16 rfl ?_
      refine mm_blk (pc' := 94) ok_Md_round 1 _ _ _ rfl ?_
      refine mm_iald (j := 0) ok_Md_round (mp_4 w) rfl rfl (show 0 < 2147483648 by decide) (oIs_get (by omega) _) ?_
      refine mm_blk (pc' := 97) ok_Md_round 2 _ _ _ rfl ?_
      rw [el0, show nI (m_cl t 0) - 1 = nI (m_cl t 0 - 1) from pk_sub (b := 1) hl0.1]
      refine mm_ic_ne ok_Md_round 104 rfl (by decide) (fun c97 => ?_) (fun c97 => ?_)
      · -- 104 t
        refine mm_blk (pc' := 105) ok_Md_round 1 _ _ _ rfl ?_
        exact hrt9 0 (by rw [hrt]; unfold m_rt; rw [if_neg (fun z => c97 (by rw [← z.2]; rfl))])
      · -- 100 f
        refine mm_blk (pc' := 105) ok_Md_round 2 _ _ _ rfl ?_
        exact hrt9 1 (by rw [hrt]; unfold m_rt; rw [if_pos ⟨hd0, by have := (nI_eq (by omega) (by omega)).mp c97; omega⟩])
    have hn56 : rb = if n5 < 0 then 0 else if n6 = 0 then 0 else ((n5 + 1) >>> (r &&& 31)) &&& 1 := by rw [hrb, hn5, hn6]; rfl
    refine mm_if_lt ok_Md_round 79 rfl (by decide) (fun c60 => ?_) (fun c60 => ?_)
    · refine mm_blk (pc' := 80) ok_Md_round 1 _ _ _ rfl ?_
      exact step 0 (by rw [hn56, if_pos c60])
    refine mm_blk (pc' := 65) ok_Md_round 1 _ _ _ rfl ?_
    refine mm_if_eq ok_Md_round 79 rfl (by decide) (fun c65 => ?_) (fun c65 => ?_)
    · refine mm_blk (pc' := 80) ok_Md_round 1 _ _ _ rfl ?_
      exact step 0 (by rw [hn56, if_neg c60, if_pos c65])
    refine mm_blk (pc' := 80) ok_Md_round 8 _ _ _ rfl ?_
    exact step _ (by rw [hn56, if_neg c60, if_neg c65])
theorem rcs_good (r takes : Int32) (d : Nat) : ∀ (n c : Nat) (t : mS), m_good nd nn t → m_good nd nn (up (m_rc nd r takes d) n c t) := by
  intro n
  induction n with
  | zero => intro c t g; exact g
  | succ n ih => intro c t g; exact ih _ _ (rc_good g r takes d c)
theorem rd_good (r takes : Int32) : ∀ (d : Nat) (t : mS), m_good nd nn t → m_good nd nn (m_rd nd r takes d t) := by
  intro d
  induction d with
  | zero => intro t g; exact g
  | succ d ih => intro t g; exact ih _ (rcs_good r takes d _ _ _ g)
theorem rnd_good (r takes : Int32) (g : m_good nd nn t) : m_good nd nn (m_rnd nd r takes t) := lv_good (rd_good r takes nd _ (com_good g))
set_option maxHeartbeats 1000000 in
theorem l_Md_round (w : mm_inj mdom K) {r takes : Int32} : ∀ (d : Nat) (t : mS), m_good nd nn t → d ≤ nd → mm_V G M_Md_round 12 [(0, .ref (K 0)), (1, .int r), (2, .int takes), (3, .int (nI d - 1))] [] (MP K t h) 0 0 (mm_E none (MP K (m_lv nd (m_rd nd r takes d t)) h)) := by
  intro d
  induction d with
  | zero =>
    intro t g hd
    refine mm_blk (pc' := 13) ok_Md_round 1 _ _ _ rfl ?_
    refine mm_if_lt ok_Md_round 157 rfl (by decide) (fun c => ?_) (fun c => ?_)
    rotate_left
    · first | exact c (by decide) | exact absurd c (by decide)
    refine mm_blk (pc' := 158) ok_Md_round 1 _ _ _ rfl ?_
    refine mm_cVE ok_Md_round (As := []) rfl k_Md_round_137 (mp_0 w) rfl rfl rfl (Nat.le_of_ble_eq_true rfl) (c_Md_leave w g) ?_
    exact mm_vret ok_Md_round rfl rfl ⟨rfl, rfl⟩
  | succ d ih =>
    intro t g hd
    have h4 := g.1.1
    rw [nI_pred]
    refine mm_blk (pc' := 13) ok_Md_round 1 _ _ _ rfl ?_
    refine mm_if_lt ok_Md_round 157 rfl (by decide) (fun c => ?_) (fun c => ?_)
    · exact absurd c (nI_pos (by omega))
    refine mm_blk (pc' := 19) ok_Md_round 2 _ _ _ rfl ?_
    refine l_Md_roundC w (by omega) (g.1.2.2.2.2.1 d (by omega)).2.1 (m_cl t d) 0 t g rfl (by omega) ?_
    refine mm_blk (pc' := 12) ok_Md_round 2 _ _ _ rfl ?_
    rw [show nI d + (-1) = nI d - 1 from (Int32.sub_eq_add_neg _ _).symm]
    refine mm_V_pick [0, 1, 2, 3] rfl ?_
    exact ih _ (rcs_good r takes d _ _ _ g) (by omega)
set_option maxHeartbeats 1000000 in
theorem c_Md_round (w : mm_inj mdom K) (g : m_good nd nn t) (r takes : Int32) : mm_C G M_Md_round [.ref (K 0), .int r, .int takes] (MP K t h) 0 0 (mm_E none (MP K (m_rnd nd r takes t) h)) := by
  have g1 := com_good g
  refine mm_C_of (by decide +kernel) rfl (Nat.le_of_ble_eq_true rfl) rfl ?_
  refine mm_blk (pc' := 2) ok_Md_round 2 _ _ _ rfl ?_
  refine mm_cVE ok_Md_round (As := [.int 0]) rfl k_Md_round_133 (mp_0 w) rfl rfl rfl (Nat.le_of_ble_eq_true rfl) (c_Md_comeTo0 w g) ?_
  refine mm_blk (pc' := 6) ok_Md_round 1 _ _ _ rfl ?_
  refine mm_getf ok_Md_round (mp_0 w) rfl f_Md_66 rfl ?_
  rw [g1.1.2.2.1]
  refine mm_blk (pc' := 12) ok_Md_round 3 _ _ _ rfl ?_
  exact l_Md_round w nd _ g1 (Nat.le_refl _)
end MD6
end
