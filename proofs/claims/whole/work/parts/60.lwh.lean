/-! the law's helpers -/
section LWH
variable {G : mm_G} {H : mm_Hp} {b o : Nat} {fs : List Value} {x : Int64} {v : Int32} {mc ms : Nat} {A : Type} {PP : A → Prop} {F : A → mm_Hp}
/-- what a call may leave: a value and one of the heaps F -/
def mm_EE (PP : A → Prop) (F : A → mm_Hp) (r : Option Value) : mm_O → mm_Hp → Prop := fun o h' => ∃ a, PP a ∧ o = .inl r ∧ h' = F a
theorem mm_EE_nx {r : Option Value} : ∀ E h', ¬ mm_EE PP F r (.inr E) h' := fun _ _ ⟨_, _, z, _⟩ => by cases z

theorem hx_Lw_device_IA : mm_hx M_Lw_device 9 xIA 17 := by
  refine ⟨(tableOf M_Lw_device.2.2.2.2.2.2).take 0, (tableOf M_Lw_device.2.2.2.2.2.2)[0], (tableOf M_Lw_device.2.2.2.2.2.2).drop 1, "java/lang/IllegalArgumentException", by decide, by decide, ?_, by decide, by decide, by decide +kernel, by decide +kernel⟩
  intro z hz; cases hz
set_option maxHeartbeats 1000000 in
theorem c_Lw_device_IA {a1 a2 a3 a4 : Int32} (hb : H b = some (3, fs)) (hC : mm_C G M_Cb_device [.ref b, .int a1, .int a2, .int a3, .int a4] H mc ms (mm_X xIA H)) : mm_CH G M_Lw_device [.ref b, .int a1, .int a2, .int a3, .int a4, .ref o] H mc ms (mm_E (some (.int 1)) H) := by
  refine mm_CH_of (by decide +kernel) (Nat.le_of_ble_eq_true rfl) rfl ?_
  refine mm_blk (pc' := 9) ok_Lw_device 7 _ _ _ rfl ?_
  refine mm_callVX (kc := 0) (ks := 0) (As := [.int a1, .int a2, .int a3, .int a4]) (st := [.int 0, .ref o]) ok_Lw_device rfl k_Lw_device_7 hb rfl rfl rfl (Nat.le_of_ble_eq_true rfl) hC (fun E h' q z => ?_) (fun w h' z => ?_)
  · obtain ⟨z1, rfl⟩ := z
    cases z1
    refine ⟨17, hx_Lw_device_IA, ?_⟩
    refine mm_blk (pc' := 20) ok_Lw_device 2 _ _ _ rfl ?_
    exact mm_iret ok_Lw_device rfl rfl ⟨rfl, rfl⟩
  · cases z.1
theorem hx_Lw_device_IS : mm_hx M_Lw_device 9 xIS 21 := by
  refine ⟨(tableOf M_Lw_device.2.2.2.2.2.2).take 1, (tableOf M_Lw_device.2.2.2.2.2.2)[1], (tableOf M_Lw_device.2.2.2.2.2.2).drop 2, "java/lang/IllegalStateException", by decide, by decide, ?_, by decide, by decide, by decide +kernel, by decide +kernel⟩
  intro z hz
  have hz : z ∈ [(tableOf M_Lw_device.2.2.2.2.2.2)[0]] := hz
  rw [List.mem_singleton.mp hz]
  exact Or.inr ⟨by decide, rfl, by decide +kernel⟩
set_option maxHeartbeats 1000000 in
theorem c_Lw_device_IS {a1 a2 a3 a4 : Int32} (hb : H b = some (3, fs)) (hC : mm_C G M_Cb_device [.ref b, .int a1, .int a2, .int a3, .int a4] H mc ms (mm_X xIS H)) : mm_CH G M_Lw_device [.ref b, .int a1, .int a2, .int a3, .int a4, .ref o] H mc ms (mm_E (some (.int 2)) H) := by
  refine mm_CH_of (by decide +kernel) (Nat.le_of_ble_eq_true rfl) rfl ?_
  refine mm_blk (pc' := 9) ok_Lw_device 7 _ _ _ rfl ?_
  refine mm_callVX (kc := 0) (ks := 0) (As := [.int a1, .int a2, .int a3, .int a4]) (st := [.int 0, .ref o]) ok_Lw_device rfl k_Lw_device_7 hb rfl rfl rfl (Nat.le_of_ble_eq_true rfl) hC (fun E h' q z => ?_) (fun w h' z => ?_)
  · obtain ⟨z1, rfl⟩ := z
    cases z1
    refine ⟨21, hx_Lw_device_IS, ?_⟩
    refine mm_blk (pc' := 24) ok_Lw_device 2 _ _ _ rfl ?_
    exact mm_iret ok_Lw_device rfl rfl ⟨rfl, rfl⟩
  · cases z.1
set_option maxHeartbeats 1000000 in
theorem c_Lw_device_r {a1 a2 a3 a4 : Int32} (hb : H b = some (3, fs)) (ho : ∀ a, PP a → F a o = some (12, [.long x])) (hC : mm_C G M_Cb_device [.ref b, .int a1, .int a2, .int a3, .int a4] H mc ms (mm_EE PP F (some (.int v)))) : mm_CH G M_Lw_device [.ref b, .int a1, .int a2, .int a3, .int a4, .ref o] H mc ms (mm_EE PP (fun a => mm_up (F a) o (12, [.long v.toInt64])) (some (.int 0))) := by
  refine mm_CH_of (by decide +kernel) (Nat.le_of_ble_eq_true rfl) rfl ?_
  refine mm_blk (pc' := 9) ok_Lw_device 7 _ _ _ rfl ?_
  refine mm_callVX (kc := 0) (ks := 0) (As := [.int a1, .int a2, .int a3, .int a4]) (st := [.int 0, .ref o]) ok_Lw_device rfl k_Lw_device_7 hb rfl rfl rfl (Nat.le_of_ble_eq_true rfl) hC (fun E h' q z => ?_) (fun w h' z => ?_)
  · exact absurd z (mm_EE_nx _ _)
  · obtain ⟨a, z1, z2, rfl⟩ := z
    cases z2
    refine mm_blk (pc' := 13) ok_Lw_device 1 _ _ _ rfl ?_
    refine mm_last (j := 0) ok_Lw_device (ho a z1) rfl rfl (by decide) (by show 0 < 1; decide) ?_
    refine mm_blk (pc' := 26) ok_Lw_device 2 _ _ _ rfl ?_
    exact mm_iret ok_Lw_device rfl rfl ⟨a, z1, rfl, rfl⟩
theorem hx_Lw_net_IA : mm_hx M_Lw_net 9 xIA 17 := by
  refine ⟨(tableOf M_Lw_net.2.2.2.2.2.2).take 0, (tableOf M_Lw_net.2.2.2.2.2.2)[0], (tableOf M_Lw_net.2.2.2.2.2.2).drop 1, "java/lang/IllegalArgumentException", by decide, by decide, ?_, by decide, by decide, by decide +kernel, by decide +kernel⟩
  intro z hz; cases hz
set_option maxHeartbeats 1000000 in
theorem c_Lw_net_IA {a1 a2 a3 a4 : Int32} (hb : H b = some (3, fs)) (hC : mm_C G M_Cb_net [.ref b, .int a1, .int a2, .int a3, .int a4] H mc ms (mm_X xIA H)) : mm_CH G M_Lw_net [.ref b, .int a1, .int a2, .int a3, .int a4, .ref o] H mc ms (mm_E (some (.int 1)) H) := by
  refine mm_CH_of (by decide +kernel) (Nat.le_of_ble_eq_true rfl) rfl ?_
  refine mm_blk (pc' := 9) ok_Lw_net 7 _ _ _ rfl ?_
  refine mm_callVX (kc := 0) (ks := 0) (As := [.int a1, .int a2, .int a3, .int a4]) (st := [.int 0, .ref o]) ok_Lw_net rfl k_Lw_net_17 hb rfl rfl rfl (Nat.le_of_ble_eq_true rfl) hC (fun E h' q z => ?_) (fun w h' z => ?_)
  · obtain ⟨z1, rfl⟩ := z
    cases z1
    refine ⟨17, hx_Lw_net_IA, ?_⟩
    refine mm_blk (pc' := 20) ok_Lw_net 2 _ _ _ rfl ?_
    exact mm_iret ok_Lw_net rfl rfl ⟨rfl, rfl⟩
  · cases z.1
theorem hx_Lw_net_IS : mm_hx M_Lw_net 9 xIS 21 := by
  refine ⟨(tableOf M_Lw_net.2.2.2.2.2.2).take 1, (tableOf M_Lw_net.2.2.2.2.2.2)[1], (tableOf M_Lw_net.2.2.2.2.2.2).drop 2, "java/lang/IllegalStateException", by decide, by decide, ?_, by decide, by decide, by decide +kernel, by decide +kernel⟩
  intro z hz
  have hz : z ∈ [(tableOf M_Lw_net.2.2.2.2.2.2)[0]] := hz
  rw [List.mem_singleton.mp hz]
  exact Or.inr ⟨by decide, rfl, by decide +kernel⟩
set_option maxHeartbeats 1000000 in
theorem c_Lw_net_IS {a1 a2 a3 a4 : Int32} (hb : H b = some (3, fs)) (hC : mm_C G M_Cb_net [.ref b, .int a1, .int a2, .int a3, .int a4] H mc ms (mm_X xIS H)) : mm_CH G M_Lw_net [.ref b, .int a1, .int a2, .int a3, .int a4, .ref o] H mc ms (mm_E (some (.int 2)) H) := by
  refine mm_CH_of (by decide +kernel) (Nat.le_of_ble_eq_true rfl) rfl ?_
  refine mm_blk (pc' := 9) ok_Lw_net 7 _ _ _ rfl ?_
  refine mm_callVX (kc := 0) (ks := 0) (As := [.int a1, .int a2, .int a3, .int a4]) (st := [.int 0, .ref o]) ok_Lw_net rfl k_Lw_net_17 hb rfl rfl rfl (Nat.le_of_ble_eq_true rfl) hC (fun E h' q z => ?_) (fun w h' z => ?_)
  · obtain ⟨z1, rfl⟩ := z
    cases z1
    refine ⟨21, hx_Lw_net_IS, ?_⟩
    refine mm_blk (pc' := 24) ok_Lw_net 2 _ _ _ rfl ?_
    exact mm_iret ok_Lw_net rfl rfl ⟨rfl, rfl⟩
  · cases z.1
set_option maxHeartbeats 1000000 in
theorem c_Lw_net_r {a1 a2 a3 a4 : Int32} (hb : H b = some (3, fs)) (ho : ∀ a, PP a → F a o = some (12, [.long x])) (hC : mm_C G M_Cb_net [.ref b, .int a1, .int a2, .int a3, .int a4] H mc ms (mm_EE PP F (some (.int v)))) : mm_CH G M_Lw_net [.ref b, .int a1, .int a2, .int a3, .int a4, .ref o] H mc ms (mm_EE PP (fun a => mm_up (F a) o (12, [.long v.toInt64])) (some (.int 0))) := by
  refine mm_CH_of (by decide +kernel) (Nat.le_of_ble_eq_true rfl) rfl ?_
  refine mm_blk (pc' := 9) ok_Lw_net 7 _ _ _ rfl ?_
  refine mm_callVX (kc := 0) (ks := 0) (As := [.int a1, .int a2, .int a3, .int a4]) (st := [.int 0, .ref o]) ok_Lw_net rfl k_Lw_net_17 hb rfl rfl rfl (Nat.le_of_ble_eq_true rfl) hC (fun E h' q z => ?_) (fun w h' z => ?_)
  · exact absurd z (mm_EE_nx _ _)
  · obtain ⟨a, z1, z2, rfl⟩ := z
    cases z2
    refine mm_blk (pc' := 13) ok_Lw_net 1 _ _ _ rfl ?_
    refine mm_last (j := 0) ok_Lw_net (ho a z1) rfl rfl (by decide) (by show 0 < 1; decide) ?_
    refine mm_blk (pc' := 26) ok_Lw_net 2 _ _ _ rfl ?_
    exact mm_iret ok_Lw_net rfl rfl ⟨a, z1, rfl, rfl⟩
theorem hx_Lw_fault_IA : mm_hx M_Lw_fault 4 xIA 10 := by
  refine ⟨(tableOf M_Lw_fault.2.2.2.2.2.2).take 0, (tableOf M_Lw_fault.2.2.2.2.2.2)[0], (tableOf M_Lw_fault.2.2.2.2.2.2).drop 1, "java/lang/IllegalArgumentException", by decide, by decide, ?_, by decide, by decide, by decide +kernel, by decide +kernel⟩
  intro z hz; cases hz
set_option maxHeartbeats 1000000 in
theorem c_Lw_fault_IA {a1 a2 a3 : Int32} (hb : H b = some (3, fs)) (hC : mm_C G M_Cb_fault [.ref b, .int a1, .int a2, .int a3] H mc ms (mm_X xIA H)) : mm_CH G M_Lw_fault [.ref b, .int a1, .int a2, .int a3] H mc ms (mm_E (some (.int 1)) H) := by
  refine mm_CH_of (by decide +kernel) (Nat.le_of_ble_eq_true rfl) rfl ?_
  refine mm_blk (pc' := 4) ok_Lw_fault 4 _ _ _ rfl ?_
  refine mm_callVX (kc := 0) (ks := 0) (As := [.int a1, .int a2, .int a3]) (st := []) ok_Lw_fault rfl k_Lw_fault_20 hb rfl rfl rfl (Nat.le_of_ble_eq_true rfl) hC (fun E h' q z => ?_) (fun w h' z => ?_)
  · obtain ⟨z1, rfl⟩ := z
    cases z1
    refine ⟨10, hx_Lw_fault_IA, ?_⟩
    refine mm_blk (pc' := 13) ok_Lw_fault 2 _ _ _ rfl ?_
    exact mm_iret ok_Lw_fault rfl rfl ⟨rfl, rfl⟩
  · cases z.1
set_option maxHeartbeats 1000000 in
theorem c_Lw_fault_r {a1 a2 a3 : Int32} (hb : H b = some (3, fs)) (hC : mm_C G M_Cb_fault [.ref b, .int a1, .int a2, .int a3] H mc ms (mm_EE PP F none)) : mm_CH G M_Lw_fault [.ref b, .int a1, .int a2, .int a3] H mc ms (mm_EE PP F (some (.int 0))) := by
  refine mm_CH_of (by decide +kernel) (Nat.le_of_ble_eq_true rfl) rfl ?_
  refine mm_blk (pc' := 4) ok_Lw_fault 4 _ _ _ rfl ?_
  refine mm_callVX (kc := 0) (ks := 0) (As := [.int a1, .int a2, .int a3]) (st := []) ok_Lw_fault rfl k_Lw_fault_20 hb rfl rfl rfl (Nat.le_of_ble_eq_true rfl) hC (fun E h' q z => ?_) (fun w h' z => ?_)
  · exact absurd z (mm_EE_nx _ _)
  · obtain ⟨a, z1, z2, rfl⟩ := z
    cases z2
    refine mm_blk (pc' := 15) ok_Lw_fault 2 _ _ _ rfl ?_
    exact mm_iret ok_Lw_fault rfl rfl ⟨a, z1, rfl, rfl⟩
theorem hx_Lw_core_IA : mm_hx M_Lw_core 4 xIA 10 := by
  refine ⟨(tableOf M_Lw_core.2.2.2.2.2.2).take 0, (tableOf M_Lw_core.2.2.2.2.2.2)[0], (tableOf M_Lw_core.2.2.2.2.2.2).drop 1, "java/lang/IllegalArgumentException", by decide, by decide, ?_, by decide, by decide, by decide +kernel, by decide +kernel⟩
  intro z hz; cases hz
set_option maxHeartbeats 1000000 in
theorem c_Lw_core_IA {a1 a2 a3 : Int32} (hb : H b = some (3, fs)) (hC : mm_C G M_Cb_core [.ref b, .int a1, .int a2, .int a3] H mc ms (mm_X xIA H)) : mm_CH G M_Lw_core [.ref b, .int a1, .int a2, .int a3] H mc ms (mm_E (some (.int 1)) H) := by
  refine mm_CH_of (by decide +kernel) (Nat.le_of_ble_eq_true rfl) rfl ?_
  refine mm_blk (pc' := 4) ok_Lw_core 4 _ _ _ rfl ?_
  refine mm_callVX (kc := 0) (ks := 0) (As := [.int a1, .int a2, .int a3]) (st := []) ok_Lw_core rfl k_Lw_core_24 hb rfl rfl rfl (Nat.le_of_ble_eq_true rfl) hC (fun E h' q z => ?_) (fun w h' z => ?_)
  · obtain ⟨z1, rfl⟩ := z
    cases z1
    refine ⟨10, hx_Lw_core_IA, ?_⟩
    refine mm_blk (pc' := 13) ok_Lw_core 2 _ _ _ rfl ?_
    exact mm_iret ok_Lw_core rfl rfl ⟨rfl, rfl⟩
  · cases z.1
set_option maxHeartbeats 1000000 in
theorem c_Lw_core_r {a1 a2 a3 : Int32} (hb : H b = some (3, fs)) (hC : mm_C G M_Cb_core [.ref b, .int a1, .int a2, .int a3] H mc ms (mm_EE PP F none)) : mm_CH G M_Lw_core [.ref b, .int a1, .int a2, .int a3] H mc ms (mm_EE PP F (some (.int 0))) := by
  refine mm_CH_of (by decide +kernel) (Nat.le_of_ble_eq_true rfl) rfl ?_
  refine mm_blk (pc' := 4) ok_Lw_core 4 _ _ _ rfl ?_
  refine mm_callVX (kc := 0) (ks := 0) (As := [.int a1, .int a2, .int a3]) (st := []) ok_Lw_core rfl k_Lw_core_24 hb rfl rfl rfl (Nat.le_of_ble_eq_true rfl) hC (fun E h' q z => ?_) (fun w h' z => ?_)
  · exact absurd z (mm_EE_nx _ _)
  · obtain ⟨a, z1, z2, rfl⟩ := z
    cases z2
    refine mm_blk (pc' := 15) ok_Lw_core 2 _ _ _ rfl ?_
    exact mm_iret ok_Lw_core rfl rfl ⟨a, z1, rfl, rfl⟩
theorem hx_Lw_clock_IS : mm_hx M_Lw_clock 5 xIS 20 := by
  refine ⟨(tableOf M_Lw_clock.2.2.2.2.2.2).take 0, (tableOf M_Lw_clock.2.2.2.2.2.2)[0], (tableOf M_Lw_clock.2.2.2.2.2.2).drop 1, "java/lang/IllegalStateException", by decide, by decide, ?_, by decide, by decide, by decide +kernel, by decide +kernel⟩
  intro z hz; cases hz
set_option maxHeartbeats 1000000 in
theorem c_Lw_clock_IS {a1 a2 : Int32} (hb : H b = some (3, fs)) (hC : mm_C G M_Cb_clock [.ref b, .int a1, .int a2] H mc ms (mm_X xIS H)) : mm_CH G M_Lw_clock [.ref b, .int a1, .int a2, .ref o] H mc ms (mm_E (some (.int 1)) H) := by
  refine mm_CH_of (by decide +kernel) (Nat.le_of_ble_eq_true rfl) rfl ?_
  refine mm_blk (pc' := 5) ok_Lw_clock 5 _ _ _ rfl ?_
  refine mm_callVX (kc := 0) (ks := 0) (As := [.int a1, .int a2]) (st := [.int 0, .ref o]) ok_Lw_clock rfl k_Lw_clock_28 hb rfl rfl rfl (Nat.le_of_ble_eq_true rfl) hC (fun E h' q z => ?_) (fun w h' z => ?_)
  · obtain ⟨z1, rfl⟩ := z
    cases z1
    refine ⟨20, hx_Lw_clock_IS, ?_⟩
    refine mm_blk (pc' := 23) ok_Lw_clock 2 _ _ _ rfl ?_
    exact mm_iret ok_Lw_clock rfl rfl ⟨rfl, rfl⟩
  · cases z.1
set_option maxHeartbeats 1000000 in
theorem c_Lw_clock_r {a1 a2 : Int32} (hb : H b = some (3, fs)) (ho : ∀ a, PP a → F a o = some (12, [.long x])) (hC : mm_C G M_Cb_clock [.ref b, .int a1, .int a2] H mc ms (mm_EE PP F (some (.int v)))) : mm_CH G M_Lw_clock [.ref b, .int a1, .int a2, .ref o] H mc ms (mm_EE PP (fun a => mm_up (F a) o (12, [.long (if v = 0 then 0 else 1)])) (some (.int 0))) := by
  refine mm_CH_of (by decide +kernel) (Nat.le_of_ble_eq_true rfl) rfl ?_
  refine mm_blk (pc' := 5) ok_Lw_clock 5 _ _ _ rfl ?_
  refine mm_callVX (kc := 0) (ks := 0) (As := [.int a1, .int a2]) (st := [.int 0, .ref o]) ok_Lw_clock rfl k_Lw_clock_28 hb rfl rfl rfl (Nat.le_of_ble_eq_true rfl) hC (fun E h' q z => ?_) (fun w h' z => ?_)
  · exact absurd z (mm_EE_nx _ _)
  · obtain ⟨a, z1, z2, rfl⟩ := z
    cases z2
    refine mm_if_eq ok_Lw_clock 15 rfl (by decide) (fun c => ?_) (fun c => ?_)
    · refine mm_blk (pc' := 16) ok_Lw_clock 1 _ _ _ rfl ?_
      refine mm_last (j := 0) ok_Lw_clock (ho a z1) rfl rfl (by decide) (by show 0 < 1; decide) ?_
      refine mm_blk (pc' := 25) ok_Lw_clock 2 _ _ _ rfl ?_
      exact mm_iret ok_Lw_clock rfl rfl ⟨a, z1, rfl, by rw [if_pos c]; rfl⟩
    · refine mm_blk (pc' := 16) ok_Lw_clock 2 _ _ _ rfl ?_
      refine mm_last (j := 0) ok_Lw_clock (ho a z1) rfl rfl (by decide) (by show 0 < 1; decide) ?_
      refine mm_blk (pc' := 25) ok_Lw_clock 2 _ _ _ rfl ?_
      exact mm_iret ok_Lw_clock rfl rfl ⟨a, z1, rfl, by rw [if_neg c]; rfl⟩
theorem hx_Lw_look_IA : mm_hx M_Lw_look 5 xIA 13 := by
  refine ⟨(tableOf M_Lw_look.2.2.2.2.2.2).take 0, (tableOf M_Lw_look.2.2.2.2.2.2)[0], (tableOf M_Lw_look.2.2.2.2.2.2).drop 1, "java/lang/IllegalArgumentException", by decide, by decide, ?_, by decide, by decide, by decide +kernel, by decide +kernel⟩
  intro z hz; cases hz
set_option maxHeartbeats 1000000 in
theorem c_Lw_look_IA {a1 a2 : Int32} (hb : H b = some (3, fs)) (hC : mm_C G M_Cb_look [.ref b, .int a1, .int a2] H mc ms (mm_X xIA H)) : mm_CH G M_Lw_look [.ref b, .int a1, .int a2, .ref o] H mc ms (mm_E (some (.int 1)) H) := by
  refine mm_CH_of (by decide +kernel) (Nat.le_of_ble_eq_true rfl) rfl ?_
  refine mm_blk (pc' := 5) ok_Lw_look 5 _ _ _ rfl ?_
  refine mm_callVX (kc := 0) (ks := 0) (As := [.int a1, .int a2]) (st := [.int 0, .ref o]) ok_Lw_look rfl k_Lw_look_32 hb rfl rfl rfl (Nat.le_of_ble_eq_true rfl) hC (fun E h' q z => ?_) (fun w h' z => ?_)
  · obtain ⟨z1, rfl⟩ := z
    cases z1
    refine ⟨13, hx_Lw_look_IA, ?_⟩
    refine mm_blk (pc' := 16) ok_Lw_look 2 _ _ _ rfl ?_
    exact mm_iret ok_Lw_look rfl rfl ⟨rfl, rfl⟩
  · cases z.1
set_option maxHeartbeats 1000000 in
theorem c_Lw_look_r {a1 a2 : Int32} (hb : H b = some (3, fs)) (ho : ∀ a, PP a → F a o = some (12, [.long x])) (hC : mm_C G M_Cb_look [.ref b, .int a1, .int a2] H mc ms (mm_EE PP F (some (.int v)))) : mm_CH G M_Lw_look [.ref b, .int a1, .int a2, .ref o] H mc ms (mm_EE PP (fun a => mm_up (F a) o (12, [.long v.toInt64])) (some (.int 0))) := by
  refine mm_CH_of (by decide +kernel) (Nat.le_of_ble_eq_true rfl) rfl ?_
  refine mm_blk (pc' := 5) ok_Lw_look 5 _ _ _ rfl ?_
  refine mm_callVX (kc := 0) (ks := 0) (As := [.int a1, .int a2]) (st := [.int 0, .ref o]) ok_Lw_look rfl k_Lw_look_32 hb rfl rfl rfl (Nat.le_of_ble_eq_true rfl) hC (fun E h' q z => ?_) (fun w h' z => ?_)
  · exact absurd z (mm_EE_nx _ _)
  · obtain ⟨a, z1, z2, rfl⟩ := z
    cases z2
    refine mm_blk (pc' := 9) ok_Lw_look 1 _ _ _ rfl ?_
    refine mm_last (j := 0) ok_Lw_look (ho a z1) rfl rfl (by decide) (by show 0 < 1; decide) ?_
    refine mm_blk (pc' := 18) ok_Lw_look 2 _ _ _ rfl ?_
    exact mm_iret ok_Lw_look rfl rfl ⟨a, z1, rfl, rfl⟩
theorem hx_Lw_value_IA : mm_hx M_Lw_value 4 xIA 19 := by
  refine ⟨(tableOf M_Lw_value.2.2.2.2.2.2).take 0, (tableOf M_Lw_value.2.2.2.2.2.2)[0], (tableOf M_Lw_value.2.2.2.2.2.2).drop 1, "java/lang/IllegalArgumentException", by decide, by decide, ?_, by decide, by decide, by decide +kernel, by decide +kernel⟩
  intro z hz; cases hz
set_option maxHeartbeats 1000000 in
theorem c_Lw_value_IA {a1 : Int32} (hb : H b = some (3, fs)) (hC : mm_C G M_Cb_value [.ref b, .int a1] H mc ms (mm_X xIA H)) : mm_CH G M_Lw_value [.ref b, .int a1, .ref o] H mc ms (mm_E (some (.int 1)) H) := by
  refine mm_CH_of (by decide +kernel) (Nat.le_of_ble_eq_true rfl) rfl ?_
  refine mm_blk (pc' := 4) ok_Lw_value 4 _ _ _ rfl ?_
  refine mm_callVX (kc := 0) (ks := 0) (As := [.int a1]) (st := [.int 0, .ref o]) ok_Lw_value rfl k_Lw_value_36 hb rfl rfl rfl (Nat.le_of_ble_eq_true rfl) hC (fun E h' q z => ?_) (fun w h' z => ?_)
  · obtain ⟨z1, rfl⟩ := z
    cases z1
    refine ⟨19, hx_Lw_value_IA, ?_⟩
    refine mm_blk (pc' := 21) ok_Lw_value 2 _ _ _ rfl ?_
    exact mm_iret ok_Lw_value rfl rfl ⟨rfl, rfl⟩
  · cases z.1
set_option maxHeartbeats 1000000 in
theorem c_Lw_value_r {a1 : Int32} (hb : H b = some (3, fs)) (ho : ∀ a, PP a → F a o = some (12, [.long x])) (hC : mm_C G M_Cb_value [.ref b, .int a1] H mc ms (mm_EE PP F (some (.int v)))) : mm_CH G M_Lw_value [.ref b, .int a1, .ref o] H mc ms (mm_EE PP (fun a => mm_up (F a) o (12, [.long (if v = 0 then 0 else 1)])) (some (.int 0))) := by
  refine mm_CH_of (by decide +kernel) (Nat.le_of_ble_eq_true rfl) rfl ?_
  refine mm_blk (pc' := 4) ok_Lw_value 4 _ _ _ rfl ?_
  refine mm_callVX (kc := 0) (ks := 0) (As := [.int a1]) (st := [.int 0, .ref o]) ok_Lw_value rfl k_Lw_value_36 hb rfl rfl rfl (Nat.le_of_ble_eq_true rfl) hC (fun E h' q z => ?_) (fun w h' z => ?_)
  · exact absurd z (mm_EE_nx _ _)
  · obtain ⟨a, z1, z2, rfl⟩ := z
    cases z2
    refine mm_if_eq ok_Lw_value 14 rfl (by decide) (fun c => ?_) (fun c => ?_)
    · refine mm_blk (pc' := 15) ok_Lw_value 1 _ _ _ rfl ?_
      refine mm_last (j := 0) ok_Lw_value (ho a z1) rfl rfl (by decide) (by show 0 < 1; decide) ?_
      refine mm_blk (pc' := 23) ok_Lw_value 2 _ _ _ rfl ?_
      exact mm_iret ok_Lw_value rfl rfl ⟨a, z1, rfl, by rw [if_pos c]; rfl⟩
    · refine mm_blk (pc' := 15) ok_Lw_value 2 _ _ _ rfl ?_
      refine mm_last (j := 0) ok_Lw_value (ho a z1) rfl rfl (by decide) (by show 0 < 1; decide) ?_
      refine mm_blk (pc' := 23) ok_Lw_value 2 _ _ _ rfl ?_
      exact mm_iret ok_Lw_value rfl rfl ⟨a, z1, rfl, by rw [if_neg c]; rfl⟩
theorem hx_Lw_find_IS : mm_hx M_Lw_find 3 xIS 11 := by
  refine ⟨(tableOf M_Lw_find.2.2.2.2.2.2).take 0, (tableOf M_Lw_find.2.2.2.2.2.2)[0], (tableOf M_Lw_find.2.2.2.2.2.2).drop 1, "java/lang/IllegalStateException", by decide, by decide, ?_, by decide, by decide, by decide +kernel, by decide +kernel⟩
  intro z hz; cases hz
set_option maxHeartbeats 1000000 in
theorem c_Lw_find_IS (hb : H b = some (3, fs)) (hC : mm_C G M_Cb_find [.ref b] H mc ms (mm_X xIS H)) : mm_CH G M_Lw_find [.ref b, .ref o] H mc ms (mm_E (some (.int 1)) H) := by
  refine mm_CH_of (by decide +kernel) (Nat.le_of_ble_eq_true rfl) rfl ?_
  refine mm_blk (pc' := 3) ok_Lw_find 3 _ _ _ rfl ?_
  refine mm_callVX (kc := 0) (ks := 0) (As := []) (st := [.int 0, .ref o]) ok_Lw_find rfl k_Lw_find_40 hb rfl rfl rfl (Nat.le_of_ble_eq_true rfl) hC (fun E h' q z => ?_) (fun w h' z => ?_)
  · obtain ⟨z1, rfl⟩ := z
    cases z1
    refine ⟨11, hx_Lw_find_IS, ?_⟩
    refine mm_blk (pc' := 13) ok_Lw_find 2 _ _ _ rfl ?_
    exact mm_iret ok_Lw_find rfl rfl ⟨rfl, rfl⟩
  · cases z.1
set_option maxHeartbeats 1000000 in
theorem c_Lw_find_r (hb : H b = some (3, fs)) (ho : ∀ a, PP a → F a o = some (12, [.long x])) (hC : mm_C G M_Cb_find [.ref b] H mc ms (mm_EE PP F (some (.int v)))) : mm_CH G M_Lw_find [.ref b, .ref o] H mc ms (mm_EE PP (fun a => mm_up (F a) o (12, [.long v.toInt64])) (some (.int 0))) := by
  refine mm_CH_of (by decide +kernel) (Nat.le_of_ble_eq_true rfl) rfl ?_
  refine mm_blk (pc' := 3) ok_Lw_find 3 _ _ _ rfl ?_
  refine mm_callVX (kc := 0) (ks := 0) (As := []) (st := [.int 0, .ref o]) ok_Lw_find rfl k_Lw_find_40 hb rfl rfl rfl (Nat.le_of_ble_eq_true rfl) hC (fun E h' q z => ?_) (fun w h' z => ?_)
  · exact absurd z (mm_EE_nx _ _)
  · obtain ⟨a, z1, z2, rfl⟩ := z
    cases z2
    refine mm_blk (pc' := 7) ok_Lw_find 1 _ _ _ rfl ?_
    refine mm_last (j := 0) ok_Lw_find (ho a z1) rfl rfl (by decide) (by show 0 < 1; decide) ?_
    refine mm_blk (pc' := 15) ok_Lw_find 2 _ _ _ rfl ?_
    exact mm_iret ok_Lw_find rfl rfl ⟨a, z1, rfl, rfl⟩
theorem hx_Lw_found_IO : mm_hx M_Lw_found 4 xIO 12 := by
  refine ⟨(tableOf M_Lw_found.2.2.2.2.2.2).take 0, (tableOf M_Lw_found.2.2.2.2.2.2)[0], (tableOf M_Lw_found.2.2.2.2.2.2).drop 1, "java/lang/IndexOutOfBoundsException", by decide, by decide, ?_, by decide, by decide, by decide +kernel, by decide +kernel⟩
  intro z hz; cases hz
set_option maxHeartbeats 1000000 in
theorem c_Lw_found_IO {a1 : Int32} (hb : H b = some (3, fs)) (hC : mm_C G M_Cb_found [.ref b, .int a1] H mc ms (mm_X xIO H)) : mm_CH G M_Lw_found [.ref b, .int a1, .ref o] H mc ms (mm_E (some (.int 1)) H) := by
  refine mm_CH_of (by decide +kernel) (Nat.le_of_ble_eq_true rfl) rfl ?_
  refine mm_blk (pc' := 4) ok_Lw_found 4 _ _ _ rfl ?_
  refine mm_callVX (kc := 0) (ks := 0) (As := [.int a1]) (st := [.int 0, .ref o]) ok_Lw_found rfl k_Lw_found_44 hb rfl rfl rfl (Nat.le_of_ble_eq_true rfl) hC (fun E h' q z => ?_) (fun w h' z => ?_)
  · obtain ⟨z1, rfl⟩ := z
    cases z1
    refine ⟨12, hx_Lw_found_IO, ?_⟩
    refine mm_blk (pc' := 14) ok_Lw_found 2 _ _ _ rfl ?_
    exact mm_iret ok_Lw_found rfl rfl ⟨rfl, rfl⟩
  · cases z.1
set_option maxHeartbeats 1000000 in
theorem c_Lw_found_r {a1 : Int32} (hb : H b = some (3, fs)) (ho : ∀ a, PP a → F a o = some (12, [.long x])) (hC : mm_C G M_Cb_found [.ref b, .int a1] H mc ms (mm_EE PP F (some (.int v)))) : mm_CH G M_Lw_found [.ref b, .int a1, .ref o] H mc ms (mm_EE PP (fun a => mm_up (F a) o (12, [.long v.toInt64])) (some (.int 0))) := by
  refine mm_CH_of (by decide +kernel) (Nat.le_of_ble_eq_true rfl) rfl ?_
  refine mm_blk (pc' := 4) ok_Lw_found 4 _ _ _ rfl ?_
  refine mm_callVX (kc := 0) (ks := 0) (As := [.int a1]) (st := [.int 0, .ref o]) ok_Lw_found rfl k_Lw_found_44 hb rfl rfl rfl (Nat.le_of_ble_eq_true rfl) hC (fun E h' q z => ?_) (fun w h' z => ?_)
  · exact absurd z (mm_EE_nx _ _)
  · obtain ⟨a, z1, z2, rfl⟩ := z
    cases z2
    refine mm_blk (pc' := 8) ok_Lw_found 1 _ _ _ rfl ?_
    refine mm_last (j := 0) ok_Lw_found (ho a z1) rfl rfl (by decide) (by show 0 < 1; decide) ?_
    refine mm_blk (pc' := 16) ok_Lw_found 2 _ _ _ rfl ?_
    exact mm_iret ok_Lw_found rfl rfl ⟨a, z1, rfl, rfl⟩
theorem hx_Lw_test_IS : mm_hx M_Lw_test 3 xIS 11 := by
  refine ⟨(tableOf M_Lw_test.2.2.2.2.2.2).take 0, (tableOf M_Lw_test.2.2.2.2.2.2)[0], (tableOf M_Lw_test.2.2.2.2.2.2).drop 1, "java/lang/IllegalStateException", by decide, by decide, ?_, by decide, by decide, by decide +kernel, by decide +kernel⟩
  intro z hz; cases hz
set_option maxHeartbeats 1000000 in
theorem c_Lw_test_IS (hb : H b = some (3, fs)) (hC : mm_C G M_Cb_test [.ref b] H mc ms (mm_X xIS H)) : mm_CH G M_Lw_test [.ref b, .ref o] H mc ms (mm_E (some (.int 1)) H) := by
  refine mm_CH_of (by decide +kernel) (Nat.le_of_ble_eq_true rfl) rfl ?_
  refine mm_blk (pc' := 3) ok_Lw_test 3 _ _ _ rfl ?_
  refine mm_callVX (kc := 0) (ks := 0) (As := []) (st := [.int 0, .ref o]) ok_Lw_test rfl k_Lw_test_50 hb rfl rfl rfl (Nat.le_of_ble_eq_true rfl) hC (fun E h' q z => ?_) (fun w h' z => ?_)
  · obtain ⟨z1, rfl⟩ := z
    cases z1
    refine ⟨11, hx_Lw_test_IS, ?_⟩
    refine mm_blk (pc' := 13) ok_Lw_test 2 _ _ _ rfl ?_
    exact mm_iret ok_Lw_test rfl rfl ⟨rfl, rfl⟩
  · cases z.1
set_option maxHeartbeats 1000000 in
theorem c_Lw_test_r (hb : H b = some (3, fs)) (ho : ∀ a, PP a → F a o = some (12, [.long x])) (hC : mm_C G M_Cb_test [.ref b] H mc ms (mm_EE PP F (some (.int v)))) : mm_CH G M_Lw_test [.ref b, .ref o] H mc ms (mm_EE PP (fun a => mm_up (F a) o (12, [.long v.toInt64])) (some (.int 0))) := by
  refine mm_CH_of (by decide +kernel) (Nat.le_of_ble_eq_true rfl) rfl ?_
  refine mm_blk (pc' := 3) ok_Lw_test 3 _ _ _ rfl ?_
  refine mm_callVX (kc := 0) (ks := 0) (As := []) (st := [.int 0, .ref o]) ok_Lw_test rfl k_Lw_test_50 hb rfl rfl rfl (Nat.le_of_ble_eq_true rfl) hC (fun E h' q z => ?_) (fun w h' z => ?_)
  · exact absurd z (mm_EE_nx _ _)
  · obtain ⟨a, z1, z2, rfl⟩ := z
    cases z2
    refine mm_blk (pc' := 7) ok_Lw_test 1 _ _ _ rfl ?_
    refine mm_last (j := 0) ok_Lw_test (ho a z1) rfl rfl (by decide) (by show 0 < 1; decide) ?_
    refine mm_blk (pc' := 15) ok_Lw_test 2 _ _ _ rfl ?_
    exact mm_iret ok_Lw_test rfl rfl ⟨a, z1, rfl, rfl⟩
theorem hx_Lw_saw_IO : mm_hx M_Lw_saw 4 xIO 12 := by
  refine ⟨(tableOf M_Lw_saw.2.2.2.2.2.2).take 0, (tableOf M_Lw_saw.2.2.2.2.2.2)[0], (tableOf M_Lw_saw.2.2.2.2.2.2).drop 1, "java/lang/IndexOutOfBoundsException", by decide, by decide, ?_, by decide, by decide, by decide +kernel, by decide +kernel⟩
  intro z hz; cases hz
set_option maxHeartbeats 1000000 in
theorem c_Lw_saw_IO {a1 : Int32} (hb : H b = some (3, fs)) (hC : mm_C G M_Cb_saw [.ref b, .int a1] H mc ms (mm_X xIO H)) : mm_CH G M_Lw_saw [.ref b, .int a1, .ref o] H mc ms (mm_E (some (.int 1)) H) := by
  refine mm_CH_of (by decide +kernel) (Nat.le_of_ble_eq_true rfl) rfl ?_
  refine mm_blk (pc' := 4) ok_Lw_saw 4 _ _ _ rfl ?_
  refine mm_callVX (kc := 0) (ks := 0) (As := [.int a1]) (st := [.int 0, .ref o]) ok_Lw_saw rfl k_Lw_saw_53 hb rfl rfl rfl (Nat.le_of_ble_eq_true rfl) hC (fun E h' q z => ?_) (fun w h' z => ?_)
  · obtain ⟨z1, rfl⟩ := z
    cases z1
    refine ⟨12, hx_Lw_saw_IO, ?_⟩
    refine mm_blk (pc' := 14) ok_Lw_saw 2 _ _ _ rfl ?_
    exact mm_iret ok_Lw_saw rfl rfl ⟨rfl, rfl⟩
  · cases z.1
set_option maxHeartbeats 1000000 in
theorem c_Lw_saw_r {a1 : Int32} (hb : H b = some (3, fs)) (ho : ∀ a, PP a → F a o = some (12, [.long x])) (hC : mm_C G M_Cb_saw [.ref b, .int a1] H mc ms (mm_EE PP F (some (.int v)))) : mm_CH G M_Lw_saw [.ref b, .int a1, .ref o] H mc ms (mm_EE PP (fun a => mm_up (F a) o (12, [.long v.toInt64])) (some (.int 0))) := by
  refine mm_CH_of (by decide +kernel) (Nat.le_of_ble_eq_true rfl) rfl ?_
  refine mm_blk (pc' := 4) ok_Lw_saw 4 _ _ _ rfl ?_
  refine mm_callVX (kc := 0) (ks := 0) (As := [.int a1]) (st := [.int 0, .ref o]) ok_Lw_saw rfl k_Lw_saw_53 hb rfl rfl rfl (Nat.le_of_ble_eq_true rfl) hC (fun E h' q z => ?_) (fun w h' z => ?_)
  · exact absurd z (mm_EE_nx _ _)
  · obtain ⟨a, z1, z2, rfl⟩ := z
    cases z2
    refine mm_blk (pc' := 8) ok_Lw_saw 1 _ _ _ rfl ?_
    refine mm_last (j := 0) ok_Lw_saw (ho a z1) rfl rfl (by decide) (by show 0 < 1; decide) ?_
    refine mm_blk (pc' := 16) ok_Lw_saw 2 _ _ _ rfl ?_
    exact mm_iret ok_Lw_saw rfl rfl ⟨a, z1, rfl, rfl⟩
end LWH
