/-! one call's turn over both states -/
section LWS
def LH (K : Nat → Nat) (S : cS) (Km : Nat → Nat) (t : mS) (o : Nat) (x : Int64) (h : mm_Hp) : mm_Hp := CP K S (MP Km t (mm_up h o (12, [.long x])))
def LJ (G : mm_G) (K : Nat → Nat) (S : cS) (Km : Nat → Nat) (o : Nat) : Prop := c_wf G K S ∧ mm_inj mdom Km ∧ (∀ m ∈ cdom (c_nd S) (c_nn S), ∀ n ∈ mdom, K m ≠ Km n) ∧ (∀ m ∈ cdom (c_nd S) (c_nn S), K m ≠ o) ∧ ∀ n ∈ mdom, Km n ≠ o
def LI (G : mm_G) (K : Nat → Nat) (S : cS) (Km : Nat → Nat) (t : mS) (o : Nat) : Prop := LJ G K S Km o ∧ Rel S t ∧ RU (c_nd S) t
variable {G : mm_G} {K Km : Nat → Nat} {S S1 : cS} {t t1 : mS} {o i kc ks mc ms : Nat} {x : Int64} {h : mm_Hp} {Q : mm_O → mm_Hp → Prop}
theorem LH_md (J : LJ G K S Km o) : LH K S Km t o x h = MP Km t (CP K S (mm_up h o (12, [.long x]))) := mm_pl_comm J.2.2.1
theorem LH_o (J : LJ G K S Km o) : LH K S Km t o x h o = some (12, [.long x]) := by
  unfold LH CP
  rw [mm_pl_no J.2.2.2.1]
  unfold MP
  rw [mm_pl_no J.2.2.2.2, mm_up_self]
theorem LH_put (J : LJ G K S Km o) (y : Int64) : mm_up (LH K S Km t o x h) o (12, [.long y]) = LH K S Km t o y h := by
  unfold LH CP MP
  rw [mm_pl_out J.2.2.2.1, mm_pl_out J.2.2.2.2, mm_up_up]
theorem LH_b (J : LJ G K S Km o) : LH K S Km t o x h (K 0) = some (oCb K (c_Z S 0)) := cp_0 J.1
theorem LH_m (J : LJ G K S Km o) : LH K S Km t o x h (Km 0) = some (oMd Km (t 0)) := by
  rw [LH_md J]
  exact mp_0 J.2.1
theorem LJ_same (J : LJ G K S Km o) (w : c_wf G K S1) (e : S1.1 = S.1) : LJ G K S1 Km o := by
  refine ⟨w, J.2.1, ?_, ?_, J.2.2.2.2⟩
  · have := J.2.2.1
    rw [show c_nd S1 = c_nd S from congrArg Prod.fst e, show c_nn S1 = c_nn S from congrArg Prod.snd e]; exact this
  · have := J.2.2.2.1
    rw [show c_nd S1 = c_nd S from congrArg Prod.fst e, show c_nn S1 = c_nn S from congrArg Prod.snd e]; exact this
theorem LT (J : LJ G K S Km o) {c : Int32} (h0 : t 0 0 = c) : mm_C G M_Md_thrown [.ref (Km 0)] (LH K S Km t o x h) 0 0 (mm_E (some (.int c)) (LH K S Km t o x h)) := by
  rw [LH_md J, ← h0]
  exact c_Md_thrown J.2.1
theorem RU_s0 {nd : Nat} (hu : RU nd t) (k : Nat) (y : Int32) : RU nd (m_s t 0 k y) := fun z hz => by
  rw [m_s_ne _ _ _ (show (6 : Nat) ≠ 0 by decide)]; exact hu z hz
def LK (G : mm_G) (K Km : Nat → Nat) (o i kc ks : Nat) (h : mm_Hp) (Q : mm_O → mm_Hp → Prop) : Prop := ∀ (K1 : Nat → Nat) (S1 : cS) (t1 : mS) (x1 : Int64), K1 0 = K 0 → LI G K1 S1 Km t1 o → mm_V G M_Lw_law 888 (LL G (K 0) (Km 0) o i) [] (LH K1 S1 Km t1 o x1 h) kc ks Q

set_option maxHeartbeats 1000000 in
theorem lx_device_IA (J : LJ G K S Km o) (hN : i + 5 ≤ G.2.2.2.1) (hN2 : G.2.2.2.1 < 1000000) {bv : Int32} (hC : ∀ h1, mm_C G M_Cb_device [.ref (K 0), .int (G.2.2.2.2 (i + 1)), .int (G.2.2.2.2 (i + 2)), .int (G.2.2.2.2 (i + 3)), .int (G.2.2.2.2 (i + 4))] (CP K S h1) 1 6 (mm_X xIA (CP K S h1))) (hM : ∀ h1, mm_C G M_Md_device [.ref (Km 0), .int (G.2.2.2.2 (i + 1)), .int (G.2.2.2.2 (i + 2)), .int (G.2.2.2.2 (i + 3)), .int (G.2.2.2.2 (i + 4))] (MP Km t h1) 0 0 (mm_E (some (.int bv)) (MP Km t1 h1))) (h0 : t1 0 0 = 1) (hr : Rel S t1) (hu : RU (c_nd S) t1) (k : LK G K Km o i kc ks h Q) : mm_V G M_Lw_law 104 (LL G (K 0) (Km 0) o i) [] (LH K S Km t o x h) (2 + kc) (20 + ks) Q := by
  refine mm_V_wid (k1 := 1 + kc) (k2 := 6 + ks) (by omega) (by omega) ?_
  refine lw_device hN hN2 (c_Lw_device_IA (LH_b J) (hC _)) mm_E_nx (fun v h1 z => ?_)
  obtain ⟨z1, rfl⟩ := z
  cases z1
  refine ⟨_, rfl, _, LH_m J, bv, LH K S Km t1 o x h, ?_, _, LH_m J, LT J h0, fun e => absurd e (by decide), k K S t1 x rfl ⟨J, hr, hu⟩⟩
  rw [LH_md J, LH_md J]
  exact hM _
set_option maxHeartbeats 1000000 in
theorem lx_device_IS (J : LJ G K S Km o) (hN : i + 5 ≤ G.2.2.2.1) (hN2 : G.2.2.2.1 < 1000000) {bv : Int32} (hC : ∀ h1, mm_C G M_Cb_device [.ref (K 0), .int (G.2.2.2.2 (i + 1)), .int (G.2.2.2.2 (i + 2)), .int (G.2.2.2.2 (i + 3)), .int (G.2.2.2.2 (i + 4))] (CP K S h1) 1 6 (mm_X xIS (CP K S h1))) (hM : ∀ h1, mm_C G M_Md_device [.ref (Km 0), .int (G.2.2.2.2 (i + 1)), .int (G.2.2.2.2 (i + 2)), .int (G.2.2.2.2 (i + 3)), .int (G.2.2.2.2 (i + 4))] (MP Km t h1) 0 0 (mm_E (some (.int bv)) (MP Km t1 h1))) (h0 : t1 0 0 = 2) (hr : Rel S t1) (hu : RU (c_nd S) t1) (k : LK G K Km o i kc ks h Q) : mm_V G M_Lw_law 104 (LL G (K 0) (Km 0) o i) [] (LH K S Km t o x h) (2 + kc) (20 + ks) Q := by
  refine mm_V_wid (k1 := 1 + kc) (k2 := 6 + ks) (by omega) (by omega) ?_
  refine lw_device hN hN2 (c_Lw_device_IS (LH_b J) (hC _)) mm_E_nx (fun v h1 z => ?_)
  obtain ⟨z1, rfl⟩ := z
  cases z1
  refine ⟨_, rfl, _, LH_m J, bv, LH K S Km t1 o x h, ?_, _, LH_m J, LT J h0, fun e => absurd e (by decide), k K S t1 x rfl ⟨J, hr, hu⟩⟩
  rw [LH_md J, LH_md J]
  exact hM _
set_option maxHeartbeats 1000000 in
theorem lq_device (J : LJ G K S Km o) (hN : i + 5 ≤ G.2.2.2.1) (hN2 : G.2.2.2.1 < 1000000) {bv : Int32} {PP : (Nat → Nat) → Prop} (hmc : mc ≤ 2) (hms : ms ≤ 20) (hC : mm_C G M_Cb_device [.ref (K 0), .int (G.2.2.2.2 (i + 1)), .int (G.2.2.2.2 (i + 2)), .int (G.2.2.2.2 (i + 3)), .int (G.2.2.2.2 (i + 4))] (LH K S Km t o x h) mc ms (mm_EE PP (fun K1 => LH K1 S1 Km t o x h) (some (.int bv)))) (hP : ∀ K1, PP K1 → K1 0 = K 0 ∧ LJ G K1 S1 Km o) (hM : ∀ h1, mm_C G M_Md_device [.ref (Km 0), .int (G.2.2.2.2 (i + 1)), .int (G.2.2.2.2 (i + 2)), .int (G.2.2.2.2 (i + 3)), .int (G.2.2.2.2 (i + 4))] (MP Km t h1) 0 0 (mm_E (some (.int bv)) (MP Km t1 h1))) (h0 : t1 0 0 = 0) (hr : Rel S1 t1) (hu : RU (c_nd S1) t1) (k : LK G K Km o i kc ks h Q) : mm_V G M_Lw_law 104 (LL G (K 0) (Km 0) o i) [] (LH K S Km t o x h) (2 + kc) (20 + ks) Q := by
  refine mm_V_wid (k1 := mc + kc) (k2 := ms + ks) (by omega) (by omega) ?_
  refine lw_device hN hN2 (c_Lw_device_r (x := x) (LH_b J) (fun K1 z => LH_o (hP K1 z).2) hC) mm_EE_nx (fun v h1 z => ?_)
  obtain ⟨K1, z1, z2, z4⟩ := z
  cases z2
  obtain ⟨z3, J1⟩ := hP K1 z1
  have z4 : h1 = LH K1 S1 Km t o bv.toInt64 h := Eq.trans z4 (LH_put J1 _)
  subst z4
  refine ⟨_, rfl, _, LH_m J1, bv, LH K1 S1 Km t1 o bv.toInt64 h, ?_, _, LH_m J1, LT J1 h0, fun _ => LH_o J1, k K1 S1 t1 _ z3 ⟨J1, hr, hu⟩⟩
  rw [LH_md J1, LH_md J1]
  exact hM _
theorem lr_device (J : LJ G K S Km o) (hN : i + 5 ≤ G.2.2.2.1) (hN2 : G.2.2.2.1 < 1000000) {bv : Int32} (hC : ∀ h1, mm_C G M_Cb_device [.ref (K 0), .int (G.2.2.2.2 (i + 1)), .int (G.2.2.2.2 (i + 2)), .int (G.2.2.2.2 (i + 3)), .int (G.2.2.2.2 (i + 4))] (CP K S h1) 0 0 (mm_E (some (.int bv)) (CP K S1 h1))) (w1 : c_wf G K S1) (e1 : S1.1 = S.1) (hM : ∀ h1, mm_C G M_Md_device [.ref (Km 0), .int (G.2.2.2.2 (i + 1)), .int (G.2.2.2.2 (i + 2)), .int (G.2.2.2.2 (i + 3)), .int (G.2.2.2.2 (i + 4))] (MP Km t h1) 0 0 (mm_E (some (.int bv)) (MP Km t1 h1))) (h0 : t1 0 0 = 0) (hr : Rel S1 t1) (hu : RU (c_nd S1) t1) (k : LK G K Km o i kc ks h Q) : mm_V G M_Lw_law 104 (LL G (K 0) (Km 0) o i) [] (LH K S Km t o x h) (2 + kc) (20 + ks) Q :=
  lq_device (mc := 0) (ms := 0) (PP := fun K1 => K1 = K) J hN hN2 (by omega) (by omega) (mm_C_wk (hC _) (fun o h' z => ⟨K, rfl, z.1, z.2⟩)) (fun K1 z => by rw [z]; exact ⟨rfl, LJ_same J w1 e1⟩) hM h0 hr hu k
set_option maxHeartbeats 1000000 in
theorem lx_net_IA (J : LJ G K S Km o) (hN : i + 5 ≤ G.2.2.2.1) (hN2 : G.2.2.2.1 < 1000000) {bv : Int32} (hC : ∀ h1, mm_C G M_Cb_net [.ref (K 0), .int (G.2.2.2.2 (i + 1)), .int (G.2.2.2.2 (i + 2)), .int (G.2.2.2.2 (i + 3)), .int (G.2.2.2.2 (i + 4))] (CP K S h1) 1 6 (mm_X xIA (CP K S h1))) (hM : ∀ h1, mm_C G M_Md_net [.ref (Km 0), .int (G.2.2.2.2 (i + 1)), .int (G.2.2.2.2 (i + 2)), .int (G.2.2.2.2 (i + 3)), .int (G.2.2.2.2 (i + 4))] (MP Km t h1) 0 0 (mm_E (some (.int bv)) (MP Km t1 h1))) (h0 : t1 0 0 = 1) (hr : Rel S t1) (hu : RU (c_nd S) t1) (k : LK G K Km o i kc ks h Q) : mm_V G M_Lw_law 196 (LL G (K 0) (Km 0) o i) [] (LH K S Km t o x h) (2 + kc) (20 + ks) Q := by
  refine mm_V_wid (k1 := 1 + kc) (k2 := 6 + ks) (by omega) (by omega) ?_
  refine lw_net hN hN2 (c_Lw_net_IA (LH_b J) (hC _)) mm_E_nx (fun v h1 z => ?_)
  obtain ⟨z1, rfl⟩ := z
  cases z1
  refine ⟨_, rfl, _, LH_m J, bv, LH K S Km t1 o x h, ?_, _, LH_m J, LT J h0, fun e => absurd e (by decide), k K S t1 x rfl ⟨J, hr, hu⟩⟩
  rw [LH_md J, LH_md J]
  exact hM _
set_option maxHeartbeats 1000000 in
theorem lx_net_IS (J : LJ G K S Km o) (hN : i + 5 ≤ G.2.2.2.1) (hN2 : G.2.2.2.1 < 1000000) {bv : Int32} (hC : ∀ h1, mm_C G M_Cb_net [.ref (K 0), .int (G.2.2.2.2 (i + 1)), .int (G.2.2.2.2 (i + 2)), .int (G.2.2.2.2 (i + 3)), .int (G.2.2.2.2 (i + 4))] (CP K S h1) 1 6 (mm_X xIS (CP K S h1))) (hM : ∀ h1, mm_C G M_Md_net [.ref (Km 0), .int (G.2.2.2.2 (i + 1)), .int (G.2.2.2.2 (i + 2)), .int (G.2.2.2.2 (i + 3)), .int (G.2.2.2.2 (i + 4))] (MP Km t h1) 0 0 (mm_E (some (.int bv)) (MP Km t1 h1))) (h0 : t1 0 0 = 2) (hr : Rel S t1) (hu : RU (c_nd S) t1) (k : LK G K Km o i kc ks h Q) : mm_V G M_Lw_law 196 (LL G (K 0) (Km 0) o i) [] (LH K S Km t o x h) (2 + kc) (20 + ks) Q := by
  refine mm_V_wid (k1 := 1 + kc) (k2 := 6 + ks) (by omega) (by omega) ?_
  refine lw_net hN hN2 (c_Lw_net_IS (LH_b J) (hC _)) mm_E_nx (fun v h1 z => ?_)
  obtain ⟨z1, rfl⟩ := z
  cases z1
  refine ⟨_, rfl, _, LH_m J, bv, LH K S Km t1 o x h, ?_, _, LH_m J, LT J h0, fun e => absurd e (by decide), k K S t1 x rfl ⟨J, hr, hu⟩⟩
  rw [LH_md J, LH_md J]
  exact hM _
set_option maxHeartbeats 1000000 in
theorem lq_net (J : LJ G K S Km o) (hN : i + 5 ≤ G.2.2.2.1) (hN2 : G.2.2.2.1 < 1000000) {bv : Int32} {PP : (Nat → Nat) → Prop} (hmc : mc ≤ 2) (hms : ms ≤ 20) (hC : mm_C G M_Cb_net [.ref (K 0), .int (G.2.2.2.2 (i + 1)), .int (G.2.2.2.2 (i + 2)), .int (G.2.2.2.2 (i + 3)), .int (G.2.2.2.2 (i + 4))] (LH K S Km t o x h) mc ms (mm_EE PP (fun K1 => LH K1 S1 Km t o x h) (some (.int bv)))) (hP : ∀ K1, PP K1 → K1 0 = K 0 ∧ LJ G K1 S1 Km o) (hM : ∀ h1, mm_C G M_Md_net [.ref (Km 0), .int (G.2.2.2.2 (i + 1)), .int (G.2.2.2.2 (i + 2)), .int (G.2.2.2.2 (i + 3)), .int (G.2.2.2.2 (i + 4))] (MP Km t h1) 0 0 (mm_E (some (.int bv)) (MP Km t1 h1))) (h0 : t1 0 0 = 0) (hr : Rel S1 t1) (hu : RU (c_nd S1) t1) (k : LK G K Km o i kc ks h Q) : mm_V G M_Lw_law 196 (LL G (K 0) (Km 0) o i) [] (LH K S Km t o x h) (2 + kc) (20 + ks) Q := by
  refine mm_V_wid (k1 := mc + kc) (k2 := ms + ks) (by omega) (by omega) ?_
  refine lw_net hN hN2 (c_Lw_net_r (x := x) (LH_b J) (fun K1 z => LH_o (hP K1 z).2) hC) mm_EE_nx (fun v h1 z => ?_)
  obtain ⟨K1, z1, z2, z4⟩ := z
  cases z2
  obtain ⟨z3, J1⟩ := hP K1 z1
  have z4 : h1 = LH K1 S1 Km t o bv.toInt64 h := Eq.trans z4 (LH_put J1 _)
  subst z4
  refine ⟨_, rfl, _, LH_m J1, bv, LH K1 S1 Km t1 o bv.toInt64 h, ?_, _, LH_m J1, LT J1 h0, fun _ => LH_o J1, k K1 S1 t1 _ z3 ⟨J1, hr, hu⟩⟩
  rw [LH_md J1, LH_md J1]
  exact hM _
theorem lr_net (J : LJ G K S Km o) (hN : i + 5 ≤ G.2.2.2.1) (hN2 : G.2.2.2.1 < 1000000) {bv : Int32} (hC : ∀ h1, mm_C G M_Cb_net [.ref (K 0), .int (G.2.2.2.2 (i + 1)), .int (G.2.2.2.2 (i + 2)), .int (G.2.2.2.2 (i + 3)), .int (G.2.2.2.2 (i + 4))] (CP K S h1) 0 0 (mm_E (some (.int bv)) (CP K S1 h1))) (w1 : c_wf G K S1) (e1 : S1.1 = S.1) (hM : ∀ h1, mm_C G M_Md_net [.ref (Km 0), .int (G.2.2.2.2 (i + 1)), .int (G.2.2.2.2 (i + 2)), .int (G.2.2.2.2 (i + 3)), .int (G.2.2.2.2 (i + 4))] (MP Km t h1) 0 0 (mm_E (some (.int bv)) (MP Km t1 h1))) (h0 : t1 0 0 = 0) (hr : Rel S1 t1) (hu : RU (c_nd S1) t1) (k : LK G K Km o i kc ks h Q) : mm_V G M_Lw_law 196 (LL G (K 0) (Km 0) o i) [] (LH K S Km t o x h) (2 + kc) (20 + ks) Q :=
  lq_net (mc := 0) (ms := 0) (PP := fun K1 => K1 = K) J hN hN2 (by omega) (by omega) (mm_C_wk (hC _) (fun o h' z => ⟨K, rfl, z.1, z.2⟩)) (fun K1 z => by rw [z]; exact ⟨rfl, LJ_same J w1 e1⟩) hM h0 hr hu k
set_option maxHeartbeats 1000000 in
theorem lx_fault_IA (J : LJ G K S Km o) (hN : i + 5 ≤ G.2.2.2.1) (hN2 : G.2.2.2.1 < 1000000) (hC : ∀ h1, mm_C G M_Cb_fault [.ref (K 0), .int (G.2.2.2.2 (i + 1)), .int (G.2.2.2.2 (i + 2)), .int (G.2.2.2.2 (i + 3))] (CP K S h1) 1 6 (mm_X xIA (CP K S h1))) (hM : ∀ h1, mm_C G M_Md_fault [.ref (Km 0), .int (G.2.2.2.2 (i + 1)), .int (G.2.2.2.2 (i + 2)), .int (G.2.2.2.2 (i + 3))] (MP Km t h1) 0 0 (mm_E (none) (MP Km t1 h1))) (h0 : t1 0 0 = 1) (hr : Rel S t1) (hu : RU (c_nd S) t1) (k : LK G K Km o i kc ks h Q) : mm_V G M_Lw_law 288 (LL G (K 0) (Km 0) o i) [] (LH K S Km t o x h) (2 + kc) (20 + ks) Q := by
  refine mm_V_wid (k1 := 1 + kc) (k2 := 6 + ks) (by omega) (by omega) ?_
  refine lw_fault hN hN2 (c_Lw_fault_IA (LH_b J) (hC _)) mm_E_nx (fun v h1 z => ?_)
  obtain ⟨z1, rfl⟩ := z
  cases z1
  refine ⟨_, rfl, _, LH_m J, LH K S Km t1 o x h, ?_, _, LH_m J, LT J h0, k K S t1 x rfl ⟨J, hr, hu⟩⟩
  rw [LH_md J, LH_md J]
  exact hM _
set_option maxHeartbeats 1000000 in
theorem lr_fault (J : LJ G K S Km o) (hN : i + 5 ≤ G.2.2.2.1) (hN2 : G.2.2.2.1 < 1000000) (hC : ∀ h1, mm_C G M_Cb_fault [.ref (K 0), .int (G.2.2.2.2 (i + 1)), .int (G.2.2.2.2 (i + 2)), .int (G.2.2.2.2 (i + 3))] (CP K S h1) 0 0 (mm_E none (CP K S1 h1))) (w1 : c_wf G K S1) (e1 : S1.1 = S.1) (hM : ∀ h1, mm_C G M_Md_fault [.ref (Km 0), .int (G.2.2.2.2 (i + 1)), .int (G.2.2.2.2 (i + 2)), .int (G.2.2.2.2 (i + 3))] (MP Km t h1) 0 0 (mm_E none (MP Km t1 h1))) (h0 : t1 0 0 = 0) (hr : Rel S1 t1) (hu : RU (c_nd S1) t1) (k : LK G K Km o i kc ks h Q) : mm_V G M_Lw_law 288 (LL G (K 0) (Km 0) o i) [] (LH K S Km t o x h) (2 + kc) (20 + ks) Q := by
  have J1 := LJ_same J w1 e1
  refine mm_V_wid (k1 := 0 + kc) (k2 := 0 + ks) (by omega) (by omega) ?_
  refine lw_fault hN hN2 (c_Lw_fault_r (PP := fun _ : Unit => True) (F := fun _ => LH K S1 Km t o x h) (LH_b J) (mm_C_wk (hC _) (fun o h' z => ⟨(), trivial, z.1, z.2⟩))) mm_EE_nx (fun v h1 z => ?_)
  obtain ⟨a, z1, z2, rfl⟩ := z
  cases z2
  refine ⟨_, rfl, _, LH_m J1, LH K S1 Km t1 o x h, ?_, _, LH_m J1, LT J1 h0, k K S1 t1 x rfl ⟨J1, hr, hu⟩⟩
  rw [LH_md J1, LH_md J1]
  exact hM _
set_option maxHeartbeats 1000000 in
theorem lx_core_IA (J : LJ G K S Km o) (hN : i + 5 ≤ G.2.2.2.1) (hN2 : G.2.2.2.1 < 1000000) (hC : ∀ h1, mm_C G M_Cb_core [.ref (K 0), .int (G.2.2.2.2 (i + 1)), .int (G.2.2.2.2 (i + 2)), .int (if G.2.2.2.2 (i + 3) = 0 then 0 else 1)] (CP K S h1) 1 6 (mm_X xIA (CP K S h1))) (hM : ∀ h1, mm_C G M_Md_core [.ref (Km 0), .int (G.2.2.2.2 (i + 1)), .int (G.2.2.2.2 (i + 2)), .int (if G.2.2.2.2 (i + 3) = 0 then 0 else 1)] (MP Km t h1) 0 0 (mm_E (none) (MP Km t1 h1))) (h0 : t1 0 0 = 1) (hr : Rel S t1) (hu : RU (c_nd S) t1) (k : LK G K Km o i kc ks h Q) : mm_V G M_Lw_law 348 (LL G (K 0) (Km 0) o i) [] (LH K S Km t o x h) (2 + kc) (20 + ks) Q := by
  refine mm_V_wid (k1 := 1 + kc) (k2 := 6 + ks) (by omega) (by omega) ?_
  refine lw_core hN hN2 (c_Lw_core_IA (LH_b J) (hC _)) mm_E_nx (fun v h1 z => ?_)
  obtain ⟨z1, rfl⟩ := z
  cases z1
  refine ⟨_, rfl, _, LH_m J, LH K S Km t1 o x h, ?_, _, LH_m J, LT J h0, k K S t1 x rfl ⟨J, hr, hu⟩⟩
  rw [LH_md J, LH_md J]
  exact hM _
set_option maxHeartbeats 1000000 in
theorem lr_core (J : LJ G K S Km o) (hN : i + 5 ≤ G.2.2.2.1) (hN2 : G.2.2.2.1 < 1000000) (hC : ∀ h1, mm_C G M_Cb_core [.ref (K 0), .int (G.2.2.2.2 (i + 1)), .int (G.2.2.2.2 (i + 2)), .int (if G.2.2.2.2 (i + 3) = 0 then 0 else 1)] (CP K S h1) 0 0 (mm_E none (CP K S1 h1))) (w1 : c_wf G K S1) (e1 : S1.1 = S.1) (hM : ∀ h1, mm_C G M_Md_core [.ref (Km 0), .int (G.2.2.2.2 (i + 1)), .int (G.2.2.2.2 (i + 2)), .int (if G.2.2.2.2 (i + 3) = 0 then 0 else 1)] (MP Km t h1) 0 0 (mm_E none (MP Km t1 h1))) (h0 : t1 0 0 = 0) (hr : Rel S1 t1) (hu : RU (c_nd S1) t1) (k : LK G K Km o i kc ks h Q) : mm_V G M_Lw_law 348 (LL G (K 0) (Km 0) o i) [] (LH K S Km t o x h) (2 + kc) (20 + ks) Q := by
  have J1 := LJ_same J w1 e1
  refine mm_V_wid (k1 := 0 + kc) (k2 := 0 + ks) (by omega) (by omega) ?_
  refine lw_core hN hN2 (c_Lw_core_r (PP := fun _ : Unit => True) (F := fun _ => LH K S1 Km t o x h) (LH_b J) (mm_C_wk (hC _) (fun o h' z => ⟨(), trivial, z.1, z.2⟩))) mm_EE_nx (fun v h1 z => ?_)
  obtain ⟨a, z1, z2, rfl⟩ := z
  cases z2
  refine ⟨_, rfl, _, LH_m J1, LH K S1 Km t1 o x h, ?_, _, LH_m J1, LT J1 h0, k K S1 t1 x rfl ⟨J1, hr, hu⟩⟩
  rw [LH_md J1, LH_md J1]
  exact hM _
set_option maxHeartbeats 1000000 in
theorem lx_clock_IS (J : LJ G K S Km o) (hN : i + 5 ≤ G.2.2.2.1) (hN2 : G.2.2.2.1 < 1000000) {bv : Int32} (hC : ∀ h1, mm_C G M_Cb_clock [.ref (K 0), .int (if G.2.2.2.2 (i + 1) = 0 then 0 else 1), .int (if G.2.2.2.2 (i + 2) = 0 then 0 else 1)] (CP K S h1) 1 6 (mm_X xIS (CP K S h1))) (hM : ∀ h1, mm_C G M_Md_clock [.ref (Km 0), .int (if G.2.2.2.2 (i + 1) = 0 then 0 else 1), .int (if G.2.2.2.2 (i + 2) = 0 then 0 else 1)] (MP Km t h1) 0 0 (mm_E (some (.int bv)) (MP Km t1 h1))) (h0 : t1 0 0 = 1) (hr : Rel S t1) (hu : RU (c_nd S) t1) (k : LK G K Km o i kc ks h Q) : mm_V G M_Lw_law 424 (LL G (K 0) (Km 0) o i) [] (LH K S Km t o x h) (2 + kc) (20 + ks) Q := by
  refine mm_V_wid (k1 := 1 + kc) (k2 := 6 + ks) (by omega) (by omega) ?_
  refine lw_clock hN hN2 (c_Lw_clock_IS (LH_b J) (hC _)) mm_E_nx (fun v h1 z => ?_)
  obtain ⟨z1, rfl⟩ := z
  cases z1
  refine ⟨_, rfl, _, LH_m J, bv, LH K S Km t1 o x h, ?_, _, LH_m J, LT J h0, fun e => absurd e (by decide), k K S t1 x rfl ⟨J, hr, hu⟩⟩
  rw [LH_md J, LH_md J]
  exact hM _
set_option maxHeartbeats 1000000 in
theorem lq_clock (J : LJ G K S Km o) (hN : i + 5 ≤ G.2.2.2.1) (hN2 : G.2.2.2.1 < 1000000) {bv : Int32} {PP : (Nat → Nat) → Prop} (hmc : mc ≤ 2) (hms : ms ≤ 20) (hC : mm_C G M_Cb_clock [.ref (K 0), .int (if G.2.2.2.2 (i + 1) = 0 then 0 else 1), .int (if G.2.2.2.2 (i + 2) = 0 then 0 else 1)] (LH K S Km t o x h) mc ms (mm_EE PP (fun K1 => LH K1 S1 Km t o x h) (some (.int bv)))) (hP : ∀ K1, PP K1 → K1 0 = K 0 ∧ LJ G K1 S1 Km o) (hM : ∀ h1, mm_C G M_Md_clock [.ref (Km 0), .int (if G.2.2.2.2 (i + 1) = 0 then 0 else 1), .int (if G.2.2.2.2 (i + 2) = 0 then 0 else 1)] (MP Km t h1) 0 0 (mm_E (some (.int bv)) (MP Km t1 h1))) (h0 : t1 0 0 = 0) (hr : Rel S1 t1) (hu : RU (c_nd S1) t1) (k : LK G K Km o i kc ks h Q) : mm_V G M_Lw_law 424 (LL G (K 0) (Km 0) o i) [] (LH K S Km t o x h) (2 + kc) (20 + ks) Q := by
  refine mm_V_wid (k1 := mc + kc) (k2 := ms + ks) (by omega) (by omega) ?_
  refine lw_clock hN hN2 (c_Lw_clock_r (x := x) (LH_b J) (fun K1 z => LH_o (hP K1 z).2) hC) mm_EE_nx (fun v h1 z => ?_)
  obtain ⟨K1, z1, z2, z4⟩ := z
  cases z2
  obtain ⟨z3, J1⟩ := hP K1 z1
  have z4 : h1 = LH K1 S1 Km t o (if bv = 0 then 0 else 1) h := Eq.trans z4 (LH_put J1 _)
  subst z4
  refine ⟨_, rfl, _, LH_m J1, bv, LH K1 S1 Km t1 o (if bv = 0 then 0 else 1) h, ?_, _, LH_m J1, LT J1 h0, fun _ => LH_o J1, k K1 S1 t1 _ z3 ⟨J1, hr, hu⟩⟩
  rw [LH_md J1, LH_md J1]
  exact hM _
theorem lr_clock (J : LJ G K S Km o) (hN : i + 5 ≤ G.2.2.2.1) (hN2 : G.2.2.2.1 < 1000000) {bv : Int32} (hC : ∀ h1, mm_C G M_Cb_clock [.ref (K 0), .int (if G.2.2.2.2 (i + 1) = 0 then 0 else 1), .int (if G.2.2.2.2 (i + 2) = 0 then 0 else 1)] (CP K S h1) 0 0 (mm_E (some (.int bv)) (CP K S1 h1))) (w1 : c_wf G K S1) (e1 : S1.1 = S.1) (hM : ∀ h1, mm_C G M_Md_clock [.ref (Km 0), .int (if G.2.2.2.2 (i + 1) = 0 then 0 else 1), .int (if G.2.2.2.2 (i + 2) = 0 then 0 else 1)] (MP Km t h1) 0 0 (mm_E (some (.int bv)) (MP Km t1 h1))) (h0 : t1 0 0 = 0) (hr : Rel S1 t1) (hu : RU (c_nd S1) t1) (k : LK G K Km o i kc ks h Q) : mm_V G M_Lw_law 424 (LL G (K 0) (Km 0) o i) [] (LH K S Km t o x h) (2 + kc) (20 + ks) Q :=
  lq_clock (mc := 0) (ms := 0) (PP := fun K1 => K1 = K) J hN hN2 (by omega) (by omega) (mm_C_wk (hC _) (fun o h' z => ⟨K, rfl, z.1, z.2⟩)) (fun K1 z => by rw [z]; exact ⟨rfl, LJ_same J w1 e1⟩) hM h0 hr hu k
set_option maxHeartbeats 1000000 in
theorem lx_look_IA (J : LJ G K S Km o) (hN : i + 5 ≤ G.2.2.2.1) (hN2 : G.2.2.2.1 < 1000000) {bv : Int32} (hC : ∀ h1, mm_C G M_Cb_look [.ref (K 0), .int (G.2.2.2.2 (i + 1)), .int (G.2.2.2.2 (i + 2))] (CP K S h1) 1 6 (mm_X xIA (CP K S h1))) (hM : ∀ h1, mm_C G M_Md_look [.ref (Km 0), .int (G.2.2.2.2 (i + 1)), .int (G.2.2.2.2 (i + 2))] (MP Km t h1) 0 0 (mm_E (some (.int bv)) (MP Km t1 h1))) (h0 : t1 0 0 = 1) (hr : Rel S t1) (hu : RU (c_nd S) t1) (k : LK G K Km o i kc ks h Q) : mm_V G M_Lw_law 544 (LL G (K 0) (Km 0) o i) [] (LH K S Km t o x h) (2 + kc) (20 + ks) Q := by
  refine mm_V_wid (k1 := 1 + kc) (k2 := 6 + ks) (by omega) (by omega) ?_
  refine lw_look hN hN2 (c_Lw_look_IA (LH_b J) (hC _)) mm_E_nx (fun v h1 z => ?_)
  obtain ⟨z1, rfl⟩ := z
  cases z1
  refine ⟨_, rfl, _, LH_m J, bv, LH K S Km t1 o x h, ?_, _, LH_m J, LT J h0, fun e => absurd e (by decide), k K S t1 x rfl ⟨J, hr, hu⟩⟩
  rw [LH_md J, LH_md J]
  exact hM _
set_option maxHeartbeats 1000000 in
theorem lq_look (J : LJ G K S Km o) (hN : i + 5 ≤ G.2.2.2.1) (hN2 : G.2.2.2.1 < 1000000) {bv : Int32} {PP : (Nat → Nat) → Prop} (hmc : mc ≤ 2) (hms : ms ≤ 20) (hC : mm_C G M_Cb_look [.ref (K 0), .int (G.2.2.2.2 (i + 1)), .int (G.2.2.2.2 (i + 2))] (LH K S Km t o x h) mc ms (mm_EE PP (fun K1 => LH K1 S1 Km t o x h) (some (.int bv)))) (hP : ∀ K1, PP K1 → K1 0 = K 0 ∧ LJ G K1 S1 Km o) (hM : ∀ h1, mm_C G M_Md_look [.ref (Km 0), .int (G.2.2.2.2 (i + 1)), .int (G.2.2.2.2 (i + 2))] (MP Km t h1) 0 0 (mm_E (some (.int bv)) (MP Km t1 h1))) (h0 : t1 0 0 = 0) (hr : Rel S1 t1) (hu : RU (c_nd S1) t1) (k : LK G K Km o i kc ks h Q) : mm_V G M_Lw_law 544 (LL G (K 0) (Km 0) o i) [] (LH K S Km t o x h) (2 + kc) (20 + ks) Q := by
  refine mm_V_wid (k1 := mc + kc) (k2 := ms + ks) (by omega) (by omega) ?_
  refine lw_look hN hN2 (c_Lw_look_r (x := x) (LH_b J) (fun K1 z => LH_o (hP K1 z).2) hC) mm_EE_nx (fun v h1 z => ?_)
  obtain ⟨K1, z1, z2, z4⟩ := z
  cases z2
  obtain ⟨z3, J1⟩ := hP K1 z1
  have z4 : h1 = LH K1 S1 Km t o bv.toInt64 h := Eq.trans z4 (LH_put J1 _)
  subst z4
  refine ⟨_, rfl, _, LH_m J1, bv, LH K1 S1 Km t1 o bv.toInt64 h, ?_, _, LH_m J1, LT J1 h0, fun _ => LH_o J1, k K1 S1 t1 _ z3 ⟨J1, hr, hu⟩⟩
  rw [LH_md J1, LH_md J1]
  exact hM _
theorem lr_look (J : LJ G K S Km o) (hN : i + 5 ≤ G.2.2.2.1) (hN2 : G.2.2.2.1 < 1000000) {bv : Int32} (hC : ∀ h1, mm_C G M_Cb_look [.ref (K 0), .int (G.2.2.2.2 (i + 1)), .int (G.2.2.2.2 (i + 2))] (CP K S h1) 0 0 (mm_E (some (.int bv)) (CP K S1 h1))) (w1 : c_wf G K S1) (e1 : S1.1 = S.1) (hM : ∀ h1, mm_C G M_Md_look [.ref (Km 0), .int (G.2.2.2.2 (i + 1)), .int (G.2.2.2.2 (i + 2))] (MP Km t h1) 0 0 (mm_E (some (.int bv)) (MP Km t1 h1))) (h0 : t1 0 0 = 0) (hr : Rel S1 t1) (hu : RU (c_nd S1) t1) (k : LK G K Km o i kc ks h Q) : mm_V G M_Lw_law 544 (LL G (K 0) (Km 0) o i) [] (LH K S Km t o x h) (2 + kc) (20 + ks) Q :=
  lq_look (mc := 0) (ms := 0) (PP := fun K1 => K1 = K) J hN hN2 (by omega) (by omega) (mm_C_wk (hC _) (fun o h' z => ⟨K, rfl, z.1, z.2⟩)) (fun K1 z => by rw [z]; exact ⟨rfl, LJ_same J w1 e1⟩) hM h0 hr hu k
set_option maxHeartbeats 1000000 in
theorem lx_value_IA (J : LJ G K S Km o) (hN : i + 5 ≤ G.2.2.2.1) (hN2 : G.2.2.2.1 < 1000000) {bv : Int32} (hC : ∀ h1, mm_C G M_Cb_value [.ref (K 0), .int (G.2.2.2.2 (i + 1))] (CP K S h1) 1 6 (mm_X xIA (CP K S h1))) (hM : ∀ h1, mm_C G M_Md_value [.ref (Km 0), .int (G.2.2.2.2 (i + 1))] (MP Km t h1) 0 0 (mm_E (some (.int bv)) (MP Km t1 h1))) (h0 : t1 0 0 = 1) (hr : Rel S t1) (hu : RU (c_nd S) t1) (k : LK G K Km o i kc ks h Q) : mm_V G M_Lw_law 612 (LL G (K 0) (Km 0) o i) [] (LH K S Km t o x h) (2 + kc) (20 + ks) Q := by
  refine mm_V_wid (k1 := 1 + kc) (k2 := 6 + ks) (by omega) (by omega) ?_
  refine lw_value hN hN2 (c_Lw_value_IA (LH_b J) (hC _)) mm_E_nx (fun v h1 z => ?_)
  obtain ⟨z1, rfl⟩ := z
  cases z1
  refine ⟨_, rfl, _, LH_m J, bv, LH K S Km t1 o x h, ?_, _, LH_m J, LT J h0, fun e => absurd e (by decide), k K S t1 x rfl ⟨J, hr, hu⟩⟩
  rw [LH_md J, LH_md J]
  exact hM _
set_option maxHeartbeats 1000000 in
theorem lq_value (J : LJ G K S Km o) (hN : i + 5 ≤ G.2.2.2.1) (hN2 : G.2.2.2.1 < 1000000) {bv : Int32} {PP : (Nat → Nat) → Prop} (hmc : mc ≤ 2) (hms : ms ≤ 20) (hC : mm_C G M_Cb_value [.ref (K 0), .int (G.2.2.2.2 (i + 1))] (LH K S Km t o x h) mc ms (mm_EE PP (fun K1 => LH K1 S1 Km t o x h) (some (.int bv)))) (hP : ∀ K1, PP K1 → K1 0 = K 0 ∧ LJ G K1 S1 Km o) (hM : ∀ h1, mm_C G M_Md_value [.ref (Km 0), .int (G.2.2.2.2 (i + 1))] (MP Km t h1) 0 0 (mm_E (some (.int bv)) (MP Km t1 h1))) (h0 : t1 0 0 = 0) (hr : Rel S1 t1) (hu : RU (c_nd S1) t1) (k : LK G K Km o i kc ks h Q) : mm_V G M_Lw_law 612 (LL G (K 0) (Km 0) o i) [] (LH K S Km t o x h) (2 + kc) (20 + ks) Q := by
  refine mm_V_wid (k1 := mc + kc) (k2 := ms + ks) (by omega) (by omega) ?_
  refine lw_value hN hN2 (c_Lw_value_r (x := x) (LH_b J) (fun K1 z => LH_o (hP K1 z).2) hC) mm_EE_nx (fun v h1 z => ?_)
  obtain ⟨K1, z1, z2, z4⟩ := z
  cases z2
  obtain ⟨z3, J1⟩ := hP K1 z1
  have z4 : h1 = LH K1 S1 Km t o (if bv = 0 then 0 else 1) h := Eq.trans z4 (LH_put J1 _)
  subst z4
  refine ⟨_, rfl, _, LH_m J1, bv, LH K1 S1 Km t1 o (if bv = 0 then 0 else 1) h, ?_, _, LH_m J1, LT J1 h0, fun _ => LH_o J1, k K1 S1 t1 _ z3 ⟨J1, hr, hu⟩⟩
  rw [LH_md J1, LH_md J1]
  exact hM _
theorem lr_value (J : LJ G K S Km o) (hN : i + 5 ≤ G.2.2.2.1) (hN2 : G.2.2.2.1 < 1000000) {bv : Int32} (hC : ∀ h1, mm_C G M_Cb_value [.ref (K 0), .int (G.2.2.2.2 (i + 1))] (CP K S h1) 0 0 (mm_E (some (.int bv)) (CP K S1 h1))) (w1 : c_wf G K S1) (e1 : S1.1 = S.1) (hM : ∀ h1, mm_C G M_Md_value [.ref (Km 0), .int (G.2.2.2.2 (i + 1))] (MP Km t h1) 0 0 (mm_E (some (.int bv)) (MP Km t1 h1))) (h0 : t1 0 0 = 0) (hr : Rel S1 t1) (hu : RU (c_nd S1) t1) (k : LK G K Km o i kc ks h Q) : mm_V G M_Lw_law 612 (LL G (K 0) (Km 0) o i) [] (LH K S Km t o x h) (2 + kc) (20 + ks) Q :=
  lq_value (mc := 0) (ms := 0) (PP := fun K1 => K1 = K) J hN hN2 (by omega) (by omega) (mm_C_wk (hC _) (fun o h' z => ⟨K, rfl, z.1, z.2⟩)) (fun K1 z => by rw [z]; exact ⟨rfl, LJ_same J w1 e1⟩) hM h0 hr hu k
set_option maxHeartbeats 1000000 in
theorem lx_find_IS (J : LJ G K S Km o) (hN : i + 5 ≤ G.2.2.2.1) (hN2 : G.2.2.2.1 < 1000000) {bv : Int32} (hC : ∀ h1, mm_C G M_Cb_find [.ref (K 0)] (CP K S h1) 1 6 (mm_X xIS (CP K S h1))) (hM : ∀ h1, mm_C G M_Md_find [.ref (Km 0)] (MP Km t h1) 0 0 (mm_E (some (.int bv)) (MP Km t1 h1))) (h0 : t1 0 0 = 1) (hr : Rel S t1) (hu : RU (c_nd S) t1) (k : LK G K Km o i kc ks h Q) : mm_V G M_Lw_law 675 (LL G (K 0) (Km 0) o i) [] (LH K S Km t o x h) (2 + kc) (20 + ks) Q := by
  refine mm_V_wid (k1 := 1 + kc) (k2 := 6 + ks) (by omega) (by omega) ?_
  refine lw_find hN hN2 (c_Lw_find_IS (LH_b J) (hC _)) mm_E_nx (fun v h1 z => ?_)
  obtain ⟨z1, rfl⟩ := z
  cases z1
  refine ⟨_, rfl, _, LH_m J, bv, LH K S Km t1 o x h, ?_, _, LH_m J, LT J h0, fun e => absurd e (by decide), k K S t1 x rfl ⟨J, hr, hu⟩⟩
  rw [LH_md J, LH_md J]
  exact hM _
set_option maxHeartbeats 1000000 in
theorem lq_find (J : LJ G K S Km o) (hN : i + 5 ≤ G.2.2.2.1) (hN2 : G.2.2.2.1 < 1000000) {bv : Int32} {PP : (Nat → Nat) → Prop} (hmc : mc ≤ 2) (hms : ms ≤ 20) (hC : mm_C G M_Cb_find [.ref (K 0)] (LH K S Km t o x h) mc ms (mm_EE PP (fun K1 => LH K1 S1 Km t o x h) (some (.int bv)))) (hP : ∀ K1, PP K1 → K1 0 = K 0 ∧ LJ G K1 S1 Km o) (hM : ∀ h1, mm_C G M_Md_find [.ref (Km 0)] (MP Km t h1) 0 0 (mm_E (some (.int bv)) (MP Km t1 h1))) (h0 : t1 0 0 = 0) (hr : Rel S1 t1) (hu : RU (c_nd S1) t1) (k : LK G K Km o i kc ks h Q) : mm_V G M_Lw_law 675 (LL G (K 0) (Km 0) o i) [] (LH K S Km t o x h) (2 + kc) (20 + ks) Q := by
  refine mm_V_wid (k1 := mc + kc) (k2 := ms + ks) (by omega) (by omega) ?_
  refine lw_find hN hN2 (c_Lw_find_r (x := x) (LH_b J) (fun K1 z => LH_o (hP K1 z).2) hC) mm_EE_nx (fun v h1 z => ?_)
  obtain ⟨K1, z1, z2, z4⟩ := z
  cases z2
  obtain ⟨z3, J1⟩ := hP K1 z1
  have z4 : h1 = LH K1 S1 Km t o bv.toInt64 h := Eq.trans z4 (LH_put J1 _)
  subst z4
  refine ⟨_, rfl, _, LH_m J1, bv, LH K1 S1 Km t1 o bv.toInt64 h, ?_, _, LH_m J1, LT J1 h0, fun _ => LH_o J1, k K1 S1 t1 _ z3 ⟨J1, hr, hu⟩⟩
  rw [LH_md J1, LH_md J1]
  exact hM _
theorem lr_find (J : LJ G K S Km o) (hN : i + 5 ≤ G.2.2.2.1) (hN2 : G.2.2.2.1 < 1000000) {bv : Int32} (hC : ∀ h1, mm_C G M_Cb_find [.ref (K 0)] (CP K S h1) 0 0 (mm_E (some (.int bv)) (CP K S1 h1))) (w1 : c_wf G K S1) (e1 : S1.1 = S.1) (hM : ∀ h1, mm_C G M_Md_find [.ref (Km 0)] (MP Km t h1) 0 0 (mm_E (some (.int bv)) (MP Km t1 h1))) (h0 : t1 0 0 = 0) (hr : Rel S1 t1) (hu : RU (c_nd S1) t1) (k : LK G K Km o i kc ks h Q) : mm_V G M_Lw_law 675 (LL G (K 0) (Km 0) o i) [] (LH K S Km t o x h) (2 + kc) (20 + ks) Q :=
  lq_find (mc := 0) (ms := 0) (PP := fun K1 => K1 = K) J hN hN2 (by omega) (by omega) (mm_C_wk (hC _) (fun o h' z => ⟨K, rfl, z.1, z.2⟩)) (fun K1 z => by rw [z]; exact ⟨rfl, LJ_same J w1 e1⟩) hM h0 hr hu k
set_option maxHeartbeats 1000000 in
theorem lx_found_IO (J : LJ G K S Km o) (hN : i + 5 ≤ G.2.2.2.1) (hN2 : G.2.2.2.1 < 1000000) {bv : Int32} (hC : ∀ h1, mm_C G M_Cb_found [.ref (K 0), .int (G.2.2.2.2 (i + 1))] (CP K S h1) 1 6 (mm_X xIO (CP K S h1))) (hM : ∀ h1, mm_C G M_Md_found [.ref (Km 0), .int (G.2.2.2.2 (i + 1))] (MP Km t h1) 0 0 (mm_E (some (.int bv)) (MP Km t1 h1))) (h0 : t1 0 0 = 1) (hr : Rel S t1) (hu : RU (c_nd S) t1) (k : LK G K Km o i kc ks h Q) : mm_V G M_Lw_law 719 (LL G (K 0) (Km 0) o i) [] (LH K S Km t o x h) (2 + kc) (20 + ks) Q := by
  refine mm_V_wid (k1 := 1 + kc) (k2 := 6 + ks) (by omega) (by omega) ?_
  refine lw_found hN hN2 (c_Lw_found_IO (LH_b J) (hC _)) mm_E_nx (fun v h1 z => ?_)
  obtain ⟨z1, rfl⟩ := z
  cases z1
  refine ⟨_, rfl, _, LH_m J, bv, LH K S Km t1 o x h, ?_, _, LH_m J, LT J h0, fun e => absurd e (by decide), k K S t1 x rfl ⟨J, hr, hu⟩⟩
  rw [LH_md J, LH_md J]
  exact hM _
set_option maxHeartbeats 1000000 in
theorem lq_found (J : LJ G K S Km o) (hN : i + 5 ≤ G.2.2.2.1) (hN2 : G.2.2.2.1 < 1000000) {bv : Int32} {PP : (Nat → Nat) → Prop} (hmc : mc ≤ 2) (hms : ms ≤ 20) (hC : mm_C G M_Cb_found [.ref (K 0), .int (G.2.2.2.2 (i + 1))] (LH K S Km t o x h) mc ms (mm_EE PP (fun K1 => LH K1 S1 Km t o x h) (some (.int bv)))) (hP : ∀ K1, PP K1 → K1 0 = K 0 ∧ LJ G K1 S1 Km o) (hM : ∀ h1, mm_C G M_Md_found [.ref (Km 0), .int (G.2.2.2.2 (i + 1))] (MP Km t h1) 0 0 (mm_E (some (.int bv)) (MP Km t1 h1))) (h0 : t1 0 0 = 0) (hr : Rel S1 t1) (hu : RU (c_nd S1) t1) (k : LK G K Km o i kc ks h Q) : mm_V G M_Lw_law 719 (LL G (K 0) (Km 0) o i) [] (LH K S Km t o x h) (2 + kc) (20 + ks) Q := by
  refine mm_V_wid (k1 := mc + kc) (k2 := ms + ks) (by omega) (by omega) ?_
  refine lw_found hN hN2 (c_Lw_found_r (x := x) (LH_b J) (fun K1 z => LH_o (hP K1 z).2) hC) mm_EE_nx (fun v h1 z => ?_)
  obtain ⟨K1, z1, z2, z4⟩ := z
  cases z2
  obtain ⟨z3, J1⟩ := hP K1 z1
  have z4 : h1 = LH K1 S1 Km t o bv.toInt64 h := Eq.trans z4 (LH_put J1 _)
  subst z4
  refine ⟨_, rfl, _, LH_m J1, bv, LH K1 S1 Km t1 o bv.toInt64 h, ?_, _, LH_m J1, LT J1 h0, fun _ => LH_o J1, k K1 S1 t1 _ z3 ⟨J1, hr, hu⟩⟩
  rw [LH_md J1, LH_md J1]
  exact hM _
theorem lr_found (J : LJ G K S Km o) (hN : i + 5 ≤ G.2.2.2.1) (hN2 : G.2.2.2.1 < 1000000) {bv : Int32} (hC : ∀ h1, mm_C G M_Cb_found [.ref (K 0), .int (G.2.2.2.2 (i + 1))] (CP K S h1) 0 0 (mm_E (some (.int bv)) (CP K S1 h1))) (w1 : c_wf G K S1) (e1 : S1.1 = S.1) (hM : ∀ h1, mm_C G M_Md_found [.ref (Km 0), .int (G.2.2.2.2 (i + 1))] (MP Km t h1) 0 0 (mm_E (some (.int bv)) (MP Km t1 h1))) (h0 : t1 0 0 = 0) (hr : Rel S1 t1) (hu : RU (c_nd S1) t1) (k : LK G K Km o i kc ks h Q) : mm_V G M_Lw_law 719 (LL G (K 0) (Km 0) o i) [] (LH K S Km t o x h) (2 + kc) (20 + ks) Q :=
  lq_found (mc := 0) (ms := 0) (PP := fun K1 => K1 = K) J hN hN2 (by omega) (by omega) (mm_C_wk (hC _) (fun o h' z => ⟨K, rfl, z.1, z.2⟩)) (fun K1 z => by rw [z]; exact ⟨rfl, LJ_same J w1 e1⟩) hM h0 hr hu k
set_option maxHeartbeats 1000000 in
theorem lx_test_IS (J : LJ G K S Km o) (hN : i + 5 ≤ G.2.2.2.1) (hN2 : G.2.2.2.1 < 1000000) {bv : Int32} (hC : ∀ h1, mm_C G M_Cb_test [.ref (K 0)] (CP K S h1) 1 6 (mm_X xIS (CP K S h1))) (hM : ∀ h1, mm_C G M_Md_test [.ref (Km 0)] (MP Km t h1) 0 0 (mm_E (some (.int bv)) (MP Km t1 h1))) (h0 : t1 0 0 = 1) (hr : Rel S t1) (hu : RU (c_nd S) t1) (k : LK G K Km o i kc ks h Q) : mm_V G M_Lw_law 775 (LL G (K 0) (Km 0) o i) [] (LH K S Km t o x h) (2 + kc) (20 + ks) Q := by
  refine mm_V_wid (k1 := 1 + kc) (k2 := 6 + ks) (by omega) (by omega) ?_
  refine lw_test hN hN2 (c_Lw_test_IS (LH_b J) (hC _)) mm_E_nx (fun v h1 z => ?_)
  obtain ⟨z1, rfl⟩ := z
  cases z1
  refine ⟨_, rfl, _, LH_m J, bv, LH K S Km t1 o x h, ?_, _, LH_m J, LT J h0, fun e => absurd e (by decide), k K S t1 x rfl ⟨J, hr, hu⟩⟩
  rw [LH_md J, LH_md J]
  exact hM _
set_option maxHeartbeats 1000000 in
theorem lq_test (J : LJ G K S Km o) (hN : i + 5 ≤ G.2.2.2.1) (hN2 : G.2.2.2.1 < 1000000) {bv : Int32} {PP : (Nat → Nat) → Prop} (hmc : mc ≤ 2) (hms : ms ≤ 20) (hC : mm_C G M_Cb_test [.ref (K 0)] (LH K S Km t o x h) mc ms (mm_EE PP (fun K1 => LH K1 S1 Km t o x h) (some (.int bv)))) (hP : ∀ K1, PP K1 → K1 0 = K 0 ∧ LJ G K1 S1 Km o) (hM : ∀ h1, mm_C G M_Md_test [.ref (Km 0)] (MP Km t h1) 0 0 (mm_E (some (.int bv)) (MP Km t1 h1))) (h0 : t1 0 0 = 0) (hr : Rel S1 t1) (hu : RU (c_nd S1) t1) (k : LK G K Km o i kc ks h Q) : mm_V G M_Lw_law 775 (LL G (K 0) (Km 0) o i) [] (LH K S Km t o x h) (2 + kc) (20 + ks) Q := by
  refine mm_V_wid (k1 := mc + kc) (k2 := ms + ks) (by omega) (by omega) ?_
  refine lw_test hN hN2 (c_Lw_test_r (x := x) (LH_b J) (fun K1 z => LH_o (hP K1 z).2) hC) mm_EE_nx (fun v h1 z => ?_)
  obtain ⟨K1, z1, z2, z4⟩ := z
  cases z2
  obtain ⟨z3, J1⟩ := hP K1 z1
  have z4 : h1 = LH K1 S1 Km t o bv.toInt64 h := Eq.trans z4 (LH_put J1 _)
  subst z4
  refine ⟨_, rfl, _, LH_m J1, bv, LH K1 S1 Km t1 o bv.toInt64 h, ?_, _, LH_m J1, LT J1 h0, fun _ => LH_o J1, k K1 S1 t1 _ z3 ⟨J1, hr, hu⟩⟩
  rw [LH_md J1, LH_md J1]
  exact hM _
theorem lr_test (J : LJ G K S Km o) (hN : i + 5 ≤ G.2.2.2.1) (hN2 : G.2.2.2.1 < 1000000) {bv : Int32} (hC : ∀ h1, mm_C G M_Cb_test [.ref (K 0)] (CP K S h1) 0 0 (mm_E (some (.int bv)) (CP K S1 h1))) (w1 : c_wf G K S1) (e1 : S1.1 = S.1) (hM : ∀ h1, mm_C G M_Md_test [.ref (Km 0)] (MP Km t h1) 0 0 (mm_E (some (.int bv)) (MP Km t1 h1))) (h0 : t1 0 0 = 0) (hr : Rel S1 t1) (hu : RU (c_nd S1) t1) (k : LK G K Km o i kc ks h Q) : mm_V G M_Lw_law 775 (LL G (K 0) (Km 0) o i) [] (LH K S Km t o x h) (2 + kc) (20 + ks) Q :=
  lq_test (mc := 0) (ms := 0) (PP := fun K1 => K1 = K) J hN hN2 (by omega) (by omega) (mm_C_wk (hC _) (fun o h' z => ⟨K, rfl, z.1, z.2⟩)) (fun K1 z => by rw [z]; exact ⟨rfl, LJ_same J w1 e1⟩) hM h0 hr hu k
set_option maxHeartbeats 1000000 in
theorem lx_saw_IO (J : LJ G K S Km o) (hN : i + 5 ≤ G.2.2.2.1) (hN2 : G.2.2.2.1 < 1000000) {bv : Int32} (hC : ∀ h1, mm_C G M_Cb_saw [.ref (K 0), .int (G.2.2.2.2 (i + 1))] (CP K S h1) 1 6 (mm_X xIO (CP K S h1))) (hM : ∀ h1, mm_C G M_Md_saw [.ref (Km 0), .int (G.2.2.2.2 (i + 1))] (MP Km t h1) 0 0 (mm_E (some (.int bv)) (MP Km t1 h1))) (h0 : t1 0 0 = 1) (hr : Rel S t1) (hu : RU (c_nd S) t1) (k : LK G K Km o i kc ks h Q) : mm_V G M_Lw_law 819 (LL G (K 0) (Km 0) o i) [] (LH K S Km t o x h) (2 + kc) (20 + ks) Q := by
  refine mm_V_wid (k1 := 1 + kc) (k2 := 6 + ks) (by omega) (by omega) ?_
  refine lw_saw hN hN2 (c_Lw_saw_IO (LH_b J) (hC _)) mm_E_nx (fun v h1 z => ?_)
  obtain ⟨z1, rfl⟩ := z
  cases z1
  refine ⟨_, rfl, _, LH_m J, bv, LH K S Km t1 o x h, ?_, _, LH_m J, LT J h0, fun e => absurd e (by decide), k K S t1 x rfl ⟨J, hr, hu⟩⟩
  rw [LH_md J, LH_md J]
  exact hM _
set_option maxHeartbeats 1000000 in
theorem lq_saw (J : LJ G K S Km o) (hN : i + 5 ≤ G.2.2.2.1) (hN2 : G.2.2.2.1 < 1000000) {bv : Int32} {PP : (Nat → Nat) → Prop} (hmc : mc ≤ 2) (hms : ms ≤ 20) (hC : mm_C G M_Cb_saw [.ref (K 0), .int (G.2.2.2.2 (i + 1))] (LH K S Km t o x h) mc ms (mm_EE PP (fun K1 => LH K1 S1 Km t o x h) (some (.int bv)))) (hP : ∀ K1, PP K1 → K1 0 = K 0 ∧ LJ G K1 S1 Km o) (hM : ∀ h1, mm_C G M_Md_saw [.ref (Km 0), .int (G.2.2.2.2 (i + 1))] (MP Km t h1) 0 0 (mm_E (some (.int bv)) (MP Km t1 h1))) (h0 : t1 0 0 = 0) (hr : Rel S1 t1) (hu : RU (c_nd S1) t1) (k : LK G K Km o i kc ks h Q) : mm_V G M_Lw_law 819 (LL G (K 0) (Km 0) o i) [] (LH K S Km t o x h) (2 + kc) (20 + ks) Q := by
  refine mm_V_wid (k1 := mc + kc) (k2 := ms + ks) (by omega) (by omega) ?_
  refine lw_saw hN hN2 (c_Lw_saw_r (x := x) (LH_b J) (fun K1 z => LH_o (hP K1 z).2) hC) mm_EE_nx (fun v h1 z => ?_)
  obtain ⟨K1, z1, z2, z4⟩ := z
  cases z2
  obtain ⟨z3, J1⟩ := hP K1 z1
  have z4 : h1 = LH K1 S1 Km t o bv.toInt64 h := Eq.trans z4 (LH_put J1 _)
  subst z4
  refine ⟨_, rfl, _, LH_m J1, bv, LH K1 S1 Km t1 o bv.toInt64 h, ?_, _, LH_m J1, LT J1 h0, fun _ => LH_o J1, k K1 S1 t1 _ z3 ⟨J1, hr, hu⟩⟩
  rw [LH_md J1, LH_md J1]
  exact hM _
theorem lr_saw (J : LJ G K S Km o) (hN : i + 5 ≤ G.2.2.2.1) (hN2 : G.2.2.2.1 < 1000000) {bv : Int32} (hC : ∀ h1, mm_C G M_Cb_saw [.ref (K 0), .int (G.2.2.2.2 (i + 1))] (CP K S h1) 0 0 (mm_E (some (.int bv)) (CP K S1 h1))) (w1 : c_wf G K S1) (e1 : S1.1 = S.1) (hM : ∀ h1, mm_C G M_Md_saw [.ref (Km 0), .int (G.2.2.2.2 (i + 1))] (MP Km t h1) 0 0 (mm_E (some (.int bv)) (MP Km t1 h1))) (h0 : t1 0 0 = 0) (hr : Rel S1 t1) (hu : RU (c_nd S1) t1) (k : LK G K Km o i kc ks h Q) : mm_V G M_Lw_law 819 (LL G (K 0) (Km 0) o i) [] (LH K S Km t o x h) (2 + kc) (20 + ks) Q :=
  lq_saw (mc := 0) (ms := 0) (PP := fun K1 => K1 = K) J hN hN2 (by omega) (by omega) (mm_C_wk (hC _) (fun o h' z => ⟨K, rfl, z.1, z.2⟩)) (fun K1 z => by rw [z]; exact ⟨rfl, LJ_same J w1 e1⟩) hM h0 hr hu k
end LWS
