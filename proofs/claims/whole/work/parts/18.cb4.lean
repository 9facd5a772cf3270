/-! the class: clocks, scans, restart -/
abbrev c_ok (G : mm_G) (K : Nat → Nat) (S : cS) : Prop := c_wf G K S ∧ c_ps S
theorem stp_ok {G : mm_G} {K : Nat → Nat} {S : cS} (w : c_ok G K S) (tms tdi : Int32) : c_ok G K (c_stp S tms tdi) := ⟨stp_wf w.1 tms tdi, stp_ps w.2 tms tdi⟩
/-- a bit of a scan: the bit's mask, what goes in, what stands in the row's word behind it -/
def c_msk (i : Nat) : Int32 := 1 <<< (nI (i % 32) &&& 31)
def c_din (S : cS) (i : Nat) : Int32 := if (c_Z S 1 (i / 32) &&& c_msk i) = 0 then 0 else 1
def c_wrd (z m a : Int32) : Int32 := if a = 0 then z &&& (m ^^^ -1) else z ||| m
def c_scb (S : cS) (tms : Int32) (i : Nat) : cS := s_Z (c_stp S tms (c_din S i)) 1 (i / 32) (c_wrd (c_Z S 1 (i / 32)) (c_msk i) (c_ans S (c_din S i)))
def c_go5 (S : cS) : cS := c_stp (up (fun _ S => c_stp S 1 0) 5 0 S) 0 0
def c_in3 (S : cS) : cS := c_stp (c_stp (c_stp S 1 0) 0 0) 0 0
def c_lv2 (S : cS) : cS := c_stp (c_stp S 1 0) 0 0
def c_scl (n : Nat) : Nat → Nat → cS → cS := up (fun i S => c_scb S (if i + 1 = n then 1 else 0) i)
def c_scan (ins : Int32) (n : Nat) (S : cS) : cS := c_lv2 (c_scl n n 0 (c_in3 (if ins = 0 then S else c_stp S 1 0)))
section CB4
variable {G : mm_G} {K : Nat → Nat} {S : cS} {h : mm_Hp}
theorem sZ_wf (w : c_wf G K S) (i k : Nat) (x : Int32) : c_wf G K (s_Z S i k x) := w
theorem sZ1_ps (w : c_ps S) (i k : Nat) (x : Int32) (hi : i ≠ 0) : c_ps (s_Z S i k x) := by
  obtain ⟨j, hj, e⟩ := w
  refine ⟨j, hj, ?_⟩
  rw [← e]
  show va_up S.2.2.2.2 i (upd (S.2.2.2.2 i) k x) 0 2 = _
  rw [va_up_ne _ _ (Ne.symm hi)]
theorem scb_ok (w : c_ok G K S) (tms : Int32) (i : Nat) : c_ok G K (c_scb S tms i) := ⟨sZ_wf (stp_ok w tms _).1 _ _ _, sZ1_ps (stp_ok w tms _).2 _ _ _ (by decide)⟩
theorem in3_ok (w : c_ok G K S) : c_ok G K (c_in3 S) := stp_ok (stp_ok (stp_ok w _ _) _ _) _ _
theorem lv2_ok (w : c_ok G K S) : c_ok G K (c_lv2 S) := stp_ok (stp_ok w _ _) _ _
theorem up_ok {P : cS → Prop} {f : Nat → cS → cS} (hf : ∀ i S, P S → P (f i S)) : ∀ (n i : Nat) (S : cS), P S → P (up f n i S) := by
  intro n
  induction n with
  | zero => intro i S w; exact w
  | succ n ih => intro i S w; exact ih _ _ (hf i S w)
theorem go5_ok (w : c_ok G K S) : c_ok G K (c_go5 S) := stp_ok (up_ok (P := c_ok G K) (fun _ S w => stp_ok w 1 0) 5 0 S w) _ _
theorem scl_ok (m n i : Nat) (w : c_ok G K S) : c_ok G K (c_scl m n i S) := up_ok (P := c_ok G K) (fun _ S w => scb_ok w _ _) n i S w
theorem scan_ok (ins : Int32) (n : Nat) (w : c_ok G K S) : c_ok G K (c_scan ins n S) := by
  unfold c_scan
  split
  · exact lv2_ok (scl_ok _ _ _ (in3_ok w))
  · exact lv2_ok (scl_ok _ _ _ (in3_ok (stp_ok w _ _)))
theorem run_Z (S : cS) (tdi : Int32) : c_Z (c_run S tdi).2 = c_Z S := (run_keep (c_Z S 0 2) (c_nd S) 0 (tdi, S)).2
theorem run_wf (w : c_wf G K S) (tdi : Int32) : c_wf G K (c_run S tdi).2 := c_wf_same w (run_keep (c_Z S 0 2) (c_nd S) 0 (tdi, S)).1.1 (run_keep (c_Z S 0 2) (c_nd S) 0 (tdi, S)).1.2.1
theorem ent_wf (w : c_wf G K S) (x : Int32) : c_wf G K (c_ent S x) := c_wf_same w (ent_keep S x).1.1 (ent_keep S x).1.2.1

set_option maxHeartbeats 1000000 in
theorem c_Cb_step (w : c_ok G K S) (tms tdi : Int32) : mm_C G M_Cb_step [.ref (K 0), .int tms, .int tdi] (CP K S h) 0 0 (mm_E (some (.int (c_ans S tdi))) (CP K (c_stp S tms tdi) h)) := by
  obtain ⟨k, hk, hp⟩ := id w.2
  have w1 := run_wf w.1 tdi
  have w2 := ent_wf w1 (c_nx S tms)
  have hp1 : c_Z (c_run S tdi).2 0 2 = nI k := by rw [run_Z]; exact hp
  have hx0 : tms = 0 → mm_t0.getD k 0 = c_nx S tms := fun z => by unfold c_nx; rw [if_pos z, hp, nI_clamp (by omega)]
  have hx1 : ¬ tms = 0 → mm_t1.getD k 0 = c_nx S tms := fun z => by unfold c_nx; rw [if_neg z, hp, nI_clamp (by omega)]
  have hna : narrow .boolean (.int (c_ans S tdi)) = .int (c_ans S tdi) := by
    unfold c_ans c_dout
    repeat' split
    all_goals rfl
  refine mm_C_of (by decide +kernel) rfl (Nat.le_of_ble_eq_true rfl) rfl ?_
  refine mm_blk (pc' := 2) ok_Cb_step 2 _ _ _ rfl ?_
  refine mm_cVE ok_Cb_step (As := [.int tdi]) rfl k_Cb_step_172 (cp_0 w.1) rfl rfl rfl (Nat.le_of_ble_eq_true rfl) (c_Cb_doState w.1 w.2 tdi) ?_
  refine mm_blk (pc' := 8) ok_Cb_step 3 _ _ _ rfl ?_
  refine mm_if_eq ok_Cb_step 22 rfl (by decide) (fun c8 => ?_) (fun c8 => ?_)
  · -- 22 t
    refine mm_gets ok_Cb_step (k := 0) rfl gs_Cb_179 rfl ?_
    refine mm_blk (pc' := 26) ok_Cb_step 1 _ _ _ rfl ?_
    refine mm_getf ok_Cb_step (cp_0 w1) rfl f_Cb_19 rfl ?_
    refine mm_tald ok_Cb_step (k := 0) rfl rfl hp1 (by omega) hk rfl ?_
    first | rw [hx0 c8] | rw [hx1 c8]
    refine mm_cVE ok_Cb_step (As := [.int (c_nx S tms)]) rfl k_Cb_step_166 (cp_0 w1) rfl rfl rfl (Nat.le_of_ble_eq_true rfl) (c_Cb_enterState w1 (c_nx S tms)) ?_
    refine mm_blk (pc' := 35) ok_Cb_step 2 _ _ _ rfl ?_
    refine mm_getf ok_Cb_step (cp_0 w2) rfl f_Cb_160 rfl ?_
    refine mm_blk (pc' := 40) ok_Cb_step 2 _ _ _ rfl ?_
    refine mm_putf ok_Cb_step (cp_0 w2) rfl f_Cb_160 (Or.inl rfl) (mm_fit_I _) ?_
    refine mm_blk (pc' := 44) ok_Cb_step 1 _ _ _ rfl ?_
    exact mm_zret ok_Cb_step rfl rfl hna ⟨rfl, cu_0 w2 3 _⟩
  · -- 11 f
    refine mm_gets ok_Cb_step (k := 1) rfl gs_Cb_176 rfl ?_
    refine mm_blk (pc' := 15) ok_Cb_step 1 _ _ _ rfl ?_
    refine mm_getf ok_Cb_step (cp_0 w1) rfl f_Cb_19 rfl ?_
    refine mm_tald ok_Cb_step (k := 1) rfl rfl hp1 (by omega) hk rfl ?_
    refine mm_blk (pc' := 30) ok_Cb_step 1 _ _ _ rfl ?_
    first | rw [hx0 c8] | rw [hx1 c8]
    refine mm_cVE ok_Cb_step (As := [.int (c_nx S tms)]) rfl k_Cb_step_166 (cp_0 w1) rfl rfl rfl (Nat.le_of_ble_eq_true rfl) (c_Cb_enterState w1 (c_nx S tms)) ?_
    refine mm_blk (pc' := 35) ok_Cb_step 2 _ _ _ rfl ?_
    refine mm_getf ok_Cb_step (cp_0 w2) rfl f_Cb_160 rfl ?_
    refine mm_blk (pc' := 40) ok_Cb_step 2 _ _ _ rfl ?_
    refine mm_putf ok_Cb_step (cp_0 w2) rfl f_Cb_160 (Or.inl rfl) (mm_fit_I _) ?_
    refine mm_blk (pc' := 44) ok_Cb_step 1 _ _ _ rfl ?_
    exact mm_zret ok_Cb_step rfl rfl hna ⟨rfl, cu_0 w2 3 _⟩
set_option maxHeartbeats 1000000 in
theorem l_Cb_goToIdle : ∀ (n i : Nat) (S : cS), c_ok G K S → i + n = 5 → mm_V G M_Cb_goToIdle 2 [(0, .ref (K 0)), (1, .int (nI i))] [] (CP K S h) 0 0 (mm_E none (CP K (c_stp (up (fun _ S => c_stp S 1 0) n i S) 0 0) h)) := by
  intro n
  induction n with
  | zero =>
    intro i S w hi
    refine mm_blk (pc' := 4) ok_Cb_goToIdle 2 _ _ _ rfl ?_
    refine mm_ic_ge ok_Cb_goToIdle 20 rfl (by decide) (fun c => ?_) (fun c => ?_)
    rotate_left
    · exact absurd (show nI 5 ≤ nI i from nI_le (by omega) (by omega)) c
    refine mm_blk (pc' := 23) ok_Cb_goToIdle 3 _ _ _ rfl ?_
    refine mm_cVE ok_Cb_goToIdle (As := [.int 0, .int 0]) rfl k_Cb_goToIdle_98 (cp_0 w.1) rfl rfl rfl (Nat.le_of_ble_eq_true rfl) (c_Cb_step w 0 0) ?_
    refine mm_blk (pc' := 27) ok_Cb_goToIdle 1 _ _ _ rfl ?_
    exact mm_vret ok_Cb_goToIdle rfl rfl ⟨rfl, rfl⟩
  | succ n ih =>
    intro i S w hi
    refine mm_blk (pc' := 4) ok_Cb_goToIdle 2 _ _ _ rfl ?_
    refine mm_ic_ge ok_Cb_goToIdle 20 rfl (by decide) (fun c => ?_) (fun c => ?_)
    · exact absurd c (show ¬ nI 5 ≤ nI i from nI_ge (by omega) (by omega))
    refine mm_blk (pc' := 10) ok_Cb_goToIdle 3 _ _ _ rfl ?_
    refine mm_cVE ok_Cb_goToIdle (As := [.int 1, .int 0]) rfl k_Cb_goToIdle_98 (cp_0 w.1) rfl rfl rfl (Nat.le_of_ble_eq_true rfl) (c_Cb_step w 1 0) ?_
    refine mm_blk (pc' := 2) ok_Cb_goToIdle 3 _ _ _ rfl ?_
    rw [nI_1]
    exact ih (i + 1) _ (stp_ok w 1 0) (by omega)
set_option maxHeartbeats 1000000 in
theorem c_Cb_goToIdle (w : c_ok G K S) : mm_C G M_Cb_goToIdle [.ref (K 0)] (CP K S h) 0 0 (mm_E none (CP K (c_go5 S) h)) := by
  refine mm_C_of (by decide +kernel) rfl (Nat.le_of_ble_eq_true rfl) rfl ?_
  refine mm_blk (pc' := 2) ok_Cb_goToIdle 2 _ _ _ rfl ?_
  exact l_Cb_goToIdle 5 0 S w (by omega)
set_option maxHeartbeats 2000000 in
theorem l_Cb_scan {ins : Int32} {cnt : Nat} (hc : cnt < 160) : ∀ (n i : Nat) (S : cS), c_ok G K S → i + n = cnt + 1 → mm_V G M_Cb_scan 34 [(0, .ref (K 0)), (1, .int ins), (2, .int (nI (cnt + 1))), (3, .int (nI i))] [] (CP K S h) 0 0 (mm_E none (CP K (c_lv2 (c_scl (cnt + 1) n i S)) h)) := by
  intro n
  induction n with
  | zero =>
    intro i S w hi
    refine mm_blk (pc' := 36) ok_Cb_scan 2 _ _ _ rfl ?_
    refine mm_ic_ge ok_Cb_scan 132 rfl (by decide) (fun c => ?_) (fun c => ?_)
    rotate_left
    · exact absurd (nI_le (by omega) (by omega)) c
    refine mm_blk (pc' := 135) ok_Cb_scan 3 _ _ _ rfl ?_
    refine mm_cVE ok_Cb_scan (As := [.int 1, .int 0]) rfl k_Cb_scan_98 (cp_0 w.1) rfl rfl rfl (Nat.le_of_ble_eq_true rfl) (c_Cb_step w 1 0) ?_
    refine mm_blk (pc' := 142) ok_Cb_scan 4 _ _ _ rfl ?_
    refine mm_cVE ok_Cb_scan (As := [.int 0, .int 0]) rfl k_Cb_scan_98 (cp_0 (stp_ok w 1 0).1) rfl rfl rfl (Nat.le_of_ble_eq_true rfl) (c_Cb_step (stp_ok w 1 0) 0 0) ?_
    refine mm_blk (pc' := 146) ok_Cb_scan 1 _ _ _ rfl ?_
    exact mm_vret ok_Cb_scan rfl rfl ⟨rfl, rfl⟩
  | succ n ih =>
    intro i S w hi
    obtain ⟨tms, htms⟩ : ∃ tms : Int32, tms = if i + 1 = cnt + 1 then 1 else 0 := ⟨_, rfl⟩
    have etms : (if nI i = nI cnt then (1:Int32) else 0) = tms := by
      rw [htms]
      by_cases e : i = cnt
      · rw [if_pos (by rw [e]), if_pos (by omega)]
      · rw [if_neg (fun z => e ((nI_eq (by omega) (by omega)).mp z)), if_neg (by omega)]
    refine mm_blk (pc' := 36) ok_Cb_scan 2 _ _ _ rfl ?_
    refine mm_ic_ge ok_Cb_scan 132 rfl (by decide) (fun c => ?_) (fun c => ?_)
    · exact absurd c (nI_ge (by omega) (by omega))
    refine mm_blk (pc' := 42) ok_Cb_scan 2 _ _ _ rfl ?_
    refine mm_idiv ok_Cb_scan rfl (by decide) ?_
    rw [show nI i / 32 = nI (i / 32) from pk_div (d := 32) (by omega) (by decide) (by decide)]
    refine mm_blk (pc' := 49) ok_Cb_scan 4 _ _ _ rfl ?_
    refine mm_irem ok_Cb_scan rfl (by decide) ?_
    rw [show nI i - nI i / 32 * 32 = nI (i % 32) from pk_rem (d := 32) (by omega) (by decide) (by decide)]
    refine mm_blk (pc' := 58) ok_Cb_scan 7 _ _ _ rfl ?_
    rw [nI_pred]
    refine mm_tc_ne ok_Cb_scan 65 rfl (by decide) rfl rfl rfl (by decide) ?_
    refine mm_blk (pc' := 67) ok_Cb_scan 1 _ _ _ rfl ?_
    refine mm_getf ok_Cb_scan (cp_0 w.1) rfl f_Cb_23 rfl ?_
    refine mm_blk (pc' := 72) ok_Cb_scan 1 _ _ _ rfl ?_
    refine mm_iald ok_Cb_scan (cp_5 w.1) rfl rfl (by omega) (oIs_get (by omega) _) ?_
    refine mm_blk (pc' := 76) ok_Cb_scan 2 _ _ _ rfl ?_
    refine mm_ti_eq ok_Cb_scan 83 rfl (by decide) rfl rfl rfl (by decide) ?_
    rw [show (if nI i = nI cnt then (1:Int32) else 0) = tms from etms]
    refine mm_cVE ok_Cb_scan (As := [.int tms, .int (c_din S i)]) rfl k_Cb_scan_98 (cp_0 w.1) rfl rfl rfl (Nat.le_of_ble_eq_true rfl) (c_Cb_step w tms (c_din S i)) ?_
    have w1 := stp_ok w tms (c_din S i)
    refine mm_blk (pc' := 90) ok_Cb_scan 2 _ _ _ rfl ?_
    refine mm_getf ok_Cb_scan (cp_0 w1.1) rfl f_Cb_23 rfl ?_
    refine mm_blk (pc' := 97) ok_Cb_scan 2 _ _ _ rfl ?_
    refine mm_if_eq ok_Cb_scan 113 rfl (by decide) (fun c97 => ?_) (fun c97 => ?_)
    · -- 113 t
      refine mm_blk (pc' := 114) ok_Cb_scan 1 _ _ _ rfl ?_
      refine mm_getf ok_Cb_scan (cp_0 w1.1) rfl f_Cb_23 rfl ?_
      refine mm_blk (pc' := 119) ok_Cb_scan 1 _ _ _ rfl ?_
      refine mm_iald ok_Cb_scan (cp_5 w1.1) rfl rfl (by omega) (oIs_get (by omega) _) ?_
      refine mm_blk (pc' := 125) ok_Cb_scan 4 _ _ _ rfl ?_
      refine mm_iast ok_Cb_scan (cp_5 w1.1) rfl rfl (by omega) (by rw [List.length_map, List.length_range]; omega) ?_
      refine mm_blk (pc' := 34) ok_Cb_scan 2 _ _ _ rfl ?_
      rw [nI_1]
      refine mm_V_pick [0, 1, 2, 3] rfl ?_
      refine mm_V_heap (cu_5 w1.1 (by omega) _) ?_
      have e7 : c_Z (c_stp S tms (c_din S i)) 1 (i / 32) = c_Z S 1 (i / 32) := by rw [(stp_Z S tms (c_din S i)).2.2.2.2.1]
      rw [e7]
      have e5 : c_scl (cnt + 1) (n + 1) i S = c_scl (cnt + 1) n (i + 1) (c_scb S tms i) := by show up _ n (i + 1) (c_scb S (if i + 1 = cnt + 1 then 1 else 0) i) = _; rw [← htms]; rfl
      rw [e5]
      unfold c_scb c_wrd
      first | rw [if_pos c97] | rw [if_neg c97]
      refine ih (i + 1) _ ?_ (by omega)
      exact ⟨sZ_wf w1.1 _ _ _, sZ1_ps w1.2 _ _ _ (by decide)⟩
    · -- 100 f
      refine mm_blk (pc' := 101) ok_Cb_scan 1 _ _ _ rfl ?_
      refine mm_getf ok_Cb_scan (cp_0 w1.1) rfl f_Cb_23 rfl ?_
      refine mm_blk (pc' := 106) ok_Cb_scan 1 _ _ _ rfl ?_
      refine mm_iald ok_Cb_scan (cp_5 w1.1) rfl rfl (by omega) (oIs_get (by omega) _) ?_
      refine mm_blk (pc' := 125) ok_Cb_scan 3 _ _ _ rfl ?_
      refine mm_iast ok_Cb_scan (cp_5 w1.1) rfl rfl (by omega) (by rw [List.length_map, List.length_range]; omega) ?_
      refine mm_blk (pc' := 34) ok_Cb_scan 2 _ _ _ rfl ?_
      rw [nI_1]
      refine mm_V_pick [0, 1, 2, 3] rfl ?_
      refine mm_V_heap (cu_5 w1.1 (by omega) _) ?_
      have e7 : c_Z (c_stp S tms (c_din S i)) 1 (i / 32) = c_Z S 1 (i / 32) := by rw [(stp_Z S tms (c_din S i)).2.2.2.2.1]
      rw [e7]
      have e5 : c_scl (cnt + 1) (n + 1) i S = c_scl (cnt + 1) n (i + 1) (c_scb S tms i) := by show up _ n (i + 1) (c_scb S (if i + 1 = cnt + 1 then 1 else 0) i) = _; rw [← htms]; rfl
      rw [e5]
      unfold c_scb c_wrd
      first | rw [if_pos c97] | rw [if_neg c97]
      refine ih (i + 1) _ ?_ (by omega)
      exact ⟨sZ_wf w1.1 _ _ _, sZ1_ps w1.2 _ _ _ (by decide)⟩
set_option maxHeartbeats 1000000 in
theorem c_Cb_scan {ins : Int32} {cnt : Nat} (hc : cnt < 160) (w : c_ok G K S) : mm_C G M_Cb_scan [.ref (K 0), .int ins, .int (nI (cnt + 1))] (CP K S h) 0 0 (mm_E none (CP K (c_scan ins (cnt + 1) S) h)) := by
  refine mm_C_of (by decide +kernel) rfl (Nat.le_of_ble_eq_true rfl) rfl ?_
  refine mm_blk (pc' := 1) ok_Cb_scan 1 _ _ _ rfl ?_
  refine mm_if_eq ok_Cb_scan 11 rfl (by decide) (fun c1 => ?_) (fun c1 => ?_)
  · -- 11 t
    refine mm_blk (pc' := 14) ok_Cb_scan 3 _ _ _ rfl ?_
    refine mm_cVE ok_Cb_scan (As := [.int 1, .int 0]) rfl k_Cb_scan_98 (cp_0 w.1) rfl rfl rfl (Nat.le_of_ble_eq_true rfl) (c_Cb_step w 1 0) ?_
    have v1 := stp_ok w 1 0
    refine mm_blk (pc' := 21) ok_Cb_scan 4 _ _ _ rfl ?_
    refine mm_cVE ok_Cb_scan (As := [.int 0, .int 0]) rfl k_Cb_scan_98 (cp_0 v1.1) rfl rfl rfl (Nat.le_of_ble_eq_true rfl) (c_Cb_step v1 0 0) ?_
    have v2 := stp_ok v1 0 0
    refine mm_blk (pc' := 28) ok_Cb_scan 4 _ _ _ rfl ?_
    refine mm_cVE ok_Cb_scan (As := [.int 0, .int 0]) rfl k_Cb_scan_98 (cp_0 v2.1) rfl rfl rfl (Nat.le_of_ble_eq_true rfl) (c_Cb_step v2 0 0) ?_
    have v3 := stp_ok v2 0 0
    refine mm_blk (pc' := 34) ok_Cb_scan 3 _ _ _ rfl ?_
    rw [show c_scan ins (cnt + 1) S = c_lv2 (c_scl (cnt + 1) (cnt + 1) 0 (c_in3 S)) by unfold c_scan; rw [if_pos c1]]
    exact l_Cb_scan hc (cnt + 1) 0 _ v3 (by omega)
  · -- 4 f
    refine mm_blk (pc' := 7) ok_Cb_scan 3 _ _ _ rfl ?_
    refine mm_cVE ok_Cb_scan (As := [.int 1, .int 0]) rfl k_Cb_scan_98 (cp_0 w.1) rfl rfl rfl (Nat.le_of_ble_eq_true rfl) (c_Cb_step w 1 0) ?_
    have v0 := stp_ok w 1 0
    refine mm_blk (pc' := 11) ok_Cb_scan 1 _ _ _ rfl ?_
    refine mm_blk (pc' := 14) ok_Cb_scan 3 _ _ _ rfl ?_
    refine mm_cVE ok_Cb_scan (As := [.int 1, .int 0]) rfl k_Cb_scan_98 (cp_0 v0.1) rfl rfl rfl (Nat.le_of_ble_eq_true rfl) (c_Cb_step v0 1 0) ?_
    have v1 := stp_ok v0 1 0
    refine mm_blk (pc' := 21) ok_Cb_scan 4 _ _ _ rfl ?_
    refine mm_cVE ok_Cb_scan (As := [.int 0, .int 0]) rfl k_Cb_scan_98 (cp_0 v1.1) rfl rfl rfl (Nat.le_of_ble_eq_true rfl) (c_Cb_step v1 0 0) ?_
    have v2 := stp_ok v1 0 0
    refine mm_blk (pc' := 28) ok_Cb_scan 4 _ _ _ rfl ?_
    refine mm_cVE ok_Cb_scan (As := [.int 0, .int 0]) rfl k_Cb_scan_98 (cp_0 v2.1) rfl rfl rfl (Nat.le_of_ble_eq_true rfl) (c_Cb_step v2 0 0) ?_
    have v3 := stp_ok v2 0 0
    refine mm_blk (pc' := 34) ok_Cb_scan 3 _ _ _ rfl ?_
    rw [show c_scan ins (cnt + 1) S = c_lv2 (c_scl (cnt + 1) (cnt + 1) 0 (c_in3 (c_stp S 1 0))) by unfold c_scan; rw [if_neg c1]]
    exact l_Cb_scan hc (cnt + 1) 0 _ v3 (by omega)
set_option maxHeartbeats 1000000 in
theorem l_Cb_giveAllExtest (w : c_ok G K S) {cnt : Nat} (hc : cnt < 160) (hs : c_sumB S = nI (cnt + 1)) : ∀ (n i : Nat) (x : Int32), i + n = c_nd S → up (fun i a => a + c_D S i 0) n i x = nI (cnt + 1) → mm_V G M_Cb_giveAllExtest 4 [(0, .ref (K 0)), (1, .int x), (2, .int (nI i))] [] (CP K S h) 0 0 (mm_E none (CP K (c_scan 1 (cnt + 1) (s_Z S 1 0 0)) h)) := by
  intro n
  induction n with
  | zero =>
    intro i x hi hx
    have hx : x = nI (cnt + 1) := hx
    refine mm_blk (pc' := 6) ok_Cb_giveAllExtest 2 _ _ _ rfl ?_
    refine mm_getf ok_Cb_giveAllExtest (cp_0 w.1) rfl f_Cb_12 rfl ?_
    refine mm_cVE ok_Cb_giveAllExtest (As := []) rfl k_Cb_giveAllExtest_33 (cp_1 w.1) rfl rfl rfl (Nat.le_of_ble_eq_true rfl) (c_Al_size (cp_1 w.1)) ?_
    refine mm_ic_ge ok_Cb_giveAllExtest 38 rfl (by decide) (fun c => ?_) (fun c => ?_)
    rotate_left
    · exact absurd (nI_le (by omega) (by have := w.1.1; omega)) c
    refine mm_blk (pc' := 39) ok_Cb_giveAllExtest 1 _ _ _ rfl ?_
    refine mm_getf ok_Cb_giveAllExtest (cp_0 w.1) rfl f_Cb_23 rfl ?_
    refine mm_blk (pc' := 44) ok_Cb_giveAllExtest 2 _ _ _ rfl ?_
    refine mm_iast ok_Cb_giveAllExtest (cp_5 w.1) rfl rfl (show 0 < 2147483648 by decide) (by rw [List.length_map, List.length_range]; decide) ?_
    refine mm_blk (pc' := 48) ok_Cb_giveAllExtest 3 _ _ _ rfl ?_
    refine mm_V_heap (cu_5 w.1 (by decide) 0) ?_
    rw [hx]
    refine mm_cVE ok_Cb_giveAllExtest (As := [.int 1, .int (nI (cnt + 1))]) rfl k_Cb_giveAllExtest_124 (cp_0 (S := s_Z S 1 0 0) w.1) rfl rfl rfl (Nat.le_of_ble_eq_true rfl) (c_Cb_scan (S := s_Z S 1 0 0) hc ⟨w.1, sZ1_ps w.2 1 0 0 (by decide)⟩) ?_
    exact mm_vret ok_Cb_giveAllExtest rfl rfl ⟨rfl, rfl⟩
  | succ n ih =>
    intro i x hi hx
    have hlt : i < c_nd S := by omega
    refine mm_blk (pc' := 6) ok_Cb_giveAllExtest 2 _ _ _ rfl ?_
    refine mm_getf ok_Cb_giveAllExtest (cp_0 w.1) rfl f_Cb_12 rfl ?_
    refine mm_cVE ok_Cb_giveAllExtest (As := []) rfl k_Cb_giveAllExtest_33 (cp_1 w.1) rfl rfl rfl (Nat.le_of_ble_eq_true rfl) (c_Al_size (cp_1 w.1)) ?_
    refine mm_ic_ge ok_Cb_giveAllExtest 38 rfl (by decide) (fun c => ?_) (fun c => ?_)
    · exact absurd c (nI_ge (by omega) (by have := w.1.1; omega))
    refine mm_blk (pc' := 17) ok_Cb_giveAllExtest 2 _ _ _ rfl ?_
    refine mm_getf ok_Cb_giveAllExtest (cp_0 w.1) rfl f_Cb_12 rfl ?_
    refine mm_blk (pc' := 21) ok_Cb_giveAllExtest 1 _ _ _ rfl ?_
    refine mm_cVE ok_Cb_giveAllExtest (As := [.int (nI i)]) rfl k_Cb_giveAllExtest_56 (cp_1 w.1) rfl rfl rfl (Nat.le_of_ble_eq_true rfl) (c_getD w.1 hlt) ?_
    refine mm_cast ok_Cb_giveAllExtest (cp_dev w.1 hlt) cc_Cb_40 rfl ?_
    refine mm_getf ok_Cb_giveAllExtest (cp_dev w.1 hlt) rfl f_Cb_204 rfl ?_
    refine mm_blk (pc' := 4) ok_Cb_giveAllExtest 4 _ _ _ rfl ?_
    rw [nI_1]
    exact ih (i + 1) _ (by omega) hx
set_option maxHeartbeats 1000000 in
theorem c_Cb_giveAllExtest (w : c_ok G K S) {cnt : Nat} (hc : cnt < 160) (hs : c_sumB S = nI (cnt + 1)) : mm_C G M_Cb_giveAllExtest [.ref (K 0)] (CP K S h) 0 0 (mm_E none (CP K (c_scan 1 (cnt + 1) (s_Z S 1 0 0)) h)) := by
  refine mm_C_of (by decide +kernel) rfl (Nat.le_of_ble_eq_true rfl) rfl ?_
  refine mm_blk (pc' := 4) ok_Cb_giveAllExtest 4 _ _ _ rfl ?_
  exact l_Cb_giveAllExtest w hc hs (c_nd S) 0 0 (by omega) hs
set_option maxHeartbeats 1000000 in
theorem l_Cb_restart : ∀ (n i : Nat) (S : cS), c_wf G K S → i + n = c_nd S → mm_V G M_Cb_restartDevices 7 [(0, .ref (K 0)), (1, .int (nI i))] [] (CP K S h) 0 0 (mm_E none (CP K (s_Z (s_Z (s_Z (up (fun i S => s_D S i (upd (upd (c_D S i) 5 0) 6 0)) n i S) 0 3 0) 0 6 0) 0 7 0) h)) := by
  intro n
  induction n with
  | zero =>
    intro i S w hi
    refine mm_blk (pc' := 9) ok_Cb_restartDevices 2 _ _ _ rfl ?_
    refine mm_getf ok_Cb_restartDevices (cp_0 w) rfl f_Cb_12 rfl ?_
    refine mm_cVE ok_Cb_restartDevices (As := []) rfl k_Cb_restartDevices_33 (cp_1 w) rfl rfl rfl (Nat.le_of_ble_eq_true rfl) (c_Al_size (cp_1 w)) ?_
    refine mm_ic_ge ok_Cb_restartDevices 38 rfl (by decide) (fun c => ?_) (fun c => ?_)
    rotate_left
    · exact absurd (nI_le (by omega) (by have := w.1; omega)) c
    refine mm_blk (pc' := 40) ok_Cb_restartDevices 2 _ _ _ rfl ?_
    refine mm_putf ok_Cb_restartDevices (cp_0 w) rfl f_Cb_160 (Or.inl rfl) (mm_fit_I _) ?_
    refine mm_V_heap (cu_0 w 3 0) ?_
    refine mm_blk (pc' := 45) ok_Cb_restartDevices 2 _ _ _ rfl ?_
    refine mm_putf ok_Cb_restartDevices (cp_0 (S := s_Z S 0 3 0) w) rfl f_Cb_131 (Or.inl rfl) (mm_fit_I _) ?_
    refine mm_V_heap (cu_0 (S := s_Z S 0 3 0) w 6 0) ?_
    refine mm_blk (pc' := 50) ok_Cb_restartDevices 2 _ _ _ rfl ?_
    refine mm_putf ok_Cb_restartDevices (cp_0 (S := s_Z (s_Z S 0 3 0) 0 6 0) w) rfl f_Cb_76 (Or.inl rfl) mm_fit_Z0 ?_
    exact mm_vret ok_Cb_restartDevices rfl rfl ⟨rfl, cu_0 (S := s_Z (s_Z S 0 3 0) 0 6 0) w 7 0⟩
  | succ n ih =>
    intro i S w hi
    have hlt : i < c_nd S := by omega
    refine mm_blk (pc' := 9) ok_Cb_restartDevices 2 _ _ _ rfl ?_
    refine mm_getf ok_Cb_restartDevices (cp_0 w) rfl f_Cb_12 rfl ?_
    refine mm_cVE ok_Cb_restartDevices (As := []) rfl k_Cb_restartDevices_33 (cp_1 w) rfl rfl rfl (Nat.le_of_ble_eq_true rfl) (c_Al_size (cp_1 w)) ?_
    refine mm_ic_ge ok_Cb_restartDevices 38 rfl (by decide) (fun c => ?_) (fun c => ?_)
    · exact absurd c (nI_ge (by omega) (by have := w.1; omega))
    refine mm_blk (pc' := 19) ok_Cb_restartDevices 1 _ _ _ rfl ?_
    refine mm_getf ok_Cb_restartDevices (cp_0 w) rfl f_Cb_12 rfl ?_
    refine mm_blk (pc' := 23) ok_Cb_restartDevices 1 _ _ _ rfl ?_
    refine mm_cVE ok_Cb_restartDevices (As := [.int (nI i)]) rfl k_Cb_restartDevices_56 (cp_1 w) rfl rfl rfl (Nat.le_of_ble_eq_true rfl) (c_getD w hlt) ?_
    refine mm_cast ok_Cb_restartDevices (cp_dev w hlt) cc_Cb_40 rfl ?_
    refine mm_cVE ok_Cb_restartDevices (As := []) rfl k_Cb_restartDevices_169 (cp_dev w hlt) rfl rfl rfl (Nat.le_of_ble_eq_true rfl) (c_Dv_clearOutputs (cp_dev w hlt)) ?_
    refine mm_blk (pc' := 7) ok_Cb_restartDevices 2 _ _ _ rfl ?_
    rw [nI_1]
    refine mm_V_heap (cu_dev w hlt _) ?_
    exact ih (i + 1) (s_D S i _) w (by show i + 1 + n = c_nd S; omega)
set_option maxHeartbeats 1000000 in
theorem c_Cb_restart (w : c_wf G K S) : mm_C G M_Cb_restartDevices [.ref (K 0)] (CP K S h) 0 0 (mm_E none (CP K (c_restart S) h)) := by
  refine mm_C_of (by decide +kernel) rfl (Nat.le_of_ble_eq_true rfl) rfl ?_
  refine mm_blk (pc' := 2) ok_Cb_restartDevices 2 _ _ _ rfl ?_
  refine mm_cVE ok_Cb_restartDevices (As := [.int 0]) rfl k_Cb_restartDevices_166 (cp_0 w) rfl rfl rfl (Nat.le_of_ble_eq_true rfl) (c_Cb_enterState w 0) ?_
  refine mm_blk (pc' := 7) ok_Cb_restartDevices 2 _ _ _ rfl ?_
  exact l_Cb_restart (c_nd S) 0 (c_ent S 0) (ent_wf w 0) (by rw [show c_nd (c_ent S 0) = c_nd S from congrArg Prod.fst (ent_keep S 0).1.1]; omega)
end CB4
