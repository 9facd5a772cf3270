/-! the class: faults, the short public methods -/
def mm_X (E : String) (h1 : mm_Hp) : mm_O → mm_Hp → Prop := fun o h' => o = .inr E ∧ h' = h1
abbrev xIA : String := "java/lang/IllegalArgumentException"
abbrev xIS : String := "java/lang/IllegalStateException"
abbrev xIO : String := "java/lang/IndexOutOfBoundsException"
def c_cut (S : cS) (j : Nat) : cS := s_R (s_N S j (upd (c_N S j) 4 (-1))) j ((c_R S j).1, (c_R S j).2.1, none)
def c_mend (S : cS) (j : Nat) : cS := match (c_R S j).2.2 with
  | none => c_cut S j
  | some k => s_R (s_N (c_cut S k) j (upd (c_N S j) 4 (-1))) j ((c_R S j).1, (c_R S j).2.1, none)
def c_alone (S : cS) (j : Nat) (kd : Int32) : cS := s_N (c_mend S j) j (upd (c_N (c_mend S j) j) 4 kd)
def c_tie (S : cS) (j k : Nat) (kd : Int32) : cS := s_R (s_N S j (upd (c_N S j) 4 kd)) j ((c_R S j).1, (c_R S j).2.1, some k)
def c_with (S : cS) (j k : Nat) (kd : Int32) : cS := c_tie (c_tie (c_mend (c_mend S j) k) j k kd) k j kd
section CB5
variable {G : mm_G} {K : Nat → Nat} {S : cS} {h : mm_Hp}
theorem sR_wf (w : c_wf G K S) {j : Nat} (hj : j < c_nn S) (n : Nat → Int32) (s : Option Nat) (hs : ∀ k, s = some k → k < c_nn S ∧ k ≠ j) : c_wf G K (s_R (s_N S j n) j ((c_R S j).1, (c_R S j).2.1, s)) := by
  refine ⟨w.1, w.2.1, w.2.2.1, w.2.2.2.1, w.2.2.2.2.1, fun i hi => ?_⟩
  show (va_up (c_R S) j ((c_R S j).1, (c_R S j).2.1, s) i).1 < c_nd S ∧ (va_up (c_R S) j ((c_R S j).1, (c_R S j).2.1, s) i).2.1 < c_nd S ∧ ∀ k, (va_up (c_R S) j ((c_R S j).1, (c_R S j).2.1, s) i).2.2 = some k → k < c_nn S ∧ k ≠ i
  by_cases e : i = j
  · rw [e, va_up_self]
    exact ⟨(w.2.2.2.2.2 j hj).1, (w.2.2.2.2.2 j hj).2.1, hs⟩
  · rw [va_up_ne _ _ e]
    exact w.2.2.2.2.2 i hi
theorem cut_wf (w : c_wf G K S) {j : Nat} (hj : j < c_nn S) : c_wf G K (c_cut S j) := sR_wf w hj _ none (fun k z => by cases z)
theorem mend_wf (w : c_wf G K S) {j : Nat} (hj : j < c_nn S) : c_wf G K (c_mend S j) := by
  unfold c_mend
  split
  · exact cut_wf w hj
  · rename_i k e
    have h1 := (w.2.2.2.2.2 j hj).2.2 k e
    have hr : c_R (c_cut S k) j = c_R S j := va_up_ne _ _ (Ne.symm h1.2)
    have h2 := sR_wf (cut_wf w h1.1) (j := j) hj (upd (c_N S j) 4 (-1)) none (fun k z => by cases z)
    rw [hr] at h2
    exact h2
theorem mend_1 (S : cS) (j : Nat) : (c_mend S j).1 = S.1 := by unfold c_mend; split <;> rfl
theorem alone_wf (w : c_wf G K S) {j : Nat} (hj : j < c_nn S) (kd : Int32) : c_wf G K (c_alone S j kd) := mend_wf w hj
theorem tie_wf (w : c_wf G K S) {j k : Nat} (hj : j < c_nn S) (hk : k < c_nn S) (hjk : k ≠ j) (kd : Int32) : c_wf G K (c_tie S j k kd) := sR_wf w hj _ (some k) (fun i z => by cases z; exact ⟨hk, hjk⟩)
theorem with_wf (w : c_wf G K S) {j k : Nat} (hj : j < c_nn S) (hk : k < c_nn S) (hjk : k ≠ j) (kd : Int32) : c_wf G K (c_with S j k kd) := by
  have e1 : c_nn (c_mend S j) = c_nn S := congrArg Prod.snd (mend_1 S j)
  have e2 : c_nn (c_mend (c_mend S j) k) = c_nn S := (congrArg Prod.snd (mend_1 _ k)).trans e1
  have w1 := mend_wf (mend_wf w hj) (j := k) (by rw [e1]; exact hk)
  exact tie_wf (tie_wf w1 (by rw [e2]; exact hj) (by rw [e2]; exact hk) hjk kd) (j := k) (k := j) (by show k < c_nn (c_mend (c_mend S j) k); rw [e2]; exact hk) (by show j < c_nn (c_mend (c_mend S j) k); rw [e2]; exact hj) (Ne.symm hjk) kd

set_option maxHeartbeats 1000000 in
theorem c_mendS (w : c_wf G K S) {j : Nat} (hj : j < c_nn S) : mm_C G M_Nt_mend [.ref (K (20 + j))] (CP K S h) 0 0 (mm_E none (CP K (c_mend S j) h)) := by
  have hn := cp_net (h := h) w hj
  unfold oNK at hn
  unfold c_mend
  split
  · rename_i e
    rw [e] at hn
    have h1 := c_Nt_mend0 (G := G) hn
    rw [show oNt (K (10 + (c_R S j).1)) (K (10 + (c_R S j).2.1)) none (upd (c_N S j) 4 (-1)) = oNK K ((c_R S j).1, (c_R S j).2.1, none) (upd (c_N S j) 4 (-1)) from rfl, cu_net w hj] at h1
    exact h1
  · rename_i k e
    rw [e] at hn
    have hk := (w.2.2.2.2.2 j hj).2.2 k e
    have h1 := c_Nt_mend1 (G := G) hn (cp_net w hk.1) (k_net_ne w hj hk.1 (Ne.symm hk.2))
    rw [show oNt (K (10 + (c_R S k).1)) (K (10 + (c_R S k).2.1)) none (upd (c_N S k) 4 (-1)) = oNK K ((c_R S k).1, (c_R S k).2.1, none) (upd (c_N S k) 4 (-1)) from rfl, cu_net w hk.1] at h1
    rw [show oNt (K (10 + (c_R S j).1)) (K (10 + (c_R S j).2.1)) none (upd (c_N S j) 4 (-1)) = oNK K ((c_R S j).1, (c_R S j).2.1, none) (upd (c_N S j) 4 (-1)) from rfl, cu_net (S := s_R (s_N S k (upd (c_N S k) 4 (-1))) k ((c_R S k).1, (c_R S k).2.1, none)) (cut_wf w hk.1) (j := j) hj] at h1
    exact h1
set_option maxHeartbeats 1000000 in
theorem c_Nt_breakAlone (w : c_wf G K S) {j : Nat} (hj : j < c_nn S) (kd : Int32) : mm_C G M_Nt_breakAlone [.ref (K (20 + j)), .int kd] (CP K S h) 0 0 (mm_E none (CP K (c_alone S j kd) h)) := by
  have w1 := mend_wf w hj
  have e1 : c_nn (c_mend S j) = c_nn S := congrArg Prod.snd (mend_1 S j)
  have hj1 : j < c_nn (c_mend S j) := by rw [e1]; exact hj
  refine mm_C_of (by decide +kernel) rfl (Nat.le_of_ble_eq_true rfl) rfl ?_
  refine mm_blk (pc' := 1) ok_Nt_breakAlone 1 _ _ _ rfl ?_
  refine mm_cVE ok_Nt_breakAlone (As := []) rfl k_Nt_breakAlone_38 (cp_net w hj) rfl rfl rfl (Nat.le_of_ble_eq_true rfl) (c_mendS w hj) ?_
  refine mm_blk (pc' := 6) ok_Nt_breakAlone 2 _ _ _ rfl ?_
  refine mm_putf ok_Nt_breakAlone (cp_net w1 hj1) rfl f_Nt_25 (Or.inl rfl) (mm_fit_I _) ?_
  exact mm_vret ok_Nt_breakAlone rfl rfl ⟨rfl, cu_netN w1 hj1 4 kd⟩
set_option maxHeartbeats 1000000 in
theorem c_Nt_breakWith (w : c_wf G K S) {j k : Nat} (hj : j < c_nn S) (hk : k < c_nn S) (hjk : k ≠ j) (kd : Int32) : mm_C G M_Nt_breakWith [.ref (K (20 + j)), .ref (K (20 + k)), .int kd] (CP K S h) 0 0 (mm_E none (CP K (c_with S j k kd) h)) := by
  have w1 := mend_wf w hj
  have e1 : c_nn (c_mend S j) = c_nn S := congrArg Prod.snd (mend_1 S j)
  have hk1 : k < c_nn (c_mend S j) := by rw [e1]; exact hk
  have w2 := mend_wf w1 hk1
  have e2 : c_nn (c_mend (c_mend S j) k) = c_nn S := (congrArg Prod.snd (mend_1 _ k)).trans e1
  have hj2 : j < c_nn (c_mend (c_mend S j) k) := by rw [e2]; exact hj
  have hk2 : k < c_nn (c_mend (c_mend S j) k) := by rw [e2]; exact hk
  have w3 := tie_wf w2 hj2 hk2 hjk kd
  have nf : ∀ a : Nat, mm_fit "LChainBench$Net;" (.ref a) := mm_fit_N
  refine mm_C_of (by decide +kernel) rfl (Nat.le_of_ble_eq_true rfl) rfl ?_
  refine mm_blk (pc' := 1) ok_Nt_breakWith 1 _ _ _ rfl ?_
  refine mm_cVE ok_Nt_breakWith (As := []) rfl k_Nt_breakWith_38 (cp_net w hj) rfl rfl rfl (Nat.le_of_ble_eq_true rfl) (c_mendS w hj) ?_
  refine mm_blk (pc' := 5) ok_Nt_breakWith 1 _ _ _ rfl ?_
  refine mm_cVE ok_Nt_breakWith (As := []) rfl k_Nt_breakWith_38 (cp_net w1 hk1) rfl rfl rfl (Nat.le_of_ble_eq_true rfl) (c_mendS w1 hk1) ?_
  refine mm_blk (pc' := 10) ok_Nt_breakWith 2 _ _ _ rfl ?_
  refine mm_putf ok_Nt_breakWith (cp_net w2 hj2) rfl f_Nt_25 (Or.inl rfl) (mm_fit_I _) ?_
  refine mm_blk (pc' := 15) ok_Nt_breakWith 2 _ _ _ rfl ?_
  refine mm_putf ok_Nt_breakWith (mm_up_self _ _ _) rfl f_Nt_34 (Or.inl rfl) (mm_fit_N _) ?_
  rw [mm_up_up]
  refine mm_V_heap (cu_net w2 hj2 ((c_R (c_mend (c_mend S j) k) j).1, (c_R (c_mend (c_mend S j) k) j).2.1, some k) (upd (c_N (c_mend (c_mend S j) k) j) 4 kd)) ?_
  refine mm_blk (pc' := 20) ok_Nt_breakWith 2 _ _ _ rfl ?_
  refine mm_putf ok_Nt_breakWith (cp_net w3 hk2) rfl f_Nt_25 (Or.inl rfl) (mm_fit_I _) ?_
  refine mm_blk (pc' := 25) ok_Nt_breakWith 2 _ _ _ rfl ?_
  refine mm_putf ok_Nt_breakWith (mm_up_self _ _ _) rfl f_Nt_34 (Or.inl rfl) (mm_fit_N _) ?_
  exact mm_vret ok_Nt_breakWith rfl rfl ⟨rfl, by rw [mm_up_up]; exact cu_net w3 hk2 ((c_R (c_tie (c_mend (c_mend S j) k) j k kd) k).1, (c_R (c_tie (c_mend (c_mend S j) k) j k kd) k).2.1, some j) (upd (c_N (c_tie (c_mend (c_mend S j) k) j k kd) k) 4 kd)⟩
theorem c_Cb_isDevice1 (w : c_wf G K S) {j : Nat} (hj : j < c_nd S) : mm_C G M_Cb_isDevice [.ref (K 0), .int (nI j)] (CP K S h) 0 0 (mm_E (some (.int 1)) (CP K S h)) :=
  mm_C_wk (c_Cb_isDevice w (nI j)) (fun o h' z => ⟨by rw [z.1, if_pos (show ¬ nI j < 0 ∧ ¬ nI (c_nd S) ≤ nI j from (inR_iff (by have := w.1; have := w.2.1; omega)).mpr ⟨j, hj, rfl⟩)], z.2⟩)
theorem c_Cb_isDevice0 (w : c_wf G K S) {x : Int32} (hx : ¬ inR x (c_nd S)) : mm_C G M_Cb_isDevice [.ref (K 0), .int x] (CP K S h) 0 0 (mm_E (some (.int 0)) (CP K S h)) :=
  mm_C_wk (c_Cb_isDevice w x) (fun o h' z => ⟨by rw [z.1, if_neg (show ¬ (¬ x < 0 ∧ ¬ nI (c_nd S) ≤ x) from hx)], z.2⟩)
theorem c_Cb_isNet1 (w : c_wf G K S) {j : Nat} (hj : j < c_nn S) : mm_C G M_Cb_isNet [.ref (K 0), .int (nI j)] (CP K S h) 0 0 (mm_E (some (.int 1)) (CP K S h)) :=
  mm_C_wk (c_Cb_isNet w (nI j)) (fun o h' z => ⟨by rw [z.1, if_pos (show ¬ nI j < 0 ∧ ¬ nI (c_nn S) ≤ nI j from (inR_iff (by have := w.1; have := w.2.1; omega)).mpr ⟨j, hj, rfl⟩)], z.2⟩)
theorem c_Cb_isNet0 (w : c_wf G K S) {x : Int32} (hx : ¬ inR x (c_nn S)) : mm_C G M_Cb_isNet [.ref (K 0), .int x] (CP K S h) 0 0 (mm_E (some (.int 0)) (CP K S h)) :=
  mm_C_wk (c_Cb_isNet w x) (fun o h' z => ⟨by rw [z.1, if_neg (show ¬ (¬ x < 0 ∧ ¬ nI (c_nn S) ≤ x) from hx)], z.2⟩)
theorem c_Cb_isCell1 (w : c_wf G K S) {x c : Int32} (hx : isC S x c) : mm_C G M_Cb_isCell [.ref (K 0), .int x, .int c] (CP K S h) 0 0 (mm_E (some (.int 1)) (CP K S h)) :=
  mm_C_wk (c_Cb_isCell w x c) (fun o h' z => by
    obtain ⟨r, z1, z2, z3⟩ := z
    rcases z3 with ⟨z3, -⟩ | ⟨-, z3⟩
    · rw [z3] at z1; exact ⟨z1, z2⟩
    · exact absurd hx z3)
theorem c_Cb_isCell0 (w : c_wf G K S) {x c : Int32} (hx : ¬ isC S x c) : mm_C G M_Cb_isCell [.ref (K 0), .int x, .int c] (CP K S h) 0 0 (mm_E (some (.int 0)) (CP K S h)) :=
  mm_C_wk (c_Cb_isCell w x c) (fun o h' z => by
    obtain ⟨r, z1, z2, z3⟩ := z
    rcases z3 with ⟨-, z3⟩ | ⟨z3, -⟩
    · exact absurd z3 hx
    · rw [z3] at z1; exact ⟨z1, z2⟩)
theorem isC_dev (w : c_wf G K S) {x c : Int32} (hx : isC S x c) : ∃ i, i < c_nd S ∧ x = nI i := (inR_iff (by have := w.1; omega)).mp hx.1
set_option maxHeartbeats 1000000 in
theorem c_Cb_state (w : c_wf G K S) : mm_C G M_Cb_state [.ref (K 0)] (CP K S h) 0 0 (mm_E (some (.int (c_Z S 0 2))) (CP K S h)) := by
  refine mm_C_of (by decide +kernel) rfl (Nat.le_of_ble_eq_true rfl) rfl ?_
  refine mm_blk (pc' := 1) ok_Cb_state 1 _ _ _ rfl ?_
  refine mm_getf ok_Cb_state (cp_0 w) rfl f_Cb_19 rfl ?_
  exact mm_iret ok_Cb_state rfl rfl ⟨rfl, rfl⟩
set_option maxHeartbeats 1000000 in
theorem c_Cb_clocks (w : c_wf G K S) : mm_C G M_Cb_clocks [.ref (K 0)] (CP K S h) 0 0 (mm_E (some (.int (c_Z S 0 3))) (CP K S h)) := by
  refine mm_C_of (by decide +kernel) rfl (Nat.le_of_ble_eq_true rfl) rfl ?_
  refine mm_blk (pc' := 1) ok_Cb_clocks 1 _ _ _ rfl ?_
  refine mm_getf ok_Cb_clocks (cp_0 w) rfl f_Cb_160 rfl ?_
  exact mm_iret ok_Cb_clocks rfl rfl ⟨rfl, rfl⟩
theorem car_b (S : cS) (j : Nat) : narrow .boolean (.int (c_car S j)) = .int (c_car S j) := by
  unfold c_car nt_car
  repeat' split
  all_goals rfl
set_option maxHeartbeats 1000000 in
theorem c_Cb_value_x (w : c_wf G K S) {x : Int32} (hx : ¬ inR x (c_nn S)) : mm_C G M_Cb_value [.ref (K 0), .int x] (CP K S h) 1 6 (mm_X xIA (CP K S h)) := by
  refine mm_C_of (by decide +kernel) rfl (Nat.le_of_ble_eq_true rfl) rfl ?_
  refine mm_blk (pc' := 2) ok_Cb_value 2 _ _ _ rfl ?_
  refine mm_cVE ok_Cb_value (As := [.int x]) rfl k_Cb_value_80 (cp_0 w) rfl rfl rfl (Nat.le_of_ble_eq_true rfl) (c_Cb_isNet0 w hx) ?_
  refine mm_if_ne ok_Cb_value 16 rfl (by decide) (fun c => ?_) (fun c => ?_)
  · exact absurd rfl c
  exact mm_V_wid (k1 := 1) (k2 := 6) (by omega) (by omega) (mm_throw (kc := 0) (ks := 0) ok_Cb_value rfl rfl rfl rfl x_Cb_30_32 rfl (by decide) (Nat.le_of_ble_eq_true rfl) ⟨rfl, rfl⟩)
set_option maxHeartbeats 1000000 in
theorem c_Cb_value_r (w : c_wf G K S) {j : Nat} (hj : j < c_nn S) : mm_C G M_Cb_value [.ref (K 0), .int (nI j)] (CP K S h) 0 0 (mm_E (some (.int (c_car S j))) (CP K S h)) := by
  refine mm_C_of (by decide +kernel) rfl (Nat.le_of_ble_eq_true rfl) rfl ?_
  refine mm_blk (pc' := 2) ok_Cb_value 2 _ _ _ rfl ?_
  refine mm_cVE ok_Cb_value (As := [.int (nI j)]) rfl k_Cb_value_80 (cp_0 w) rfl rfl rfl (Nat.le_of_ble_eq_true rfl) (c_Cb_isNet1 w hj) ?_
  refine mm_if_ne ok_Cb_value 16 rfl (by decide) (fun c => ?_) (fun c => ?_)
  rotate_left
  · exact absurd c (by decide)
  refine mm_blk (pc' := 17) ok_Cb_value 1 _ _ _ rfl ?_
  refine mm_getf ok_Cb_value (cp_0 w) rfl f_Cb_16 rfl ?_
  refine mm_blk (pc' := 21) ok_Cb_value 1 _ _ _ rfl ?_
  refine mm_cVE ok_Cb_value (As := [.int (nI j)]) rfl k_Cb_value_56 (cp_3 w) rfl rfl rfl (Nat.le_of_ble_eq_true rfl) (c_getN w hj) ?_
  refine mm_cast ok_Cb_value (cp_net w hj) cc_Cb_71 rfl ?_
  refine mm_cVE ok_Cb_value (As := []) rfl k_Cb_value_118 (cp_net w hj) rfl rfl rfl (Nat.le_of_ble_eq_true rfl) (c_carr w hj) ?_
  exact mm_zret ok_Cb_value rfl rfl (car_b S j) ⟨rfl, rfl⟩
set_option maxHeartbeats 1000000 in
theorem c_Cb_saw_x (w : c_wf G K S) {x : Int32} (hx : c_Z S 0 7 = 0 ∨ ¬ inR x (c_nn S)) : mm_C G M_Cb_saw [.ref (K 0), .int x] (CP K S h) 1 6 (mm_X xIO (CP K S h)) := by
  refine mm_C_of (by decide +kernel) rfl (Nat.le_of_ble_eq_true rfl) rfl ?_
  refine mm_blk (pc' := 1) ok_Cb_saw 1 _ _ _ rfl ?_
  refine mm_getf ok_Cb_saw (cp_0 w) rfl f_Cb_76 rfl ?_
  refine mm_if_eq ok_Cb_saw 15 rfl (by decide) (fun c4 => ?_) (fun c4 => ?_)
  · -- 15 t
    exact mm_V_wid (k1 := 1) (k2 := 6) (by omega) (by omega) (mm_throw (kc := 0) (ks := 0) ok_Cb_saw rfl rfl rfl rfl x_Cb_134_136 rfl (by decide) (Nat.le_of_ble_eq_true rfl) ⟨rfl, rfl⟩)
  · -- 7 f
    refine mm_blk (pc' := 9) ok_Cb_saw 2 _ _ _ rfl ?_
    refine mm_cVE ok_Cb_saw (As := [.int x]) rfl k_Cb_saw_80 (cp_0 w) rfl rfl rfl (Nat.le_of_ble_eq_true rfl) (c_Cb_isNet0 w (hx.resolve_left c4)) ?_
    refine mm_if_ne ok_Cb_saw 23 rfl (by decide) (fun c => ?_) (fun c => ?_)
    · exact absurd rfl c
    exact mm_V_wid (k1 := 1) (k2 := 6) (by omega) (by omega) (mm_throw (kc := 0) (ks := 0) ok_Cb_saw rfl rfl rfl rfl x_Cb_134_136 rfl (by decide) (Nat.le_of_ble_eq_true rfl) ⟨rfl, rfl⟩)
set_option maxHeartbeats 1000000 in
theorem c_Cb_saw_r (w : c_wf G K S) {j : Nat} (ht : ¬ c_Z S 0 7 = 0) (hj : j < c_nn S) : mm_C G M_Cb_saw [.ref (K 0), .int (nI j)] (CP K S h) 0 0 (mm_E (some (.int (c_N S j 6))) (CP K S h)) := by
  refine mm_C_of (by decide +kernel) rfl (Nat.le_of_ble_eq_true rfl) rfl ?_
  refine mm_blk (pc' := 1) ok_Cb_saw 1 _ _ _ rfl ?_
  refine mm_getf ok_Cb_saw (cp_0 w) rfl f_Cb_76 rfl ?_
  refine mm_if_eq ok_Cb_saw 15 rfl (by decide) (fun c => ?_) (fun c => ?_)
  · exact absurd c ht
  refine mm_blk (pc' := 9) ok_Cb_saw 2 _ _ _ rfl ?_
  refine mm_cVE ok_Cb_saw (As := [.int (nI j)]) rfl k_Cb_saw_80 (cp_0 w) rfl rfl rfl (Nat.le_of_ble_eq_true rfl) (c_Cb_isNet1 w hj) ?_
  refine mm_if_ne ok_Cb_saw 23 rfl (by decide) (fun c => ?_) (fun c => ?_)
  rotate_left
  · exact absurd c (by decide)
  refine mm_blk (pc' := 24) ok_Cb_saw 1 _ _ _ rfl ?_
  refine mm_getf ok_Cb_saw (cp_0 w) rfl f_Cb_16 rfl ?_
  refine mm_blk (pc' := 28) ok_Cb_saw 1 _ _ _ rfl ?_
  refine mm_cVE ok_Cb_saw (As := [.int (nI j)]) rfl k_Cb_saw_56 (cp_3 w) rfl rfl rfl (Nat.le_of_ble_eq_true rfl) (c_getN w hj) ?_
  refine mm_cast ok_Cb_saw (cp_net w hj) cc_Cb_71 rfl ?_
  refine mm_getf ok_Cb_saw (cp_net w hj) rfl f_Cb_157 rfl ?_
  exact mm_iret ok_Cb_saw rfl rfl ⟨rfl, rfl⟩
set_option maxHeartbeats 1000000 in
theorem c_Cb_found_x (w : c_wf G K S) {x : Int32} (hx : x < 0 ∨ ¬ x < c_Z S 0 6) : mm_C G M_Cb_found [.ref (K 0), .int x] (CP K S h) 1 6 (mm_X xIO (CP K S h)) := by
  refine mm_C_of (by decide +kernel) rfl (Nat.le_of_ble_eq_true rfl) rfl ?_
  refine mm_blk (pc' := 1) ok_Cb_found 1 _ _ _ rfl ?_
  refine mm_if_lt ok_Cb_found 12 rfl (by decide) (fun c1 => ?_) (fun c1 => ?_)
  · -- 12 t
    exact mm_V_wid (k1 := 1) (k2 := 6) (by omega) (by omega) (mm_throw (kc := 0) (ks := 0) ok_Cb_found rfl rfl rfl rfl x_Cb_134_136 rfl (by decide) (Nat.le_of_ble_eq_true rfl) ⟨rfl, rfl⟩)
  · -- 4 f
    refine mm_blk (pc' := 6) ok_Cb_found 2 _ _ _ rfl ?_
    refine mm_getf ok_Cb_found (cp_0 w) rfl f_Cb_131 rfl ?_
    refine mm_ic_lt ok_Cb_found 20 rfl (by decide) (fun c => ?_) (fun c => ?_)
    · exact absurd c (hx.resolve_left c1)
    exact mm_V_wid (k1 := 1) (k2 := 6) (by omega) (by omega) (mm_throw (kc := 0) (ks := 0) ok_Cb_found rfl rfl rfl rfl x_Cb_134_136 rfl (by decide) (Nat.le_of_ble_eq_true rfl) ⟨rfl, rfl⟩)
set_option maxHeartbeats 1000000 in
theorem c_Cb_found_r (w : c_wf G K S) {j : Nat} (hj : j < 4) (hx : nI j < c_Z S 0 6) : mm_C G M_Cb_found [.ref (K 0), .int (nI j)] (CP K S h) 0 0 (mm_E (some (.int (c_Z S 2 j))) (CP K S h)) := by
  refine mm_C_of (by decide +kernel) rfl (Nat.le_of_ble_eq_true rfl) rfl ?_
  refine mm_blk (pc' := 1) ok_Cb_found 1 _ _ _ rfl ?_
  refine mm_if_lt ok_Cb_found 12 rfl (by decide) (fun c => ?_) (fun c => ?_)
  · exact absurd c (nI_pos (by omega))
  refine mm_blk (pc' := 6) ok_Cb_found 2 _ _ _ rfl ?_
  refine mm_getf ok_Cb_found (cp_0 w) rfl f_Cb_131 rfl ?_
  refine mm_ic_lt ok_Cb_found 20 rfl (by decide) (fun c => ?_) (fun c => ?_)
  rotate_left
  · exact absurd hx c
  refine mm_blk (pc' := 21) ok_Cb_found 1 _ _ _ rfl ?_
  refine mm_getf ok_Cb_found (cp_0 w) rfl f_Cb_27 rfl ?_
  refine mm_blk (pc' := 25) ok_Cb_found 1 _ _ _ rfl ?_
  refine mm_iald ok_Cb_found (cp_6 w) rfl rfl (by omega) (oIs_get hj _) ?_
  exact mm_iret ok_Cb_found rfl rfl ⟨rfl, rfl⟩
theorem ans_b (S : cS) (b : Int32) : narrow .boolean (.int (c_ans S b)) = .int (c_ans S b) := by
  unfold c_ans c_dout
  repeat' split
  all_goals rfl
set_option maxHeartbeats 1000000 in
theorem c_Cb_clock_x (w : c_wf G K S) {a b : Int32} (hx : c_nd S = 0) : mm_C G M_Cb_clock [.ref (K 0), .int a, .int b] (CP K S h) 1 6 (mm_X xIS (CP K S h)) := by
  refine mm_C_of (by decide +kernel) rfl (Nat.le_of_ble_eq_true rfl) rfl ?_
  refine mm_blk (pc' := 1) ok_Cb_clock 1 _ _ _ rfl ?_
  refine mm_getf ok_Cb_clock (cp_0 w) rfl f_Cb_12 rfl ?_
  refine mm_cVE ok_Cb_clock (As := []) rfl k_Cb_clock_94 (cp_1 w) rfl rfl rfl (Nat.le_of_ble_eq_true rfl) (c_Al_isEmpty (cp_1 w)) ?_
  refine mm_if_eq ok_Cb_clock 18 rfl (by decide) (fun c => ?_) (fun c => ?_)
  · rw [hx] at c; exact absurd c (by decide)
  exact mm_V_wid (k1 := 1) (k2 := 6) (by omega) (by omega) (mm_throw (kc := 0) (ks := 0) ok_Cb_clock rfl rfl rfl rfl x_Cb_37_39 rfl (by decide) (Nat.le_of_ble_eq_true rfl) ⟨rfl, rfl⟩)
set_option maxHeartbeats 1000000 in
theorem c_Cb_clock_r (v : c_ok G K S) (a b : Int32) (hx : 0 < c_nd S) : mm_C G M_Cb_clock [.ref (K 0), .int a, .int b] (CP K S h) 0 0 (mm_E (some (.int (c_ans S b))) (CP K (c_stp S a b) h)) := by
  have w := v.1
  have hn : (if nI (c_nd S) = 0 then (1 : Int32) else 0) = 0 := if_neg (nI_ne0 hx (by have := w.1; omega))
  refine mm_C_of (by decide +kernel) rfl (Nat.le_of_ble_eq_true rfl) rfl ?_
  refine mm_blk (pc' := 1) ok_Cb_clock 1 _ _ _ rfl ?_
  refine mm_getf ok_Cb_clock (cp_0 w) rfl f_Cb_12 rfl ?_
  refine mm_cVE ok_Cb_clock (As := []) rfl k_Cb_clock_94 (cp_1 w) rfl rfl rfl (Nat.le_of_ble_eq_true rfl) (c_Al_isEmpty (cp_1 w)) ?_
  refine mm_if_eq ok_Cb_clock 18 rfl (by decide) (fun c => ?_) (fun c => ?_)
  rotate_left
  · exact absurd hn c
  refine mm_blk (pc' := 21) ok_Cb_clock 3 _ _ _ rfl ?_
  refine mm_cVE ok_Cb_clock (As := [.int a, .int b]) rfl k_Cb_clock_98 (cp_0 w) rfl rfl rfl (Nat.le_of_ble_eq_true rfl) (c_Cb_step v a b) ?_
  exact mm_zret ok_Cb_clock rfl rfl (ans_b S b) ⟨rfl, rfl⟩
set_option maxHeartbeats 1000000 in
theorem c_Cb_core_x (w : c_wf G K S) {x cl one : Int32} (hx : ¬ isC S x cl) : mm_C G M_Cb_core [.ref (K 0), .int x, .int cl, .int one] (CP K S h) 1 6 (mm_X xIA (CP K S h)) := by
  refine mm_C_of (by decide +kernel) rfl (Nat.le_of_ble_eq_true rfl) rfl ?_
  refine mm_blk (pc' := 3) ok_Cb_core 3 _ _ _ rfl ?_
  refine mm_cVE ok_Cb_core (As := [.int x, .int cl]) rfl k_Cb_core_52 (cp_0 w) rfl rfl rfl (Nat.le_of_ble_eq_true rfl) (c_Cb_isCell0 w hx) ?_
  refine mm_if_eq ok_Cb_core 27 rfl (by decide) (fun c => ?_) (fun c => ?_)
  rotate_left
  · exact absurd rfl c
  exact mm_V_wid (k1 := 1) (k2 := 6) (by omega) (by omega) (mm_throw (kc := 0) (ks := 0) ok_Cb_core rfl rfl rfl rfl x_Cb_30_32 rfl (by decide) (Nat.le_of_ble_eq_true rfl) ⟨rfl, rfl⟩)
set_option maxHeartbeats 1000000 in
theorem c_Cb_core_y (w : c_wf G K S) {i : Nat} (hi : i < c_nd S) {cl one : Int32} (hx : isC S (nI i) cl) (hd : ¬ (mm_ushr (c_D S i 3) cl &&& 1) = 1) : mm_C G M_Cb_core [.ref (K 0), .int (nI i), .int cl, .int one] (CP K S h) 1 6 (mm_X xIA (CP K S h)) := by
  refine mm_C_of (by decide +kernel) rfl (Nat.le_of_ble_eq_true rfl) rfl ?_
  refine mm_blk (pc' := 3) ok_Cb_core 3 _ _ _ rfl ?_
  refine mm_cVE ok_Cb_core (As := [.int (nI i), .int cl]) rfl k_Cb_core_52 (cp_0 w) rfl rfl rfl (Nat.le_of_ble_eq_true rfl) (c_Cb_isCell1 w hx) ?_
  refine mm_if_eq ok_Cb_core 27 rfl (by decide) (fun c => ?_) (fun c => ?_)
  · exact absurd c (by decide)
  refine mm_blk (pc' := 10) ok_Cb_core 1 _ _ _ rfl ?_
  refine mm_getf ok_Cb_core (cp_0 w) rfl f_Cb_12 rfl ?_
  refine mm_blk (pc' := 14) ok_Cb_core 1 _ _ _ rfl ?_
  refine mm_cVE ok_Cb_core (As := [.int (nI i)]) rfl k_Cb_core_56 (cp_1 w) rfl rfl rfl (Nat.le_of_ble_eq_true rfl) (c_getD w hi) ?_
  refine mm_cast ok_Cb_core (cp_dev w hi) cc_Cb_40 rfl ?_
  refine mm_blk (pc' := 21) ok_Cb_core 1 _ _ _ rfl ?_
  refine mm_cVE ok_Cb_core (As := [.int cl]) rfl k_Cb_core_60 (cp_dev w hi) rfl rfl rfl (Nat.le_of_ble_eq_true rfl) (c_Dv_drives (cp_dev w hi) cl) ?_
  refine mm_if_ne ok_Cb_core 35 rfl (by decide) (fun c => ?_) (fun c => ?_)
  · exact absurd (if_neg hd) c
  exact mm_V_wid (k1 := 1) (k2 := 6) (by omega) (by omega) (mm_throw (kc := 0) (ks := 0) ok_Cb_core rfl rfl rfl rfl x_Cb_30_32 rfl (by decide) (Nat.le_of_ble_eq_true rfl) ⟨rfl, rfl⟩)
set_option maxHeartbeats 1000000 in
theorem c_Cb_core_r (w : c_wf G K S) {i : Nat} (hi : i < c_nd S) {cl one : Int32} (hx : isC S (nI i) cl) (hd : (mm_ushr (c_D S i 3) cl &&& 1) = 1) : mm_C G M_Cb_core [.ref (K 0), .int (nI i), .int cl, .int one] (CP K S h) 0 0 (mm_E none (CP K (s_D S i (upd (c_D S i) 6 (if one = 0 then c_D S i 6 &&& (1 <<< (cl &&& 31) ^^^ -1) else c_D S i 6 ||| 1 <<< (cl &&& 31)))) h)) := by
  refine mm_C_of (by decide +kernel) rfl (Nat.le_of_ble_eq_true rfl) rfl ?_
  refine mm_blk (pc' := 3) ok_Cb_core 3 _ _ _ rfl ?_
  refine mm_cVE ok_Cb_core (As := [.int (nI i), .int cl]) rfl k_Cb_core_52 (cp_0 w) rfl rfl rfl (Nat.le_of_ble_eq_true rfl) (c_Cb_isCell1 w hx) ?_
  refine mm_if_eq ok_Cb_core 27 rfl (by decide) (fun c => ?_) (fun c => ?_)
  · exact absurd c (by decide)
  refine mm_blk (pc' := 10) ok_Cb_core 1 _ _ _ rfl ?_
  refine mm_getf ok_Cb_core (cp_0 w) rfl f_Cb_12 rfl ?_
  refine mm_blk (pc' := 14) ok_Cb_core 1 _ _ _ rfl ?_
  refine mm_cVE ok_Cb_core (As := [.int (nI i)]) rfl k_Cb_core_56 (cp_1 w) rfl rfl rfl (Nat.le_of_ble_eq_true rfl) (c_getD w hi) ?_
  refine mm_cast ok_Cb_core (cp_dev w hi) cc_Cb_40 rfl ?_
  refine mm_blk (pc' := 21) ok_Cb_core 1 _ _ _ rfl ?_
  refine mm_cVE ok_Cb_core (As := [.int cl]) rfl k_Cb_core_60 (cp_dev w hi) rfl rfl rfl (Nat.le_of_ble_eq_true rfl) (c_Dv_drives (cp_dev w hi) cl) ?_
  refine mm_if_ne ok_Cb_core 35 rfl (by decide) (fun c => ?_) (fun c => ?_)
  rotate_left
  · rw [if_pos hd] at c; exact absurd c (by decide)
  refine mm_blk (pc' := 36) ok_Cb_core 1 _ _ _ rfl ?_
  refine mm_getf ok_Cb_core (cp_0 w) rfl f_Cb_12 rfl ?_
  refine mm_blk (pc' := 40) ok_Cb_core 1 _ _ _ rfl ?_
  refine mm_cVE ok_Cb_core (As := [.int (nI i)]) rfl k_Cb_core_56 (cp_1 w) rfl rfl rfl (Nat.le_of_ble_eq_true rfl) (c_getD w hi) ?_
  refine mm_cast ok_Cb_core (cp_dev w hi) cc_Cb_40 rfl ?_
  refine mm_blk (pc' := 48) ok_Cb_core 2 _ _ _ rfl ?_
  refine mm_cVE ok_Cb_core (As := [.int cl, .int one]) rfl k_Cb_core_90 (cp_dev w hi) rfl rfl rfl (Nat.le_of_ble_eq_true rfl) (c_Dv_setCore (cp_dev w hi) cl one) ?_
  exact mm_vret ok_Cb_core rfl rfl ⟨rfl, cu_dev w hi _⟩
set_option maxHeartbeats 1000000 in
theorem c_Cb_look_x (w : c_wf G K S) {x k : Int32} (hx : ¬ inR x (c_nd S)) : mm_C G M_Cb_look [.ref (K 0), .int x, .int k] (CP K S h) 1 6 (mm_X xIA (CP K S h)) := by
  refine mm_C_of (by decide +kernel) rfl (Nat.le_of_ble_eq_true rfl) rfl ?_
  refine mm_blk (pc' := 2) ok_Cb_look 2 _ _ _ rfl ?_
  refine mm_cVE ok_Cb_look (As := [.int x]) rfl k_Cb_look_102 (cp_0 w) rfl rfl rfl (Nat.le_of_ble_eq_true rfl) (c_Cb_isDevice0 w hx) ?_
  refine mm_if_ne ok_Cb_look 16 rfl (by decide) (fun c => ?_) (fun c => ?_)
  · exact absurd rfl c
  exact mm_V_wid (k1 := 1) (k2 := 6) (by omega) (by omega) (mm_throw (kc := 0) (ks := 0) ok_Cb_look rfl rfl rfl rfl x_Cb_30_32 rfl (by decide) (Nat.le_of_ble_eq_true rfl) ⟨rfl, rfl⟩)
set_option maxHeartbeats 1000000 in
theorem c_Cb_look_y (w : c_wf G K S) {i : Nat} (hi : i < c_nd S) {k : Int32} (hk : ¬ inR k 4) : mm_C G M_Cb_look [.ref (K 0), .int (nI i), .int k] (CP K S h) 1 6 (mm_X xIA (CP K S h)) := by
  have hk9 : k.toInt < 0 ∨ 3 < k.toInt := by
    unfold inR at hk
    rw [Int32.lt_iff_toInt_lt, Int32.le_iff_toInt_le, nI_toInt (by omega)] at hk
    have : (0 : Int32).toInt = 0 := rfl
    omega
  refine mm_C_of (by decide +kernel) rfl (Nat.le_of_ble_eq_true rfl) rfl ?_
  refine mm_blk (pc' := 2) ok_Cb_look 2 _ _ _ rfl ?_
  refine mm_cVE ok_Cb_look (As := [.int (nI i)]) rfl k_Cb_look_102 (cp_0 w) rfl rfl rfl (Nat.le_of_ble_eq_true rfl) (c_Cb_isDevice1 w hi) ?_
  refine mm_if_ne ok_Cb_look 16 rfl (by decide) (fun c => ?_) (fun c => ?_)
  rotate_left
  · exact absurd c (by decide)
  refine mm_blk (pc' := 17) ok_Cb_look 1 _ _ _ rfl ?_
  refine mm_getf ok_Cb_look (cp_0 w) rfl f_Cb_12 rfl ?_
  refine mm_blk (pc' := 21) ok_Cb_look 1 _ _ _ rfl ?_
  refine mm_cVE ok_Cb_look (As := [.int (nI i)]) rfl k_Cb_look_56 (cp_1 w) rfl rfl rfl (Nat.le_of_ble_eq_true rfl) (c_getD w hi) ?_
  refine mm_cast ok_Cb_look (cp_dev w hi) cc_Cb_40 rfl ?_
  refine mm_blk (pc' := 29) ok_Cb_look 2 _ _ _ rfl ?_
  refine mm_tabOut ok_Cb_look 81 rfl hk9 (by decide) ?_
  exact mm_V_wid (k1 := 1) (k2 := 6) (by omega) (by omega) (mm_throw (kc := 0) (ks := 0) ok_Cb_look rfl rfl rfl rfl x_Cb_30_32 rfl (by decide) (Nat.le_of_ble_eq_true rfl) ⟨rfl, rfl⟩)
set_option maxHeartbeats 1000000 in
theorem c_Cb_look_0 (w : c_wf G K S) {i : Nat} (hi : i < c_nd S) : mm_C G M_Cb_look [.ref (K 0), .int (nI i), .int (nI 0)] (CP K S h) 0 0 (mm_E (some (.int (c_D S i 7))) (CP K S h)) := by
  refine mm_C_of (by decide +kernel) rfl (Nat.le_of_ble_eq_true rfl) rfl ?_
  refine mm_blk (pc' := 2) ok_Cb_look 2 _ _ _ rfl ?_
  refine mm_cVE ok_Cb_look (As := [.int (nI i)]) rfl k_Cb_look_102 (cp_0 w) rfl rfl rfl (Nat.le_of_ble_eq_true rfl) (c_Cb_isDevice1 w hi) ?_
  refine mm_if_ne ok_Cb_look 16 rfl (by decide) (fun c => ?_) (fun c => ?_)
  rotate_left
  · exact absurd c (by decide)
  refine mm_blk (pc' := 17) ok_Cb_look 1 _ _ _ rfl ?_
  refine mm_getf ok_Cb_look (cp_0 w) rfl f_Cb_12 rfl ?_
  refine mm_blk (pc' := 21) ok_Cb_look 1 _ _ _ rfl ?_
  refine mm_cVE ok_Cb_look (As := [.int (nI i)]) rfl k_Cb_look_56 (cp_1 w) rfl rfl rfl (Nat.le_of_ble_eq_true rfl) (c_getD w hi) ?_
  refine mm_cast ok_Cb_look (cp_dev w hi) cc_Cb_40 rfl ?_
  refine mm_blk (pc' := 29) ok_Cb_look 2 _ _ _ rfl ?_
  refine mm_tabIn (off := 31) ok_Cb_look 60 rfl (by decide) (by decide) rfl (by decide) ?_
  refine mm_blk (pc' := 61) ok_Cb_look 1 _ _ _ rfl ?_
  refine mm_getf ok_Cb_look (cp_dev w hi) rfl f_Cb_105 rfl ?_
  exact mm_iret ok_Cb_look rfl rfl ⟨rfl, rfl⟩
set_option maxHeartbeats 1000000 in
theorem c_Cb_look_1 (w : c_wf G K S) {i : Nat} (hi : i < c_nd S) : mm_C G M_Cb_look [.ref (K 0), .int (nI i), .int (nI 1)] (CP K S h) 0 0 (mm_E (some (.int (c_D S i 8))) (CP K S h)) := by
  refine mm_C_of (by decide +kernel) rfl (Nat.le_of_ble_eq_true rfl) rfl ?_
  refine mm_blk (pc' := 2) ok_Cb_look 2 _ _ _ rfl ?_
  refine mm_cVE ok_Cb_look (As := [.int (nI i)]) rfl k_Cb_look_102 (cp_0 w) rfl rfl rfl (Nat.le_of_ble_eq_true rfl) (c_Cb_isDevice1 w hi) ?_
  refine mm_if_ne ok_Cb_look 16 rfl (by decide) (fun c => ?_) (fun c => ?_)
  rotate_left
  · exact absurd c (by decide)
  refine mm_blk (pc' := 17) ok_Cb_look 1 _ _ _ rfl ?_
  refine mm_getf ok_Cb_look (cp_0 w) rfl f_Cb_12 rfl ?_
  refine mm_blk (pc' := 21) ok_Cb_look 1 _ _ _ rfl ?_
  refine mm_cVE ok_Cb_look (As := [.int (nI i)]) rfl k_Cb_look_56 (cp_1 w) rfl rfl rfl (Nat.le_of_ble_eq_true rfl) (c_getD w hi) ?_
  refine mm_cast ok_Cb_look (cp_dev w hi) cc_Cb_40 rfl ?_
  refine mm_blk (pc' := 29) ok_Cb_look 2 _ _ _ rfl ?_
  refine mm_tabIn (off := 36) ok_Cb_look 65 rfl (by decide) (by decide) rfl (by decide) ?_
  refine mm_blk (pc' := 66) ok_Cb_look 1 _ _ _ rfl ?_
  refine mm_getf ok_Cb_look (cp_dev w hi) rfl f_Cb_108 rfl ?_
  exact mm_iret ok_Cb_look rfl rfl ⟨rfl, rfl⟩
set_option maxHeartbeats 1000000 in
theorem c_Cb_look_2 (w : c_wf G K S) {i : Nat} (hi : i < c_nd S) : mm_C G M_Cb_look [.ref (K 0), .int (nI i), .int (nI 2)] (CP K S h) 0 0 (mm_E (some (.int (c_D S i 5))) (CP K S h)) := by
  refine mm_C_of (by decide +kernel) rfl (Nat.le_of_ble_eq_true rfl) rfl ?_
  refine mm_blk (pc' := 2) ok_Cb_look 2 _ _ _ rfl ?_
  refine mm_cVE ok_Cb_look (As := [.int (nI i)]) rfl k_Cb_look_102 (cp_0 w) rfl rfl rfl (Nat.le_of_ble_eq_true rfl) (c_Cb_isDevice1 w hi) ?_
  refine mm_if_ne ok_Cb_look 16 rfl (by decide) (fun c => ?_) (fun c => ?_)
  rotate_left
  · exact absurd c (by decide)
  refine mm_blk (pc' := 17) ok_Cb_look 1 _ _ _ rfl ?_
  refine mm_getf ok_Cb_look (cp_0 w) rfl f_Cb_12 rfl ?_
  refine mm_blk (pc' := 21) ok_Cb_look 1 _ _ _ rfl ?_
  refine mm_cVE ok_Cb_look (As := [.int (nI i)]) rfl k_Cb_look_56 (cp_1 w) rfl rfl rfl (Nat.le_of_ble_eq_true rfl) (c_getD w hi) ?_
  refine mm_cast ok_Cb_look (cp_dev w hi) cc_Cb_40 rfl ?_
  refine mm_blk (pc' := 29) ok_Cb_look 2 _ _ _ rfl ?_
  refine mm_tabIn (off := 41) ok_Cb_look 70 rfl (by decide) (by decide) rfl (by decide) ?_
  refine mm_blk (pc' := 71) ok_Cb_look 1 _ _ _ rfl ?_
  refine mm_getf ok_Cb_look (cp_dev w hi) rfl f_Cb_111 rfl ?_
  exact mm_iret ok_Cb_look rfl rfl ⟨rfl, rfl⟩
set_option maxHeartbeats 1000000 in
theorem c_Cb_look_3 (w : c_wf G K S) {i : Nat} (hi : i < c_nd S) : mm_C G M_Cb_look [.ref (K 0), .int (nI i), .int (nI 3)] (CP K S h) 0 0 (mm_E (some (.int (c_sig S i))) (CP K S h)) := by
  refine mm_C_of (by decide +kernel) rfl (Nat.le_of_ble_eq_true rfl) rfl ?_
  refine mm_blk (pc' := 2) ok_Cb_look 2 _ _ _ rfl ?_
  refine mm_cVE ok_Cb_look (As := [.int (nI i)]) rfl k_Cb_look_102 (cp_0 w) rfl rfl rfl (Nat.le_of_ble_eq_true rfl) (c_Cb_isDevice1 w hi) ?_
  refine mm_if_ne ok_Cb_look 16 rfl (by decide) (fun c => ?_) (fun c => ?_)
  rotate_left
  · exact absurd c (by decide)
  refine mm_blk (pc' := 17) ok_Cb_look 1 _ _ _ rfl ?_
  refine mm_getf ok_Cb_look (cp_0 w) rfl f_Cb_12 rfl ?_
  refine mm_blk (pc' := 21) ok_Cb_look 1 _ _ _ rfl ?_
  refine mm_cVE ok_Cb_look (As := [.int (nI i)]) rfl k_Cb_look_56 (cp_1 w) rfl rfl rfl (Nat.le_of_ble_eq_true rfl) (c_getD w hi) ?_
  refine mm_cast ok_Cb_look (cp_dev w hi) cc_Cb_40 rfl ?_
  refine mm_blk (pc' := 29) ok_Cb_look 2 _ _ _ rfl ?_
  refine mm_tabIn (off := 46) ok_Cb_look 75 rfl (by decide) (by decide) rfl (by decide) ?_
  refine mm_blk (pc' := 77) ok_Cb_look 2 _ _ _ rfl ?_
  refine mm_cVE ok_Cb_look (As := [.ref (K (10 + i))]) rfl k_Cb_look_114 (cp_0 w) rfl rfl rfl (Nat.le_of_ble_eq_true rfl) (c_Cb_signalsOf w hi) ?_
  exact mm_iret ok_Cb_look rfl rfl ⟨rfl, rfl⟩
set_option maxHeartbeats 1000000 in
theorem c_Cb_fault_x (w : c_wf G K S) {x k y : Int32} (hx : ¬ inR x (c_nn S)) : mm_C G M_Cb_fault [.ref (K 0), .int x, .int k, .int y] (CP K S h) 1 6 (mm_X xIA (CP K S h)) := by
  refine mm_C_of (by decide +kernel) rfl (Nat.le_of_ble_eq_true rfl) rfl ?_
  refine mm_blk (pc' := 2) ok_Cb_fault 2 _ _ _ rfl ?_
  refine mm_cVE ok_Cb_fault (As := [.int x]) rfl k_Cb_fault_80 (cp_0 w) rfl rfl rfl (Nat.le_of_ble_eq_true rfl) (c_Cb_isNet0 w hx) ?_
  refine mm_if_eq ok_Cb_fault 18 rfl (by decide) (fun c => ?_) (fun c => ?_)
  rotate_left
  · exact absurd rfl c
  exact mm_V_wid (k1 := 1) (k2 := 6) (by omega) (by omega) (mm_throw (kc := 0) (ks := 0) ok_Cb_fault rfl rfl rfl rfl x_Cb_30_32 rfl (by decide) (Nat.le_of_ble_eq_true rfl) ⟨rfl, rfl⟩)
set_option maxHeartbeats 1000000 in
theorem c_Cb_fault_k (w : c_wf G K S) {j : Nat} (hj : j < c_nn S) {k y : Int32} (hk : k < -1 ∨ ¬ k ≤ 3) : mm_C G M_Cb_fault [.ref (K 0), .int (nI j), .int k, .int y] (CP K S h) 1 6 (mm_X xIA (CP K S h)) := by
  refine mm_C_of (by decide +kernel) rfl (Nat.le_of_ble_eq_true rfl) rfl ?_
  refine mm_blk (pc' := 2) ok_Cb_fault 2 _ _ _ rfl ?_
  refine mm_cVE ok_Cb_fault (As := [.int (nI j)]) rfl k_Cb_fault_80 (cp_0 w) rfl rfl rfl (Nat.le_of_ble_eq_true rfl) (c_Cb_isNet1 w hj) ?_
  refine mm_if_eq ok_Cb_fault 18 rfl (by decide) (fun c => ?_) (fun c => ?_)
  · exact absurd c (by decide)
  refine mm_blk (pc' := 10) ok_Cb_fault 2 _ _ _ rfl ?_
  refine mm_ic_lt ok_Cb_fault 18 rfl (by decide) (fun c10 => ?_) (fun c10 => ?_)
  · -- 18 t
    exact mm_V_wid (k1 := 1) (k2 := 6) (by omega) (by omega) (mm_throw (kc := 0) (ks := 0) ok_Cb_fault rfl rfl rfl rfl x_Cb_30_32 rfl (by decide) (Nat.le_of_ble_eq_true rfl) ⟨rfl, rfl⟩)
  · -- 13 f
    refine mm_blk (pc' := 15) ok_Cb_fault 2 _ _ _ rfl ?_
    refine mm_ic_le ok_Cb_fault 26 rfl (by decide) (fun c => ?_) (fun c => ?_)
    · exact absurd c (hk.resolve_left c10)
    exact mm_V_wid (k1 := 1) (k2 := 6) (by omega) (by omega) (mm_throw (kc := 0) (ks := 0) ok_Cb_fault rfl rfl rfl rfl x_Cb_30_32 rfl (by decide) (Nat.le_of_ble_eq_true rfl) ⟨rfl, rfl⟩)
set_option maxHeartbeats 1000000 in
theorem c_Cb_fault_1 (w : c_wf G K S) {j : Nat} (hj : j < c_nn S) {k y : Int32} (hk : ¬ k < -1) (hk3 : k ≤ 3) (h2 : ¬ k = 2) (h3 : ¬ k = 3) : mm_C G M_Cb_fault [.ref (K 0), .int (nI j), .int k, .int y] (CP K S h) 0 0 (mm_E none (CP K (c_alone S j k) h)) := by
  refine mm_C_of (by decide +kernel) rfl (Nat.le_of_ble_eq_true rfl) rfl ?_
  refine mm_blk (pc' := 2) ok_Cb_fault 2 _ _ _ rfl ?_
  refine mm_cVE ok_Cb_fault (As := [.int (nI j)]) rfl k_Cb_fault_80 (cp_0 w) rfl rfl rfl (Nat.le_of_ble_eq_true rfl) (c_Cb_isNet1 w hj) ?_
  refine mm_if_eq ok_Cb_fault 18 rfl (by decide) (fun c => ?_) (fun c => ?_)
  · exact absurd c (by decide)
  refine mm_blk (pc' := 10) ok_Cb_fault 2 _ _ _ rfl ?_
  refine mm_ic_lt ok_Cb_fault 18 rfl (by decide) (fun c => ?_) (fun c => ?_)
  · exact absurd c hk
  refine mm_blk (pc' := 15) ok_Cb_fault 2 _ _ _ rfl ?_
  refine mm_ic_le ok_Cb_fault 26 rfl (by decide) (fun c => ?_) (fun c => ?_)
  rotate_left
  · exact absurd hk3 c
  refine mm_blk (pc' := 28) ok_Cb_fault 2 _ _ _ rfl ?_
  refine mm_ic_eq ok_Cb_fault 52 rfl (by decide) (fun c => ?_) (fun c => ?_)
  · exact absurd c h2
  refine mm_blk (pc' := 33) ok_Cb_fault 2 _ _ _ rfl ?_
  refine mm_ic_eq ok_Cb_fault 52 rfl (by decide) (fun c => ?_) (fun c => ?_)
  · exact absurd c h3
  refine mm_blk (pc' := 37) ok_Cb_fault 1 _ _ _ rfl ?_
  refine mm_getf ok_Cb_fault (cp_0 w) rfl f_Cb_16 rfl ?_
  refine mm_blk (pc' := 41) ok_Cb_fault 1 _ _ _ rfl ?_
  refine mm_cVE ok_Cb_fault (As := [.int (nI j)]) rfl k_Cb_fault_56 (cp_3 w) rfl rfl rfl (Nat.le_of_ble_eq_true rfl) (c_getN w hj) ?_
  refine mm_cast ok_Cb_fault (cp_net w hj) cc_Cb_71 rfl ?_
  refine mm_blk (pc' := 48) ok_Cb_fault 1 _ _ _ rfl ?_
  refine mm_cVE ok_Cb_fault (As := [.int k]) rfl k_Cb_fault_83 (cp_net w hj) rfl rfl rfl (Nat.le_of_ble_eq_true rfl) (c_Nt_breakAlone w hj k) ?_
  exact mm_vret ok_Cb_fault rfl rfl ⟨rfl, rfl⟩
set_option maxHeartbeats 1000000 in
theorem c_Cb_fault_y (w : c_wf G K S) {j : Nat} (hj : j < c_nn S) {k : Int32} (hk : ¬ k < -1) (hk3 : k ≤ 3) (h23 : k = 2 ∨ k = 3) {y : Int32} (hy : ¬ inR y (c_nn S)) : mm_C G M_Cb_fault [.ref (K 0), .int (nI j), .int k, .int y] (CP K S h) 1 6 (mm_X xIA (CP K S h)) := by
  refine mm_C_of (by decide +kernel) rfl (Nat.le_of_ble_eq_true rfl) rfl ?_
  refine mm_blk (pc' := 2) ok_Cb_fault 2 _ _ _ rfl ?_
  refine mm_cVE ok_Cb_fault (As := [.int (nI j)]) rfl k_Cb_fault_80 (cp_0 w) rfl rfl rfl (Nat.le_of_ble_eq_true rfl) (c_Cb_isNet1 w hj) ?_
  refine mm_if_eq ok_Cb_fault 18 rfl (by decide) (fun c => ?_) (fun c => ?_)
  · exact absurd c (by decide)
  refine mm_blk (pc' := 10) ok_Cb_fault 2 _ _ _ rfl ?_
  refine mm_ic_lt ok_Cb_fault 18 rfl (by decide) (fun c => ?_) (fun c => ?_)
  · exact absurd c hk
  refine mm_blk (pc' := 15) ok_Cb_fault 2 _ _ _ rfl ?_
  refine mm_ic_le ok_Cb_fault 26 rfl (by decide) (fun c => ?_) (fun c => ?_)
  rotate_left
  · exact absurd hk3 c
  refine mm_blk (pc' := 28) ok_Cb_fault 2 _ _ _ rfl ?_
  refine mm_ic_eq ok_Cb_fault 52 rfl (by decide) (fun c28 => ?_) (fun c28 => ?_)
  · -- 52 t
    refine mm_blk (pc' := 54) ok_Cb_fault 2 _ _ _ rfl ?_
    refine mm_cVE ok_Cb_fault (As := [.int y]) rfl k_Cb_fault_80 (cp_0 w) rfl rfl rfl (Nat.le_of_ble_eq_true rfl) (c_Cb_isNet0 w hy) ?_
    refine mm_if_eq ok_Cb_fault 65 rfl (by decide) (fun c => ?_) (fun c => ?_)
    rotate_left
    · exact absurd rfl c
    exact mm_V_wid (k1 := 1) (k2 := 6) (by omega) (by omega) (mm_throw (kc := 0) (ks := 0) ok_Cb_fault rfl rfl rfl rfl x_Cb_30_32 rfl (by decide) (Nat.le_of_ble_eq_true rfl) ⟨rfl, rfl⟩)
  · -- 31 f
    refine mm_blk (pc' := 33) ok_Cb_fault 2 _ _ _ rfl ?_
    refine mm_ic_eq ok_Cb_fault 52 rfl (by decide) (fun c => ?_) (fun c => ?_)
    rotate_left
    · exact absurd (h23.resolve_left c28) c
    refine mm_blk (pc' := 54) ok_Cb_fault 2 _ _ _ rfl ?_
    refine mm_cVE ok_Cb_fault (As := [.int y]) rfl k_Cb_fault_80 (cp_0 w) rfl rfl rfl (Nat.le_of_ble_eq_true rfl) (c_Cb_isNet0 w hy) ?_
    refine mm_if_eq ok_Cb_fault 65 rfl (by decide) (fun c => ?_) (fun c => ?_)
    rotate_left
    · exact absurd rfl c
    exact mm_V_wid (k1 := 1) (k2 := 6) (by omega) (by omega) (mm_throw (kc := 0) (ks := 0) ok_Cb_fault rfl rfl rfl rfl x_Cb_30_32 rfl (by decide) (Nat.le_of_ble_eq_true rfl) ⟨rfl, rfl⟩)
set_option maxHeartbeats 1000000 in
theorem c_Cb_fault_z (w : c_wf G K S) {j : Nat} (hj : j < c_nn S) {k : Int32} (hk : ¬ k < -1) (hk3 : k ≤ 3) (h23 : k = 2 ∨ k = 3) {y : Int32} (hy : y = nI j) : mm_C G M_Cb_fault [.ref (K 0), .int (nI j), .int k, .int y] (CP K S h) 1 6 (mm_X xIA (CP K S h)) := by
  refine mm_C_of (by decide +kernel) rfl (Nat.le_of_ble_eq_true rfl) rfl ?_
  refine mm_blk (pc' := 2) ok_Cb_fault 2 _ _ _ rfl ?_
  refine mm_cVE ok_Cb_fault (As := [.int (nI j)]) rfl k_Cb_fault_80 (cp_0 w) rfl rfl rfl (Nat.le_of_ble_eq_true rfl) (c_Cb_isNet1 w hj) ?_
  refine mm_if_eq ok_Cb_fault 18 rfl (by decide) (fun c => ?_) (fun c => ?_)
  · exact absurd c (by decide)
  refine mm_blk (pc' := 10) ok_Cb_fault 2 _ _ _ rfl ?_
  refine mm_ic_lt ok_Cb_fault 18 rfl (by decide) (fun c => ?_) (fun c => ?_)
  · exact absurd c hk
  refine mm_blk (pc' := 15) ok_Cb_fault 2 _ _ _ rfl ?_
  refine mm_ic_le ok_Cb_fault 26 rfl (by decide) (fun c => ?_) (fun c => ?_)
  rotate_left
  · exact absurd hk3 c
  refine mm_blk (pc' := 28) ok_Cb_fault 2 _ _ _ rfl ?_
  refine mm_ic_eq ok_Cb_fault 52 rfl (by decide) (fun c28 => ?_) (fun c28 => ?_)
  · -- 52 t
    refine mm_blk (pc' := 54) ok_Cb_fault 2 _ _ _ rfl ?_
    subst hy
    refine mm_cVE ok_Cb_fault (As := [.int (nI j)]) rfl k_Cb_fault_80 (cp_0 w) rfl rfl rfl (Nat.le_of_ble_eq_true rfl) (c_Cb_isNet1 w hj) ?_
    refine mm_if_eq ok_Cb_fault 65 rfl (by decide) (fun c => ?_) (fun c => ?_)
    · exact absurd c (by decide)
    refine mm_blk (pc' := 62) ok_Cb_fault 2 _ _ _ rfl ?_
    refine mm_ic_ne ok_Cb_fault 73 rfl (by decide) (fun c => ?_) (fun c => ?_)
    · exact absurd rfl c
    exact mm_V_wid (k1 := 1) (k2 := 6) (by omega) (by omega) (mm_throw (kc := 0) (ks := 0) ok_Cb_fault rfl rfl rfl rfl x_Cb_30_32 rfl (by decide) (Nat.le_of_ble_eq_true rfl) ⟨rfl, rfl⟩)
  · -- 31 f
    refine mm_blk (pc' := 33) ok_Cb_fault 2 _ _ _ rfl ?_
    refine mm_ic_eq ok_Cb_fault 52 rfl (by decide) (fun c => ?_) (fun c => ?_)
    rotate_left
    · exact absurd (h23.resolve_left c28) c
    refine mm_blk (pc' := 54) ok_Cb_fault 2 _ _ _ rfl ?_
    subst hy
    refine mm_cVE ok_Cb_fault (As := [.int (nI j)]) rfl k_Cb_fault_80 (cp_0 w) rfl rfl rfl (Nat.le_of_ble_eq_true rfl) (c_Cb_isNet1 w hj) ?_
    refine mm_if_eq ok_Cb_fault 65 rfl (by decide) (fun c => ?_) (fun c => ?_)
    · exact absurd c (by decide)
    refine mm_blk (pc' := 62) ok_Cb_fault 2 _ _ _ rfl ?_
    refine mm_ic_ne ok_Cb_fault 73 rfl (by decide) (fun c => ?_) (fun c => ?_)
    · exact absurd rfl c
    exact mm_V_wid (k1 := 1) (k2 := 6) (by omega) (by omega) (mm_throw (kc := 0) (ks := 0) ok_Cb_fault rfl rfl rfl rfl x_Cb_30_32 rfl (by decide) (Nat.le_of_ble_eq_true rfl) ⟨rfl, rfl⟩)
set_option maxHeartbeats 1000000 in
theorem c_Cb_fault_2 (w : c_wf G K S) {j : Nat} (hj : j < c_nn S) {k : Int32} (hk : ¬ k < -1) (hk3 : k ≤ 3) (h23 : k = 2 ∨ k = 3) {i : Nat} (hi : i < c_nn S) (hij : i ≠ j) : mm_C G M_Cb_fault [.ref (K 0), .int (nI j), .int k, .int (nI i)] (CP K S h) 0 0 (mm_E none (CP K (c_with S j i k) h)) := by
  refine mm_C_of (by decide +kernel) rfl (Nat.le_of_ble_eq_true rfl) rfl ?_
  refine mm_blk (pc' := 2) ok_Cb_fault 2 _ _ _ rfl ?_
  refine mm_cVE ok_Cb_fault (As := [.int (nI j)]) rfl k_Cb_fault_80 (cp_0 w) rfl rfl rfl (Nat.le_of_ble_eq_true rfl) (c_Cb_isNet1 w hj) ?_
  refine mm_if_eq ok_Cb_fault 18 rfl (by decide) (fun c => ?_) (fun c => ?_)
  · exact absurd c (by decide)
  refine mm_blk (pc' := 10) ok_Cb_fault 2 _ _ _ rfl ?_
  refine mm_ic_lt ok_Cb_fault 18 rfl (by decide) (fun c => ?_) (fun c => ?_)
  · exact absurd c hk
  refine mm_blk (pc' := 15) ok_Cb_fault 2 _ _ _ rfl ?_
  refine mm_ic_le ok_Cb_fault 26 rfl (by decide) (fun c => ?_) (fun c => ?_)
  rotate_left
  · exact absurd hk3 c
  refine mm_blk (pc' := 28) ok_Cb_fault 2 _ _ _ rfl ?_
  refine mm_ic_eq ok_Cb_fault 52 rfl (by decide) (fun c28 => ?_) (fun c28 => ?_)
  · -- 52 t
    refine mm_blk (pc' := 54) ok_Cb_fault 2 _ _ _ rfl ?_
    refine mm_cVE ok_Cb_fault (As := [.int (nI i)]) rfl k_Cb_fault_80 (cp_0 w) rfl rfl rfl (Nat.le_of_ble_eq_true rfl) (c_Cb_isNet1 w hi) ?_
    refine mm_if_eq ok_Cb_fault 65 rfl (by decide) (fun c => ?_) (fun c => ?_)
    · exact absurd c (by decide)
    refine mm_blk (pc' := 62) ok_Cb_fault 2 _ _ _ rfl ?_
    refine mm_ic_ne ok_Cb_fault 73 rfl (by decide) (fun c => ?_) (fun c => ?_)
    rotate_left
    · exact absurd c (fun z => hij ((nI_eq (by have := w.2.1; omega) (by have := w.2.1; omega)).mp z))
    refine mm_blk (pc' := 74) ok_Cb_fault 1 _ _ _ rfl ?_
    refine mm_getf ok_Cb_fault (cp_0 w) rfl f_Cb_16 rfl ?_
    refine mm_blk (pc' := 78) ok_Cb_fault 1 _ _ _ rfl ?_
    refine mm_cVE ok_Cb_fault (As := [.int (nI j)]) rfl k_Cb_fault_56 (cp_3 w) rfl rfl rfl (Nat.le_of_ble_eq_true rfl) (c_getN w hj) ?_
    refine mm_cast ok_Cb_fault (cp_net w hj) cc_Cb_71 rfl ?_
    refine mm_blk (pc' := 85) ok_Cb_fault 1 _ _ _ rfl ?_
    refine mm_getf ok_Cb_fault (cp_0 w) rfl f_Cb_16 rfl ?_
    refine mm_blk (pc' := 89) ok_Cb_fault 1 _ _ _ rfl ?_
    refine mm_cVE ok_Cb_fault (As := [.int (nI i)]) rfl k_Cb_fault_56 (cp_3 w) rfl rfl rfl (Nat.le_of_ble_eq_true rfl) (c_getN w hi) ?_
    refine mm_cast ok_Cb_fault (cp_net w hi) cc_Cb_71 rfl ?_
    refine mm_blk (pc' := 96) ok_Cb_fault 1 _ _ _ rfl ?_
    refine mm_cVE ok_Cb_fault (As := [.ref (K (20 + i)), .int k]) rfl k_Cb_fault_86 (cp_net w hj) rfl rfl rfl (Nat.le_of_ble_eq_true rfl) (c_Nt_breakWith w hj hi hij k) ?_
    exact mm_vret ok_Cb_fault rfl rfl ⟨rfl, rfl⟩
  · -- 31 f
    refine mm_blk (pc' := 33) ok_Cb_fault 2 _ _ _ rfl ?_
    refine mm_ic_eq ok_Cb_fault 52 rfl (by decide) (fun c => ?_) (fun c => ?_)
    rotate_left
    · exact absurd (h23.resolve_left c28) c
    refine mm_blk (pc' := 54) ok_Cb_fault 2 _ _ _ rfl ?_
    refine mm_cVE ok_Cb_fault (As := [.int (nI i)]) rfl k_Cb_fault_80 (cp_0 w) rfl rfl rfl (Nat.le_of_ble_eq_true rfl) (c_Cb_isNet1 w hi) ?_
    refine mm_if_eq ok_Cb_fault 65 rfl (by decide) (fun c => ?_) (fun c => ?_)
    · exact absurd c (by decide)
    refine mm_blk (pc' := 62) ok_Cb_fault 2 _ _ _ rfl ?_
    refine mm_ic_ne ok_Cb_fault 73 rfl (by decide) (fun c => ?_) (fun c => ?_)
    rotate_left
    · exact absurd c (fun z => hij ((nI_eq (by have := w.2.1; omega) (by have := w.2.1; omega)).mp z))
    refine mm_blk (pc' := 74) ok_Cb_fault 1 _ _ _ rfl ?_
    refine mm_getf ok_Cb_fault (cp_0 w) rfl f_Cb_16 rfl ?_
    refine mm_blk (pc' := 78) ok_Cb_fault 1 _ _ _ rfl ?_
    refine mm_cVE ok_Cb_fault (As := [.int (nI j)]) rfl k_Cb_fault_56 (cp_3 w) rfl rfl rfl (Nat.le_of_ble_eq_true rfl) (c_getN w hj) ?_
    refine mm_cast ok_Cb_fault (cp_net w hj) cc_Cb_71 rfl ?_
    refine mm_blk (pc' := 85) ok_Cb_fault 1 _ _ _ rfl ?_
    refine mm_getf ok_Cb_fault (cp_0 w) rfl f_Cb_16 rfl ?_
    refine mm_blk (pc' := 89) ok_Cb_fault 1 _ _ _ rfl ?_
    refine mm_cVE ok_Cb_fault (As := [.int (nI i)]) rfl k_Cb_fault_56 (cp_3 w) rfl rfl rfl (Nat.le_of_ble_eq_true rfl) (c_getN w hi) ?_
    refine mm_cast ok_Cb_fault (cp_net w hi) cc_Cb_71 rfl ?_
    refine mm_blk (pc' := 96) ok_Cb_fault 1 _ _ _ rfl ?_
    refine mm_cVE ok_Cb_fault (As := [.ref (K (20 + i)), .int k]) rfl k_Cb_fault_86 (cp_net w hj) rfl rfl rfl (Nat.le_of_ble_eq_true rfl) (c_Nt_breakWith w hj hi hij k) ?_
    exact mm_vret ok_Cb_fault rfl rfl ⟨rfl, rfl⟩
end CB5
