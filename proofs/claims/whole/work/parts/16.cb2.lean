/-! the class: more loops -/
section CB2
variable {G : mm_G} {K : Nat → Nat} {S : cS} {h : mm_Hp}

set_option maxHeartbeats 1000000 in
theorem l_Cb_placeInScan (w : c_wf G K S) {ow : Nat} (how : ow < c_nd S) (cell : Int32) : ∀ (i : Nat) (x : Int32), i ≤ c_nd S → mm_V G M_Cb_placeInScan 13 [(0, .ref (K 0)), (1, .ref (K (10 + ow))), (2, .int cell), (3, .int x), (4, .int (nI i - 1))] [] (CP K S h) 0 0 (mm_E (some (.int (c_place S ow i x))) (CP K S h)) := by
  intro i
  induction i with
  | zero =>
    intro x hi
    refine mm_blk (pc' := 15) ok_Cb_placeInScan 1 _ _ _ rfl ?_
    refine mm_if_lt ok_Cb_placeInScan 55 rfl (by decide) (fun c => ?_) (fun c => ?_)
    rotate_left
    · exact absurd (by decide) c
    refine mm_blk (pc' := 56) ok_Cb_placeInScan 1 _ _ _ rfl ?_
    exact mm_iret ok_Cb_placeInScan rfl rfl ⟨rfl, rfl⟩
  | succ i ih =>
    intro x hi
    have hlt : i < c_nd S := by omega
    rw [nI_pred]
    refine mm_blk (pc' := 15) ok_Cb_placeInScan 1 _ _ _ rfl ?_
    refine mm_if_lt ok_Cb_placeInScan 55 rfl (by decide) (fun c => ?_) (fun c => ?_)
    · exact absurd c (nI_pos (by have := w.1; omega))
    refine mm_blk (pc' := 19) ok_Cb_placeInScan 1 _ _ _ rfl ?_
    refine mm_getf ok_Cb_placeInScan (cp_0 w) rfl f_Cb_12 rfl ?_
    refine mm_blk (pc' := 24) ok_Cb_placeInScan 1 _ _ _ rfl ?_
    refine mm_cVE ok_Cb_placeInScan (As := [.int (nI i)]) rfl k_Cb_placeInScan_56 (cp_1 w) rfl rfl rfl (Nat.le_of_ble_eq_true rfl) (c_getD w hlt) ?_
    refine mm_blk (pc' := 28) ok_Cb_placeInScan 1 _ _ _ rfl ?_
    refine mm_acmp_eq ok_Cb_placeInScan 55 rfl (by decide) (fun c => ?_) (fun c => ?_)
    · refine mm_blk (pc' := 56) ok_Cb_placeInScan 1 _ _ _ rfl ?_
      have e : i = ow := (k_dev_eq w hlt how).mp c
      exact mm_iret ok_Cb_placeInScan rfl rfl ⟨by show _ = Sum.inl (some (Value.int (if i = ow then x else _))); rw [if_pos e], rfl⟩
    have hio : ¬ i = ow := fun z => c ((k_dev_eq w hlt how).mpr z)
    refine mm_blk (pc' := 33) ok_Cb_placeInScan 2 _ _ _ rfl ?_
    refine mm_getf ok_Cb_placeInScan (cp_0 w) rfl f_Cb_12 rfl ?_
    refine mm_blk (pc' := 38) ok_Cb_placeInScan 1 _ _ _ rfl ?_
    refine mm_cVE ok_Cb_placeInScan (As := [.int (nI i)]) rfl k_Cb_placeInScan_56 (cp_1 w) rfl rfl rfl (Nat.le_of_ble_eq_true rfl) (c_getD w hlt) ?_
    refine mm_cast ok_Cb_placeInScan (cp_dev w hlt) cc_Cb_40 rfl ?_
    refine mm_getf ok_Cb_placeInScan (cp_dev w hlt) rfl f_Cb_163 rfl ?_
    refine mm_blk (pc' := 13) ok_Cb_placeInScan 4 _ _ _ rfl ?_
    have e9 : c_place S ow (i + 1) x = c_place S ow i (x + c_D S i 2) := if_neg hio
    rw [e9, show nI i + (-1) = nI i - 1 from (Int32.sub_eq_add_neg _ _).symm]
    exact ih _ (by omega)
set_option maxHeartbeats 1000000 in
theorem c_Cb_placeInScan (w : c_wf G K S) {ow : Nat} (how : ow < c_nd S) (cell : Int32) : mm_C G M_Cb_placeInScan [.ref (K 0), .ref (K (10 + ow)), .int cell] (CP K S h) 0 0 (mm_E (some (.int (c_place S ow (c_nd S) cell))) (CP K S h)) := by
  refine mm_C_of (by decide +kernel) rfl (Nat.le_of_ble_eq_true rfl) rfl ?_
  refine mm_blk (pc' := 3) ok_Cb_placeInScan 3 _ _ _ rfl ?_
  refine mm_getf ok_Cb_placeInScan (cp_0 w) rfl f_Cb_12 rfl ?_
  refine mm_cVE ok_Cb_placeInScan (As := []) rfl k_Cb_placeInScan_33 (cp_1 w) rfl rfl rfl (Nat.le_of_ble_eq_true rfl) (c_Al_size (cp_1 w)) ?_
  refine mm_blk (pc' := 13) ok_Cb_placeInScan 3 _ _ _ rfl ?_
  exact l_Cb_placeInScan w how cell (c_nd S) cell (Nat.le_refl _)
set_option maxHeartbeats 1000000 in
theorem l_Cb_patternOfRound (w : c_wf G K S) (r : Int32) : ∀ (n i : Nat) (x : Int32), i + n = c_nn S → mm_V G M_Cb_patternOfRound 4 [(0, .ref (K 0)), (1, .int r), (2, .int x), (3, .int (nI i))] [] (CP K S h) 0 0 (mm_E (some (.int (up (fun j a => a ||| ((mm_ushr (nI (j + 1)) r &&& 1) <<< (c_place S (c_R S j).1 (c_nd S) (c_N S j 1) &&& 31))) n i x))) (CP K S h)) := by
  intro n
  induction n with
  | zero =>
    intro i x hi
    refine mm_blk (pc' := 6) ok_Cb_patternOfRound 2 _ _ _ rfl ?_
    refine mm_getf ok_Cb_patternOfRound (cp_0 w) rfl f_Cb_16 rfl ?_
    refine mm_cVE ok_Cb_patternOfRound (As := []) rfl k_Cb_patternOfRound_33 (cp_3 w) rfl rfl rfl (Nat.le_of_ble_eq_true rfl) (c_Al_size (cp_3 w)) ?_
    refine mm_ic_ge ok_Cb_patternOfRound 59 rfl (by decide) (fun c => ?_) (fun c => ?_)
    rotate_left
    · exact absurd (nI_le (by omega) (by have := w.2.1; omega)) c
    refine mm_blk (pc' := 60) ok_Cb_patternOfRound 1 _ _ _ rfl ?_
    exact mm_iret ok_Cb_patternOfRound rfl rfl ⟨rfl, rfl⟩
  | succ n ih =>
    intro i x hi
    have hlt : i < c_nn S := by omega
    obtain ⟨q1, q2, -⟩ := w.2.2.2.2.2 i hlt
    refine mm_blk (pc' := 6) ok_Cb_patternOfRound 2 _ _ _ rfl ?_
    refine mm_getf ok_Cb_patternOfRound (cp_0 w) rfl f_Cb_16 rfl ?_
    refine mm_cVE ok_Cb_patternOfRound (As := []) rfl k_Cb_patternOfRound_33 (cp_3 w) rfl rfl rfl (Nat.le_of_ble_eq_true rfl) (c_Al_size (cp_3 w)) ?_
    refine mm_ic_ge ok_Cb_patternOfRound 59 rfl (by decide) (fun c => ?_) (fun c => ?_)
    · exact absurd c (nI_ge (by omega) (by have := w.2.1; omega))
    refine mm_blk (pc' := 16) ok_Cb_patternOfRound 1 _ _ _ rfl ?_
    refine mm_getf ok_Cb_patternOfRound (cp_0 w) rfl f_Cb_16 rfl ?_
    refine mm_blk (pc' := 20) ok_Cb_patternOfRound 1 _ _ _ rfl ?_
    refine mm_cVE ok_Cb_patternOfRound (As := [.int (nI i)]) rfl k_Cb_patternOfRound_56 (cp_3 w) rfl rfl rfl (Nat.le_of_ble_eq_true rfl) (c_getN w hlt) ?_
    refine mm_cast ok_Cb_patternOfRound (cp_net w hlt) cc_Cb_71 rfl ?_
    refine mm_blk (pc' := 39) ok_Cb_patternOfRound 11 _ _ _ rfl ?_
    refine mm_getf ok_Cb_patternOfRound (cp_net w hlt) rfl f_Cb_207 rfl ?_
    refine mm_blk (pc' := 44) ok_Cb_patternOfRound 1 _ _ _ rfl ?_
    refine mm_getf ok_Cb_patternOfRound (cp_net w hlt) rfl f_Cb_210 rfl ?_
    refine mm_cVE ok_Cb_patternOfRound (As := [.ref (K (10 + (c_R S i).1)), .int (c_N S i 1)]) rfl k_Cb_patternOfRound_213 (cp_0 w) rfl rfl rfl (Nat.le_of_ble_eq_true rfl) (c_Cb_placeInScan w q1 _) ?_
    refine mm_blk (pc' := 4) ok_Cb_patternOfRound 5 _ _ _ rfl ?_
    rw [nI_1]
    refine mm_V_pick [0, 1, 2, 3] rfl ?_
    exact ih (i + 1) _ (by omega)
set_option maxHeartbeats 1000000 in
theorem c_Cb_patternOfRound (w : c_wf G K S) (r : Int32) : mm_C G M_Cb_patternOfRound [.ref (K 0), .int r] (CP K S h) 0 0 (mm_E (some (.int (c_pat S r))) (CP K S h)) := by
  refine mm_C_of (by decide +kernel) rfl (Nat.le_of_ble_eq_true rfl) rfl ?_
  refine mm_blk (pc' := 4) ok_Cb_patternOfRound 4 _ _ _ rfl ?_
  exact l_Cb_patternOfRound w r (c_nn S) 0 0 (by omega)
set_option maxHeartbeats 1000000 in
theorem l_Cb_noteSeen (r came : Int32) : ∀ (n i : Nat) (S : cS), c_wf G K S → i + n = c_nn S → mm_V G M_Cb_noteSeen 2 [(0, .ref (K 0)), (1, .int r), (2, .int came), (3, .int (nI i))] [] (CP K S h) 0 0 (mm_E none (CP K (up (fun j S => s_N S j (upd (c_N S j) 6 (c_N S j 6 ||| ((mm_ushr came (c_place S (c_R S j).2.1 (c_nd S) (c_N S j 3)) &&& 1) <<< (r &&& 31))))) n i S) h)) := by
  intro n
  induction n with
  | zero =>
    intro i S w hi
    refine mm_blk (pc' := 4) ok_Cb_noteSeen 2 _ _ _ rfl ?_
    refine mm_getf ok_Cb_noteSeen (cp_0 w) rfl f_Cb_16 rfl ?_
    refine mm_cVE ok_Cb_noteSeen (As := []) rfl k_Cb_noteSeen_33 (cp_3 w) rfl rfl rfl (Nat.le_of_ble_eq_true rfl) (c_Al_size (cp_3 w)) ?_
    refine mm_ic_ge ok_Cb_noteSeen 62 rfl (by decide) (fun c => ?_) (fun c => ?_)
    rotate_left
    · exact absurd (nI_le (by omega) (by have := w.2.1; omega)) c
    exact mm_vret ok_Cb_noteSeen rfl rfl ⟨rfl, rfl⟩
  | succ n ih =>
    intro i S w hi
    have hlt : i < c_nn S := by omega
    obtain ⟨q1, q2, -⟩ := w.2.2.2.2.2 i hlt
    refine mm_blk (pc' := 4) ok_Cb_noteSeen 2 _ _ _ rfl ?_
    refine mm_getf ok_Cb_noteSeen (cp_0 w) rfl f_Cb_16 rfl ?_
    refine mm_cVE ok_Cb_noteSeen (As := []) rfl k_Cb_noteSeen_33 (cp_3 w) rfl rfl rfl (Nat.le_of_ble_eq_true rfl) (c_Al_size (cp_3 w)) ?_
    refine mm_ic_ge ok_Cb_noteSeen 62 rfl (by decide) (fun c => ?_) (fun c => ?_)
    · exact absurd c (nI_ge (by omega) (by have := w.2.1; omega))
    refine mm_blk (pc' := 14) ok_Cb_noteSeen 1 _ _ _ rfl ?_
    refine mm_getf ok_Cb_noteSeen (cp_0 w) rfl f_Cb_16 rfl ?_
    refine mm_blk (pc' := 18) ok_Cb_noteSeen 1 _ _ _ rfl ?_
    refine mm_cVE ok_Cb_noteSeen (As := [.int (nI i)]) rfl k_Cb_noteSeen_56 (cp_3 w) rfl rfl rfl (Nat.le_of_ble_eq_true rfl) (c_getN w hlt) ?_
    refine mm_cast ok_Cb_noteSeen (cp_net w hlt) cc_Cb_71 rfl ?_
    refine mm_blk (pc' := 29) ok_Cb_noteSeen 3 _ _ _ rfl ?_
    refine mm_getf ok_Cb_noteSeen (cp_net w hlt) rfl f_Cb_157 rfl ?_
    refine mm_blk (pc' := 36) ok_Cb_noteSeen 3 _ _ _ rfl ?_
    refine mm_getf ok_Cb_noteSeen (cp_net w hlt) rfl f_Cb_197 rfl ?_
    refine mm_blk (pc' := 41) ok_Cb_noteSeen 1 _ _ _ rfl ?_
    refine mm_getf ok_Cb_noteSeen (cp_net w hlt) rfl f_Cb_201 rfl ?_
    refine mm_cVE ok_Cb_noteSeen (As := [.ref (K (10 + (c_R S i).2.1)), .int (c_N S i 3)]) rfl k_Cb_noteSeen_213 (cp_0 w) rfl rfl rfl (Nat.le_of_ble_eq_true rfl) (c_Cb_placeInScan w q2 _) ?_
    refine mm_blk (pc' := 53) ok_Cb_noteSeen 6 _ _ _ rfl ?_
    refine mm_putf ok_Cb_noteSeen (cp_net w hlt) rfl f_Cb_157 (Or.inl rfl) (mm_fit_I _) ?_
    refine mm_blk (pc' := 2) ok_Cb_noteSeen 2 _ _ _ rfl ?_
    rw [nI_1]
    refine mm_V_pick [0, 1, 2, 3] rfl ?_
    refine mm_V_heap (cu_netN w hlt 6 _) ?_
    exact ih (i + 1) (s_N S i _) w (by show i + 1 + n = c_nn S; omega)
set_option maxHeartbeats 1000000 in
theorem c_Cb_noteSeen (w : c_wf G K S) (r came : Int32) : mm_C G M_Cb_noteSeen [.ref (K 0), .int r, .int came] (CP K S h) 0 0 (mm_E none (CP K (c_note S r came) h)) := by
  refine mm_C_of (by decide +kernel) rfl (Nat.le_of_ble_eq_true rfl) rfl ?_
  refine mm_blk (pc' := 2) ok_Cb_noteSeen 2 _ _ _ rfl ?_
  exact l_Cb_noteSeen r came (c_nn S) 0 S w (by omega)
set_option maxHeartbeats 1000000 in
theorem l_Cb_words (w : c_wf G K S) : ∀ (n i : Nat), i + n = 4 → mm_V G M_Cb_wordsBeforeAllOnes 2 [(0, .ref (K 0)), (1, .int (nI i))] [] (CP K S h) 0 0 (mm_E (some (.int (nI (c_words S n i)))) (CP K S h)) := by
  intro n
  induction n with
  | zero =>
    intro i hi
    refine mm_blk (pc' := 4) ok_Cb_wordsBeforeAllOnes 2 _ _ _ rfl ?_
    refine mm_ic_ge ok_Cb_wordsBeforeAllOnes 23 rfl (by decide) (fun c => ?_) (fun c => ?_)
    rotate_left
    · exact absurd (show nI 4 ≤ nI i from nI_le (by omega) (by omega)) c
    refine mm_blk (pc' := 24) ok_Cb_wordsBeforeAllOnes 1 _ _ _ rfl ?_
    exact mm_iret ok_Cb_wordsBeforeAllOnes rfl rfl ⟨rfl, rfl⟩
  | succ n ih =>
    intro i hi
    refine mm_blk (pc' := 4) ok_Cb_wordsBeforeAllOnes 2 _ _ _ rfl ?_
    refine mm_ic_ge ok_Cb_wordsBeforeAllOnes 23 rfl (by decide) (fun c => ?_) (fun c => ?_)
    · exact absurd c (show ¬ nI 4 ≤ nI i from nI_ge (by omega) (by omega))
    refine mm_blk (pc' := 8) ok_Cb_wordsBeforeAllOnes 1 _ _ _ rfl ?_
    refine mm_getf ok_Cb_wordsBeforeAllOnes (cp_0 w) rfl f_Cb_23 rfl ?_
    refine mm_blk (pc' := 12) ok_Cb_wordsBeforeAllOnes 1 _ _ _ rfl ?_
    refine mm_iald ok_Cb_wordsBeforeAllOnes (cp_5 w) rfl rfl (by omega) (oIs_get (by omega) _) ?_
    refine mm_blk (pc' := 14) ok_Cb_wordsBeforeAllOnes 1 _ _ _ rfl ?_
    refine mm_ic_eq ok_Cb_wordsBeforeAllOnes 23 rfl (by decide) (fun c14 => ?_) (fun c14 => ?_)
    · -- 23 t
      refine mm_blk (pc' := 24) ok_Cb_wordsBeforeAllOnes 1 _ _ _ rfl ?_
      exact mm_iret ok_Cb_wordsBeforeAllOnes rfl rfl ⟨by rw [show c_words S (n + 1) i = i from if_pos c14], rfl⟩
    · -- 17 f
      refine mm_blk (pc' := 2) ok_Cb_wordsBeforeAllOnes 2 _ _ _ rfl ?_
      rw [nI_1]
      have e9 : c_words S (n + 1) i = c_words S n (i + 1) := if_neg c14
      rw [e9]
      exact ih (i + 1) (by omega)
set_option maxHeartbeats 1000000 in
theorem c_Cb_words (w : c_wf G K S) : mm_C G M_Cb_wordsBeforeAllOnes [.ref (K 0)] (CP K S h) 0 0 (mm_E (some (.int (nI (c_words S 4 0)))) (CP K S h)) := by
  refine mm_C_of (by decide +kernel) rfl (Nat.le_of_ble_eq_true rfl) rfl ?_
  refine mm_blk (pc' := 2) ok_Cb_wordsBeforeAllOnes 2 _ _ _ rfl ?_
  exact l_Cb_words w 4 0 (by omega)
set_option maxHeartbeats 1000000 in
theorem l_Cb_enterState (x : Int32) : ∀ (n i : Nat) (S : cS), c_wf G K S → i + n = c_nd S → mm_V G M_Cb_enterState 11 [(0, .ref (K 0)), (1, .int x), (2, .int (nI i))] [] (CP K S h) 0 0 (mm_E none (CP K (up (fun i S => s_D S i (upd (c_D S i) 7 1)) n i S) h)) := by
  intro n
  induction n with
  | zero =>
    intro i S w hi
    refine mm_blk (pc' := 13) ok_Cb_enterState 2 _ _ _ rfl ?_
    refine mm_getf ok_Cb_enterState (cp_0 w) rfl f_Cb_12 rfl ?_
    refine mm_cVE ok_Cb_enterState (As := []) rfl k_Cb_enterState_33 (cp_1 w) rfl rfl rfl (Nat.le_of_ble_eq_true rfl) (c_Al_size (cp_1 w)) ?_
    refine mm_ic_ge ok_Cb_enterState 43 rfl (by decide) (fun c => ?_) (fun c => ?_)
    rotate_left
    · exact absurd (nI_le (by omega) (by have := w.1; omega)) c
    exact mm_vret ok_Cb_enterState rfl rfl ⟨rfl, rfl⟩
  | succ n ih =>
    intro i S w hi
    have hlt : i < c_nd S := by omega
    refine mm_blk (pc' := 13) ok_Cb_enterState 2 _ _ _ rfl ?_
    refine mm_getf ok_Cb_enterState (cp_0 w) rfl f_Cb_12 rfl ?_
    refine mm_cVE ok_Cb_enterState (As := []) rfl k_Cb_enterState_33 (cp_1 w) rfl rfl rfl (Nat.le_of_ble_eq_true rfl) (c_Al_size (cp_1 w)) ?_
    refine mm_ic_ge ok_Cb_enterState 43 rfl (by decide) (fun c => ?_) (fun c => ?_)
    · exact absurd c (nI_ge (by omega) (by have := w.1; omega))
    refine mm_blk (pc' := 23) ok_Cb_enterState 1 _ _ _ rfl ?_
    refine mm_getf ok_Cb_enterState (cp_0 w) rfl f_Cb_12 rfl ?_
    refine mm_blk (pc' := 27) ok_Cb_enterState 1 _ _ _ rfl ?_
    refine mm_cVE ok_Cb_enterState (As := [.int (nI i)]) rfl k_Cb_enterState_56 (cp_1 w) rfl rfl rfl (Nat.le_of_ble_eq_true rfl) (c_getD w hlt) ?_
    refine mm_cast ok_Cb_enterState (cp_dev w hlt) cc_Cb_40 rfl ?_
    refine mm_blk (pc' := 34) ok_Cb_enterState 1 _ _ _ rfl ?_
    refine mm_putf ok_Cb_enterState (cp_dev w hlt) rfl f_Cb_105 (Or.inl rfl) (mm_fit_I _) ?_
    refine mm_blk (pc' := 11) ok_Cb_enterState 2 _ _ _ rfl ?_
    rw [nI_1]
    refine mm_V_heap (cu_dev w hlt (upd (c_D S i) 7 1)) ?_
    exact ih (i + 1) (s_D S i _) w (by show i + 1 + n = c_nd S; omega)
set_option maxHeartbeats 1000000 in
theorem c_Cb_enterState (w : c_wf G K S) (x : Int32) : mm_C G M_Cb_enterState [.ref (K 0), .int x] (CP K S h) 0 0 (mm_E none (CP K (c_ent S x) h)) := by
  refine mm_C_of (by decide +kernel) rfl (Nat.le_of_ble_eq_true rfl) rfl ?_
  refine mm_blk (pc' := 2) ok_Cb_enterState 2 _ _ _ rfl ?_
  refine mm_putf ok_Cb_enterState (cp_0 w) rfl f_Cb_19 (Or.inl rfl) (mm_fit_I _) ?_
  refine mm_blk (pc' := 6) ok_Cb_enterState 1 _ _ _ rfl ?_
  refine mm_V_heap (cu_0 w 2 x) ?_
  refine mm_if_ne ok_Cb_enterState 43 rfl (by decide) (fun c6 => ?_) (fun c6 => ?_)
  · -- 43 t
    exact mm_vret ok_Cb_enterState rfl rfl ⟨rfl, by rw [show c_ent S x = s_Z S 0 2 x from if_neg c6]⟩
  · -- 9 f
    refine mm_blk (pc' := 11) ok_Cb_enterState 2 _ _ _ rfl ?_
    have e9 : c_ent S x = up (fun i S => s_D S i (upd (c_D S i) 7 1)) (c_nd S) 0 (s_Z S 0 2 x) := if_pos c6
    rw [e9]
    exact l_Cb_enterState x (c_nd S) 0 (s_Z S 0 2 x) w (by show 0 + c_nd S = c_nd S; omega)
set_option maxHeartbeats 1000000 in
theorem l_Cb_signalsOf (w : c_wf G K S) {d : Nat} (hd : d < c_nd S) : ∀ (n i : Nat) (x : Int32), i + n = c_nn S → mm_V G M_Cb_signalsOf 7 [(0, .ref (K 0)), (1, .ref (K (10 + d))), (2, .int x), (3, .int (nI i))] [] (CP K S h) 0 0 (mm_E (some (.int (up (fun j a => if (c_R S j).2.1 = d then (if c_car S j = 0 then a else a ||| 1 <<< (c_N S j 3 &&& 31)) else a) n i x))) (CP K S h)) := by
  intro n
  induction n with
  | zero =>
    intro i x hi
    refine mm_blk (pc' := 9) ok_Cb_signalsOf 2 _ _ _ rfl ?_
    refine mm_getf ok_Cb_signalsOf (cp_0 w) rfl f_Cb_16 rfl ?_
    refine mm_cVE ok_Cb_signalsOf (As := []) rfl k_Cb_signalsOf_33 (cp_3 w) rfl rfl rfl (Nat.le_of_ble_eq_true rfl) (c_Al_size (cp_3 w)) ?_
    refine mm_ic_ge ok_Cb_signalsOf 64 rfl (by decide) (fun c => ?_) (fun c => ?_)
    rotate_left
    · exact absurd (nI_le (by omega) (by have := w.2.1; omega)) c
    refine mm_blk (pc' := 65) ok_Cb_signalsOf 1 _ _ _ rfl ?_
    exact mm_iret ok_Cb_signalsOf rfl rfl ⟨rfl, rfl⟩
  | succ n ih =>
    intro i x hi
    have hlt : i < c_nn S := by omega
    obtain ⟨q1, q2, -⟩ := w.2.2.2.2.2 i hlt
    refine mm_blk (pc' := 9) ok_Cb_signalsOf 2 _ _ _ rfl ?_
    refine mm_getf ok_Cb_signalsOf (cp_0 w) rfl f_Cb_16 rfl ?_
    refine mm_cVE ok_Cb_signalsOf (As := []) rfl k_Cb_signalsOf_33 (cp_3 w) rfl rfl rfl (Nat.le_of_ble_eq_true rfl) (c_Al_size (cp_3 w)) ?_
    refine mm_ic_ge ok_Cb_signalsOf 64 rfl (by decide) (fun c => ?_) (fun c => ?_)
    · exact absurd c (nI_ge (by omega) (by have := w.2.1; omega))
    refine mm_blk (pc' := 19) ok_Cb_signalsOf 1 _ _ _ rfl ?_
    refine mm_getf ok_Cb_signalsOf (cp_0 w) rfl f_Cb_16 rfl ?_
    refine mm_blk (pc' := 23) ok_Cb_signalsOf 1 _ _ _ rfl ?_
    refine mm_cVE ok_Cb_signalsOf (As := [.int (nI i)]) rfl k_Cb_signalsOf_56 (cp_3 w) rfl rfl rfl (Nat.le_of_ble_eq_true rfl) (c_getN w hlt) ?_
    refine mm_cast ok_Cb_signalsOf (cp_net w hlt) cc_Cb_71 rfl ?_
    refine mm_blk (pc' := 33) ok_Cb_signalsOf 2 _ _ _ rfl ?_
    refine mm_getf ok_Cb_signalsOf (cp_net w hlt) rfl f_Cb_197 rfl ?_
    refine mm_blk (pc' := 37) ok_Cb_signalsOf 1 _ _ _ rfl ?_
    refine mm_acmp_ne ok_Cb_signalsOf 58 rfl (by decide) (fun c => ?_) (fun c => ?_)
    · refine mm_blk (pc' := 7) ok_Cb_signalsOf 2 _ _ _ rfl ?_
      have e : ¬ (c_R S i).2.1 = d := fun z => c ((k_dev_eq w q2 hd).mpr z)
      rw [nI_1]
      refine mm_V_pick [0, 1, 2, 3] rfl ?_
      unfold up
      rw [if_neg e]
      exact ih (i + 1) _ (by omega)
    have e : (c_R S i).2.1 = d := (k_dev_eq w q2 hd).mp c
    refine mm_blk (pc' := 42) ok_Cb_signalsOf 1 _ _ _ rfl ?_
    refine mm_cVE ok_Cb_signalsOf (As := []) rfl k_Cb_signalsOf_118 (cp_net w hlt) rfl rfl rfl (Nat.le_of_ble_eq_true rfl) (c_carr w hlt) ?_
    refine mm_if_eq ok_Cb_signalsOf 58 rfl (by decide) (fun c45 => ?_) (fun c45 => ?_)
    · -- 58 t
      refine mm_blk (pc' := 7) ok_Cb_signalsOf 2 _ _ _ rfl ?_
      rw [nI_1]
      refine mm_V_pick [0, 1, 2, 3] rfl ?_
      unfold up
      rw [if_pos e]
      first | rw [if_pos c45] | rw [if_neg c45]
      exact ih (i + 1) _ (by omega)
    · -- 48 f
      refine mm_blk (pc' := 52) ok_Cb_signalsOf 3 _ _ _ rfl ?_
      refine mm_getf ok_Cb_signalsOf (cp_net w hlt) rfl f_Cb_201 rfl ?_
      refine mm_blk (pc' := 7) ok_Cb_signalsOf 5 _ _ _ rfl ?_
      rw [nI_1]
      refine mm_V_pick [0, 1, 2, 3] rfl ?_
      unfold up
      rw [if_pos e]
      first | rw [if_pos c45] | rw [if_neg c45]
      exact ih (i + 1) _ (by omega)
set_option maxHeartbeats 1000000 in
theorem c_Cb_signalsOf (w : c_wf G K S) {d : Nat} (hd : d < c_nd S) : mm_C G M_Cb_signalsOf [.ref (K 0), .ref (K (10 + d))] (CP K S h) 0 0 (mm_E (some (.int (c_sig S d))) (CP K S h)) := by
  refine mm_C_of (by decide +kernel) rfl (Nat.le_of_ble_eq_true rfl) rfl ?_
  refine mm_blk (pc' := 1) ok_Cb_signalsOf 1 _ _ _ rfl ?_
  refine mm_cVE ok_Cb_signalsOf (As := []) rfl k_Cb_signalsOf_194 (cp_dev w hd) rfl rfl rfl (Nat.le_of_ble_eq_true rfl) (c_Dv_outputs (cp_dev w hd)) ?_
  refine mm_blk (pc' := 7) ok_Cb_signalsOf 3 _ _ _ rfl ?_
  exact l_Cb_signalsOf w hd (c_nn S) 0 _ (by omega)
end CB2
