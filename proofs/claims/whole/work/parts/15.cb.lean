/-! the class: questions, loops over devices and nets -/
def up {α : Type} (f : Nat → α → α) : Nat → Nat → α → α
  | 0, _, a => a
  | n + 1, i, a => up f n (i + 1) (f i a)
def inR (x : Int32) (n : Nat) : Prop := ¬ x < 0 ∧ ¬ nI n ≤ x
theorem inR_iff {x : Int32} {n : Nat} (hn : n < 2147483648) : inR x n ↔ ∃ j, j < n ∧ x = nI j := by
  constructor
  · intro hx
    rcases pk_ix x (n := n) hn with h1 | h1 | h1
    · exact absurd h1 hx.1
    · exact absurd h1 hx.2
    · exact h1
  · rintro ⟨j, hj, rfl⟩
    exact ⟨nI_pos (by omega), nI_ge hj (by omega)⟩
/-- is there such a cell -/
def isC (S : cS) (x c : Int32) : Prop := inR x (c_nd S) ∧ ¬ c < 0 ∧ ¬ c_D S x.toNatClampNeg 2 ≤ c
/-- what net j carries -/
def c_bit (S : cS) (j : Nat) : Int32 := nt_bit (c_D S (c_R S j).1) (c_N S j 1)
def c_car (S : cS) (j : Nat) : Int32 := nt_car (c_N S j 4) (c_bit S j) ((c_R S j).2.2.map (c_bit S))
/-- the signals of device i's cells -/
def c_sig (S : cS) (i : Nat) : Int32 := up (fun j a => if (c_R S j).2.1 = i then (if c_car S j = 0 then a else a ||| 1 <<< (c_N S j 3 &&& 31)) else a) (c_nn S) 0 (dv_out (c_D S i))
def c_sumC (S : cS) : Int32 := up (fun i a => a + c_D S i 2) (c_nd S) 0 0
def c_sumB (S : cS) : Int32 := up (fun i a => a + c_D S i 0) (c_nd S) 0 0
def c_ent (S : cS) (x : Int32) : cS := if x = 0 then up (fun i S => s_D S i (upd (c_D S i) 7 1)) (c_nd S) 0 (s_Z S 0 2 x) else s_Z S 0 2 x
def c_forget (S : cS) : cS := up (fun j S => s_N S j (upd (c_N S j) 6 0)) (c_nn S) 0 S
def c_faulty (S : cS) : Int32 := up (fun j a => if c_N S j 6 = nI j + 1 then a else a + 1) (c_nn S) 0 0
/-- the cells of the devices i .. behind device o, from the last one on -/
def c_place (S : cS) (o : Nat) : Nat → Int32 → Int32
  | 0, a => a
  | i + 1, a => if i = o then a else c_place S o i (a + c_D S i 2)
def c_pat (S : cS) (r : Int32) : Int32 := up (fun j a => a ||| ((mm_ushr (nI (j + 1)) r &&& 1) <<< (c_place S (c_R S j).1 (c_nd S) (c_N S j 1) &&& 31))) (c_nn S) 0 0
def c_note (S : cS) (r came : Int32) : cS := up (fun j S => s_N S j (upd (c_N S j) 6 (c_N S j 6 ||| ((mm_ushr came (c_place S (c_R S j).2.1 (c_nd S) (c_N S j 3)) &&& 1) <<< (r &&& 31))))) (c_nn S) 0 S
def c_words (S : cS) : Nat → Nat → Nat
  | 0, i => i
  | n + 1, i => if c_Z S 1 i = -1 then i else c_words S n (i + 1)
def c_restart (S : cS) : cS := s_Z (s_Z (s_Z (up (fun i S => s_D S i (upd (upd (c_D S i) 5 0) 6 0)) (c_nd S) 0 (c_ent S 0)) 0 3 0) 0 6 0) 0 7 0
section CB
variable {G : mm_G} {K : Nat → Nat} {S : cS} {h : mm_Hp}

theorem c_carr (w : c_wf G K S) {j : Nat} (hj : j < c_nn S) : mm_C G M_Nt_carries [.ref (K (20 + j))] (CP K S h) 0 0 (mm_E (some (.int (c_car S j))) (CP K S h)) := by
  obtain ⟨h1, h2, h3⟩ := w.2.2.2.2.2 j hj
  have hn := cp_net (h := h) w hj
  unfold oNK at hn
  unfold c_car
  cases e : (c_R S j).2.2 with
  | none =>
    rw [e] at hn
    exact c_Nt_carries0 hn (cp_dev w h1)
  | some k =>
    rw [e] at hn
    obtain ⟨hk, -⟩ := h3 k e
    exact c_Nt_carries1 hn (cp_dev w h1) (cp_net w hk) (cp_dev w (w.2.2.2.2.2 k hk).1)
set_option maxHeartbeats 1000000 in
theorem c_Cb_isDevice (w : c_wf G K S) (x : Int32) : mm_C G M_Cb_isDevice [.ref (K 0), .int x] (CP K S h) 0 0 (fun o h' => o = .inl (some (.int (if (¬ x < 0 ∧ ¬ nI (c_nd S) ≤ x) then 1 else 0))) ∧ h' = CP K S h) := by
  refine mm_C_of (by decide +kernel) rfl (Nat.le_of_ble_eq_true rfl) rfl ?_
  refine mm_blk (pc' := 1) ok_Cb_isDevice 1 _ _ _ rfl ?_
  refine mm_if_lt ok_Cb_isDevice 19 rfl (by decide) (fun c1 => ?_) (fun c1 => ?_)
  · -- 19 t
    refine mm_blk (pc' := 20) ok_Cb_isDevice 1 _ _ _ rfl ?_
    exact mm_zret ok_Cb_isDevice rfl rfl rfl ⟨by simp [*], rfl⟩
  · -- 4 f
    refine mm_blk (pc' := 6) ok_Cb_isDevice 2 _ _ _ rfl ?_
    refine mm_getf ok_Cb_isDevice (cp_0 w) rfl f_Cb_12 rfl ?_
    refine mm_cVE ok_Cb_isDevice (As := []) rfl k_Cb_isDevice_33 (cp_1 w) rfl rfl rfl (Nat.le_of_ble_eq_true rfl) (c_Al_size (cp_1 w)) ?_
    refine mm_ic_ge ok_Cb_isDevice 19 rfl (by decide) (fun c12 => ?_) (fun c12 => ?_)
    · -- 19 t
      refine mm_blk (pc' := 20) ok_Cb_isDevice 1 _ _ _ rfl ?_
      exact mm_zret ok_Cb_isDevice rfl rfl rfl ⟨by simp [*], rfl⟩
    · -- 15 f
      refine mm_blk (pc' := 20) ok_Cb_isDevice 2 _ _ _ rfl ?_
      exact mm_zret ok_Cb_isDevice rfl rfl rfl ⟨by simp [*], rfl⟩
set_option maxHeartbeats 1000000 in
theorem c_Cb_isNet (w : c_wf G K S) (x : Int32) : mm_C G M_Cb_isNet [.ref (K 0), .int x] (CP K S h) 0 0 (fun o h' => o = .inl (some (.int (if (¬ x < 0 ∧ ¬ nI (c_nn S) ≤ x) then 1 else 0))) ∧ h' = CP K S h) := by
  refine mm_C_of (by decide +kernel) rfl (Nat.le_of_ble_eq_true rfl) rfl ?_
  refine mm_blk (pc' := 1) ok_Cb_isNet 1 _ _ _ rfl ?_
  refine mm_if_lt ok_Cb_isNet 19 rfl (by decide) (fun c1 => ?_) (fun c1 => ?_)
  · -- 19 t
    refine mm_blk (pc' := 20) ok_Cb_isNet 1 _ _ _ rfl ?_
    exact mm_zret ok_Cb_isNet rfl rfl rfl ⟨by simp [*], rfl⟩
  · -- 4 f
    refine mm_blk (pc' := 6) ok_Cb_isNet 2 _ _ _ rfl ?_
    refine mm_getf ok_Cb_isNet (cp_0 w) rfl f_Cb_16 rfl ?_
    refine mm_cVE ok_Cb_isNet (As := []) rfl k_Cb_isNet_33 (cp_3 w) rfl rfl rfl (Nat.le_of_ble_eq_true rfl) (c_Al_size (cp_3 w)) ?_
    refine mm_ic_ge ok_Cb_isNet 19 rfl (by decide) (fun c12 => ?_) (fun c12 => ?_)
    · -- 19 t
      refine mm_blk (pc' := 20) ok_Cb_isNet 1 _ _ _ rfl ?_
      exact mm_zret ok_Cb_isNet rfl rfl rfl ⟨by simp [*], rfl⟩
    · -- 15 f
      refine mm_blk (pc' := 20) ok_Cb_isNet 2 _ _ _ rfl ?_
      exact mm_zret ok_Cb_isNet rfl rfl rfl ⟨by simp [*], rfl⟩
set_option maxHeartbeats 1000000 in
theorem c_Cb_isCell (w : c_wf G K S) (x c : Int32) : mm_C G M_Cb_isCell [.ref (K 0), .int x, .int c] (CP K S h) 0 0 (fun o h' => ∃ r, o = .inl (some (.int r)) ∧ h' = CP K S h ∧ ((r = 1 ∧ isC S x c) ∨ (r = 0 ∧ ¬ isC S x c))) := by
  refine mm_C_of (by decide +kernel) rfl (Nat.le_of_ble_eq_true rfl) rfl ?_
  by_cases hx : ¬ x < 0 ∧ ¬ nI (c_nd S) ≤ x
  · obtain ⟨j, hj, rfl⟩ := (inR_iff (by have := w.1; omega)).mp hx
    have hjj : (nI j).toNatClampNeg = j := nI_clamp (by have := w.1; omega)
    refine mm_blk (pc' := 2) ok_Cb_isCell 2 _ _ _ rfl ?_
    refine mm_cVE ok_Cb_isCell (As := [.int (nI j)]) (rv := some (.int 1)) (h1 := CP K S h) rfl k_Cb_isCell_102 (cp_0 w) rfl rfl rfl (Nat.le_of_ble_eq_true rfl) (mm_C_wk (c_Cb_isDevice w (nI j)) (fun o h' z => ⟨by rw [z.1, if_pos hx], z.2⟩)) ?_
    refine mm_if_eq ok_Cb_isCell 34 rfl (by decide) (fun c => absurd c (by decide)) (fun _ => ?_)
    refine mm_blk (pc' := 9) ok_Cb_isCell 1 _ _ _ rfl ?_
    refine mm_if_lt ok_Cb_isCell 34 rfl (by decide) (fun c9 => ?_) (fun c9 => ?_)
    · -- 34 t
      refine mm_blk (pc' := 35) ok_Cb_isCell 1 _ _ _ rfl ?_
      exact mm_zret ok_Cb_isCell rfl rfl rfl ⟨_, rfl, rfl, by unfold isC inR; rw [hjj]; simp [*]⟩
    · -- 12 f
      refine mm_blk (pc' := 14) ok_Cb_isCell 2 _ _ _ rfl ?_
      refine mm_getf ok_Cb_isCell (cp_0 w) rfl f_Cb_12 rfl ?_
      refine mm_blk (pc' := 18) ok_Cb_isCell 1 _ _ _ rfl ?_
      refine mm_cVE ok_Cb_isCell (As := [.int (nI j)]) rfl k_Cb_isCell_56 (cp_1 w) rfl rfl rfl (Nat.le_of_ble_eq_true rfl) (c_getD w hj) ?_
      refine mm_cast ok_Cb_isCell (cp_dev w hj) cc_Cb_40 rfl ?_
      refine mm_getf ok_Cb_isCell (cp_dev w hj) rfl f_Cb_163 rfl ?_
      refine mm_ic_ge ok_Cb_isCell 34 rfl (by decide) (fun c27 => ?_) (fun c27 => ?_)
      · -- 34 t
        refine mm_blk (pc' := 35) ok_Cb_isCell 1 _ _ _ rfl ?_
        exact mm_zret ok_Cb_isCell rfl rfl rfl ⟨_, rfl, rfl, by unfold isC inR; rw [hjj]; simp [*]⟩
      · -- 30 f
        refine mm_blk (pc' := 35) ok_Cb_isCell 2 _ _ _ rfl ?_
        exact mm_zret ok_Cb_isCell rfl rfl rfl ⟨_, rfl, rfl, by unfold isC inR; rw [hjj]; simp [*]⟩
  · refine mm_blk (pc' := 2) ok_Cb_isCell 2 _ _ _ rfl ?_
    refine mm_cVE ok_Cb_isCell (As := [.int x]) (rv := some (.int 0)) (h1 := CP K S h) rfl k_Cb_isCell_102 (cp_0 w) rfl rfl rfl (Nat.le_of_ble_eq_true rfl) (mm_C_wk (c_Cb_isDevice w x) (fun o h' z => ⟨by rw [z.1, if_neg hx], z.2⟩)) ?_
    refine mm_if_eq ok_Cb_isCell 34 rfl (by decide) (fun _ => ?_) (fun c => absurd rfl c)
    refine mm_blk (pc' := 35) ok_Cb_isCell 1 _ _ _ rfl ?_
    exact mm_zret ok_Cb_isCell rfl rfl rfl ⟨_, rfl, rfl, Or.inr ⟨rfl, fun z => hx z.1⟩⟩
set_option maxHeartbeats 1000000 in
theorem l_Cb_allCells (w : c_wf G K S) : ∀ (n i : Nat) (x : Int32), i + n = c_nd S → mm_V G M_Cb_allCells 4 [(0, .ref (K 0)), (1, .int x), (2, .int (nI i))] [] (CP K S h) 0 0 (mm_E (some (.int (up (fun i a => a + c_D S i 2) n i x))) (CP K S h)) := by
  intro n
  induction n with
  | zero =>
    intro i x hi
    refine mm_blk (pc' := 6) ok_Cb_allCells 2 _ _ _ rfl ?_
    refine mm_getf ok_Cb_allCells (cp_0 w) rfl f_Cb_12 rfl ?_
    refine mm_cVE ok_Cb_allCells (As := []) rfl k_Cb_allCells_33 (cp_1 w) rfl rfl rfl (Nat.le_of_ble_eq_true rfl) (c_Al_size (cp_1 w)) ?_
    refine mm_ic_ge ok_Cb_allCells 38 rfl (by decide) (fun c => ?_) (fun c => ?_)
    rotate_left
    · exact absurd (nI_le (by omega) (by have := w.1; omega)) c
    refine mm_blk (pc' := 39) ok_Cb_allCells 1 _ _ _ rfl ?_
    exact mm_iret ok_Cb_allCells rfl rfl ⟨rfl, rfl⟩
  | succ n ih =>
    intro i x hi
    have hlt : i < c_nd S := by omega
    refine mm_blk (pc' := 6) ok_Cb_allCells 2 _ _ _ rfl ?_
    refine mm_getf ok_Cb_allCells (cp_0 w) rfl f_Cb_12 rfl ?_
    refine mm_cVE ok_Cb_allCells (As := []) rfl k_Cb_allCells_33 (cp_1 w) rfl rfl rfl (Nat.le_of_ble_eq_true rfl) (c_Al_size (cp_1 w)) ?_
    refine mm_ic_ge ok_Cb_allCells 38 rfl (by decide) (fun c => ?_) (fun c => ?_)
    · exact absurd c (nI_ge (by omega) (by have := w.1; omega))
    refine mm_blk (pc' := 17) ok_Cb_allCells 2 _ _ _ rfl ?_
    refine mm_getf ok_Cb_allCells (cp_0 w) rfl f_Cb_12 rfl ?_
    refine mm_blk (pc' := 21) ok_Cb_allCells 1 _ _ _ rfl ?_
    refine mm_cVE ok_Cb_allCells (As := [.int (nI i)]) rfl k_Cb_allCells_56 (cp_1 w) rfl rfl rfl (Nat.le_of_ble_eq_true rfl) (c_getD w hlt) ?_
    refine mm_cast ok_Cb_allCells (cp_dev w hlt) cc_Cb_40 rfl ?_
    refine mm_getf ok_Cb_allCells (cp_dev w hlt) rfl f_Cb_163 rfl ?_
    refine mm_blk (pc' := 4) ok_Cb_allCells 4 _ _ _ rfl ?_
    rw [nI_1]
    exact ih (i + 1) _ (by omega)
set_option maxHeartbeats 1000000 in
theorem c_Cb_allCells (w : c_wf G K S) : mm_C G M_Cb_allCells [.ref (K 0)] (CP K S h) 0 0 (mm_E (some (.int (c_sumC S))) (CP K S h)) := by
  refine mm_C_of (by decide +kernel) rfl (Nat.le_of_ble_eq_true rfl) rfl ?_
  refine mm_blk (pc' := 4) ok_Cb_allCells 4 _ _ _ rfl ?_
  exact l_Cb_allCells w (c_nd S) 0 0 (by omega)
set_option maxHeartbeats 1000000 in
theorem l_Cb_countFaulty (w : c_wf G K S) : ∀ (n i : Nat) (x : Int32), i + n = c_nn S → mm_V G M_Cb_countFaulty 4 [(0, .ref (K 0)), (1, .int x), (2, .int (nI i))] [] (CP K S h) 0 0 (mm_E (some (.int (up (fun j a => if c_N S j 6 = nI j + 1 then a else a + 1) n i x))) (CP K S h)) := by
  intro n
  induction n with
  | zero =>
    intro i x hi
    refine mm_blk (pc' := 6) ok_Cb_countFaulty 2 _ _ _ rfl ?_
    refine mm_getf ok_Cb_countFaulty (cp_0 w) rfl f_Cb_16 rfl ?_
    refine mm_cVE ok_Cb_countFaulty (As := []) rfl k_Cb_countFaulty_33 (cp_3 w) rfl rfl rfl (Nat.le_of_ble_eq_true rfl) (c_Al_size (cp_3 w)) ?_
    refine mm_ic_ge ok_Cb_countFaulty 44 rfl (by decide) (fun c => ?_) (fun c => ?_)
    rotate_left
    · exact absurd (nI_le (by omega) (by have := w.2.1; omega)) c
    refine mm_blk (pc' := 45) ok_Cb_countFaulty 1 _ _ _ rfl ?_
    exact mm_iret ok_Cb_countFaulty rfl rfl ⟨rfl, rfl⟩
  | succ n ih =>
    intro i x hi
    have hlt : i < c_nn S := by omega
    refine mm_blk (pc' := 6) ok_Cb_countFaulty 2 _ _ _ rfl ?_
    refine mm_getf ok_Cb_countFaulty (cp_0 w) rfl f_Cb_16 rfl ?_
    refine mm_cVE ok_Cb_countFaulty (As := []) rfl k_Cb_countFaulty_33 (cp_3 w) rfl rfl rfl (Nat.le_of_ble_eq_true rfl) (c_Al_size (cp_3 w)) ?_
    refine mm_ic_ge ok_Cb_countFaulty 44 rfl (by decide) (fun c => ?_) (fun c => ?_)
    · exact absurd c (nI_ge (by omega) (by have := w.2.1; omega))
    refine mm_blk (pc' := 16) ok_Cb_countFaulty 1 _ _ _ rfl ?_
    refine mm_getf ok_Cb_countFaulty (cp_0 w) rfl f_Cb_16 rfl ?_
    refine mm_blk (pc' := 20) ok_Cb_countFaulty 1 _ _ _ rfl ?_
    refine mm_cVE ok_Cb_countFaulty (As := [.int (nI i)]) rfl k_Cb_countFaulty_56 (cp_3 w) rfl rfl rfl (Nat.le_of_ble_eq_true rfl) (c_getN w hlt) ?_
    refine mm_cast ok_Cb_countFaulty (cp_net w hlt) cc_Cb_71 rfl ?_
    refine mm_getf ok_Cb_countFaulty (cp_net w hlt) rfl f_Cb_157 rfl ?_
    refine mm_blk (pc' := 32) ok_Cb_countFaulty 3 _ _ _ rfl ?_
    refine mm_ic_eq ok_Cb_countFaulty 38 rfl (by decide) (fun c32 => ?_) (fun c32 => ?_)
    · -- 38 t
      refine mm_blk (pc' := 4) ok_Cb_countFaulty 2 _ _ _ rfl ?_
      rw [nI_1]
      unfold up
      first | rw [if_pos c32] | rw [if_neg c32]
      exact ih (i + 1) _ (by omega)
    · -- 35 f
      refine mm_blk (pc' := 4) ok_Cb_countFaulty 3 _ _ _ rfl ?_
      rw [nI_1]
      unfold up
      first | rw [if_pos c32] | rw [if_neg c32]
      exact ih (i + 1) _ (by omega)
set_option maxHeartbeats 1000000 in
theorem c_Cb_countFaulty (w : c_wf G K S) : mm_C G M_Cb_countFaulty [.ref (K 0)] (CP K S h) 0 0 (mm_E (some (.int (c_faulty S))) (CP K S h)) := by
  refine mm_C_of (by decide +kernel) rfl (Nat.le_of_ble_eq_true rfl) rfl ?_
  refine mm_blk (pc' := 4) ok_Cb_countFaulty 4 _ _ _ rfl ?_
  exact l_Cb_countFaulty w (c_nn S) 0 0 (by omega)
set_option maxHeartbeats 1000000 in
theorem l_Cb_forgetSeen : ∀ (n i : Nat) (S : cS), c_wf G K S → i + n = c_nn S → mm_V G M_Cb_forgetSeen 2 [(0, .ref (K 0)), (1, .int (nI i))] [] (CP K S h) 0 0 (mm_E none (CP K (up (fun j S => s_N S j (upd (c_N S j) 6 0)) n i S) h)) := by
  intro n
  induction n with
  | zero =>
    intro i S w hi
    refine mm_blk (pc' := 4) ok_Cb_forgetSeen 2 _ _ _ rfl ?_
    refine mm_getf ok_Cb_forgetSeen (cp_0 w) rfl f_Cb_16 rfl ?_
    refine mm_cVE ok_Cb_forgetSeen (As := []) rfl k_Cb_forgetSeen_33 (cp_3 w) rfl rfl rfl (Nat.le_of_ble_eq_true rfl) (c_Al_size (cp_3 w)) ?_
    refine mm_ic_ge ok_Cb_forgetSeen 34 rfl (by decide) (fun c => ?_) (fun c => ?_)
    rotate_left
    · exact absurd (nI_le (by omega) (by have := w.2.1; omega)) c
    exact mm_vret ok_Cb_forgetSeen rfl rfl ⟨rfl, rfl⟩
  | succ n ih =>
    intro i S w hi
    have hlt : i < c_nn S := by omega
    refine mm_blk (pc' := 4) ok_Cb_forgetSeen 2 _ _ _ rfl ?_
    refine mm_getf ok_Cb_forgetSeen (cp_0 w) rfl f_Cb_16 rfl ?_
    refine mm_cVE ok_Cb_forgetSeen (As := []) rfl k_Cb_forgetSeen_33 (cp_3 w) rfl rfl rfl (Nat.le_of_ble_eq_true rfl) (c_Al_size (cp_3 w)) ?_
    refine mm_ic_ge ok_Cb_forgetSeen 34 rfl (by decide) (fun c => ?_) (fun c => ?_)
    · exact absurd c (nI_ge (by omega) (by have := w.2.1; omega))
    refine mm_blk (pc' := 14) ok_Cb_forgetSeen 1 _ _ _ rfl ?_
    refine mm_getf ok_Cb_forgetSeen (cp_0 w) rfl f_Cb_16 rfl ?_
    refine mm_blk (pc' := 18) ok_Cb_forgetSeen 1 _ _ _ rfl ?_
    refine mm_cVE ok_Cb_forgetSeen (As := [.int (nI i)]) rfl k_Cb_forgetSeen_56 (cp_3 w) rfl rfl rfl (Nat.le_of_ble_eq_true rfl) (c_getN w hlt) ?_
    refine mm_cast ok_Cb_forgetSeen (cp_net w hlt) cc_Cb_71 rfl ?_
    refine mm_blk (pc' := 25) ok_Cb_forgetSeen 1 _ _ _ rfl ?_
    refine mm_putf ok_Cb_forgetSeen (cp_net w hlt) rfl f_Cb_157 (Or.inl rfl) (mm_fit_I _) ?_
    refine mm_blk (pc' := 2) ok_Cb_forgetSeen 2 _ _ _ rfl ?_
    rw [nI_1]
    refine mm_V_heap (cu_netN w hlt 6 0) ?_
    exact ih (i + 1) (s_N S i (upd (c_N S i) 6 0)) w (by show i + 1 + n = c_nn S; omega)
set_option maxHeartbeats 1000000 in
theorem c_Cb_forgetSeen (w : c_wf G K S) : mm_C G M_Cb_forgetSeen [.ref (K 0)] (CP K S h) 0 0 (mm_E none (CP K (c_forget S) h)) := by
  refine mm_C_of (by decide +kernel) rfl (Nat.le_of_ble_eq_true rfl) rfl ?_
  refine mm_blk (pc' := 2) ok_Cb_forgetSeen 2 _ _ _ rfl ?_
  exact l_Cb_forgetSeen (c_nn S) 0 S w (by omega)
end CB
