/-! the reference: runs of clocks, its shorter public methods -/
abbrev m_good (nd nn : Nat) (t : mS) : Prop := m_ok nd nn t ∧ ∃ k, k < 16 ∧ t 0 19 = nI k
theorem ok_s0 {nd nn : Nat} {t : mS} (ok : m_ok nd nn t) {f : Nat} (h1 : f ≠ 1) (h14 : f ≠ 14) (x : Int32) : m_ok nd nn (m_s t 0 f x) := by
  unfold m_ok m_cl m_wd m_dr m_no m_pt at *
  rw [m_s_ne t f x (show 2 ≠ 0 by decide), m_s_ne t f x (show 4 ≠ 0 by decide), m_s_ne t f x (show 13 ≠ 0 by decide), m_s_ne t f x (show 15 ≠ 0 by decide), m_s_ne t f x (show 16 ≠ 0 by decide), m_s_ne t f x (show 17 ≠ 0 by decide), m_s_off t 0 x (Ne.symm h1), m_s_off t 0 x (Ne.symm h14)]
  exact ok
theorem good_s0 {nd nn : Nat} {t : mS} (ok : m_good nd nn t) (x : Int32) : m_good nd nn (m_s t 0 0 x) := ⟨ok_s0 ok.1 (by decide) (by decide) x, ok.2⟩
theorem rst_0 (nd : Nat) (t : mS) : m_rst nd t 0 = t 0 := by
  refine up_0 ?_ _ _ _
  intro _ _; rfl
theorem fin_19 (nd k : Nat) (b : Int32) (t : mS) : m_fin nd k b t 0 19 = m_aft k b := by
  unfold m_fin
  split
  · rw [m_s_off _ _ _ (by decide), rst_0, m_s_at]
  · rw [m_s_off _ _ _ (by decide), m_s_at]
theorem aft_in {k : Nat} (hk : k < 16) (b : Int32) : ∃ j, j < 16 ∧ m_aft k b = nI j := by
  have key : ∀ k, k < 16 → (∃ j, j < 16 ∧ mm_t0.getD k 0 = nI j) ∧ ∃ j, j < 16 ∧ mm_t1.getD k 0 = nI j := by decide +kernel
  unfold m_aft
  split
  · exact (key k hk).1
  · exact (key k hk).2
theorem tick_good {nd nn : Nat} {t : mS} (g : m_good nd nn t) (b x : Int32) : m_good nd nn (m_tick nd b x t).2 := by
  obtain ⟨ok, k, hk, hz⟩ := g
  refine ⟨same_ok (same_tick nd b x t) ok, ?_⟩
  obtain ⟨j, hj, e⟩ := aft_in hk b
  refine ⟨j, hj, ?_⟩
  have hk9 : m_ps t = k := by unfold m_ps; rw [hz]; exact nI_clamp (by omega)
  show m_fin nd (m_ps t) b _ 0 19 = nI j
  rw [fin_19, hk9, e]
def m_tk (nd : Nat) (b x : Int32) (t : mS) : mS := (m_tick nd b x t).2
def m_go6 (nd : Nat) (t : mS) : mS := m_tk nd 0 0 (m_tk nd 1 0 (m_tk nd 1 0 (m_tk nd 1 0 (m_tk nd 1 0 (m_tk nd 1 0 t)))))
def m_com (nd : Nat) (t : mS) : mS := m_tk nd 0 0 (m_tk nd 0 0 (m_tk nd 1 0 t))
def m_lv (nd : Nat) (t : mS) : mS := m_tk nd 0 0 (m_tk nd 1 0 t)
theorem tk_good {nd nn : Nat} {t : mS} (g : m_good nd nn t) (b x : Int32) : m_good nd nn (m_tk nd b x t) := tick_good g b x
section MD4
variable {G : mm_G} {K : Nat → Nat} {t : mS} {h : mm_Hp} {nd nn : Nat} {Q : mm_O → mm_Hp → Prop}
theorem c_tk (w : mm_inj mdom K) (g : m_good nd nn t) (b x : Int32) : mm_C G M_Md_tick [.ref (K 0), .int b, .int x] (MP K t h) 0 0 (mm_E (some (.int (m_tick nd b x t).1)) (MP K (m_tk nd b x t) h)) := by
  obtain ⟨ok, k, hk, hz⟩ := g
  exact c_Md_tick w ok hk hz b x

set_option maxHeartbeats 1000000 in
theorem c_Md_goIdle (w : mm_inj mdom K) (g : m_good nd nn t) : mm_C G M_Md_goIdle [.ref (K 0)] (MP K t h) 0 0 (mm_E none (MP K (m_go6 nd t) h)) := by
  refine mm_C_of (by decide +kernel) rfl (Nat.le_of_ble_eq_true rfl) rfl ?_
  refine mm_blk (pc' := 2) ok_Md_goIdle 2 _ _ _ rfl ?_
  skip
  refine mm_blk (pc' := 5) ok_Md_goIdle 2 _ _ _ rfl ?_
  refine mm_ic_ge ok_Md_goIdle 30 rfl (by decide) (fun c => ?_) (fun c => ?_)
  · first | exact c (by decide) | exact absurd c (by decide)
  refine mm_blk (pc' := 11) ok_Md_goIdle 3 _ _ _ rfl ?_
  refine mm_ic_ge ok_Md_goIdle 18 rfl (by decide) (fun c => ?_) (fun c => ?_)
  · first | exact c (by decide) | exact absurd c (by decide)
  refine mm_blk (pc' := 20) ok_Md_goIdle 3 _ _ _ rfl ?_
  refine mm_cVE ok_Md_goIdle (As := [.int 1, .int 0]) rfl k_Md_goIdle_127 (mp_0 w) rfl rfl rfl (Nat.le_of_ble_eq_true rfl) (c_tk w g 1 0) ?_
  generalize (m_tick nd 1 0 t).1 = gg
  refine mm_blk (pc' := 2) ok_Md_goIdle 3 _ _ _ rfl ?_
  refine mm_V_pick (L' := [(0, .ref (K 0)), (1, .int 1)]) [0, 1] rfl ?_
  refine mm_blk (pc' := 5) ok_Md_goIdle 2 _ _ _ rfl ?_
  refine mm_ic_ge ok_Md_goIdle 30 rfl (by decide) (fun c => ?_) (fun c => ?_)
  · first | exact c (by decide) | exact absurd c (by decide)
  refine mm_blk (pc' := 11) ok_Md_goIdle 3 _ _ _ rfl ?_
  refine mm_ic_ge ok_Md_goIdle 18 rfl (by decide) (fun c => ?_) (fun c => ?_)
  · first | exact c (by decide) | exact absurd c (by decide)
  refine mm_blk (pc' := 20) ok_Md_goIdle 3 _ _ _ rfl ?_
  refine mm_cVE ok_Md_goIdle (As := [.int 1, .int 0]) rfl k_Md_goIdle_127 (mp_0 w) rfl rfl rfl (Nat.le_of_ble_eq_true rfl) (c_tk w (tk_good g 1 0) 1 0) ?_
  generalize (m_tick nd 1 0 (m_tk nd 1 0 t)).1 = gg
  refine mm_blk (pc' := 2) ok_Md_goIdle 3 _ _ _ rfl ?_
  refine mm_V_pick (L' := [(0, .ref (K 0)), (1, .int 2)]) [0, 1] rfl ?_
  refine mm_blk (pc' := 5) ok_Md_goIdle 2 _ _ _ rfl ?_
  refine mm_ic_ge ok_Md_goIdle 30 rfl (by decide) (fun c => ?_) (fun c => ?_)
  · first | exact c (by decide) | exact absurd c (by decide)
  refine mm_blk (pc' := 11) ok_Md_goIdle 3 _ _ _ rfl ?_
  refine mm_ic_ge ok_Md_goIdle 18 rfl (by decide) (fun c => ?_) (fun c => ?_)
  · first | exact c (by decide) | exact absurd c (by decide)
  refine mm_blk (pc' := 20) ok_Md_goIdle 3 _ _ _ rfl ?_
  refine mm_cVE ok_Md_goIdle (As := [.int 1, .int 0]) rfl k_Md_goIdle_127 (mp_0 w) rfl rfl rfl (Nat.le_of_ble_eq_true rfl) (c_tk w (tk_good (tk_good g 1 0) 1 0) 1 0) ?_
  generalize (m_tick nd 1 0 (m_tk nd 1 0 (m_tk nd 1 0 t))).1 = gg
  refine mm_blk (pc' := 2) ok_Md_goIdle 3 _ _ _ rfl ?_
  refine mm_V_pick (L' := [(0, .ref (K 0)), (1, .int 3)]) [0, 1] rfl ?_
  refine mm_blk (pc' := 5) ok_Md_goIdle 2 _ _ _ rfl ?_
  refine mm_ic_ge ok_Md_goIdle 30 rfl (by decide) (fun c => ?_) (fun c => ?_)
  · first | exact c (by decide) | exact absurd c (by decide)
  refine mm_blk (pc' := 11) ok_Md_goIdle 3 _ _ _ rfl ?_
  refine mm_ic_ge ok_Md_goIdle 18 rfl (by decide) (fun c => ?_) (fun c => ?_)
  · first | exact c (by decide) | exact absurd c (by decide)
  refine mm_blk (pc' := 20) ok_Md_goIdle 3 _ _ _ rfl ?_
  refine mm_cVE ok_Md_goIdle (As := [.int 1, .int 0]) rfl k_Md_goIdle_127 (mp_0 w) rfl rfl rfl (Nat.le_of_ble_eq_true rfl) (c_tk w (tk_good (tk_good (tk_good g 1 0) 1 0) 1 0) 1 0) ?_
  generalize (m_tick nd 1 0 (m_tk nd 1 0 (m_tk nd 1 0 (m_tk nd 1 0 t)))).1 = gg
  refine mm_blk (pc' := 2) ok_Md_goIdle 3 _ _ _ rfl ?_
  refine mm_V_pick (L' := [(0, .ref (K 0)), (1, .int 4)]) [0, 1] rfl ?_
  refine mm_blk (pc' := 5) ok_Md_goIdle 2 _ _ _ rfl ?_
  refine mm_ic_ge ok_Md_goIdle 30 rfl (by decide) (fun c => ?_) (fun c => ?_)
  · first | exact c (by decide) | exact absurd c (by decide)
  refine mm_blk (pc' := 11) ok_Md_goIdle 3 _ _ _ rfl ?_
  refine mm_ic_ge ok_Md_goIdle 18 rfl (by decide) (fun c => ?_) (fun c => ?_)
  · first | exact c (by decide) | exact absurd c (by decide)
  refine mm_blk (pc' := 20) ok_Md_goIdle 3 _ _ _ rfl ?_
  refine mm_cVE ok_Md_goIdle (As := [.int 1, .int 0]) rfl k_Md_goIdle_127 (mp_0 w) rfl rfl rfl (Nat.le_of_ble_eq_true rfl) (c_tk w (tk_good (tk_good (tk_good (tk_good g 1 0) 1 0) 1 0) 1 0) 1 0) ?_
  generalize (m_tick nd 1 0 (m_tk nd 1 0 (m_tk nd 1 0 (m_tk nd 1 0 (m_tk nd 1 0 t))))).1 = gg
  refine mm_blk (pc' := 2) ok_Md_goIdle 3 _ _ _ rfl ?_
  refine mm_V_pick (L' := [(0, .ref (K 0)), (1, .int 5)]) [0, 1] rfl ?_
  refine mm_blk (pc' := 5) ok_Md_goIdle 2 _ _ _ rfl ?_
  refine mm_ic_ge ok_Md_goIdle 30 rfl (by decide) (fun c => ?_) (fun c => ?_)
  · first | exact c (by decide) | exact absurd c (by decide)
  refine mm_blk (pc' := 11) ok_Md_goIdle 3 _ _ _ rfl ?_
  refine mm_ic_ge ok_Md_goIdle 18 rfl (by decide) (fun c => ?_) (fun c => ?_)
  rotate_left
  · first | exact c (by decide) | exact absurd c (by decide)
  refine mm_blk (pc' := 20) ok_Md_goIdle 2 _ _ _ rfl ?_
  refine mm_cVE ok_Md_goIdle (As := [.int 0, .int 0]) rfl k_Md_goIdle_127 (mp_0 w) rfl rfl rfl (Nat.le_of_ble_eq_true rfl) (c_tk w (tk_good (tk_good (tk_good (tk_good (tk_good g 1 0) 1 0) 1 0) 1 0) 1 0) 0 0) ?_
  generalize (m_tick nd 0 0 (m_tk nd 1 0 (m_tk nd 1 0 (m_tk nd 1 0 (m_tk nd 1 0 (m_tk nd 1 0 t)))))).1 = gg
  refine mm_blk (pc' := 2) ok_Md_goIdle 3 _ _ _ rfl ?_
  refine mm_V_pick (L' := [(0, .ref (K 0)), (1, .int 6)]) [0, 1] rfl ?_
  refine mm_blk (pc' := 5) ok_Md_goIdle 2 _ _ _ rfl ?_
  refine mm_ic_ge ok_Md_goIdle 30 rfl (by decide) (fun c => ?_) (fun c => ?_)
  rotate_left
  · first | exact c (by decide) | exact absurd c (by decide)
  exact mm_vret ok_Md_goIdle rfl rfl ⟨rfl, rfl⟩
set_option maxHeartbeats 1000000 in
theorem c_Md_comeTo0 (w : mm_inj mdom K) (g : m_good nd nn t) : mm_C G M_Md_comeTo [.ref (K 0), .int 0] (MP K t h) 0 0 (mm_E none (MP K (m_com nd t) h)) := by
  refine mm_C_of (by decide +kernel) rfl (Nat.le_of_ble_eq_true rfl) rfl ?_
  refine mm_blk (pc' := 1) ok_Md_comeTo 1 _ _ _ rfl ?_
  refine mm_if_eq ok_Md_comeTo 8 rfl (by decide) (fun c => ?_) (fun c => ?_)
  rotate_left
  · exact absurd rfl c
  refine mm_blk (pc' := 10) ok_Md_comeTo 2 _ _ _ rfl ?_
  refine mm_V_pick (L' := [(0, .ref (K 0)), (2, .int 1)]) [0, 2] rfl ?_
  refine mm_blk (pc' := 12) ok_Md_comeTo 2 _ _ _ rfl ?_
  refine mm_ic_ge ok_Md_comeTo 37 rfl (by decide) (fun c => ?_) (fun c => ?_)
  · first | exact c (by decide) | exact absurd c (by decide)
  refine mm_blk (pc' := 18) ok_Md_comeTo 3 _ _ _ rfl ?_
  refine mm_ic_ge ok_Md_comeTo 25 rfl (by decide) (fun c => ?_) (fun c => ?_)
  · first | exact c (by decide) | exact absurd c (by decide)
  refine mm_blk (pc' := 27) ok_Md_comeTo 3 _ _ _ rfl ?_
  refine mm_cVE ok_Md_comeTo (As := [.int 1, .int 0]) rfl k_Md_comeTo_127 (mp_0 w) rfl rfl rfl (Nat.le_of_ble_eq_true rfl) (c_tk w g 1 0) ?_
  generalize (m_tick nd 1 0 t).1 = gg
  refine mm_blk (pc' := 10) ok_Md_comeTo 3 _ _ _ rfl ?_
  refine mm_V_pick (L' := [(0, .ref (K 0)), (2, .int 2)]) [0, 1] rfl ?_
  refine mm_blk (pc' := 12) ok_Md_comeTo 2 _ _ _ rfl ?_
  refine mm_ic_ge ok_Md_comeTo 37 rfl (by decide) (fun c => ?_) (fun c => ?_)
  · first | exact c (by decide) | exact absurd c (by decide)
  refine mm_blk (pc' := 18) ok_Md_comeTo 3 _ _ _ rfl ?_
  refine mm_ic_ge ok_Md_comeTo 25 rfl (by decide) (fun c => ?_) (fun c => ?_)
  rotate_left
  · first | exact c (by decide) | exact absurd c (by decide)
  refine mm_blk (pc' := 27) ok_Md_comeTo 2 _ _ _ rfl ?_
  refine mm_cVE ok_Md_comeTo (As := [.int 0, .int 0]) rfl k_Md_comeTo_127 (mp_0 w) rfl rfl rfl (Nat.le_of_ble_eq_true rfl) (c_tk w (tk_good g 1 0) 0 0) ?_
  generalize (m_tick nd 0 0 (m_tk nd 1 0 t)).1 = gg
  refine mm_blk (pc' := 10) ok_Md_comeTo 3 _ _ _ rfl ?_
  refine mm_V_pick (L' := [(0, .ref (K 0)), (2, .int 3)]) [0, 1] rfl ?_
  refine mm_blk (pc' := 12) ok_Md_comeTo 2 _ _ _ rfl ?_
  refine mm_ic_ge ok_Md_comeTo 37 rfl (by decide) (fun c => ?_) (fun c => ?_)
  · first | exact c (by decide) | exact absurd c (by decide)
  refine mm_blk (pc' := 18) ok_Md_comeTo 3 _ _ _ rfl ?_
  refine mm_ic_ge ok_Md_comeTo 25 rfl (by decide) (fun c => ?_) (fun c => ?_)
  rotate_left
  · first | exact c (by decide) | exact absurd c (by decide)
  refine mm_blk (pc' := 27) ok_Md_comeTo 2 _ _ _ rfl ?_
  refine mm_cVE ok_Md_comeTo (As := [.int 0, .int 0]) rfl k_Md_comeTo_127 (mp_0 w) rfl rfl rfl (Nat.le_of_ble_eq_true rfl) (c_tk w (tk_good (tk_good g 1 0) 0 0) 0 0) ?_
  generalize (m_tick nd 0 0 (m_tk nd 0 0 (m_tk nd 1 0 t))).1 = gg
  refine mm_blk (pc' := 10) ok_Md_comeTo 3 _ _ _ rfl ?_
  refine mm_V_pick (L' := [(0, .ref (K 0)), (2, .int 4)]) [0, 1] rfl ?_
  refine mm_blk (pc' := 12) ok_Md_comeTo 2 _ _ _ rfl ?_
  refine mm_ic_ge ok_Md_comeTo 37 rfl (by decide) (fun c => ?_) (fun c => ?_)
  rotate_left
  · first | exact c (by decide) | exact absurd c (by decide)
  exact mm_vret ok_Md_comeTo rfl rfl ⟨rfl, rfl⟩
set_option maxHeartbeats 1000000 in
theorem c_Md_comeTo1 (w : mm_inj mdom K) (g : m_good nd nn t) : mm_C G M_Md_comeTo [.ref (K 0), .int 1] (MP K t h) 0 0 (mm_E none (MP K (m_com nd (m_tk nd 1 0 t)) h)) := by
  refine mm_C_of (by decide +kernel) rfl (Nat.le_of_ble_eq_true rfl) rfl ?_
  refine mm_blk (pc' := 1) ok_Md_comeTo 1 _ _ _ rfl ?_
  refine mm_if_eq ok_Md_comeTo 8 rfl (by decide) (fun c => ?_) (fun c => ?_)
  · first | exact c (by decide) | exact absurd c (by decide)
  refine mm_blk (pc' := 10) ok_Md_comeTo 3 _ _ _ rfl ?_
  refine mm_V_pick (L' := [(0, .ref (K 0)), (2, .int 0)]) [0, 2] rfl ?_
  refine mm_blk (pc' := 12) ok_Md_comeTo 2 _ _ _ rfl ?_
  refine mm_ic_ge ok_Md_comeTo 37 rfl (by decide) (fun c => ?_) (fun c => ?_)
  · first | exact c (by decide) | exact absurd c (by decide)
  refine mm_blk (pc' := 18) ok_Md_comeTo 3 _ _ _ rfl ?_
  refine mm_ic_ge ok_Md_comeTo 25 rfl (by decide) (fun c => ?_) (fun c => ?_)
  · first | exact c (by decide) | exact absurd c (by decide)
  refine mm_blk (pc' := 27) ok_Md_comeTo 3 _ _ _ rfl ?_
  refine mm_cVE ok_Md_comeTo (As := [.int 1, .int 0]) rfl k_Md_comeTo_127 (mp_0 w) rfl rfl rfl (Nat.le_of_ble_eq_true rfl) (c_tk w g 1 0) ?_
  generalize (m_tick nd 1 0 t).1 = gg
  refine mm_blk (pc' := 10) ok_Md_comeTo 3 _ _ _ rfl ?_
  refine mm_V_pick (L' := [(0, .ref (K 0)), (2, .int 1)]) [0, 1] rfl ?_
  refine mm_blk (pc' := 12) ok_Md_comeTo 2 _ _ _ rfl ?_
  refine mm_ic_ge ok_Md_comeTo 37 rfl (by decide) (fun c => ?_) (fun c => ?_)
  · first | exact c (by decide) | exact absurd c (by decide)
  refine mm_blk (pc' := 18) ok_Md_comeTo 3 _ _ _ rfl ?_
  refine mm_ic_ge ok_Md_comeTo 25 rfl (by decide) (fun c => ?_) (fun c => ?_)
  · first | exact c (by decide) | exact absurd c (by decide)
  refine mm_blk (pc' := 27) ok_Md_comeTo 3 _ _ _ rfl ?_
  refine mm_cVE ok_Md_comeTo (As := [.int 1, .int 0]) rfl k_Md_comeTo_127 (mp_0 w) rfl rfl rfl (Nat.le_of_ble_eq_true rfl) (c_tk w (tk_good g 1 0) 1 0) ?_
  generalize (m_tick nd 1 0 (m_tk nd 1 0 t)).1 = gg
  refine mm_blk (pc' := 10) ok_Md_comeTo 3 _ _ _ rfl ?_
  refine mm_V_pick (L' := [(0, .ref (K 0)), (2, .int 2)]) [0, 1] rfl ?_
  refine mm_blk (pc' := 12) ok_Md_comeTo 2 _ _ _ rfl ?_
  refine mm_ic_ge ok_Md_comeTo 37 rfl (by decide) (fun c => ?_) (fun c => ?_)
  · first | exact c (by decide) | exact absurd c (by decide)
  refine mm_blk (pc' := 18) ok_Md_comeTo 3 _ _ _ rfl ?_
  refine mm_ic_ge ok_Md_comeTo 25 rfl (by decide) (fun c => ?_) (fun c => ?_)
  rotate_left
  · first | exact c (by decide) | exact absurd c (by decide)
  refine mm_blk (pc' := 27) ok_Md_comeTo 2 _ _ _ rfl ?_
  refine mm_cVE ok_Md_comeTo (As := [.int 0, .int 0]) rfl k_Md_comeTo_127 (mp_0 w) rfl rfl rfl (Nat.le_of_ble_eq_true rfl) (c_tk w (tk_good (tk_good g 1 0) 1 0) 0 0) ?_
  generalize (m_tick nd 0 0 (m_tk nd 1 0 (m_tk nd 1 0 t))).1 = gg
  refine mm_blk (pc' := 10) ok_Md_comeTo 3 _ _ _ rfl ?_
  refine mm_V_pick (L' := [(0, .ref (K 0)), (2, .int 3)]) [0, 1] rfl ?_
  refine mm_blk (pc' := 12) ok_Md_comeTo 2 _ _ _ rfl ?_
  refine mm_ic_ge ok_Md_comeTo 37 rfl (by decide) (fun c => ?_) (fun c => ?_)
  · first | exact c (by decide) | exact absurd c (by decide)
  refine mm_blk (pc' := 18) ok_Md_comeTo 3 _ _ _ rfl ?_
  refine mm_ic_ge ok_Md_comeTo 25 rfl (by decide) (fun c => ?_) (fun c => ?_)
  rotate_left
  · first | exact c (by decide) | exact absurd c (by decide)
  refine mm_blk (pc' := 27) ok_Md_comeTo 2 _ _ _ rfl ?_
  refine mm_cVE ok_Md_comeTo (As := [.int 0, .int 0]) rfl k_Md_comeTo_127 (mp_0 w) rfl rfl rfl (Nat.le_of_ble_eq_true rfl) (c_tk w (tk_good (tk_good (tk_good g 1 0) 1 0) 0 0) 0 0) ?_
  generalize (m_tick nd 0 0 (m_tk nd 0 0 (m_tk nd 1 0 (m_tk nd 1 0 t)))).1 = gg
  refine mm_blk (pc' := 10) ok_Md_comeTo 3 _ _ _ rfl ?_
  refine mm_V_pick (L' := [(0, .ref (K 0)), (2, .int 4)]) [0, 1] rfl ?_
  refine mm_blk (pc' := 12) ok_Md_comeTo 2 _ _ _ rfl ?_
  refine mm_ic_ge ok_Md_comeTo 37 rfl (by decide) (fun c => ?_) (fun c => ?_)
  rotate_left
  · first | exact c (by decide) | exact absurd c (by decide)
  exact mm_vret ok_Md_comeTo rfl rfl ⟨rfl, rfl⟩
set_option maxHeartbeats 1000000 in
theorem c_Md_leave (w : mm_inj mdom K) (g : m_good nd nn t) : mm_C G M_Md_leave [.ref (K 0)] (MP K t h) 0 0 (mm_E none (MP K (m_lv nd t) h)) := by
  refine mm_C_of (by decide +kernel) rfl (Nat.le_of_ble_eq_true rfl) rfl ?_
  refine mm_blk (pc' := 2) ok_Md_leave 2 _ _ _ rfl ?_
  skip
  refine mm_blk (pc' := 4) ok_Md_leave 2 _ _ _ rfl ?_
  refine mm_ic_ge ok_Md_leave 28 rfl (by decide) (fun c => ?_) (fun c => ?_)
  · first | exact c (by decide) | exact absurd c (by decide)
  refine mm_blk (pc' := 9) ok_Md_leave 2 _ _ _ rfl ?_
  refine mm_if_ne ok_Md_leave 16 rfl (by decide) (fun c => ?_) (fun c => ?_)
  · first | exact c (by decide) | exact absurd c (by decide)
  refine mm_blk (pc' := 18) ok_Md_leave 3 _ _ _ rfl ?_
  refine mm_cVE ok_Md_leave (As := [.int 1, .int 0]) rfl k_Md_leave_127 (mp_0 w) rfl rfl rfl (Nat.le_of_ble_eq_true rfl) (c_tk w g 1 0) ?_
  generalize (m_tick nd 1 0 t).1 = gg
  refine mm_blk (pc' := 2) ok_Md_leave 3 _ _ _ rfl ?_
  refine mm_V_pick (L' := [(0, .ref (K 0)), (1, .int 1)]) [0, 1] rfl ?_
  refine mm_blk (pc' := 4) ok_Md_leave 2 _ _ _ rfl ?_
  refine mm_ic_ge ok_Md_leave 28 rfl (by decide) (fun c => ?_) (fun c => ?_)
  · first | exact c (by decide) | exact absurd c (by decide)
  refine mm_blk (pc' := 9) ok_Md_leave 2 _ _ _ rfl ?_
  refine mm_if_ne ok_Md_leave 16 rfl (by decide) (fun c => ?_) (fun c => ?_)
  rotate_left
  · first | exact c (by decide) | exact absurd c (by decide)
  refine mm_blk (pc' := 18) ok_Md_leave 2 _ _ _ rfl ?_
  refine mm_cVE ok_Md_leave (As := [.int 0, .int 0]) rfl k_Md_leave_127 (mp_0 w) rfl rfl rfl (Nat.le_of_ble_eq_true rfl) (c_tk w (tk_good g 1 0) 0 0) ?_
  generalize (m_tick nd 0 0 (m_tk nd 1 0 t)).1 = gg
  refine mm_blk (pc' := 2) ok_Md_leave 3 _ _ _ rfl ?_
  refine mm_V_pick (L' := [(0, .ref (K 0)), (1, .int 2)]) [0, 1] rfl ?_
  refine mm_blk (pc' := 4) ok_Md_leave 2 _ _ _ rfl ?_
  refine mm_ic_ge ok_Md_leave 28 rfl (by decide) (fun c => ?_) (fun c => ?_)
  rotate_left
  · first | exact c (by decide) | exact absurd c (by decide)
  exact mm_vret ok_Md_leave rfl rfl ⟨rfl, rfl⟩
set_option maxHeartbeats 1000000 in
theorem c_Md_clock_x (w : mm_inj mdom K) (e : t 0 1 = 0) {a b : Int32} : mm_C G M_Md_clock [.ref (K 0), .int a, .int b] (MP K t h) 0 0 (mm_E (some (.int 0)) (MP K (m_s t 0 0 1) h)) := by
  refine mm_C_of (by decide +kernel) rfl (Nat.le_of_ble_eq_true rfl) rfl ?_
  refine mm_blk (pc' := 2) ok_Md_clock 2 _ _ _ rfl ?_
  refine mm_getf ok_Md_clock (mp_0 w) rfl f_Md_66 rfl ?_
  refine mm_if_ne ok_Md_clock 12 rfl (by decide) (fun c => ?_) (fun c => ?_)
  · exact absurd e c
  refine mm_blk (pc' := 13) ok_Md_clock 2 _ _ _ rfl ?_
  refine mm_putf ok_Md_clock (mp_0 w) rfl f_Md_62 (Or.inl rfl) (mm_fit_I _) ?_
  refine mm_V_heap (mu_0 w 0 _) ?_
  refine mm_blk (pc' := 17) ok_Md_clock 1 _ _ _ rfl ?_
  refine mm_getf ok_Md_clock (mp_0 w) rfl f_Md_62 rfl ?_
  refine mm_if_ne ok_Md_clock 45 rfl (by decide) (fun c => ?_) (fun c => ?_)
  rotate_left
  · exact absurd (show (1 : Int32) = 0 from c) (by decide)
  refine mm_blk (pc' := 46) ok_Md_clock 1 _ _ _ rfl ?_
  exact mm_zret ok_Md_clock rfl rfl rfl ⟨rfl, rfl⟩
set_option maxHeartbeats 1000000 in
theorem c_Md_clock_r (w : mm_inj mdom K) (g : m_good nd nn t) (hn : 0 < nd) (a b : Int32) : mm_C G M_Md_clock [.ref (K 0), .int a, .int b] (MP K t h) 0 0 (mm_E (some (.int (if (m_tick nd a (if b = 0 then 0 else 1) (m_s t 0 0 0)).1 = 1 then 1 else 0))) (MP K (m_tk nd a (if b = 0 then 0 else 1) (m_s t 0 0 0)) h)) := by
  have h4 := g.1.1
  have e : ¬ t 0 1 = 0 := by rw [g.1.2.2.1]; exact nI_ne0 hn (by omega)
  have g0 := good_s0 g 0
  refine mm_C_of (by decide +kernel) rfl (Nat.le_of_ble_eq_true rfl) rfl ?_
  refine mm_blk (pc' := 2) ok_Md_clock 2 _ _ _ rfl ?_
  refine mm_getf ok_Md_clock (mp_0 w) rfl f_Md_66 rfl ?_
  refine mm_if_ne ok_Md_clock 12 rfl (by decide) (fun c => ?_) (fun c => ?_)
  rotate_left
  · exact absurd c e
  refine mm_blk (pc' := 13) ok_Md_clock 1 _ _ _ rfl ?_
  refine mm_putf ok_Md_clock (mp_0 w) rfl f_Md_62 (Or.inl rfl) (mm_fit_I _) ?_
  refine mm_V_heap (mu_0 w 0 _) ?_
  obtain ⟨t1, ht1⟩ : ∃ t1, t1 = m_s t 0 0 0 := ⟨_, rfl⟩
  have hv : t1 0 0 = 0 := by rw [ht1]; rfl
  rw [← ht1] at g0 ⊢
  refine mm_blk (pc' := 17) ok_Md_clock 1 _ _ _ rfl ?_
  refine mm_getf ok_Md_clock (mp_0 w) rfl f_Md_62 rfl ?_
  refine mm_if_ne ok_Md_clock 45 rfl (by decide) (fun c => ?_) (fun c => ?_)
  · exact absurd hv c
  refine mm_blk (pc' := 26) ok_Md_clock 3 _ _ _ rfl ?_
  refine mm_ti_eq ok_Md_clock 33 rfl (by decide) rfl rfl rfl (by decide) ?_
  refine mm_cVE ok_Md_clock (As := [.int a, .int (if b = 0 then 0 else 1)]) rfl k_Md_clock_127 (mp_0 w) rfl rfl rfl (Nat.le_of_ble_eq_true rfl) (c_tk w g0 a (if b = 0 then 0 else 1)) ?_
  refine mm_blk (pc' := 38) ok_Md_clock 1 _ _ _ rfl ?_
  refine mm_tc_ne ok_Md_clock 45 rfl (by decide) rfl rfl rfl (by decide) ?_
  exact mm_zret ok_Md_clock rfl rfl mm_nb ⟨rfl, rfl⟩
set_option maxHeartbeats 1000000 in
theorem c_Md_state (w : mm_inj mdom K) : mm_C G M_Md_state [.ref (K 0)] (MP K t h) 0 0 (mm_E (some (.int (t 0 19))) (MP K (m_s t 0 0 0) h)) := by
  refine mm_C_of (by decide +kernel) rfl (Nat.le_of_ble_eq_true rfl) rfl ?_
  refine mm_blk (pc' := 2) ok_Md_state 2 _ _ _ rfl ?_
  refine mm_putf ok_Md_state (mp_0 w) rfl f_Md_62 (Or.inl rfl) (mm_fit_I _) ?_
  refine mm_V_heap (mu_0 w 0 _) ?_
  refine mm_blk (pc' := 6) ok_Md_state 1 _ _ _ rfl ?_
  refine mm_getf ok_Md_state (mp_0 w) rfl f_Md_69 rfl ?_
  exact mm_iret ok_Md_state rfl rfl ⟨rfl, rfl⟩
set_option maxHeartbeats 1000000 in
theorem c_Md_clocks (w : mm_inj mdom K) : mm_C G M_Md_clocks [.ref (K 0)] (MP K t h) 0 0 (mm_E (some (.int (t 0 20))) (MP K (m_s t 0 0 0) h)) := by
  refine mm_C_of (by decide +kernel) rfl (Nat.le_of_ble_eq_true rfl) rfl ?_
  refine mm_blk (pc' := 2) ok_Md_clocks 2 _ _ _ rfl ?_
  refine mm_putf ok_Md_clocks (mp_0 w) rfl f_Md_62 (Or.inl rfl) (mm_fit_I _) ?_
  refine mm_V_heap (mu_0 w 0 _) ?_
  refine mm_blk (pc' := 6) ok_Md_clocks 1 _ _ _ rfl ?_
  refine mm_getf ok_Md_clocks (mp_0 w) rfl f_Md_72 rfl ?_
  exact mm_iret ok_Md_clocks rfl rfl ⟨rfl, rfl⟩
set_option maxHeartbeats 1000000 in
theorem v_Md_saw_x (w : mm_inj mdom K) (ok : m_ok nd nn t) {x : Int32} (hx : t 0 23 = 0 ∨ ¬ inR x nn) : mm_V G M_Md_saw 5 [(0, .ref (K 0)), (1, .int x)] [] (MP K t h) 0 0 (mm_E (some (.int (0))) (MP K (m_s t 0 0 1) h)) := by
  refine mm_blk (pc' := 6) ok_Md_saw 1 _ _ _ rfl ?_
  refine mm_getf ok_Md_saw (mp_0 w) rfl f_Md_78 rfl ?_
  refine mm_if_eq ok_Md_saw 23 rfl (by decide) (fun c9 => ?_) (fun c9 => ?_)
  · -- 23 t
    refine mm_blk (pc' := 25) ok_Md_saw 2 _ _ _ rfl ?_
    refine mm_cVE ok_Md_saw (As := [.int 1]) rfl k_Md_saw_140 (mp_0 w) rfl rfl rfl (Nat.le_of_ble_eq_true rfl) (c_Md_fail w 1) ?_
    refine mm_blk (pc' := 37) ok_Md_saw 1 _ _ _ rfl ?_
    exact mm_iret ok_Md_saw rfl rfl ⟨rfl, rfl⟩
  · -- 12 f
    refine mm_blk (pc' := 14) ok_Md_saw 2 _ _ _ rfl ?_
    refine mm_getf ok_Md_saw (mp_0 w) rfl f_Md_89 rfl ?_
    rw [ok.2.2.2.1]
    refine mm_cSE ok_Md_saw (As := [.int x, .int (nI nn)]) rfl k_Md_saw_82 rfl (Nat.le_of_ble_eq_true rfl) (c_Md_out1 (out_of (by have := ok.2.1; omega) (hx.resolve_left c9))) ?_
    refine mm_if_eq ok_Md_saw 31 rfl (by decide) (fun c => ?_) (fun c => ?_)
    · exact absurd c (by decide)
    refine mm_blk (pc' := 25) ok_Md_saw 2 _ _ _ rfl ?_
    refine mm_cVE ok_Md_saw (As := [.int 1]) rfl k_Md_saw_140 (mp_0 w) rfl rfl rfl (Nat.le_of_ble_eq_true rfl) (c_Md_fail w 1) ?_
    refine mm_blk (pc' := 37) ok_Md_saw 1 _ _ _ rfl ?_
    exact mm_iret ok_Md_saw rfl rfl ⟨rfl, rfl⟩
set_option maxHeartbeats 1000000 in
theorem v_Md_saw_r (w : mm_inj mdom K) (ok : m_ok nd nn t) {j : Nat} (ht : ¬ t 0 23 = 0) (hj : j < nn) : mm_V G M_Md_saw 5 [(0, .ref (K 0)), (1, .int (nI j))] [] (MP K t h) 0 0 (mm_E (some (.int (t 18 j))) (MP K (t) h)) := by
  have h8 := ok.2.1
  refine mm_blk (pc' := 6) ok_Md_saw 1 _ _ _ rfl ?_
  refine mm_getf ok_Md_saw (mp_0 w) rfl f_Md_78 rfl ?_
  refine mm_if_eq ok_Md_saw 23 rfl (by decide) (fun c => ?_) (fun c => ?_)
  · exact absurd c ht
  refine mm_blk (pc' := 14) ok_Md_saw 2 _ _ _ rfl ?_
  refine mm_getf ok_Md_saw (mp_0 w) rfl f_Md_89 rfl ?_
  rw [ok.2.2.2.1]
  refine mm_cSE ok_Md_saw (As := [.int (nI j), .int (nI nn)]) rfl k_Md_saw_82 rfl (Nat.le_of_ble_eq_true rfl) (c_Md_outN hj (by have := ok.2.1; omega)) ?_
  refine mm_if_eq ok_Md_saw 31 rfl (by decide) (fun c => ?_) (fun c => ?_)
  rotate_left
  · exact absurd rfl c
  refine mm_blk (pc' := 32) ok_Md_saw 1 _ _ _ rfl ?_
  refine mm_getf ok_Md_saw (mp_0 w) rfl f_Md_56 rfl ?_
  refine mm_blk (pc' := 36) ok_Md_saw 1 _ _ _ rfl ?_
  refine mm_iald (j := j) ok_Md_saw (mp_18 w) rfl rfl (by omega) (oIs_get (by omega) _) ?_
  exact mm_iret ok_Md_saw rfl rfl ⟨rfl, rfl⟩
set_option maxHeartbeats 1000000 in
theorem v_Md_found_x (w : mm_inj mdom K) {x : Int32} (hx : x < 0 ∨ ¬ x < t 0 21) : mm_V G M_Md_found 5 [(0, .ref (K 0)), (1, .int x)] [] (MP K t h) 0 0 (mm_E (some (.int (0))) (MP K (m_s t 0 0 1) h)) := by
  refine mm_blk (pc' := 7) ok_Md_found 2 _ _ _ rfl ?_
  refine mm_getf ok_Md_found (mp_0 w) rfl f_Md_75 rfl ?_
  refine mm_cSE ok_Md_found (As := [.int x, .int (t 0 21)]) rfl k_Md_found_82 rfl (Nat.le_of_ble_eq_true rfl) (c_Md_out1 hx) ?_
  refine mm_if_eq ok_Md_found 24 rfl (by decide) (fun c => ?_) (fun c => ?_)
  · exact absurd c (by decide)
  refine mm_blk (pc' := 18) ok_Md_found 2 _ _ _ rfl ?_
  refine mm_cVE ok_Md_found (As := [.int 1]) rfl k_Md_found_140 (mp_0 w) rfl rfl rfl (Nat.le_of_ble_eq_true rfl) (c_Md_fail w 1) ?_
  refine mm_blk (pc' := 37) ok_Md_found 1 _ _ _ rfl ?_
  exact mm_iret ok_Md_found rfl rfl ⟨rfl, rfl⟩
set_option maxHeartbeats 1000000 in
theorem v_Md_found_r (w : mm_inj mdom K) {j n : Nat} (hn : t 0 21 = nI n) (hj : j < n) (h4 : n ≤ 4) : mm_V G M_Md_found 5 [(0, .ref (K 0)), (1, .int (nI j))] [] (MP K t h) 0 0 (mm_E (some (.int (t 22 (n - 1 - j)))) (MP K (t) h)) := by
  refine mm_blk (pc' := 7) ok_Md_found 2 _ _ _ rfl ?_
  refine mm_getf ok_Md_found (mp_0 w) rfl f_Md_75 rfl ?_
  rw [hn]
  refine mm_cSE ok_Md_found (As := [.int (nI j), .int (nI n)]) rfl k_Md_found_82 rfl (Nat.le_of_ble_eq_true rfl) (c_Md_outN hj (by omega)) ?_
  refine mm_if_eq ok_Md_found 24 rfl (by decide) (fun c => ?_) (fun c => ?_)
  rotate_left
  · exact absurd rfl c
  refine mm_blk (pc' := 25) ok_Md_found 1 _ _ _ rfl ?_
  refine mm_getf ok_Md_found (mp_0 w) rfl f_Md_59 rfl ?_
  refine mm_blk (pc' := 29) ok_Md_found 1 _ _ _ rfl ?_
  refine mm_getf ok_Md_found (mp_0 w) rfl f_Md_75 rfl ?_
  refine mm_blk (pc' := 36) ok_Md_found 4 _ _ _ rfl ?_
  rw [hn]
  refine mm_iald (j := n - 1 - j) ok_Md_found (mp_22 w) rfl (by rw [show (1 : Int32) = nI 1 from rfl, pk_sub (by omega), pk_sub (by omega)]) (by omega) (oIs_get (by omega) _) ?_
  exact mm_iret ok_Md_found rfl rfl ⟨rfl, rfl⟩
set_option maxHeartbeats 1000000 in
theorem v_Md_look_x (w : mm_inj mdom K) (ok : m_ok nd nn t) {x k : Int32} (hx : ¬ inR x nd) : mm_V G M_Md_look 5 [(0, .ref (K 0)), (1, .int x), (2, .int k)] [] (MP K t h) 0 0 (mm_E (some (.int (0))) (MP K (m_s t 0 0 1) h)) := by
  refine mm_blk (pc' := 7) ok_Md_look 2 _ _ _ rfl ?_
  refine mm_getf ok_Md_look (mp_0 w) rfl f_Md_66 rfl ?_
  rw [ok.2.2.1]
  refine mm_cSE ok_Md_look (As := [.int x, .int (nI nd)]) rfl k_Md_look_82 rfl (Nat.le_of_ble_eq_true rfl) (c_Md_out1 (out_of (by have := ok.1; omega) hx)) ?_
  refine mm_if_ne ok_Md_look 24 rfl (by decide) (fun c => ?_) (fun c => ?_)
  rotate_left
  · exact absurd c (by decide)
  refine mm_blk (pc' := 26) ok_Md_look 2 _ _ _ rfl ?_
  refine mm_cVE ok_Md_look (As := [.int 1]) rfl k_Md_look_140 (mp_0 w) rfl rfl rfl (Nat.le_of_ble_eq_true rfl) (c_Md_fail w 1) ?_
  exact mm_iret ok_Md_look rfl rfl ⟨rfl, rfl⟩
set_option maxHeartbeats 1000000 in
theorem v_Md_look_y (w : mm_inj mdom K) (ok : m_ok nd nn t) {d : Nat} {k : Int32} (hd : d < nd) (hk : ¬ inR k 4) : mm_V G M_Md_look 5 [(0, .ref (K 0)), (1, .int (nI d)), (2, .int k)] [] (MP K t h) 0 0 (mm_E (some (.int (0))) (MP K (m_s t 0 0 1) h)) := by
  refine mm_blk (pc' := 7) ok_Md_look 2 _ _ _ rfl ?_
  refine mm_getf ok_Md_look (mp_0 w) rfl f_Md_66 rfl ?_
  rw [ok.2.2.1]
  refine mm_cSE ok_Md_look (As := [.int (nI d), .int (nI nd)]) rfl k_Md_look_82 rfl (Nat.le_of_ble_eq_true rfl) (c_Md_outN hd (by have := ok.1; omega)) ?_
  refine mm_if_ne ok_Md_look 24 rfl (by decide) (fun c => ?_) (fun c => ?_)
  · exact absurd rfl c
  refine mm_blk (pc' := 18) ok_Md_look 2 _ _ _ rfl ?_
  refine mm_cSE ok_Md_look (As := [.int k, .int 4]) rfl k_Md_look_82 rfl (Nat.le_of_ble_eq_true rfl) (c_Md_out1 (out_of (n := 4) (by decide) hk)) ?_
  refine mm_if_eq ok_Md_look 30 rfl (by decide) (fun c => ?_) (fun c => ?_)
  · exact absurd c (by decide)
  refine mm_blk (pc' := 26) ok_Md_look 2 _ _ _ rfl ?_
  refine mm_cVE ok_Md_look (As := [.int 1]) rfl k_Md_look_140 (mp_0 w) rfl rfl rfl (Nat.le_of_ble_eq_true rfl) (c_Md_fail w 1) ?_
  exact mm_iret ok_Md_look rfl rfl ⟨rfl, rfl⟩
set_option maxHeartbeats 1000000 in
theorem v_Md_look_0 (w : mm_inj mdom K) (ok : m_ok nd nn t) {d : Nat} (hd : d < nd) : mm_V G M_Md_look 5 [(0, .ref (K 0)), (1, .int (nI d)), (2, .int (nI 0))] [] (MP K t h) 0 0 (mm_E (some (.int (t 5 d))) (MP K (t) h)) := by
  have h4 := ok.1
  refine mm_blk (pc' := 7) ok_Md_look 2 _ _ _ rfl ?_
  refine mm_getf ok_Md_look (mp_0 w) rfl f_Md_66 rfl ?_
  rw [ok.2.2.1]
  refine mm_cSE ok_Md_look (As := [.int (nI d), .int (nI nd)]) rfl k_Md_look_82 rfl (Nat.le_of_ble_eq_true rfl) (c_Md_outN hd (by have := ok.1; omega)) ?_
  refine mm_if_ne ok_Md_look 24 rfl (by decide) (fun c => ?_) (fun c => ?_)
  · exact absurd rfl c
  refine mm_blk (pc' := 18) ok_Md_look 2 _ _ _ rfl ?_
  refine mm_cSE ok_Md_look (As := [.int (nI 0), .int 4]) rfl k_Md_look_82 rfl (Nat.le_of_ble_eq_true rfl) (c_Md_outN (a := 0) (b := 4) (by decide) (by decide)) ?_
  refine mm_if_eq ok_Md_look 30 rfl (by decide) (fun c => ?_) (fun c => ?_)
  rotate_left
  · exact absurd rfl c
  refine mm_blk (pc' := 32) ok_Md_look 2 _ _ _ rfl ?_
  refine mm_ic_ge ok_Md_look 54 rfl (by decide) (fun c => ?_) (fun c => ?_)
  · first | exact c (by decide) | exact absurd c (by decide)
  refine mm_blk (pc' := 36) ok_Md_look 1 _ _ _ rfl ?_
  refine mm_if_ne ok_Md_look 48 rfl (by decide) (fun c => ?_) (fun c => ?_)
  · first | exact c (by decide) | exact absurd c (by decide)
  refine mm_blk (pc' := 40) ok_Md_look 1 _ _ _ rfl ?_
  refine mm_getf ok_Md_look (mp_0 w) rfl f_Md_19 rfl ?_
  refine mm_blk (pc' := 44) ok_Md_look 1 _ _ _ rfl ?_
  refine mm_iald (j := d) ok_Md_look (mp_5 w) rfl rfl (by omega) (oIs_get (by omega) _) ?_
  refine mm_blk (pc' := 53) ok_Md_look 1 _ _ _ rfl ?_
  exact mm_iret ok_Md_look rfl rfl ⟨rfl, rfl⟩
set_option maxHeartbeats 1000000 in
theorem v_Md_look_1 (w : mm_inj mdom K) (ok : m_ok nd nn t) {d : Nat} (hd : d < nd) : mm_V G M_Md_look 5 [(0, .ref (K 0)), (1, .int (nI d)), (2, .int (nI 1))] [] (MP K t h) 0 0 (mm_E (some (.int (m_num t d))) (MP K (t) h)) := by
  have h4 := ok.1
  refine mm_blk (pc' := 7) ok_Md_look 2 _ _ _ rfl ?_
  refine mm_getf ok_Md_look (mp_0 w) rfl f_Md_66 rfl ?_
  rw [ok.2.2.1]
  refine mm_cSE ok_Md_look (As := [.int (nI d), .int (nI nd)]) rfl k_Md_look_82 rfl (Nat.le_of_ble_eq_true rfl) (c_Md_outN hd (by have := ok.1; omega)) ?_
  refine mm_if_ne ok_Md_look 24 rfl (by decide) (fun c => ?_) (fun c => ?_)
  · exact absurd rfl c
  refine mm_blk (pc' := 18) ok_Md_look 2 _ _ _ rfl ?_
  refine mm_cSE ok_Md_look (As := [.int (nI 1), .int 4]) rfl k_Md_look_82 rfl (Nat.le_of_ble_eq_true rfl) (c_Md_outN (a := 1) (b := 4) (by decide) (by decide)) ?_
  refine mm_if_eq ok_Md_look 30 rfl (by decide) (fun c => ?_) (fun c => ?_)
  rotate_left
  · exact absurd rfl c
  refine mm_blk (pc' := 32) ok_Md_look 2 _ _ _ rfl ?_
  refine mm_ic_ge ok_Md_look 54 rfl (by decide) (fun c => ?_) (fun c => ?_)
  · first | exact c (by decide) | exact absurd c (by decide)
  refine mm_blk (pc' := 36) ok_Md_look 1 _ _ _ rfl ?_
  refine mm_if_ne ok_Md_look 48 rfl (by decide) (fun c => ?_) (fun c => ?_)
  rotate_left
  · first | exact c (by decide) | exact absurd c (by decide)
  refine mm_blk (pc' := 50) ok_Md_look 2 _ _ _ rfl ?_
  refine mm_cVE ok_Md_look (As := [.int (nI d)]) rfl k_Md_look_120 (mp_0 w) rfl rfl rfl (Nat.le_of_ble_eq_true rfl) (c_Md_numberIn w ok hd) ?_
  exact mm_iret ok_Md_look rfl rfl ⟨rfl, rfl⟩
set_option maxHeartbeats 1000000 in
theorem l_Md_look2 (w : mm_inj mdom K) (ok : m_ok nd nn t) {d : Nat} (hd : d < nd) : ∀ (c : Nat) (v : Int32), c ≤ m_cl t d → mm_V G M_Md_look 66 [(0, .ref (K 0)), (1, .int (nI d)), (2, .int (nI 2)), (3, .int v), (4, .int (nI c - 1))] [] (MP K t h) 0 0 (mm_E (some (.int (dwn (fun c v => 2 * v + t 11 (6 * d + c)) c v))) (MP K t h)) := by
  have h4 := ok.1
  have h6 := (ok.2.2.2.2.1 d hd).2.1
  intro n
  induction n with
  | zero =>
    intro v hc
    refine mm_blk (pc' := 68) ok_Md_look 1 _ _ _ rfl ?_
    refine mm_if_lt ok_Md_look 113 rfl (by decide) (fun c => ?_) (fun c => ?_)
    rotate_left
    · first | exact c (by decide) | exact absurd c (by decide)
    refine mm_blk (pc' := 114) ok_Md_look 1 _ _ _ rfl ?_
    exact mm_iret ok_Md_look rfl rfl ⟨rfl, rfl⟩
  | succ n ih =>
    intro v hc
    rw [nI_pred]
    refine mm_blk (pc' := 68) ok_Md_look 1 _ _ _ rfl ?_
    refine mm_if_lt ok_Md_look 113 rfl (by decide) (fun c => ?_) (fun c => ?_)
    · exact absurd c (nI_pos (by omega))
    refine mm_blk (pc' := 76) ok_Md_look 5 _ _ _ rfl ?_
    refine mm_ic_ne ok_Md_look 94 rfl (by decide) (fun c => ?_) (fun c => ?_)
    · first | exact c (by decide) | exact absurd c (by decide)
    refine mm_blk (pc' := 80) ok_Md_look 1 _ _ _ rfl ?_
    refine mm_getf ok_Md_look (mp_0 w) rfl f_Md_38 rfl ?_
    refine mm_blk (pc' := 90) ok_Md_look 5 _ _ _ rfl ?_
    refine mm_iald (j := 6 * d + n) ok_Md_look (mp_11 w) rfl (ix6 _ _) (by omega) (oIs_get (by omega) _) ?_
    refine mm_blk (pc' := 66) ok_Md_look 5 _ _ _ rfl ?_
    rw [show nI n + (-1) = nI n - 1 from (Int32.sub_eq_add_neg _ _).symm]
    exact ih _ (by omega)
set_option maxHeartbeats 1000000 in
theorem v_Md_look_2 (w : mm_inj mdom K) (ok : m_ok nd nn t) {d : Nat} (hd : d < nd) : mm_V G M_Md_look 5 [(0, .ref (K 0)), (1, .int (nI d)), (2, .int (nI 2))] [] (MP K t h) 0 0 (mm_E (some (.int (dwn (fun c v => 2 * v + t 11 (6 * d + c)) (m_cl t d) 0))) (MP K (t) h)) := by
  have h4 := ok.1
  refine mm_blk (pc' := 7) ok_Md_look 2 _ _ _ rfl ?_
  refine mm_getf ok_Md_look (mp_0 w) rfl f_Md_66 rfl ?_
  rw [ok.2.2.1]
  refine mm_cSE ok_Md_look (As := [.int (nI d), .int (nI nd)]) rfl k_Md_look_82 rfl (Nat.le_of_ble_eq_true rfl) (c_Md_outN hd (by have := ok.1; omega)) ?_
  refine mm_if_ne ok_Md_look 24 rfl (by decide) (fun c => ?_) (fun c => ?_)
  · exact absurd rfl c
  refine mm_blk (pc' := 18) ok_Md_look 2 _ _ _ rfl ?_
  refine mm_cSE ok_Md_look (As := [.int (nI 2), .int 4]) rfl k_Md_look_82 rfl (Nat.le_of_ble_eq_true rfl) (c_Md_outN (a := 2) (b := 4) (by decide) (by decide)) ?_
  refine mm_if_eq ok_Md_look 30 rfl (by decide) (fun c => ?_) (fun c => ?_)
  rotate_left
  · exact absurd rfl c
  refine mm_blk (pc' := 32) ok_Md_look 2 _ _ _ rfl ?_
  refine mm_ic_ge ok_Md_look 54 rfl (by decide) (fun c => ?_) (fun c => ?_)
  rotate_left
  · first | exact c (by decide) | exact absurd c (by decide)
  refine mm_blk (pc' := 57) ok_Md_look 3 _ _ _ rfl ?_
  refine mm_getf ok_Md_look (mp_0 w) rfl f_Md_16 rfl ?_
  refine mm_blk (pc' := 61) ok_Md_look 1 _ _ _ rfl ?_
  refine mm_iald (j := d) ok_Md_look (mp_4 w) rfl rfl (by omega) (oIs_get (by omega) _) ?_
  rw [(ok.2.2.2.2.1 d hd).2.2]
  refine mm_blk (pc' := 66) ok_Md_look 3 _ _ _ rfl ?_
  exact l_Md_look2 w ok hd (m_cl t d) 0 (Nat.le_refl _)
set_option maxHeartbeats 1000000 in
theorem l_Md_look3 (w : mm_inj mdom K) (ok : m_ok nd nn t) {d : Nat} (hd : d < nd) : ∀ (c : Nat) (v : Int32), c ≤ m_cl t d → mm_V G M_Md_look 66 [(0, .ref (K 0)), (1, .int (nI d)), (2, .int (nI 3)), (3, .int v), (4, .int (nI c - 1))] [] (MP K t h) 0 0 (mm_E (some (.int (dwn (fun c v => 2 * v + m_sg t (6 * d + c)) c v))) (MP K t h)) := by
  have h4 := ok.1
  have h6 := (ok.2.2.2.2.1 d hd).2.1
  intro n
  induction n with
  | zero =>
    intro v hc
    refine mm_blk (pc' := 68) ok_Md_look 1 _ _ _ rfl ?_
    refine mm_if_lt ok_Md_look 113 rfl (by decide) (fun c => ?_) (fun c => ?_)
    rotate_left
    · first | exact c (by decide) | exact absurd c (by decide)
    refine mm_blk (pc' := 114) ok_Md_look 1 _ _ _ rfl ?_
    exact mm_iret ok_Md_look rfl rfl ⟨rfl, rfl⟩
  | succ n ih =>
    intro v hc
    rw [nI_pred]
    refine mm_blk (pc' := 68) ok_Md_look 1 _ _ _ rfl ?_
    refine mm_if_lt ok_Md_look 113 rfl (by decide) (fun c => ?_) (fun c => ?_)
    · exact absurd c (nI_pos (by omega))
    refine mm_blk (pc' := 76) ok_Md_look 5 _ _ _ rfl ?_
    refine mm_ic_ne ok_Md_look 94 rfl (by decide) (fun c => ?_) (fun c => ?_)
    rotate_left
    · first | exact c (by decide) | exact absurd c (by decide)
    refine mm_blk (pc' := 102) ok_Md_look 6 _ _ _ rfl ?_
    rw [ix6]
    refine mm_cVE ok_Md_look (As := [.int (nI (6 * d + n))]) rfl k_Md_look_107 (mp_0 w) rfl rfl rfl (Nat.le_of_ble_eq_true rfl) (c_Md_signal w ok (by omega) (ok.2.2.2.2.2.2.2.2 d n hd (by omega))) ?_
    refine mm_blk (pc' := 66) ok_Md_look 4 _ _ _ rfl ?_
    rw [show nI n + (-1) = nI n - 1 from (Int32.sub_eq_add_neg _ _).symm]
    exact ih _ (by omega)
set_option maxHeartbeats 1000000 in
theorem v_Md_look_3 (w : mm_inj mdom K) (ok : m_ok nd nn t) {d : Nat} (hd : d < nd) : mm_V G M_Md_look 5 [(0, .ref (K 0)), (1, .int (nI d)), (2, .int (nI 3))] [] (MP K t h) 0 0 (mm_E (some (.int (dwn (fun c v => 2 * v + m_sg t (6 * d + c)) (m_cl t d) 0))) (MP K (t) h)) := by
  have h4 := ok.1
  refine mm_blk (pc' := 7) ok_Md_look 2 _ _ _ rfl ?_
  refine mm_getf ok_Md_look (mp_0 w) rfl f_Md_66 rfl ?_
  rw [ok.2.2.1]
  refine mm_cSE ok_Md_look (As := [.int (nI d), .int (nI nd)]) rfl k_Md_look_82 rfl (Nat.le_of_ble_eq_true rfl) (c_Md_outN hd (by have := ok.1; omega)) ?_
  refine mm_if_ne ok_Md_look 24 rfl (by decide) (fun c => ?_) (fun c => ?_)
  · exact absurd rfl c
  refine mm_blk (pc' := 18) ok_Md_look 2 _ _ _ rfl ?_
  refine mm_cSE ok_Md_look (As := [.int (nI 3), .int 4]) rfl k_Md_look_82 rfl (Nat.le_of_ble_eq_true rfl) (c_Md_outN (a := 3) (b := 4) (by decide) (by decide)) ?_
  refine mm_if_eq ok_Md_look 30 rfl (by decide) (fun c => ?_) (fun c => ?_)
  rotate_left
  · exact absurd rfl c
  refine mm_blk (pc' := 32) ok_Md_look 2 _ _ _ rfl ?_
  refine mm_ic_ge ok_Md_look 54 rfl (by decide) (fun c => ?_) (fun c => ?_)
  rotate_left
  · first | exact c (by decide) | exact absurd c (by decide)
  refine mm_blk (pc' := 57) ok_Md_look 3 _ _ _ rfl ?_
  refine mm_getf ok_Md_look (mp_0 w) rfl f_Md_16 rfl ?_
  refine mm_blk (pc' := 61) ok_Md_look 1 _ _ _ rfl ?_
  refine mm_iald (j := d) ok_Md_look (mp_4 w) rfl rfl (by omega) (oIs_get (by omega) _) ?_
  rw [(ok.2.2.2.2.1 d hd).2.2]
  refine mm_blk (pc' := 66) ok_Md_look 3 _ _ _ rfl ?_
  exact l_Md_look3 w ok hd (m_cl t d) 0 (Nat.le_refl _)
set_option maxHeartbeats 1000000 in
theorem c_Md_saw_x (w : mm_inj mdom K) (ok : m_ok nd nn t) {x : Int32} (hx : t 0 23 = 0 ∨ ¬ inR x nn) : mm_C G M_Md_saw [.ref (K 0), .int x] (MP K t h) 0 0 (mm_E (some (.int (0))) (MP K (m_s (m_s t 0 0 0) 0 0 1) h)) := by
  refine mm_C_of (by decide +kernel) rfl (Nat.le_of_ble_eq_true rfl) rfl ?_
  refine mm_blk (pc' := 2) ok_Md_saw 2 _ _ _ rfl ?_
  refine mm_putf ok_Md_saw (mp_0 w) rfl f_Md_62 (Or.inl rfl) (mm_fit_I _) ?_
  refine mm_V_heap (mu_0 w 0 _) ?_
  exact v_Md_saw_x w (ok_s0 ok (by decide) (by decide) 0) hx
set_option maxHeartbeats 1000000 in
theorem c_Md_saw_r (w : mm_inj mdom K) (ok : m_ok nd nn t) {j : Nat} (ht : ¬ t 0 23 = 0) (hj : j < nn) : mm_C G M_Md_saw [.ref (K 0), .int (nI j)] (MP K t h) 0 0 (mm_E (some (.int (t 18 j))) (MP K (m_s t 0 0 0) h)) := by
  refine mm_C_of (by decide +kernel) rfl (Nat.le_of_ble_eq_true rfl) rfl ?_
  refine mm_blk (pc' := 2) ok_Md_saw 2 _ _ _ rfl ?_
  refine mm_putf ok_Md_saw (mp_0 w) rfl f_Md_62 (Or.inl rfl) (mm_fit_I _) ?_
  refine mm_V_heap (mu_0 w 0 _) ?_
  exact v_Md_saw_r w (ok_s0 ok (by decide) (by decide) 0) ht hj
set_option maxHeartbeats 1000000 in
theorem c_Md_found_x (w : mm_inj mdom K) {x : Int32} (hx : x < 0 ∨ ¬ x < t 0 21) : mm_C G M_Md_found [.ref (K 0), .int x] (MP K t h) 0 0 (mm_E (some (.int (0))) (MP K (m_s (m_s t 0 0 0) 0 0 1) h)) := by
  refine mm_C_of (by decide +kernel) rfl (Nat.le_of_ble_eq_true rfl) rfl ?_
  refine mm_blk (pc' := 2) ok_Md_found 2 _ _ _ rfl ?_
  refine mm_putf ok_Md_found (mp_0 w) rfl f_Md_62 (Or.inl rfl) (mm_fit_I _) ?_
  refine mm_V_heap (mu_0 w 0 _) ?_
  exact v_Md_found_x w (t := m_s t 0 0 0) hx
set_option maxHeartbeats 1000000 in
theorem c_Md_found_r (w : mm_inj mdom K) {j n : Nat} (hn : t 0 21 = nI n) (hj : j < n) (h4 : n ≤ 4) : mm_C G M_Md_found [.ref (K 0), .int (nI j)] (MP K t h) 0 0 (mm_E (some (.int (t 22 (n - 1 - j)))) (MP K (m_s t 0 0 0) h)) := by
  refine mm_C_of (by decide +kernel) rfl (Nat.le_of_ble_eq_true rfl) rfl ?_
  refine mm_blk (pc' := 2) ok_Md_found 2 _ _ _ rfl ?_
  refine mm_putf ok_Md_found (mp_0 w) rfl f_Md_62 (Or.inl rfl) (mm_fit_I _) ?_
  refine mm_V_heap (mu_0 w 0 _) ?_
  exact v_Md_found_r w (t := m_s t 0 0 0) hn hj h4
set_option maxHeartbeats 1000000 in
theorem c_Md_look_x (w : mm_inj mdom K) (ok : m_ok nd nn t) {x k : Int32} (hx : ¬ inR x nd) : mm_C G M_Md_look [.ref (K 0), .int x, .int k] (MP K t h) 0 0 (mm_E (some (.int (0))) (MP K (m_s (m_s t 0 0 0) 0 0 1) h)) := by
  refine mm_C_of (by decide +kernel) rfl (Nat.le_of_ble_eq_true rfl) rfl ?_
  refine mm_blk (pc' := 2) ok_Md_look 2 _ _ _ rfl ?_
  refine mm_putf ok_Md_look (mp_0 w) rfl f_Md_62 (Or.inl rfl) (mm_fit_I _) ?_
  refine mm_V_heap (mu_0 w 0 _) ?_
  exact v_Md_look_x w (ok_s0 ok (by decide) (by decide) 0) hx
set_option maxHeartbeats 1000000 in
theorem c_Md_look_y (w : mm_inj mdom K) (ok : m_ok nd nn t) {d : Nat} {k : Int32} (hd : d < nd) (hk : ¬ inR k 4) : mm_C G M_Md_look [.ref (K 0), .int (nI d), .int k] (MP K t h) 0 0 (mm_E (some (.int (0))) (MP K (m_s (m_s t 0 0 0) 0 0 1) h)) := by
  refine mm_C_of (by decide +kernel) rfl (Nat.le_of_ble_eq_true rfl) rfl ?_
  refine mm_blk (pc' := 2) ok_Md_look 2 _ _ _ rfl ?_
  refine mm_putf ok_Md_look (mp_0 w) rfl f_Md_62 (Or.inl rfl) (mm_fit_I _) ?_
  refine mm_V_heap (mu_0 w 0 _) ?_
  exact v_Md_look_y w (ok_s0 ok (by decide) (by decide) 0) hd hk
set_option maxHeartbeats 1000000 in
theorem c_Md_look_0 (w : mm_inj mdom K) (ok : m_ok nd nn t) {d : Nat} (hd : d < nd) : mm_C G M_Md_look [.ref (K 0), .int (nI d), .int (nI 0)] (MP K t h) 0 0 (mm_E (some (.int (t 5 d))) (MP K (m_s t 0 0 0) h)) := by
  refine mm_C_of (by decide +kernel) rfl (Nat.le_of_ble_eq_true rfl) rfl ?_
  refine mm_blk (pc' := 2) ok_Md_look 2 _ _ _ rfl ?_
  refine mm_putf ok_Md_look (mp_0 w) rfl f_Md_62 (Or.inl rfl) (mm_fit_I _) ?_
  refine mm_V_heap (mu_0 w 0 _) ?_
  exact v_Md_look_0 w (ok_s0 ok (by decide) (by decide) 0) hd
set_option maxHeartbeats 1000000 in
theorem c_Md_look_1 (w : mm_inj mdom K) (ok : m_ok nd nn t) {d : Nat} (hd : d < nd) : mm_C G M_Md_look [.ref (K 0), .int (nI d), .int (nI 1)] (MP K t h) 0 0 (mm_E (some (.int (m_num t d))) (MP K (m_s t 0 0 0) h)) := by
  refine mm_C_of (by decide +kernel) rfl (Nat.le_of_ble_eq_true rfl) rfl ?_
  refine mm_blk (pc' := 2) ok_Md_look 2 _ _ _ rfl ?_
  refine mm_putf ok_Md_look (mp_0 w) rfl f_Md_62 (Or.inl rfl) (mm_fit_I _) ?_
  refine mm_V_heap (mu_0 w 0 _) ?_
  exact v_Md_look_1 w (ok_s0 ok (by decide) (by decide) 0) hd
set_option maxHeartbeats 1000000 in
theorem c_Md_look_2 (w : mm_inj mdom K) (ok : m_ok nd nn t) {d : Nat} (hd : d < nd) : mm_C G M_Md_look [.ref (K 0), .int (nI d), .int (nI 2)] (MP K t h) 0 0 (mm_E (some (.int (dwn (fun c v => 2 * v + t 11 (6 * d + c)) (m_cl t d) 0))) (MP K (m_s t 0 0 0) h)) := by
  refine mm_C_of (by decide +kernel) rfl (Nat.le_of_ble_eq_true rfl) rfl ?_
  refine mm_blk (pc' := 2) ok_Md_look 2 _ _ _ rfl ?_
  refine mm_putf ok_Md_look (mp_0 w) rfl f_Md_62 (Or.inl rfl) (mm_fit_I _) ?_
  refine mm_V_heap (mu_0 w 0 _) ?_
  exact v_Md_look_2 w (ok_s0 ok (by decide) (by decide) 0) hd
set_option maxHeartbeats 1000000 in
theorem c_Md_look_3 (w : mm_inj mdom K) (ok : m_ok nd nn t) {d : Nat} (hd : d < nd) : mm_C G M_Md_look [.ref (K 0), .int (nI d), .int (nI 3)] (MP K t h) 0 0 (mm_E (some (.int (dwn (fun c v => 2 * v + m_sg t (6 * d + c)) (m_cl t d) 0))) (MP K (m_s t 0 0 0) h)) := by
  refine mm_C_of (by decide +kernel) rfl (Nat.le_of_ble_eq_true rfl) rfl ?_
  refine mm_blk (pc' := 2) ok_Md_look 2 _ _ _ rfl ?_
  refine mm_putf ok_Md_look (mp_0 w) rfl f_Md_62 (Or.inl rfl) (mm_fit_I _) ?_
  refine mm_V_heap (mu_0 w 0 _) ?_
  exact v_Md_look_3 w (ok_s0 ok (by decide) (by decide) 0) hd
set_option maxHeartbeats 1000000 in
theorem c_Md_value_x (w : mm_inj mdom K) (ok : m_ok nd nn t) {x : Int32} (hx : ¬ inR x nn) : mm_C G M_Md_value [.ref (K 0), .int x] (MP K t h) 0 0 (mm_E (some (.int 0)) (MP K (m_s t 0 0 1) h)) := by
  refine mm_C_of (by decide +kernel) rfl (Nat.le_of_ble_eq_true rfl) rfl ?_
  refine mm_blk (pc' := 3) ok_Md_value 3 _ _ _ rfl ?_
  refine mm_getf ok_Md_value (mp_0 w) rfl f_Md_89 rfl ?_
  rw [ok.2.2.2.1]
  refine mm_cSE ok_Md_value (As := [.int x, .int (nI nn)]) rfl k_Md_value_82 rfl (Nat.le_of_ble_eq_true rfl) (c_Md_out1 (out_of (by have := ok.2.1; omega) hx)) ?_
  refine mm_if_eq ok_Md_value 16 rfl (by decide) (fun c => ?_) (fun c => ?_)
  · exact absurd c (by decide)
  refine mm_blk (pc' := 17) ok_Md_value 2 _ _ _ rfl ?_
  refine mm_putf ok_Md_value (mp_0 w) rfl f_Md_62 (Or.inl rfl) (mm_fit_I _) ?_
  refine mm_V_heap (mu_0 w 0 _) ?_
  refine mm_blk (pc' := 21) ok_Md_value 1 _ _ _ rfl ?_
  refine mm_getf ok_Md_value (mp_0 w) rfl f_Md_62 rfl ?_
  refine mm_if_ne ok_Md_value 40 rfl (by decide) (fun c => ?_) (fun c => ?_)
  rotate_left
  · exact absurd (show (1 : Int32) = 0 from c) (by decide)
  refine mm_blk (pc' := 41) ok_Md_value 1 _ _ _ rfl ?_
  exact mm_zret ok_Md_value rfl rfl rfl ⟨rfl, rfl⟩
set_option maxHeartbeats 1000000 in
theorem c_Md_value_r (w : mm_inj mdom K) (ok : m_ok nd nn t) {j : Nat} (hj : j < nn) : mm_C G M_Md_value [.ref (K 0), .int (nI j)] (MP K t h) 0 0 (mm_E (some (.int (if m_val t j = 1 then 1 else 0))) (MP K (m_s t 0 0 0) h)) := by
  have h8 := ok.2.1
  refine mm_C_of (by decide +kernel) rfl (Nat.le_of_ble_eq_true rfl) rfl ?_
  refine mm_blk (pc' := 3) ok_Md_value 3 _ _ _ rfl ?_
  refine mm_getf ok_Md_value (mp_0 w) rfl f_Md_89 rfl ?_
  rw [ok.2.2.2.1]
  refine mm_cSE ok_Md_value (As := [.int (nI j), .int (nI nn)]) rfl k_Md_value_82 rfl (Nat.le_of_ble_eq_true rfl) (c_Md_outN hj (by omega)) ?_
  refine mm_if_eq ok_Md_value 16 rfl (by decide) (fun c => ?_) (fun c => ?_)
  rotate_left
  · exact absurd rfl c
  refine mm_blk (pc' := 17) ok_Md_value 1 _ _ _ rfl ?_
  refine mm_putf ok_Md_value (mp_0 w) rfl f_Md_62 (Or.inl rfl) (mm_fit_I _) ?_
  refine mm_V_heap (mu_0 w 0 _) ?_
  refine mm_blk (pc' := 21) ok_Md_value 1 _ _ _ rfl ?_
  refine mm_getf ok_Md_value (mp_0 w) rfl f_Md_62 rfl ?_
  refine mm_if_ne ok_Md_value 40 rfl (by decide) (fun c => ?_) (fun c => ?_)
  · exact absurd (show (0 : Int32) = 0 by decide) c
  refine mm_blk (pc' := 29) ok_Md_value 2 _ _ _ rfl ?_
  refine mm_cVE ok_Md_value (As := [.int (nI j)]) rfl k_Md_value_100 (mp_0 w) rfl rfl rfl (Nat.le_of_ble_eq_true rfl) (c_Md_valueOf (t := m_s t 0 0 0) w (ok_s0 ok (by decide) (by decide) 0) hj) ?_
  refine mm_blk (pc' := 33) ok_Md_value 1 _ _ _ rfl ?_
  refine mm_tc_ne ok_Md_value 40 rfl (by decide) rfl rfl rfl (by decide) ?_
  exact mm_zret ok_Md_value rfl rfl mm_nb ⟨rfl, rfl⟩
set_option maxHeartbeats 1000000 in
theorem c_Md_core_x (w : mm_inj mdom K) (ok : m_ok nd nn t) {x y one : Int32} (hx : ¬ ∃ d, d < nd ∧ x = nI d ∧ inR y (m_cl t d)) : mm_C G M_Md_core [.ref (K 0), .int x, .int y, .int one] (MP K t h) 0 0 (mm_E none (MP K (m_s t 0 0 1) h)) := by
  refine mm_C_of (by decide +kernel) rfl (Nat.le_of_ble_eq_true rfl) rfl ?_
  refine mm_blk (pc' := 4) ok_Md_core 4 _ _ _ rfl ?_
  refine mm_cVE ok_Md_core (As := [.int x, .int y]) rfl k_Md_core_86 (mp_0 w) rfl rfl rfl (Nat.le_of_ble_eq_true rfl) (c_Md_isCell0 w ok hx) ?_
  refine mm_if_eq ok_Md_core 28 rfl (by decide) (fun c => ?_) (fun c => ?_)
  rotate_left
  · exact absurd rfl c
  refine mm_blk (pc' := 29) ok_Md_core 1 _ _ _ rfl ?_
  refine mm_putf ok_Md_core (mp_0 w) rfl f_Md_62 (Or.inl rfl) (mm_fit_I _) ?_
  refine mm_V_heap (mu_0 w 0 _) ?_
  refine mm_blk (pc' := 33) ok_Md_core 1 _ _ _ rfl ?_
  refine mm_getf ok_Md_core (mp_0 w) rfl f_Md_62 rfl ?_
  refine mm_if_ne ok_Md_core 59 rfl (by decide) (fun c => ?_) (fun c => ?_)
  rotate_left
  · exact absurd (show (1 : Int32) = 0 from c) (by decide)
  exact mm_vret ok_Md_core rfl rfl ⟨rfl, rfl⟩
set_option maxHeartbeats 1000000 in
theorem c_Md_core_y (w : mm_inj mdom K) (ok : m_ok nd nn t) {d k : Nat} (hd : d < nd) (hk : k < m_cl t d) (hz : t 10 (6 * d + k) = 0) {one : Int32} : mm_C G M_Md_core [.ref (K 0), .int (nI d), .int (nI k), .int one] (MP K t h) 0 0 (mm_E none (MP K (m_s t 0 0 1) h)) := by
  have h4 := ok.1
  have h6 := (ok.2.2.2.2.1 d hd).2.1
  refine mm_C_of (by decide +kernel) rfl (Nat.le_of_ble_eq_true rfl) rfl ?_
  refine mm_blk (pc' := 4) ok_Md_core 4 _ _ _ rfl ?_
  refine mm_cVE ok_Md_core (As := [.int (nI d), .int (nI k)]) rfl k_Md_core_86 (mp_0 w) rfl rfl rfl (Nat.le_of_ble_eq_true rfl) (c_Md_isCell1 w ok hd hk) ?_
  refine mm_if_eq ok_Md_core 28 rfl (by decide) (fun c => ?_) (fun c => ?_)
  · first | exact c (by decide) | exact absurd c (by decide)
  refine mm_blk (pc' := 11) ok_Md_core 1 _ _ _ rfl ?_
  refine mm_getf ok_Md_core (mp_0 w) rfl f_Md_34 rfl ?_
  refine mm_blk (pc' := 20) ok_Md_core 5 _ _ _ rfl ?_
  refine mm_zald (j := 6 * d + k) ok_Md_core (mp_10 w) rfl (ix6 _ _) (by omega) (oIs_get (by omega) _) ?_
  refine mm_if_eq ok_Md_core 28 rfl (by decide) (fun c => ?_) (fun c => ?_)
  rotate_left
  · exact absurd hz c
  refine mm_blk (pc' := 29) ok_Md_core 1 _ _ _ rfl ?_
  refine mm_putf ok_Md_core (mp_0 w) rfl f_Md_62 (Or.inl rfl) (mm_fit_I _) ?_
  refine mm_V_heap (mu_0 w 0 _) ?_
  refine mm_blk (pc' := 33) ok_Md_core 1 _ _ _ rfl ?_
  refine mm_getf ok_Md_core (mp_0 w) rfl f_Md_62 rfl ?_
  refine mm_if_ne ok_Md_core 59 rfl (by decide) (fun c => ?_) (fun c => ?_)
  rotate_left
  · exact absurd (show (1 : Int32) = 0 from c) (by decide)
  exact mm_vret ok_Md_core rfl rfl ⟨rfl, rfl⟩
set_option maxHeartbeats 1000000 in
theorem c_Md_core_r (w : mm_inj mdom K) (ok : m_ok nd nn t) {d k : Nat} (hd : d < nd) (hk : k < m_cl t d) (hz : ¬ t 10 (6 * d + k) = 0) {one : Int32} : mm_C G M_Md_core [.ref (K 0), .int (nI d), .int (nI k), .int one] (MP K t h) 0 0 (mm_E none (MP K (m_s (m_s t 0 0 0) 12 (6 * d + k) (if one = 0 then 0 else 1)) h)) := by
  have h4 := ok.1
  have h6 := (ok.2.2.2.2.1 d hd).2.1
  refine mm_C_of (by decide +kernel) rfl (Nat.le_of_ble_eq_true rfl) rfl ?_
  refine mm_blk (pc' := 4) ok_Md_core 4 _ _ _ rfl ?_
  refine mm_cVE ok_Md_core (As := [.int (nI d), .int (nI k)]) rfl k_Md_core_86 (mp_0 w) rfl rfl rfl (Nat.le_of_ble_eq_true rfl) (c_Md_isCell1 w ok hd hk) ?_
  refine mm_if_eq ok_Md_core 28 rfl (by decide) (fun c => ?_) (fun c => ?_)
  · first | exact c (by decide) | exact absurd c (by decide)
  refine mm_blk (pc' := 11) ok_Md_core 1 _ _ _ rfl ?_
  refine mm_getf ok_Md_core (mp_0 w) rfl f_Md_34 rfl ?_
  refine mm_blk (pc' := 20) ok_Md_core 5 _ _ _ rfl ?_
  refine mm_zald (j := 6 * d + k) ok_Md_core (mp_10 w) rfl (ix6 _ _) (by omega) (oIs_get (by omega) _) ?_
  refine mm_if_eq ok_Md_core 28 rfl (by decide) (fun c => ?_) (fun c => ?_)
  · exact absurd c hz
  refine mm_blk (pc' := 29) ok_Md_core 2 _ _ _ rfl ?_
  refine mm_putf ok_Md_core (mp_0 w) rfl f_Md_62 (Or.inl rfl) (mm_fit_I _) ?_
  refine mm_V_heap (mu_0 w 0 _) ?_
  refine mm_blk (pc' := 33) ok_Md_core 1 _ _ _ rfl ?_
  refine mm_getf ok_Md_core (mp_0 w) rfl f_Md_62 rfl ?_
  refine mm_if_ne ok_Md_core 59 rfl (by decide) (fun c => ?_) (fun c => ?_)
  · exact absurd (show (0 : Int32) = 0 by decide) c
  refine mm_blk (pc' := 40) ok_Md_core 1 _ _ _ rfl ?_
  refine mm_getf ok_Md_core (mp_0 w) rfl f_Md_41 rfl ?_
  refine mm_blk (pc' := 50) ok_Md_core 6 _ _ _ rfl ?_
  refine mm_ti_eq ok_Md_core 57 rfl (by decide) rfl rfl rfl (by decide) ?_
  refine mm_iast (j := 6 * d + k) ok_Md_core (mp_12 w) rfl (ix6 _ _) (by omega) (by rw [List.length_map, List.length_range]; exact (by omega)) ?_
  refine mm_V_heap (mu_12 w (by omega) _) ?_
  exact mm_vret ok_Md_core rfl rfl ⟨rfl, rfl⟩
end MD4
