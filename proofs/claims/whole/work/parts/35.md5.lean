/-! the reference: fault, net, device -/
def m_flt1 (t : mS) (j : Nat) (kd : Int32) : mS := m_s (m_heal (m_s t 0 0 0) j) 16 j kd
def m_flt2 (t : mS) (j i : Nat) (kd : Int32) : mS := m_s (m_s (m_s (m_heal (m_flt1 t j kd) i) 16 i kd) 17 j (nI i)) 17 i (nI j)
def m_net (t : mS) (nn a b : Nat) : mS := m_s (m_s (m_s (m_s (m_s (m_s (m_s (m_s (m_s t 0 0 0) 13 a (nI nn)) 13 b (nI nn)) 15 nn (nI a)) 16 nn (-1)) 17 nn (-1)) 18 nn 0) 0 14 (nI (nn + 1))) 0 23 0
def m_dv1 (d : Nat) (dr : Int32) (n i : Nat) (t : mS) : mS := up (fun k t => m_s (m_s t 10 (6 * d + k) (if ((dr >>> (nI k &&& 31)) &&& 1) = 1 then 1 else 0)) 13 (6 * d + k) (-1)) n i t
def m_dv2 (n i : Nat) (t : mS) : mS := up (fun k t => m_s (m_s t 11 k 0) 12 k 0) n i t
def m_dvA (t : mS) (d : Nat) (b id : Int32) (cl : Nat) : mS := m_s (m_s (m_s (m_s t 0 0 0) 2 d b) 3 d id) 4 d (nI cl)
def m_dev (t : mS) (d : Nat) (b id : Int32) (cl : Nat) (dr : Int32) : mS := m_s (m_s (m_s (m_s (m_rst (d + 1) (m_dv2 24 0 (m_s (m_dv1 d dr cl 0 (m_dvA t d b id cl)) 0 1 (nI (d + 1))))) 0 19 0) 0 20 0) 0 21 0) 0 23 0
section MD5
variable {G : mm_G} {K : Nat → Nat} {t : mS} {h : mm_Hp} {nd nn : Nat} {Q : mm_O → mm_Hp → Prop}
theorem heal_17 (t : mS) (j i : Nat) : m_heal t j 17 i = -1 ∨ m_heal t j 17 i = t 17 i := by
  have key : ∀ (t : mS) (j i : Nat), m_cut t j 17 i = -1 ∨ m_cut t j 17 i = t 17 i := by
    intro t j i
    unfold m_cut
    by_cases e : i = j
    · rw [e, m_s_at]; exact Or.inl rfl
    · rw [m_s_off _ _ _ e, m_s_ne _ _ _ (by decide)]; exact Or.inr rfl
  unfold m_heal
  split
  · exact key t j i
  · rcases key (m_cut t j) (m_pt t j) i with e | e
    · exact Or.inl e
    · rw [e]; exact key t j i

set_option maxHeartbeats 1000000 in
theorem c_Md_fault_x (w : mm_inj mdom K) (ok : m_ok nd nn t) {x k y : Int32} (hx : ¬ inR x nn) : mm_C G M_Md_fault [.ref (K 0), .int x, .int k, .int y] (MP K t h) 0 0 (mm_E none (MP K (m_s t 0 0 1) h)) := by
  refine mm_C_of (by decide +kernel) rfl (Nat.le_of_ble_eq_true rfl) rfl ?_
  refine mm_blk (pc' := 2) ok_Md_fault 2 _ _ _ rfl ?_
  refine mm_getf ok_Md_fault (mp_0 w) rfl f_Md_89 rfl ?_
  rw [ok.2.2.2.1]
  refine mm_cSE ok_Md_fault (As := [.int x, .int (nI nn)]) rfl k_Md_fault_82 rfl (Nat.le_of_ble_eq_true rfl) (c_Md_out1 (out_of (by have := ok.2.1; omega) hx)) ?_
  refine mm_if_ne ok_Md_fault 46 rfl (by decide) (fun c => ?_) (fun c => ?_)
  rotate_left
  · exact absurd c (by decide)
  refine mm_blk (pc' := 52) ok_Md_fault 4 _ _ _ rfl ?_
  refine mm_if_eq ok_Md_fault 59 rfl (by decide) (fun c => ?_) (fun c => ?_)
  rotate_left
  · exact absurd rfl c
  refine mm_blk (pc' := 60) ok_Md_fault 1 _ _ _ rfl ?_
  refine mm_putf ok_Md_fault (mp_0 w) rfl f_Md_62 (Or.inl rfl) (mm_fit_I _) ?_
  refine mm_V_heap (mu_0 w 0 _) ?_
  refine mm_blk (pc' := 64) ok_Md_fault 1 _ _ _ rfl ?_
  refine mm_getf ok_Md_fault (mp_0 w) rfl f_Md_62 rfl ?_
  refine mm_if_le ok_Md_fault 71 rfl (by decide) (fun c => ?_) (fun c => ?_)
  · exact absurd (show (1 : Int32) ≤ 0 from c) (by decide)
  exact mm_vret ok_Md_fault rfl rfl ⟨rfl, rfl⟩
set_option maxHeartbeats 1000000 in
theorem c_Md_fault_k (w : mm_inj mdom K) (ok : m_ok nd nn t) {j : Nat} (hj : j < nn) {k y : Int32} (hk : k < -1 ∨ ¬ k ≤ 3) : mm_C G M_Md_fault [.ref (K 0), .int (nI j), .int k, .int y] (MP K t h) 0 0 (mm_E none (MP K (m_s t 0 0 1) h)) := by
  refine mm_C_of (by decide +kernel) rfl (Nat.le_of_ble_eq_true rfl) rfl ?_
  refine mm_blk (pc' := 2) ok_Md_fault 2 _ _ _ rfl ?_
  refine mm_getf ok_Md_fault (mp_0 w) rfl f_Md_89 rfl ?_
  rw [ok.2.2.2.1]
  refine mm_cSE ok_Md_fault (As := [.int (nI j), .int (nI nn)]) rfl k_Md_fault_82 rfl (Nat.le_of_ble_eq_true rfl) (c_Md_outN hj (by have := ok.2.1; omega)) ?_
  refine mm_if_ne ok_Md_fault 46 rfl (by decide) (fun c => ?_) (fun c => ?_)
  · exact absurd rfl c
  refine mm_blk (pc' := 13) ok_Md_fault 2 _ _ _ rfl ?_
  refine mm_ic_lt ok_Md_fault 46 rfl (by decide) (fun c13 => ?_) (fun c13 => ?_)
  · -- 46 t
    refine mm_blk (pc' := 52) ok_Md_fault 4 _ _ _ rfl ?_
    refine mm_if_eq ok_Md_fault 59 rfl (by decide) (fun c => ?_) (fun c => ?_)
    rotate_left
    · exact absurd rfl c
    refine mm_blk (pc' := 60) ok_Md_fault 1 _ _ _ rfl ?_
    refine mm_putf ok_Md_fault (mp_0 w) rfl f_Md_62 (Or.inl rfl) (mm_fit_I _) ?_
    refine mm_V_heap (mu_0 w 0 _) ?_
    refine mm_blk (pc' := 64) ok_Md_fault 1 _ _ _ rfl ?_
    refine mm_getf ok_Md_fault (mp_0 w) rfl f_Md_62 rfl ?_
    refine mm_if_le ok_Md_fault 71 rfl (by decide) (fun c => ?_) (fun c => ?_)
    · exact absurd (show (1 : Int32) ≤ 0 from c) (by decide)
    exact mm_vret ok_Md_fault rfl rfl ⟨rfl, rfl⟩
  · -- 16 f
    refine mm_blk (pc' := 18) ok_Md_fault 2 _ _ _ rfl ?_
    refine mm_ic_gt ok_Md_fault 46 rfl (by decide) (fun c => ?_) (fun c => ?_)
    rotate_left
    · exact absurd (Int32.not_lt.mp c) (hk.resolve_left c13)
    refine mm_blk (pc' := 52) ok_Md_fault 4 _ _ _ rfl ?_
    refine mm_if_eq ok_Md_fault 59 rfl (by decide) (fun c => ?_) (fun c => ?_)
    rotate_left
    · exact absurd rfl c
    refine mm_blk (pc' := 60) ok_Md_fault 1 _ _ _ rfl ?_
    refine mm_putf ok_Md_fault (mp_0 w) rfl f_Md_62 (Or.inl rfl) (mm_fit_I _) ?_
    refine mm_V_heap (mu_0 w 0 _) ?_
    refine mm_blk (pc' := 64) ok_Md_fault 1 _ _ _ rfl ?_
    refine mm_getf ok_Md_fault (mp_0 w) rfl f_Md_62 rfl ?_
    refine mm_if_le ok_Md_fault 71 rfl (by decide) (fun c => ?_) (fun c => ?_)
    · exact absurd (show (1 : Int32) ≤ 0 from c) (by decide)
    exact mm_vret ok_Md_fault rfl rfl ⟨rfl, rfl⟩
set_option maxHeartbeats 1000000 in
theorem c_Md_fault_y (w : mm_inj mdom K) (ok : m_ok nd nn t) {j : Nat} (hj : j < nn) {k y : Int32} (hk : ¬ k < -1) (hk3 : k ≤ 3) (h2 : ¬ k < 2) (hy : ¬ inR y nn) : mm_C G M_Md_fault [.ref (K 0), .int (nI j), .int k, .int y] (MP K t h) 0 0 (mm_E none (MP K (m_s t 0 0 1) h)) := by
  refine mm_C_of (by decide +kernel) rfl (Nat.le_of_ble_eq_true rfl) rfl ?_
  refine mm_blk (pc' := 2) ok_Md_fault 2 _ _ _ rfl ?_
  refine mm_getf ok_Md_fault (mp_0 w) rfl f_Md_89 rfl ?_
  rw [ok.2.2.2.1]
  refine mm_cSE ok_Md_fault (As := [.int (nI j), .int (nI nn)]) rfl k_Md_fault_82 rfl (Nat.le_of_ble_eq_true rfl) (c_Md_outN hj (by have := ok.2.1; omega)) ?_
  refine mm_if_ne ok_Md_fault 46 rfl (by decide) (fun c => ?_) (fun c => ?_)
  · exact absurd rfl c
  refine mm_blk (pc' := 13) ok_Md_fault 2 _ _ _ rfl ?_
  refine mm_ic_lt ok_Md_fault 46 rfl (by decide) (fun c => ?_) (fun c => ?_)
  · exact absurd c hk
  refine mm_blk (pc' := 18) ok_Md_fault 2 _ _ _ rfl ?_
  refine mm_ic_gt ok_Md_fault 46 rfl (by decide) (fun c => ?_) (fun c => ?_)
  · exact absurd hk3 (Int32.not_le.mpr c)
  refine mm_blk (pc' := 23) ok_Md_fault 2 _ _ _ rfl ?_
  refine mm_ic_lt ok_Md_fault 42 rfl (by decide) (fun c => ?_) (fun c => ?_)
  · exact absurd c h2
  refine mm_blk (pc' := 28) ok_Md_fault 2 _ _ _ rfl ?_
  refine mm_getf ok_Md_fault (mp_0 w) rfl f_Md_89 rfl ?_
  rw [ok.2.2.2.1]
  refine mm_cSE ok_Md_fault (As := [.int y, .int (nI nn)]) rfl k_Md_fault_82 rfl (Nat.le_of_ble_eq_true rfl) (c_Md_out1 (out_of (by have := ok.2.1; omega) hy)) ?_
  refine mm_if_ne ok_Md_fault 46 rfl (by decide) (fun c => ?_) (fun c => ?_)
  rotate_left
  · exact absurd c (by decide)
  refine mm_blk (pc' := 52) ok_Md_fault 4 _ _ _ rfl ?_
  refine mm_if_eq ok_Md_fault 59 rfl (by decide) (fun c => ?_) (fun c => ?_)
  rotate_left
  · exact absurd rfl c
  refine mm_blk (pc' := 60) ok_Md_fault 1 _ _ _ rfl ?_
  refine mm_putf ok_Md_fault (mp_0 w) rfl f_Md_62 (Or.inl rfl) (mm_fit_I _) ?_
  refine mm_V_heap (mu_0 w 0 _) ?_
  refine mm_blk (pc' := 64) ok_Md_fault 1 _ _ _ rfl ?_
  refine mm_getf ok_Md_fault (mp_0 w) rfl f_Md_62 rfl ?_
  refine mm_if_le ok_Md_fault 71 rfl (by decide) (fun c => ?_) (fun c => ?_)
  · exact absurd (show (1 : Int32) ≤ 0 from c) (by decide)
  exact mm_vret ok_Md_fault rfl rfl ⟨rfl, rfl⟩
set_option maxHeartbeats 1000000 in
theorem c_Md_fault_z (w : mm_inj mdom K) (ok : m_ok nd nn t) {j : Nat} (hj : j < nn) {k : Int32} (hk : ¬ k < -1) (hk3 : k ≤ 3) (h2 : ¬ k < 2) : mm_C G M_Md_fault [.ref (K 0), .int (nI j), .int k, .int (nI j)] (MP K t h) 0 0 (mm_E none (MP K (m_s t 0 0 1) h)) := by
  refine mm_C_of (by decide +kernel) rfl (Nat.le_of_ble_eq_true rfl) rfl ?_
  refine mm_blk (pc' := 2) ok_Md_fault 2 _ _ _ rfl ?_
  refine mm_getf ok_Md_fault (mp_0 w) rfl f_Md_89 rfl ?_
  rw [ok.2.2.2.1]
  refine mm_cSE ok_Md_fault (As := [.int (nI j), .int (nI nn)]) rfl k_Md_fault_82 rfl (Nat.le_of_ble_eq_true rfl) (c_Md_outN hj (by have := ok.2.1; omega)) ?_
  refine mm_if_ne ok_Md_fault 46 rfl (by decide) (fun c => ?_) (fun c => ?_)
  · exact absurd rfl c
  refine mm_blk (pc' := 13) ok_Md_fault 2 _ _ _ rfl ?_
  refine mm_ic_lt ok_Md_fault 46 rfl (by decide) (fun c => ?_) (fun c => ?_)
  · exact absurd c hk
  refine mm_blk (pc' := 18) ok_Md_fault 2 _ _ _ rfl ?_
  refine mm_ic_gt ok_Md_fault 46 rfl (by decide) (fun c => ?_) (fun c => ?_)
  · exact absurd hk3 (Int32.not_le.mpr c)
  refine mm_blk (pc' := 23) ok_Md_fault 2 _ _ _ rfl ?_
  refine mm_ic_lt ok_Md_fault 42 rfl (by decide) (fun c => ?_) (fun c => ?_)
  · exact absurd c h2
  refine mm_blk (pc' := 28) ok_Md_fault 2 _ _ _ rfl ?_
  refine mm_getf ok_Md_fault (mp_0 w) rfl f_Md_89 rfl ?_
  rw [ok.2.2.2.1]
  refine mm_cSE ok_Md_fault (As := [.int (nI j), .int (nI nn)]) rfl k_Md_fault_82 rfl (Nat.le_of_ble_eq_true rfl) (c_Md_outN hj (by have := ok.2.1; omega)) ?_
  refine mm_if_ne ok_Md_fault 46 rfl (by decide) (fun c => ?_) (fun c => ?_)
  · exact absurd rfl c
  refine mm_blk (pc' := 39) ok_Md_fault 2 _ _ _ rfl ?_
  refine mm_ic_eq ok_Md_fault 46 rfl (by decide) (fun c => ?_) (fun c => ?_)
  rotate_left
  · exact absurd rfl c
  refine mm_blk (pc' := 52) ok_Md_fault 4 _ _ _ rfl ?_
  refine mm_if_eq ok_Md_fault 59 rfl (by decide) (fun c => ?_) (fun c => ?_)
  rotate_left
  · exact absurd rfl c
  refine mm_blk (pc' := 60) ok_Md_fault 1 _ _ _ rfl ?_
  refine mm_putf ok_Md_fault (mp_0 w) rfl f_Md_62 (Or.inl rfl) (mm_fit_I _) ?_
  refine mm_V_heap (mu_0 w 0 _) ?_
  refine mm_blk (pc' := 64) ok_Md_fault 1 _ _ _ rfl ?_
  refine mm_getf ok_Md_fault (mp_0 w) rfl f_Md_62 rfl ?_
  refine mm_if_le ok_Md_fault 71 rfl (by decide) (fun c => ?_) (fun c => ?_)
  · exact absurd (show (1 : Int32) ≤ 0 from c) (by decide)
  exact mm_vret ok_Md_fault rfl rfl ⟨rfl, rfl⟩
set_option maxHeartbeats 1000000 in
theorem c_Md_fault_1 (w : mm_inj mdom K) (ok : m_ok nd nn t) {j : Nat} (hj : j < nn) {k y : Int32} (hk : ¬ k < -1) (hk3 : k ≤ 3) (h2 : k < 2) : mm_C G M_Md_fault [.ref (K 0), .int (nI j), .int k, .int y] (MP K t h) 0 0 (mm_E none (MP K (m_flt1 t j k) h)) := by
  have h8 := ok.2.1
  have ok0 := ok_s0 ok (f := 0) (by decide) (by decide) 0
  have hp0 : ∀ i, i < nn → ¬ t 17 i < 0 → m_pt t i < 8 ∧ t 17 i = nI (m_pt t i) := fun i hi z => ⟨by have := ((ok.2.2.2.2.2.2.2.1 i hi).2 z).1; omega, ((ok.2.2.2.2.2.2.2.1 i hi).2 z).2⟩
  refine mm_C_of (by decide +kernel) rfl (Nat.le_of_ble_eq_true rfl) rfl ?_
  refine mm_blk (pc' := 2) ok_Md_fault 2 _ _ _ rfl ?_
  refine mm_getf ok_Md_fault (mp_0 w) rfl f_Md_89 rfl ?_
  rw [ok.2.2.2.1]
  refine mm_cSE ok_Md_fault (As := [.int (nI j), .int (nI nn)]) rfl k_Md_fault_82 rfl (Nat.le_of_ble_eq_true rfl) (c_Md_outN hj (by have := ok.2.1; omega)) ?_
  refine mm_if_ne ok_Md_fault 46 rfl (by decide) (fun c => ?_) (fun c => ?_)
  · exact absurd rfl c
  refine mm_blk (pc' := 13) ok_Md_fault 2 _ _ _ rfl ?_
  refine mm_ic_lt ok_Md_fault 46 rfl (by decide) (fun c => ?_) (fun c => ?_)
  · exact absurd c hk
  refine mm_blk (pc' := 18) ok_Md_fault 2 _ _ _ rfl ?_
  refine mm_ic_gt ok_Md_fault 46 rfl (by decide) (fun c => ?_) (fun c => ?_)
  · exact absurd hk3 (Int32.not_le.mpr c)
  refine mm_blk (pc' := 23) ok_Md_fault 2 _ _ _ rfl ?_
  refine mm_ic_lt ok_Md_fault 42 rfl (by decide) (fun c => ?_) (fun c => ?_)
  rotate_left
  · exact absurd h2 c
  refine mm_blk (pc' := 52) ok_Md_fault 5 _ _ _ rfl ?_
  refine mm_if_eq ok_Md_fault 59 rfl (by decide) (fun c => ?_) (fun c => ?_)
  · exact absurd c (by decide)
  refine mm_blk (pc' := 60) ok_Md_fault 2 _ _ _ rfl ?_
  refine mm_putf ok_Md_fault (mp_0 w) rfl f_Md_62 (Or.inl rfl) (mm_fit_I _) ?_
  refine mm_V_heap (mu_0 w 0 _) ?_
  refine mm_blk (pc' := 64) ok_Md_fault 1 _ _ _ rfl ?_
  refine mm_getf ok_Md_fault (mp_0 w) rfl f_Md_62 rfl ?_
  refine mm_if_le ok_Md_fault 71 rfl (by decide) (fun c => ?_) (fun c => ?_)
  rotate_left
  · exact absurd (show (0 : Int32) ≤ 0 by decide) c
  refine mm_blk (pc' := 73) ok_Md_fault 2 _ _ _ rfl ?_
  refine mm_cVE ok_Md_fault (As := [.int (nI j)]) rfl k_Md_fault_92 (mp_0 w) rfl rfl rfl (Nat.le_of_ble_eq_true rfl) (c_Md_heal (t := (m_s t 0 0 0)) w (by omega) (hp0 j hj)) ?_
  refine mm_blk (pc' := 77) ok_Md_fault 1 _ _ _ rfl ?_
  refine mm_getf ok_Md_fault (mp_0 w) rfl f_Md_50 rfl ?_
  refine mm_blk (pc' := 82) ok_Md_fault 2 _ _ _ rfl ?_
  refine mm_iast (j := j) ok_Md_fault (mp_16 w) rfl rfl (by omega) (by rw [List.length_map, List.length_range]; exact (by omega)) ?_
  refine mm_V_heap (mu_16 w (by omega) _) ?_
  refine mm_blk (pc' := 85) ok_Md_fault 2 _ _ _ rfl ?_
  refine mm_ic_ge ok_Md_fault 89 rfl (by decide) (fun c => ?_) (fun c => ?_)
  · exact absurd h2 (Int32.not_lt.mpr c)
  exact mm_vret ok_Md_fault rfl rfl ⟨rfl, rfl⟩
set_option maxHeartbeats 1000000 in
theorem c_Md_fault_2 (w : mm_inj mdom K) (ok : m_ok nd nn t) {j i : Nat} (hj : j < nn) (hi : i < nn) (hij : i ≠ j) {k : Int32} (hk : ¬ k < -1) (hk3 : k ≤ 3) (h2 : ¬ k < 2) : mm_C G M_Md_fault [.ref (K 0), .int (nI j), .int k, .int (nI i)] (MP K t h) 0 0 (mm_E none (MP K (m_flt2 t j i k) h)) := by
  have h8 := ok.2.1
  have ok0 := ok_s0 ok (f := 0) (by decide) (by decide) 0
  have hp0 : ∀ i, i < nn → ¬ t 17 i < 0 → m_pt t i < 8 ∧ t 17 i = nI (m_pt t i) := fun i hi z => ⟨by have := ((ok.2.2.2.2.2.2.2.1 i hi).2 z).1; omega, ((ok.2.2.2.2.2.2.2.1 i hi).2 z).2⟩
  have hp2 : ¬ m_flt1 t j k 17 i < 0 → m_pt (m_flt1 t j k) i < 8 ∧ m_flt1 t j k 17 i = nI (m_pt (m_flt1 t j k) i) := by
    have e : m_flt1 t j k 17 i = m_heal (m_s t 0 0 0) j 17 i := by unfold m_flt1; rw [m_s_ne _ _ _ (by decide)]
    unfold m_pt
    rw [e]
    rcases heal_17 (m_s t 0 0 0) j i with z | z
    · rw [z]; intro z2; exact absurd (by decide) z2
    · rw [z]; exact hp0 i hi
  refine mm_C_of (by decide +kernel) rfl (Nat.le_of_ble_eq_true rfl) rfl ?_
  refine mm_blk (pc' := 2) ok_Md_fault 2 _ _ _ rfl ?_
  refine mm_getf ok_Md_fault (mp_0 w) rfl f_Md_89 rfl ?_
  rw [ok.2.2.2.1]
  refine mm_cSE ok_Md_fault (As := [.int (nI j), .int (nI nn)]) rfl k_Md_fault_82 rfl (Nat.le_of_ble_eq_true rfl) (c_Md_outN hj (by have := ok.2.1; omega)) ?_
  refine mm_if_ne ok_Md_fault 46 rfl (by decide) (fun c => ?_) (fun c => ?_)
  · exact absurd rfl c
  refine mm_blk (pc' := 13) ok_Md_fault 2 _ _ _ rfl ?_
  refine mm_ic_lt ok_Md_fault 46 rfl (by decide) (fun c => ?_) (fun c => ?_)
  · exact absurd c hk
  refine mm_blk (pc' := 18) ok_Md_fault 2 _ _ _ rfl ?_
  refine mm_ic_gt ok_Md_fault 46 rfl (by decide) (fun c => ?_) (fun c => ?_)
  · exact absurd hk3 (Int32.not_le.mpr c)
  refine mm_blk (pc' := 23) ok_Md_fault 2 _ _ _ rfl ?_
  refine mm_ic_lt ok_Md_fault 42 rfl (by decide) (fun c => ?_) (fun c => ?_)
  · exact absurd c h2
  refine mm_blk (pc' := 28) ok_Md_fault 2 _ _ _ rfl ?_
  refine mm_getf ok_Md_fault (mp_0 w) rfl f_Md_89 rfl ?_
  rw [ok.2.2.2.1]
  refine mm_cSE ok_Md_fault (As := [.int (nI i), .int (nI nn)]) rfl k_Md_fault_82 rfl (Nat.le_of_ble_eq_true rfl) (c_Md_outN hi (by have := ok.2.1; omega)) ?_
  refine mm_if_ne ok_Md_fault 46 rfl (by decide) (fun c => ?_) (fun c => ?_)
  · exact absurd rfl c
  refine mm_blk (pc' := 39) ok_Md_fault 2 _ _ _ rfl ?_
  refine mm_ic_eq ok_Md_fault 46 rfl (by decide) (fun c => ?_) (fun c => ?_)
  · exact absurd ((nI_eq (by omega) (by omega)).mp c) hij
  refine mm_blk (pc' := 52) ok_Md_fault 5 _ _ _ rfl ?_
  refine mm_if_eq ok_Md_fault 59 rfl (by decide) (fun c => ?_) (fun c => ?_)
  · exact absurd c (by decide)
  refine mm_blk (pc' := 60) ok_Md_fault 2 _ _ _ rfl ?_
  refine mm_putf ok_Md_fault (mp_0 w) rfl f_Md_62 (Or.inl rfl) (mm_fit_I _) ?_
  refine mm_V_heap (mu_0 w 0 _) ?_
  refine mm_blk (pc' := 64) ok_Md_fault 1 _ _ _ rfl ?_
  refine mm_getf ok_Md_fault (mp_0 w) rfl f_Md_62 rfl ?_
  refine mm_if_le ok_Md_fault 71 rfl (by decide) (fun c => ?_) (fun c => ?_)
  rotate_left
  · exact absurd (show (0 : Int32) ≤ 0 by decide) c
  refine mm_blk (pc' := 73) ok_Md_fault 2 _ _ _ rfl ?_
  refine mm_cVE ok_Md_fault (As := [.int (nI j)]) rfl k_Md_fault_92 (mp_0 w) rfl rfl rfl (Nat.le_of_ble_eq_true rfl) (c_Md_heal (t := (m_s t 0 0 0)) w (by omega) (hp0 j hj)) ?_
  refine mm_blk (pc' := 77) ok_Md_fault 1 _ _ _ rfl ?_
  refine mm_getf ok_Md_fault (mp_0 w) rfl f_Md_50 rfl ?_
  refine mm_blk (pc' := 82) ok_Md_fault 2 _ _ _ rfl ?_
  refine mm_iast (j := j) ok_Md_fault (mp_16 w) rfl rfl (by omega) (by rw [List.length_map, List.length_range]; exact (by omega)) ?_
  refine mm_V_heap (mu_16 w (by omega) _) ?_
  refine mm_blk (pc' := 85) ok_Md_fault 2 _ _ _ rfl ?_
  refine mm_ic_ge ok_Md_fault 89 rfl (by decide) (fun c => ?_) (fun c => ?_)
  rotate_left
  · exact absurd (Int32.not_lt.mp h2) c
  refine mm_blk (pc' := 91) ok_Md_fault 2 _ _ _ rfl ?_
  refine mm_cVE ok_Md_fault (As := [.int (nI i)]) rfl k_Md_fault_92 (mp_0 w) rfl rfl rfl (Nat.le_of_ble_eq_true rfl) (c_Md_heal (t := m_flt1 t j k) w (by omega) hp2) ?_
  refine mm_blk (pc' := 95) ok_Md_fault 1 _ _ _ rfl ?_
  refine mm_getf ok_Md_fault (mp_0 w) rfl f_Md_50 rfl ?_
  refine mm_blk (pc' := 100) ok_Md_fault 2 _ _ _ rfl ?_
  refine mm_iast (j := i) ok_Md_fault (mp_16 w) rfl rfl (by omega) (by rw [List.length_map, List.length_range]; exact (by omega)) ?_
  refine mm_V_heap (mu_16 w (by omega) _) ?_
  refine mm_blk (pc' := 102) ok_Md_fault 1 _ _ _ rfl ?_
  refine mm_getf ok_Md_fault (mp_0 w) rfl f_Md_53 rfl ?_
  refine mm_blk (pc' := 107) ok_Md_fault 2 _ _ _ rfl ?_
  refine mm_iast (j := j) ok_Md_fault (mp_17 w) rfl rfl (by omega) (by rw [List.length_map, List.length_range]; exact (by omega)) ?_
  refine mm_V_heap (mu_17 w (by omega) _) ?_
  refine mm_blk (pc' := 109) ok_Md_fault 1 _ _ _ rfl ?_
  refine mm_getf ok_Md_fault (mp_0 w) rfl f_Md_53 rfl ?_
  refine mm_blk (pc' := 114) ok_Md_fault 2 _ _ _ rfl ?_
  refine mm_iast (j := i) ok_Md_fault (mp_17 w) rfl rfl (by omega) (by rw [List.length_map, List.length_range]; exact (by omega)) ?_
  refine mm_V_heap (mu_17 w (by omega) _) ?_
  exact mm_vret ok_Md_fault rfl rfl ⟨rfl, rfl⟩
set_option maxHeartbeats 1000000 in
theorem c_Md_net_x (w : mm_inj mdom K) (ok : m_ok nd nn t) {x c1 y c2 : Int32} (hx : ¬ ∃ d, d < nd ∧ x = nI d ∧ inR c1 (m_cl t d)) : mm_C G M_Md_net [.ref (K 0), .int x, .int c1, .int y, .int c2] (MP K t h) 0 0 (mm_E (some (.int 0)) (MP K (m_s t 0 0 1) h)) := by
  refine mm_C_of (by decide +kernel) rfl (Nat.le_of_ble_eq_true rfl) rfl ?_
  refine mm_blk (pc' := 3) ok_Md_net 3 _ _ _ rfl ?_
  refine mm_cVE ok_Md_net (As := [.int x, .int c1]) rfl k_Md_net_86 (mp_0 w) rfl rfl rfl (Nat.le_of_ble_eq_true rfl) (c_Md_isCell0 w ok hx) ?_
  refine mm_if_eq ok_Md_net 23 rfl (by decide) (fun c => ?_) (fun c => ?_)
  rotate_left
  · exact absurd rfl c
  refine mm_blk (pc' := 45) ok_Md_net 15 _ _ _ rfl ?_
  refine mm_if_eq ok_Md_net 92 rfl (by decide) (fun c => ?_) (fun c => ?_)
  rotate_left
  · exact absurd rfl c
  refine mm_blk (pc' := 98) ok_Md_net 4 _ _ _ rfl ?_
  refine mm_if_ne ok_Md_net 105 rfl (by decide) (fun c => ?_) (fun c => ?_)
  · exact absurd rfl c
  refine mm_blk (pc' := 119) ok_Md_net 2 _ _ _ rfl ?_
  refine mm_putf ok_Md_net (mp_0 w) rfl f_Md_62 (Or.inl rfl) (mm_fit_I _) ?_
  refine mm_V_heap (mu_0 w 0 _) ?_
  refine mm_blk (pc' := 123) ok_Md_net 1 _ _ _ rfl ?_
  refine mm_getf ok_Md_net (mp_0 w) rfl f_Md_62 rfl ?_
  refine mm_if_le ok_Md_net 131 rfl (by decide) (fun c => ?_) (fun c => ?_)
  · exact absurd (show (1 : Int32) ≤ 0 from c) (by decide)
  refine mm_blk (pc' := 130) ok_Md_net 1 _ _ _ rfl ?_
  exact mm_iret ok_Md_net rfl rfl ⟨rfl, rfl⟩
set_option maxHeartbeats 1000000 in
theorem c_Md_net_y (w : mm_inj mdom K) (ok : m_ok nd nn t) {i a : Nat} (hi : i < nd) (ha : a < m_cl t i) {y c2 : Int32} (hy : ¬ ∃ d, d < nd ∧ y = nI d ∧ inR c2 (m_cl t d)) : mm_C G M_Md_net [.ref (K 0), .int (nI i), .int (nI a), .int y, .int c2] (MP K t h) 0 0 (mm_E (some (.int 0)) (MP K (m_s t 0 0 1) h)) := by
  refine mm_C_of (by decide +kernel) rfl (Nat.le_of_ble_eq_true rfl) rfl ?_
  refine mm_blk (pc' := 3) ok_Md_net 3 _ _ _ rfl ?_
  refine mm_cVE ok_Md_net (As := [.int (nI i), .int (nI a)]) rfl k_Md_net_86 (mp_0 w) rfl rfl rfl (Nat.le_of_ble_eq_true rfl) (c_Md_isCell1 w ok hi ha) ?_
  refine mm_if_eq ok_Md_net 23 rfl (by decide) (fun c => ?_) (fun c => ?_)
  · first | exact c (by decide) | exact absurd c (by decide)
  refine mm_blk (pc' := 13) ok_Md_net 3 _ _ _ rfl ?_
  refine mm_cVE ok_Md_net (As := [.int y, .int c2]) rfl k_Md_net_86 (mp_0 w) rfl rfl rfl (Nat.le_of_ble_eq_true rfl) (c_Md_isCell0 w ok hy) ?_
  refine mm_if_eq ok_Md_net 23 rfl (by decide) (fun c => ?_) (fun c => ?_)
  rotate_left
  · exact absurd rfl c
  refine mm_blk (pc' := 45) ok_Md_net 15 _ _ _ rfl ?_
  refine mm_if_eq ok_Md_net 92 rfl (by decide) (fun c => ?_) (fun c => ?_)
  rotate_left
  · exact absurd rfl c
  refine mm_blk (pc' := 98) ok_Md_net 4 _ _ _ rfl ?_
  refine mm_if_ne ok_Md_net 105 rfl (by decide) (fun c => ?_) (fun c => ?_)
  · exact absurd rfl c
  refine mm_blk (pc' := 119) ok_Md_net 2 _ _ _ rfl ?_
  refine mm_putf ok_Md_net (mp_0 w) rfl f_Md_62 (Or.inl rfl) (mm_fit_I _) ?_
  refine mm_V_heap (mu_0 w 0 _) ?_
  refine mm_blk (pc' := 123) ok_Md_net 1 _ _ _ rfl ?_
  refine mm_getf ok_Md_net (mp_0 w) rfl f_Md_62 rfl ?_
  refine mm_if_le ok_Md_net 131 rfl (by decide) (fun c => ?_) (fun c => ?_)
  · exact absurd (show (1 : Int32) ≤ 0 from c) (by decide)
  refine mm_blk (pc' := 130) ok_Md_net 1 _ _ _ rfl ?_
  exact mm_iret ok_Md_net rfl rfl ⟨rfl, rfl⟩
set_option maxHeartbeats 1000000 in
theorem c_Md_net_b (w : mm_inj mdom K) (ok : m_ok nd nn t) {i a j b : Nat} (hi : i < nd) (ha : a < m_cl t i) (hj : j < nd) (hb : b < m_cl t j) (hx : t 10 (6 * i + a) = 0 ∨ ¬ t 10 (6 * j + b) = 0 ∨ ¬ t 13 (6 * i + a) < 0 ∨ ¬ t 13 (6 * j + b) < 0) : mm_C G M_Md_net [.ref (K 0), .int (nI i), .int (nI a), .int (nI j), .int (nI b)] (MP K t h) 0 0 (mm_E (some (.int 0)) (MP K (m_s t 0 0 1) h)) := by
  have h4 := ok.1
  have h8 := ok.2.1
  have a6 := (ok.2.2.2.2.1 i hi).2.1
  have b6 := (ok.2.2.2.2.1 j hj).2.1
  refine mm_C_of (by decide +kernel) rfl (Nat.le_of_ble_eq_true rfl) rfl ?_
  refine mm_blk (pc' := 3) ok_Md_net 3 _ _ _ rfl ?_
  refine mm_cVE ok_Md_net (As := [.int (nI i), .int (nI a)]) rfl k_Md_net_86 (mp_0 w) rfl rfl rfl (Nat.le_of_ble_eq_true rfl) (c_Md_isCell1 w ok hi ha) ?_
  refine mm_if_eq ok_Md_net 23 rfl (by decide) (fun c => ?_) (fun c => ?_)
  · first | exact c (by decide) | exact absurd c (by decide)
  refine mm_blk (pc' := 13) ok_Md_net 3 _ _ _ rfl ?_
  refine mm_cVE ok_Md_net (As := [.int (nI j), .int (nI b)]) rfl k_Md_net_86 (mp_0 w) rfl rfl rfl (Nat.le_of_ble_eq_true rfl) (c_Md_isCell1 w ok hj hb) ?_
  refine mm_if_eq ok_Md_net 23 rfl (by decide) (fun c => ?_) (fun c => ?_)
  · first | exact c (by decide) | exact absurd c (by decide)
  refine mm_blk (pc' := 45) ok_Md_net 16 _ _ _ rfl ?_
  refine mm_if_eq ok_Md_net 92 rfl (by decide) (fun c => ?_) (fun c => ?_)
  · first | exact c (by decide) | exact absurd c (by decide)
  refine mm_blk (pc' := 49) ok_Md_net 1 _ _ _ rfl ?_
  refine mm_getf ok_Md_net (mp_0 w) rfl f_Md_34 rfl ?_
  refine mm_blk (pc' := 54) ok_Md_net 1 _ _ _ rfl ?_
  refine mm_zald (j := 6 * i + a) ok_Md_net (mp_10 w) rfl (ix6 _ _) (by omega) (oIs_get (by omega) _) ?_
  refine mm_if_eq ok_Md_net 92 rfl (by decide) (fun c55 => ?_) (fun c55 => ?_)
  · -- 92 t
    refine mm_blk (pc' := 98) ok_Md_net 4 _ _ _ rfl ?_
    refine mm_if_ne ok_Md_net 105 rfl (by decide) (fun c => ?_) (fun c => ?_)
    · exact absurd rfl c
    refine mm_blk (pc' := 119) ok_Md_net 2 _ _ _ rfl ?_
    refine mm_putf ok_Md_net (mp_0 w) rfl f_Md_62 (Or.inl rfl) (mm_fit_I _) ?_
    refine mm_V_heap (mu_0 w 0 _) ?_
    refine mm_blk (pc' := 123) ok_Md_net 1 _ _ _ rfl ?_
    refine mm_getf ok_Md_net (mp_0 w) rfl f_Md_62 rfl ?_
    refine mm_if_le ok_Md_net 131 rfl (by decide) (fun c => ?_) (fun c => ?_)
    · exact absurd (show (1 : Int32) ≤ 0 from c) (by decide)
    refine mm_blk (pc' := 130) ok_Md_net 1 _ _ _ rfl ?_
    exact mm_iret ok_Md_net rfl rfl ⟨rfl, rfl⟩
  · -- 58 f
    refine mm_blk (pc' := 59) ok_Md_net 1 _ _ _ rfl ?_
    refine mm_getf ok_Md_net (mp_0 w) rfl f_Md_34 rfl ?_
    refine mm_blk (pc' := 64) ok_Md_net 1 _ _ _ rfl ?_
    refine mm_zald (j := 6 * j + b) ok_Md_net (mp_10 w) rfl (ix6 _ _) (by omega) (oIs_get (by omega) _) ?_
    refine mm_if_ne ok_Md_net 92 rfl (by decide) (fun c65 => ?_) (fun c65 => ?_)
    · -- 92 t
      refine mm_blk (pc' := 98) ok_Md_net 4 _ _ _ rfl ?_
      refine mm_if_ne ok_Md_net 105 rfl (by decide) (fun c => ?_) (fun c => ?_)
      · exact absurd rfl c
      refine mm_blk (pc' := 119) ok_Md_net 2 _ _ _ rfl ?_
      refine mm_putf ok_Md_net (mp_0 w) rfl f_Md_62 (Or.inl rfl) (mm_fit_I _) ?_
      refine mm_V_heap (mu_0 w 0 _) ?_
      refine mm_blk (pc' := 123) ok_Md_net 1 _ _ _ rfl ?_
      refine mm_getf ok_Md_net (mp_0 w) rfl f_Md_62 rfl ?_
      refine mm_if_le ok_Md_net 131 rfl (by decide) (fun c => ?_) (fun c => ?_)
      · exact absurd (show (1 : Int32) ≤ 0 from c) (by decide)
      refine mm_blk (pc' := 130) ok_Md_net 1 _ _ _ rfl ?_
      exact mm_iret ok_Md_net rfl rfl ⟨rfl, rfl⟩
    · -- 68 f
      refine mm_blk (pc' := 69) ok_Md_net 1 _ _ _ rfl ?_
      refine mm_getf ok_Md_net (mp_0 w) rfl f_Md_44 rfl ?_
      refine mm_blk (pc' := 74) ok_Md_net 1 _ _ _ rfl ?_
      refine mm_iald (j := 6 * i + a) ok_Md_net (mp_13 w) rfl (ix6 _ _) (by omega) (oIs_get (by omega) _) ?_
      refine mm_if_ge ok_Md_net 92 rfl (by decide) (fun c75 => ?_) (fun c75 => ?_)
      · -- 92 t
        refine mm_blk (pc' := 98) ok_Md_net 4 _ _ _ rfl ?_
        refine mm_if_ne ok_Md_net 105 rfl (by decide) (fun c => ?_) (fun c => ?_)
        · exact absurd rfl c
        refine mm_blk (pc' := 119) ok_Md_net 2 _ _ _ rfl ?_
        refine mm_putf ok_Md_net (mp_0 w) rfl f_Md_62 (Or.inl rfl) (mm_fit_I _) ?_
        refine mm_V_heap (mu_0 w 0 _) ?_
        refine mm_blk (pc' := 123) ok_Md_net 1 _ _ _ rfl ?_
        refine mm_getf ok_Md_net (mp_0 w) rfl f_Md_62 rfl ?_
        refine mm_if_le ok_Md_net 131 rfl (by decide) (fun c => ?_) (fun c => ?_)
        · exact absurd (show (1 : Int32) ≤ 0 from c) (by decide)
        refine mm_blk (pc' := 130) ok_Md_net 1 _ _ _ rfl ?_
        exact mm_iret ok_Md_net rfl rfl ⟨rfl, rfl⟩
      · -- 78 f
        refine mm_blk (pc' := 79) ok_Md_net 1 _ _ _ rfl ?_
        refine mm_getf ok_Md_net (mp_0 w) rfl f_Md_44 rfl ?_
        refine mm_blk (pc' := 84) ok_Md_net 1 _ _ _ rfl ?_
        refine mm_iald (j := 6 * j + b) ok_Md_net (mp_13 w) rfl (ix6 _ _) (by omega) (oIs_get (by omega) _) ?_
        refine mm_if_ge ok_Md_net 92 rfl (by decide) (fun c => ?_) (fun c => ?_)
        rotate_left
        · exfalso; rcases hx with z | z | z | z <;> first | exact c55 z | exact z c65 | exact z (Int32.not_le.mp c75) | exact z (Int32.not_le.mp c)
        refine mm_blk (pc' := 98) ok_Md_net 4 _ _ _ rfl ?_
        refine mm_if_ne ok_Md_net 105 rfl (by decide) (fun c => ?_) (fun c => ?_)
        · exact absurd rfl c
        refine mm_blk (pc' := 119) ok_Md_net 2 _ _ _ rfl ?_
        refine mm_putf ok_Md_net (mp_0 w) rfl f_Md_62 (Or.inl rfl) (mm_fit_I _) ?_
        refine mm_V_heap (mu_0 w 0 _) ?_
        refine mm_blk (pc' := 123) ok_Md_net 1 _ _ _ rfl ?_
        refine mm_getf ok_Md_net (mp_0 w) rfl f_Md_62 rfl ?_
        refine mm_if_le ok_Md_net 131 rfl (by decide) (fun c => ?_) (fun c => ?_)
        · exact absurd (show (1 : Int32) ≤ 0 from c) (by decide)
        refine mm_blk (pc' := 130) ok_Md_net 1 _ _ _ rfl ?_
        exact mm_iret ok_Md_net rfl rfl ⟨rfl, rfl⟩
set_option maxHeartbeats 1000000 in
theorem c_Md_net_f (w : mm_inj mdom K) (ok : m_ok nd nn t) {i a j b : Nat} (hi : i < nd) (ha : a < m_cl t i) (hj : j < nd) (hb : b < m_cl t j) (d1 : ¬ t 10 (6 * i + a) = 0) (d2 : t 10 (6 * j + b) = 0) (d3 : t 13 (6 * i + a) < 0) (d4 : t 13 (6 * j + b) < 0) (hn : ¬ nn < 8) : mm_C G M_Md_net [.ref (K 0), .int (nI i), .int (nI a), .int (nI j), .int (nI b)] (MP K t h) 0 0 (mm_E (some (.int 0)) (MP K (m_s t 0 0 2) h)) := by
  have h4 := ok.1
  have h8 := ok.2.1
  have a6 := (ok.2.2.2.2.1 i hi).2.1
  have b6 := (ok.2.2.2.2.1 j hj).2.1
  refine mm_C_of (by decide +kernel) rfl (Nat.le_of_ble_eq_true rfl) rfl ?_
  refine mm_blk (pc' := 3) ok_Md_net 3 _ _ _ rfl ?_
  refine mm_cVE ok_Md_net (As := [.int (nI i), .int (nI a)]) rfl k_Md_net_86 (mp_0 w) rfl rfl rfl (Nat.le_of_ble_eq_true rfl) (c_Md_isCell1 w ok hi ha) ?_
  refine mm_if_eq ok_Md_net 23 rfl (by decide) (fun c => ?_) (fun c => ?_)
  · first | exact c (by decide) | exact absurd c (by decide)
  refine mm_blk (pc' := 13) ok_Md_net 3 _ _ _ rfl ?_
  refine mm_cVE ok_Md_net (As := [.int (nI j), .int (nI b)]) rfl k_Md_net_86 (mp_0 w) rfl rfl rfl (Nat.le_of_ble_eq_true rfl) (c_Md_isCell1 w ok hj hb) ?_
  refine mm_if_eq ok_Md_net 23 rfl (by decide) (fun c => ?_) (fun c => ?_)
  · first | exact c (by decide) | exact absurd c (by decide)
  refine mm_blk (pc' := 45) ok_Md_net 16 _ _ _ rfl ?_
  refine mm_if_eq ok_Md_net 92 rfl (by decide) (fun c => ?_) (fun c => ?_)
  · first | exact c (by decide) | exact absurd c (by decide)
  refine mm_blk (pc' := 49) ok_Md_net 1 _ _ _ rfl ?_
  refine mm_getf ok_Md_net (mp_0 w) rfl f_Md_34 rfl ?_
  refine mm_blk (pc' := 54) ok_Md_net 1 _ _ _ rfl ?_
  refine mm_zald (j := 6 * i + a) ok_Md_net (mp_10 w) rfl (ix6 _ _) (by omega) (oIs_get (by omega) _) ?_
  refine mm_if_eq ok_Md_net 92 rfl (by decide) (fun c => ?_) (fun c => ?_)
  · exact absurd c d1
  refine mm_blk (pc' := 59) ok_Md_net 1 _ _ _ rfl ?_
  refine mm_getf ok_Md_net (mp_0 w) rfl f_Md_34 rfl ?_
  refine mm_blk (pc' := 64) ok_Md_net 1 _ _ _ rfl ?_
  refine mm_zald (j := 6 * j + b) ok_Md_net (mp_10 w) rfl (ix6 _ _) (by omega) (oIs_get (by omega) _) ?_
  refine mm_if_ne ok_Md_net 92 rfl (by decide) (fun c => ?_) (fun c => ?_)
  · exact absurd d2 c
  refine mm_blk (pc' := 69) ok_Md_net 1 _ _ _ rfl ?_
  refine mm_getf ok_Md_net (mp_0 w) rfl f_Md_44 rfl ?_
  refine mm_blk (pc' := 74) ok_Md_net 1 _ _ _ rfl ?_
  refine mm_iald (j := 6 * i + a) ok_Md_net (mp_13 w) rfl (ix6 _ _) (by omega) (oIs_get (by omega) _) ?_
  refine mm_if_ge ok_Md_net 92 rfl (by decide) (fun c => ?_) (fun c => ?_)
  · exact absurd d3 (Int32.not_lt.mpr c)
  refine mm_blk (pc' := 79) ok_Md_net 1 _ _ _ rfl ?_
  refine mm_getf ok_Md_net (mp_0 w) rfl f_Md_44 rfl ?_
  refine mm_blk (pc' := 84) ok_Md_net 1 _ _ _ rfl ?_
  refine mm_iald (j := 6 * j + b) ok_Md_net (mp_13 w) rfl (ix6 _ _) (by omega) (oIs_get (by omega) _) ?_
  refine mm_if_ge ok_Md_net 92 rfl (by decide) (fun c => ?_) (fun c => ?_)
  · exact absurd d4 (Int32.not_lt.mpr c)
  refine mm_blk (pc' := 98) ok_Md_net 5 _ _ _ rfl ?_
  refine mm_if_ne ok_Md_net 105 rfl (by decide) (fun c => ?_) (fun c => ?_)
  rotate_left
  · exact absurd c (by decide)
  refine mm_blk (pc' := 106) ok_Md_net 1 _ _ _ rfl ?_
  refine mm_getf ok_Md_net (mp_0 w) rfl f_Md_89 rfl ?_
  refine mm_blk (pc' := 111) ok_Md_net 1 _ _ _ rfl ?_
  rw [ok.2.2.2.1]
  refine mm_ic_ne ok_Md_net 118 rfl (by decide) (fun c => ?_) (fun c => ?_)
  · exact absurd (show nI nn = nI 8 by rw [show nn = 8 by omega]) c
  refine mm_blk (pc' := 119) ok_Md_net 2 _ _ _ rfl ?_
  refine mm_putf ok_Md_net (mp_0 w) rfl f_Md_62 (Or.inl rfl) (mm_fit_I _) ?_
  refine mm_V_heap (mu_0 w 0 _) ?_
  refine mm_blk (pc' := 123) ok_Md_net 1 _ _ _ rfl ?_
  refine mm_getf ok_Md_net (mp_0 w) rfl f_Md_62 rfl ?_
  refine mm_if_le ok_Md_net 131 rfl (by decide) (fun c => ?_) (fun c => ?_)
  · exact absurd (show (2 : Int32) ≤ 0 from c) (by decide)
  refine mm_blk (pc' := 130) ok_Md_net 1 _ _ _ rfl ?_
  exact mm_iret ok_Md_net rfl rfl ⟨rfl, rfl⟩
set_option maxHeartbeats 2000000 in
theorem c_Md_net_r (w : mm_inj mdom K) (ok : m_ok nd nn t) {i a j b : Nat} (hi : i < nd) (ha : a < m_cl t i) (hj : j < nd) (hb : b < m_cl t j) (d1 : ¬ t 10 (6 * i + a) = 0) (d2 : t 10 (6 * j + b) = 0) (d3 : t 13 (6 * i + a) < 0) (d4 : t 13 (6 * j + b) < 0) (hn : nn < 8) : mm_C G M_Md_net [.ref (K 0), .int (nI i), .int (nI a), .int (nI j), .int (nI b)] (MP K t h) 0 0 (mm_E (some (.int (nI nn))) (MP K (m_net t nn (6 * i + a) (6 * j + b)) h)) := by
  have h4 := ok.1
  have h8 := ok.2.1
  have a6 := (ok.2.2.2.2.1 i hi).2.1
  have b6 := (ok.2.2.2.2.1 j hj).2.1
  have en := ok.2.2.2.1
  refine mm_C_of (by decide +kernel) rfl (Nat.le_of_ble_eq_true rfl) rfl ?_
  refine mm_blk (pc' := 3) ok_Md_net 3 _ _ _ rfl ?_
  refine mm_cVE ok_Md_net (As := [.int (nI i), .int (nI a)]) rfl k_Md_net_86 (mp_0 w) rfl rfl rfl (Nat.le_of_ble_eq_true rfl) (c_Md_isCell1 w ok hi ha) ?_
  refine mm_if_eq ok_Md_net 23 rfl (by decide) (fun c => ?_) (fun c => ?_)
  · first | exact c (by decide) | exact absurd c (by decide)
  refine mm_blk (pc' := 13) ok_Md_net 3 _ _ _ rfl ?_
  refine mm_cVE ok_Md_net (As := [.int (nI j), .int (nI b)]) rfl k_Md_net_86 (mp_0 w) rfl rfl rfl (Nat.le_of_ble_eq_true rfl) (c_Md_isCell1 w ok hj hb) ?_
  refine mm_if_eq ok_Md_net 23 rfl (by decide) (fun c => ?_) (fun c => ?_)
  · first | exact c (by decide) | exact absurd c (by decide)
  refine mm_blk (pc' := 32) ok_Md_net 8 _ _ _ rfl ?_
  rw [ix6]
  refine mm_blk (pc' := 41) ok_Md_net 6 _ _ _ rfl ?_
  rw [ix6]
  refine mm_blk (pc' := 45) ok_Md_net 2 _ _ _ rfl ?_
  refine mm_if_eq ok_Md_net 92 rfl (by decide) (fun c => ?_) (fun c => ?_)
  · first | exact c (by decide) | exact absurd c (by decide)
  refine mm_blk (pc' := 49) ok_Md_net 1 _ _ _ rfl ?_
  refine mm_getf ok_Md_net (mp_0 w) rfl f_Md_34 rfl ?_
  refine mm_blk (pc' := 54) ok_Md_net 1 _ _ _ rfl ?_
  refine mm_zald (j := 6 * i + a) ok_Md_net (mp_10 w) rfl rfl (by omega) (oIs_get (by omega) _) ?_
  refine mm_if_eq ok_Md_net 92 rfl (by decide) (fun c => ?_) (fun c => ?_)
  · exact absurd c d1
  refine mm_blk (pc' := 59) ok_Md_net 1 _ _ _ rfl ?_
  refine mm_getf ok_Md_net (mp_0 w) rfl f_Md_34 rfl ?_
  refine mm_blk (pc' := 64) ok_Md_net 1 _ _ _ rfl ?_
  refine mm_zald (j := 6 * j + b) ok_Md_net (mp_10 w) rfl rfl (by omega) (oIs_get (by omega) _) ?_
  refine mm_if_ne ok_Md_net 92 rfl (by decide) (fun c => ?_) (fun c => ?_)
  · exact absurd d2 c
  refine mm_blk (pc' := 69) ok_Md_net 1 _ _ _ rfl ?_
  refine mm_getf ok_Md_net (mp_0 w) rfl f_Md_44 rfl ?_
  refine mm_blk (pc' := 74) ok_Md_net 1 _ _ _ rfl ?_
  refine mm_iald (j := 6 * i + a) ok_Md_net (mp_13 w) rfl rfl (by omega) (oIs_get (by omega) _) ?_
  refine mm_if_ge ok_Md_net 92 rfl (by decide) (fun c => ?_) (fun c => ?_)
  · exact absurd d3 (Int32.not_lt.mpr c)
  refine mm_blk (pc' := 79) ok_Md_net 1 _ _ _ rfl ?_
  refine mm_getf ok_Md_net (mp_0 w) rfl f_Md_44 rfl ?_
  refine mm_blk (pc' := 84) ok_Md_net 1 _ _ _ rfl ?_
  refine mm_iald (j := 6 * j + b) ok_Md_net (mp_13 w) rfl rfl (by omega) (oIs_get (by omega) _) ?_
  refine mm_if_ge ok_Md_net 92 rfl (by decide) (fun c => ?_) (fun c => ?_)
  · exact absurd d4 (Int32.not_lt.mpr c)
  refine mm_blk (pc' := 98) ok_Md_net 5 _ _ _ rfl ?_
  refine mm_if_ne ok_Md_net 105 rfl (by decide) (fun c => ?_) (fun c => ?_)
  rotate_left
  · exact absurd c (by decide)
  refine mm_blk (pc' := 106) ok_Md_net 1 _ _ _ rfl ?_
  refine mm_getf ok_Md_net (mp_0 w) rfl f_Md_89 rfl ?_
  refine mm_blk (pc' := 111) ok_Md_net 1 _ _ _ rfl ?_
  rw [en]
  refine mm_ic_ne ok_Md_net 118 rfl (by decide) (fun c => ?_) (fun c => ?_)
  rotate_left
  · exact absurd ((nI_eq (b := 8) (by omega) (by decide)).mp c) (by omega)
  refine mm_blk (pc' := 119) ok_Md_net 1 _ _ _ rfl ?_
  refine mm_putf ok_Md_net (mp_0 w) rfl f_Md_62 (Or.inl rfl) (mm_fit_I _) ?_
  refine mm_V_heap (mu_0 w 0 _) ?_
  refine mm_blk (pc' := 123) ok_Md_net 1 _ _ _ rfl ?_
  refine mm_getf ok_Md_net (mp_0 w) rfl f_Md_62 rfl ?_
  refine mm_if_le ok_Md_net 131 rfl (by decide) (fun c => ?_) (fun c => ?_)
  rotate_left
  · exact absurd (show (0 : Int32) ≤ 0 by decide) c
  refine mm_blk (pc' := 132) ok_Md_net 1 _ _ _ rfl ?_
  refine mm_getf ok_Md_net (mp_0 w) rfl f_Md_44 rfl ?_
  refine mm_blk (pc' := 138) ok_Md_net 2 _ _ _ rfl ?_
  refine mm_getf ok_Md_net (mp_0 w) rfl f_Md_89 rfl ?_
  rw [show m_s t 0 0 0 0 14 = nI nn from en]
  refine mm_iast (j := 6 * i + a) ok_Md_net (mp_13 w) rfl rfl (by omega) (by rw [List.length_map, List.length_range]; exact (by omega)) ?_
  refine mm_V_heap (mu_13 w (by omega) _) ?_
  refine mm_blk (pc' := 143) ok_Md_net 1 _ _ _ rfl ?_
  refine mm_getf ok_Md_net (mp_0 w) rfl f_Md_44 rfl ?_
  refine mm_blk (pc' := 149) ok_Md_net 2 _ _ _ rfl ?_
  refine mm_getf ok_Md_net (mp_0 w) rfl f_Md_89 rfl ?_
  rw [show m_s (m_s t 0 0 0) 13 (6 * i + a) (nI nn) 0 14 = nI nn from en]
  refine mm_iast (j := 6 * j + b) ok_Md_net (mp_13 w) rfl rfl (by omega) (by rw [List.length_map, List.length_range]; exact (by omega)) ?_
  refine mm_V_heap (mu_13 w (by omega) _) ?_
  refine mm_blk (pc' := 154) ok_Md_net 1 _ _ _ rfl ?_
  refine mm_getf ok_Md_net (mp_0 w) rfl f_Md_47 rfl ?_
  refine mm_blk (pc' := 158) ok_Md_net 1 _ _ _ rfl ?_
  refine mm_getf ok_Md_net (mp_0 w) rfl f_Md_89 rfl ?_
  refine mm_blk (pc' := 163) ok_Md_net 1 _ _ _ rfl ?_
  refine mm_iast (j := nn) ok_Md_net (mp_15 w) rfl en (by omega) (by rw [List.length_map, List.length_range]; exact (by omega)) ?_
  refine mm_V_heap (mu_15 w (by omega) _) ?_
  refine mm_blk (pc' := 165) ok_Md_net 1 _ _ _ rfl ?_
  refine mm_getf ok_Md_net (mp_0 w) rfl f_Md_50 rfl ?_
  refine mm_blk (pc' := 169) ok_Md_net 1 _ _ _ rfl ?_
  refine mm_getf ok_Md_net (mp_0 w) rfl f_Md_89 rfl ?_
  refine mm_blk (pc' := 173) ok_Md_net 1 _ _ _ rfl ?_
  refine mm_iast (j := nn) ok_Md_net (mp_16 w) rfl en (by omega) (by rw [List.length_map, List.length_range]; exact (by omega)) ?_
  refine mm_V_heap (mu_16 w (by omega) _) ?_
  refine mm_blk (pc' := 175) ok_Md_net 1 _ _ _ rfl ?_
  refine mm_getf ok_Md_net (mp_0 w) rfl f_Md_53 rfl ?_
  refine mm_blk (pc' := 179) ok_Md_net 1 _ _ _ rfl ?_
  refine mm_getf ok_Md_net (mp_0 w) rfl f_Md_89 rfl ?_
  refine mm_blk (pc' := 183) ok_Md_net 1 _ _ _ rfl ?_
  refine mm_iast (j := nn) ok_Md_net (mp_17 w) rfl en (by omega) (by rw [List.length_map, List.length_range]; exact (by omega)) ?_
  refine mm_V_heap (mu_17 w (by omega) _) ?_
  refine mm_blk (pc' := 185) ok_Md_net 1 _ _ _ rfl ?_
  refine mm_getf ok_Md_net (mp_0 w) rfl f_Md_56 rfl ?_
  refine mm_blk (pc' := 189) ok_Md_net 1 _ _ _ rfl ?_
  refine mm_getf ok_Md_net (mp_0 w) rfl f_Md_89 rfl ?_
  refine mm_blk (pc' := 193) ok_Md_net 1 _ _ _ rfl ?_
  refine mm_iast (j := nn) ok_Md_net (mp_18 w) rfl en (by omega) (by rw [List.length_map, List.length_range]; exact (by omega)) ?_
  refine mm_V_heap (mu_18 w (by omega) _) ?_
  refine mm_blk (pc' := 196) ok_Md_net 2 _ _ _ rfl ?_
  refine mm_getf ok_Md_net (mp_0 w) rfl f_Md_89 rfl ?_
  refine mm_blk (pc' := 201) ok_Md_net 2 _ _ _ rfl ?_
  rw [show m_s (m_s (m_s (m_s (m_s (m_s (m_s t 0 0 0) 13 (6 * i + a) (nI nn)) 13 (6 * j + b) (nI nn)) 15 nn (nI (6 * i + a))) 16 nn (-1)) 17 nn (-1)) 18 nn 0 0 14 = nI nn from en, nI_1]
  refine mm_putf ok_Md_net (mp_0 w) rfl f_Md_89 (Or.inl rfl) (mm_fit_I _) ?_
  refine mm_V_heap (mu_0 w 14 (nI (nn + 1))) ?_
  refine mm_blk (pc' := 206) ok_Md_net 2 _ _ _ rfl ?_
  refine mm_putf ok_Md_net (mp_0 w) rfl f_Md_78 (Or.inl rfl) mm_fit_Z0 ?_
  refine mm_V_heap (mu_0 w 23 (0)) ?_
  refine mm_blk (pc' := 210) ok_Md_net 1 _ _ _ rfl ?_
  refine mm_getf ok_Md_net (mp_0 w) rfl f_Md_89 rfl ?_
  refine mm_blk (pc' := 215) ok_Md_net 2 _ _ _ rfl ?_
  rw [show m_s (m_s (m_s (m_s (m_s (m_s (m_s (m_s (m_s t 0 0 0) 13 (6 * i + a) (nI nn)) 13 (6 * j + b) (nI nn)) 15 nn (nI (6 * i + a))) 16 nn (-1)) 17 nn (-1)) 18 nn 0) 0 14 (nI (nn + 1))) 0 23 0 0 14 = nI (nn + 1) from rfl, nI_pred]
  exact mm_iret ok_Md_net rfl rfl ⟨rfl, rfl⟩
set_option maxHeartbeats 1000000 in
theorem c_Md_device_x (w : mm_inj mdom K) {b id cl dr : Int32} (hb : (b < 2 ∨ 4 < b ∨ id - id / 2 * 2 = 0 ∨ id = -1 ∨ cl < 1 ∨ 6 < cl)) : mm_C G M_Md_device [.ref (K 0), .int b, .int id, .int cl, .int dr] (MP K t h) 0 0 (mm_E (some (.int 0)) (MP K (m_s t 0 0 1) h)) := by
  refine mm_C_of (by decide +kernel) rfl (Nat.le_of_ble_eq_true rfl) rfl ?_
  refine mm_blk (pc' := 2) ok_Md_device 2 _ _ _ rfl ?_
  refine mm_ic_lt ok_Md_device 36 rfl (by decide) (fun c2 => ?_) (fun c2 => ?_)
  · -- 36 t
    refine mm_blk (pc' := 42) ok_Md_device 4 _ _ _ rfl ?_
    refine mm_if_ne ok_Md_device 49 rfl (by decide) (fun c => ?_) (fun c => ?_)
    · exact absurd rfl c
    refine mm_blk (pc' := 62) ok_Md_device 2 _ _ _ rfl ?_
    refine mm_putf ok_Md_device (mp_0 w) rfl f_Md_62 (Or.inl rfl) (mm_fit_I _) ?_
    refine mm_V_heap (mu_0 w 0 _) ?_
    refine mm_blk (pc' := 66) ok_Md_device 1 _ _ _ rfl ?_
    refine mm_getf ok_Md_device (mp_0 w) rfl f_Md_62 rfl ?_
    refine mm_if_le ok_Md_device 74 rfl (by decide) (fun c => ?_) (fun c => ?_)
    · exact absurd (show (1 : Int32) ≤ 0 from c) (by decide)
    refine mm_blk (pc' := 73) ok_Md_device 1 _ _ _ rfl ?_
    exact mm_iret ok_Md_device rfl rfl ⟨rfl, rfl⟩
  · -- 5 f
    refine mm_blk (pc' := 7) ok_Md_device 2 _ _ _ rfl ?_
    refine mm_ic_gt ok_Md_device 36 rfl (by decide) (fun c7 => ?_) (fun c7 => ?_)
    · -- 36 t
      refine mm_blk (pc' := 42) ok_Md_device 4 _ _ _ rfl ?_
      refine mm_if_ne ok_Md_device 49 rfl (by decide) (fun c => ?_) (fun c => ?_)
      · exact absurd rfl c
      refine mm_blk (pc' := 62) ok_Md_device 2 _ _ _ rfl ?_
      refine mm_putf ok_Md_device (mp_0 w) rfl f_Md_62 (Or.inl rfl) (mm_fit_I _) ?_
      refine mm_V_heap (mu_0 w 0 _) ?_
      refine mm_blk (pc' := 66) ok_Md_device 1 _ _ _ rfl ?_
      refine mm_getf ok_Md_device (mp_0 w) rfl f_Md_62 rfl ?_
      refine mm_if_le ok_Md_device 74 rfl (by decide) (fun c => ?_) (fun c => ?_)
      · exact absurd (show (1 : Int32) ≤ 0 from c) (by decide)
      refine mm_blk (pc' := 73) ok_Md_device 1 _ _ _ rfl ?_
      exact mm_iret ok_Md_device rfl rfl ⟨rfl, rfl⟩
    · -- 10 f
      refine mm_blk (pc' := 12) ok_Md_device 2 _ _ _ rfl ?_
      refine mm_irem ok_Md_device rfl (by decide) ?_
      refine mm_if_eq ok_Md_device 36 rfl (by decide) (fun c13 => ?_) (fun c13 => ?_)
      · -- 36 t
        refine mm_blk (pc' := 42) ok_Md_device 4 _ _ _ rfl ?_
        refine mm_if_ne ok_Md_device 49 rfl (by decide) (fun c => ?_) (fun c => ?_)
        · exact absurd rfl c
        refine mm_blk (pc' := 62) ok_Md_device 2 _ _ _ rfl ?_
        refine mm_putf ok_Md_device (mp_0 w) rfl f_Md_62 (Or.inl rfl) (mm_fit_I _) ?_
        refine mm_V_heap (mu_0 w 0 _) ?_
        refine mm_blk (pc' := 66) ok_Md_device 1 _ _ _ rfl ?_
        refine mm_getf ok_Md_device (mp_0 w) rfl f_Md_62 rfl ?_
        refine mm_if_le ok_Md_device 74 rfl (by decide) (fun c => ?_) (fun c => ?_)
        · exact absurd (show (1 : Int32) ≤ 0 from c) (by decide)
        refine mm_blk (pc' := 73) ok_Md_device 1 _ _ _ rfl ?_
        exact mm_iret ok_Md_device rfl rfl ⟨rfl, rfl⟩
      · -- 16 f
        refine mm_blk (pc' := 18) ok_Md_device 2 _ _ _ rfl ?_
        refine mm_ic_eq ok_Md_device 36 rfl (by decide) (fun c18 => ?_) (fun c18 => ?_)
        · -- 36 t
          refine mm_blk (pc' := 42) ok_Md_device 4 _ _ _ rfl ?_
          refine mm_if_ne ok_Md_device 49 rfl (by decide) (fun c => ?_) (fun c => ?_)
          · exact absurd rfl c
          refine mm_blk (pc' := 62) ok_Md_device 2 _ _ _ rfl ?_
          refine mm_putf ok_Md_device (mp_0 w) rfl f_Md_62 (Or.inl rfl) (mm_fit_I _) ?_
          refine mm_V_heap (mu_0 w 0 _) ?_
          refine mm_blk (pc' := 66) ok_Md_device 1 _ _ _ rfl ?_
          refine mm_getf ok_Md_device (mp_0 w) rfl f_Md_62 rfl ?_
          refine mm_if_le ok_Md_device 74 rfl (by decide) (fun c => ?_) (fun c => ?_)
          · exact absurd (show (1 : Int32) ≤ 0 from c) (by decide)
          refine mm_blk (pc' := 73) ok_Md_device 1 _ _ _ rfl ?_
          exact mm_iret ok_Md_device rfl rfl ⟨rfl, rfl⟩
        · -- 21 f
          refine mm_blk (pc' := 23) ok_Md_device 2 _ _ _ rfl ?_
          refine mm_ic_lt ok_Md_device 36 rfl (by decide) (fun c23 => ?_) (fun c23 => ?_)
          · -- 36 t
            refine mm_blk (pc' := 42) ok_Md_device 4 _ _ _ rfl ?_
            refine mm_if_ne ok_Md_device 49 rfl (by decide) (fun c => ?_) (fun c => ?_)
            · exact absurd rfl c
            refine mm_blk (pc' := 62) ok_Md_device 2 _ _ _ rfl ?_
            refine mm_putf ok_Md_device (mp_0 w) rfl f_Md_62 (Or.inl rfl) (mm_fit_I _) ?_
            refine mm_V_heap (mu_0 w 0 _) ?_
            refine mm_blk (pc' := 66) ok_Md_device 1 _ _ _ rfl ?_
            refine mm_getf ok_Md_device (mp_0 w) rfl f_Md_62 rfl ?_
            refine mm_if_le ok_Md_device 74 rfl (by decide) (fun c => ?_) (fun c => ?_)
            · exact absurd (show (1 : Int32) ≤ 0 from c) (by decide)
            refine mm_blk (pc' := 73) ok_Md_device 1 _ _ _ rfl ?_
            exact mm_iret ok_Md_device rfl rfl ⟨rfl, rfl⟩
          · -- 26 f
            refine mm_blk (pc' := 29) ok_Md_device 2 _ _ _ rfl ?_
            refine mm_ic_gt ok_Md_device 36 rfl (by decide) (fun c => ?_) (fun c => ?_)
            rotate_left
            · exfalso; rcases hb with z | z | z | z | z | z <;> contradiction
            refine mm_blk (pc' := 42) ok_Md_device 4 _ _ _ rfl ?_
            refine mm_if_ne ok_Md_device 49 rfl (by decide) (fun c => ?_) (fun c => ?_)
            · exact absurd rfl c
            refine mm_blk (pc' := 62) ok_Md_device 2 _ _ _ rfl ?_
            refine mm_putf ok_Md_device (mp_0 w) rfl f_Md_62 (Or.inl rfl) (mm_fit_I _) ?_
            refine mm_V_heap (mu_0 w 0 _) ?_
            refine mm_blk (pc' := 66) ok_Md_device 1 _ _ _ rfl ?_
            refine mm_getf ok_Md_device (mp_0 w) rfl f_Md_62 rfl ?_
            refine mm_if_le ok_Md_device 74 rfl (by decide) (fun c => ?_) (fun c => ?_)
            · exact absurd (show (1 : Int32) ≤ 0 from c) (by decide)
            refine mm_blk (pc' := 73) ok_Md_device 1 _ _ _ rfl ?_
            exact mm_iret ok_Md_device rfl rfl ⟨rfl, rfl⟩
set_option maxHeartbeats 1000000 in
theorem c_Md_device_y (w : mm_inj mdom K) (ok : m_ok nd nn t) {b id cl dr : Int32} (hb : ¬ (b < 2 ∨ 4 < b ∨ id - id / 2 * 2 = 0 ∨ id = -1 ∨ cl < 1 ∨ 6 < cl)) (hn : ¬ nd < 4) : mm_C G M_Md_device [.ref (K 0), .int b, .int id, .int cl, .int dr] (MP K t h) 0 0 (mm_E (some (.int 0)) (MP K (m_s t 0 0 2) h)) := by
  have h4 := ok.1
  refine mm_C_of (by decide +kernel) rfl (Nat.le_of_ble_eq_true rfl) rfl ?_
  refine mm_blk (pc' := 2) ok_Md_device 2 _ _ _ rfl ?_
  refine mm_ic_lt ok_Md_device 36 rfl (by decide) (fun c => ?_) (fun c => ?_)
  · exact absurd (Or.inl c) hb
  refine mm_blk (pc' := 7) ok_Md_device 2 _ _ _ rfl ?_
  refine mm_ic_gt ok_Md_device 36 rfl (by decide) (fun c => ?_) (fun c => ?_)
  · exact absurd (Or.inr (Or.inl c)) hb
  refine mm_blk (pc' := 12) ok_Md_device 2 _ _ _ rfl ?_
  refine mm_irem ok_Md_device rfl (by decide) ?_
  refine mm_if_eq ok_Md_device 36 rfl (by decide) (fun c => ?_) (fun c => ?_)
  · exact absurd (Or.inr (Or.inr (Or.inl c))) hb
  refine mm_blk (pc' := 18) ok_Md_device 2 _ _ _ rfl ?_
  refine mm_ic_eq ok_Md_device 36 rfl (by decide) (fun c => ?_) (fun c => ?_)
  · exact absurd (Or.inr (Or.inr (Or.inr (Or.inl c)))) hb
  refine mm_blk (pc' := 23) ok_Md_device 2 _ _ _ rfl ?_
  refine mm_ic_lt ok_Md_device 36 rfl (by decide) (fun c => ?_) (fun c => ?_)
  · exact absurd (Or.inr (Or.inr (Or.inr (Or.inr (Or.inl c))))) hb
  refine mm_blk (pc' := 29) ok_Md_device 2 _ _ _ rfl ?_
  refine mm_ic_gt ok_Md_device 36 rfl (by decide) (fun c => ?_) (fun c => ?_)
  · exact absurd (Or.inr (Or.inr (Or.inr (Or.inr (Or.inr c))))) hb
  refine mm_blk (pc' := 42) ok_Md_device 5 _ _ _ rfl ?_
  refine mm_if_ne ok_Md_device 49 rfl (by decide) (fun c => ?_) (fun c => ?_)
  rotate_left
  · exact absurd c (by decide)
  refine mm_blk (pc' := 50) ok_Md_device 1 _ _ _ rfl ?_
  refine mm_getf ok_Md_device (mp_0 w) rfl f_Md_66 rfl ?_
  refine mm_blk (pc' := 54) ok_Md_device 1 _ _ _ rfl ?_
  rw [ok.2.2.1]
  refine mm_ic_ne ok_Md_device 61 rfl (by decide) (fun c => ?_) (fun c => ?_)
  · exact absurd (show nI nd = nI 4 by rw [show nd = 4 by omega]) c
  refine mm_blk (pc' := 62) ok_Md_device 2 _ _ _ rfl ?_
  refine mm_putf ok_Md_device (mp_0 w) rfl f_Md_62 (Or.inl rfl) (mm_fit_I _) ?_
  refine mm_V_heap (mu_0 w 0 _) ?_
  refine mm_blk (pc' := 66) ok_Md_device 1 _ _ _ rfl ?_
  refine mm_getf ok_Md_device (mp_0 w) rfl f_Md_62 rfl ?_
  refine mm_if_le ok_Md_device 74 rfl (by decide) (fun c => ?_) (fun c => ?_)
  · exact absurd (show (2 : Int32) ≤ 0 from c) (by decide)
  refine mm_blk (pc' := 73) ok_Md_device 1 _ _ _ rfl ?_
  exact mm_iret ok_Md_device rfl rfl ⟨rfl, rfl⟩
set_option maxHeartbeats 1000000 in
theorem l_Md_dev1 (w : mm_inj mdom K) {b id dr g : Int32} {d cl : Nat} (hd : d < 4) (hc : cl ≤ 6) : ∀ (n i : Nat) (t : mS), i + n = cl → mm_V G M_Md_device 162 [(0, .ref (K 0)), (1, .int b), (2, .int id), (3, .int (nI cl)), (4, .int dr), (5, .int g), (6, .int (nI d)), (7, .int (nI cl))] [] (MP K (m_dv1 d dr n i t) h) 0 0 Q → mm_V G M_Md_device 107 [(0, .ref (K 0)), (1, .int b), (2, .int id), (3, .int (nI cl)), (4, .int dr), (5, .int g), (6, .int (nI d)), (7, .int (nI i))] [] (MP K t h) 0 0 Q := by
  intro n
  induction n with
  | zero =>
    intro i t hi kk
    refine mm_blk (pc' := 110) ok_Md_device 2 _ _ _ rfl ?_
    refine mm_ic_ge ok_Md_device 162 rfl (by decide) (fun c => ?_) (fun c => ?_)
    rotate_left
    · exact absurd (nI_le (by omega) (by omega)) c
    rw [show i = cl by omega]
    exact kk
  | succ n ih =>
    intro i t hi kk
    refine mm_blk (pc' := 110) ok_Md_device 2 _ _ _ rfl ?_
    refine mm_ic_ge ok_Md_device 162 rfl (by decide) (fun c => ?_) (fun c => ?_)
    · exact absurd c (nI_ge (by omega) (by omega))
    refine mm_blk (pc' := 114) ok_Md_device 1 _ _ _ rfl ?_
    refine mm_getf ok_Md_device (mp_0 w) rfl f_Md_34 rfl ?_
    refine mm_blk (pc' := 133) ok_Md_device 11 _ _ _ rfl ?_
    refine mm_tc_ne ok_Md_device 140 rfl (by decide) rfl rfl rfl (by decide) ?_
    refine mm_zast (j := 6 * d + i) ok_Md_device (mp_10 w) rfl (ix6 _ _) (by omega) (by rw [List.length_map, List.length_range]; exact (by omega)) mm_nb ?_
    refine mm_V_heap (mu_10 w (by omega) _) ?_
    refine mm_blk (pc' := 143) ok_Md_device 1 _ _ _ rfl ?_
    refine mm_getf ok_Md_device (mp_0 w) rfl f_Md_44 rfl ?_
    refine mm_blk (pc' := 155) ok_Md_device 6 _ _ _ rfl ?_
    refine mm_iast (j := 6 * d + i) ok_Md_device (mp_13 w) rfl (ix6 _ _) (by omega) (by rw [List.length_map, List.length_range]; exact (by omega)) ?_
    refine mm_V_heap (mu_13 w (by omega) _) ?_
    refine mm_blk (pc' := 107) ok_Md_device 2 _ _ _ rfl ?_
    rw [nI_1]
    exact ih (i + 1) _ (by omega) kk
set_option maxHeartbeats 1000000 in
theorem l_Md_dev2 (w : mm_inj mdom K) {b id dr g : Int32} {d cl : Nat}  : ∀ (n i : Nat) (t : mS), i + n = 24 → mm_V G M_Md_device 204 [(0, .ref (K 0)), (1, .int b), (2, .int id), (3, .int (nI cl)), (4, .int dr), (5, .int g), (6, .int (nI d)), (7, .int (nI 24))] [] (MP K (m_dv2 n i t) h) 0 0 Q → mm_V G M_Md_device 175 [(0, .ref (K 0)), (1, .int b), (2, .int id), (3, .int (nI cl)), (4, .int dr), (5, .int g), (6, .int (nI d)), (7, .int (nI i))] [] (MP K t h) 0 0 Q := by
  intro n
  induction n with
  | zero =>
    intro i t hi kk
    refine mm_blk (pc' := 179) ok_Md_device 2 _ _ _ rfl ?_
    refine mm_ic_ge ok_Md_device 204 rfl (by decide) (fun c => ?_) (fun c => ?_)
    rotate_left
    · exact absurd (show nI 24 ≤ nI i from nI_le (by omega) (by omega)) c
    rw [show i = 24 by omega]
    exact kk
  | succ n ih =>
    intro i t hi kk
    refine mm_blk (pc' := 179) ok_Md_device 2 _ _ _ rfl ?_
    refine mm_ic_ge ok_Md_device 204 rfl (by decide) (fun c => ?_) (fun c => ?_)
    · exact absurd c (show ¬ nI 24 ≤ nI i from nI_ge (by omega) (by omega))
    refine mm_blk (pc' := 183) ok_Md_device 1 _ _ _ rfl ?_
    refine mm_getf ok_Md_device (mp_0 w) rfl f_Md_38 rfl ?_
    refine mm_blk (pc' := 189) ok_Md_device 2 _ _ _ rfl ?_
    refine mm_iast (j := i) ok_Md_device (mp_11 w) rfl rfl (by omega) (by rw [List.length_map, List.length_range]; exact (by omega)) ?_
    refine mm_V_heap (mu_11 w (by omega) _) ?_
    refine mm_blk (pc' := 191) ok_Md_device 1 _ _ _ rfl ?_
    refine mm_getf ok_Md_device (mp_0 w) rfl f_Md_41 rfl ?_
    refine mm_blk (pc' := 197) ok_Md_device 2 _ _ _ rfl ?_
    refine mm_iast (j := i) ok_Md_device (mp_12 w) rfl rfl (by omega) (by rw [List.length_map, List.length_range]; exact (by omega)) ?_
    refine mm_V_heap (mu_12 w (by omega) _) ?_
    refine mm_blk (pc' := 175) ok_Md_device 2 _ _ _ rfl ?_
    rw [nI_1]
    exact ih (i + 1) _ (by omega) kk
set_option maxHeartbeats 1000000 in
theorem l_Md_dev3 (w : mm_inj mdom K) {b id dr g : Int32} {d cl : Nat} {m : Nat} (hm : m ≤ 4) : ∀ (n i : Nat) (t : mS), t 0 1 = nI m → i + n = m → mm_V G M_Md_device 230 [(0, .ref (K 0)), (1, .int b), (2, .int id), (3, .int (nI cl)), (4, .int dr), (5, .int g), (6, .int (nI d)), (7, .int (nI m))] [] (MP K (up (fun d t => m_s t 5 d 1) n i t) h) 0 0 Q → mm_V G M_Md_device 207 [(0, .ref (K 0)), (1, .int b), (2, .int id), (3, .int (nI cl)), (4, .int dr), (5, .int g), (6, .int (nI d)), (7, .int (nI i))] [] (MP K t h) 0 0 Q := by
  intro n
  induction n with
  | zero =>
    intro i t hz hi kk
    refine mm_blk (pc' := 210) ok_Md_device 2 _ _ _ rfl ?_
    refine mm_getf ok_Md_device (mp_0 w) rfl f_Md_66 rfl ?_
    rw [hz]
    refine mm_ic_ge ok_Md_device 230 rfl (by decide) (fun c => ?_) (fun c => ?_)
    rotate_left
    · exact absurd (nI_le (by omega) (by omega)) c
    rw [show i = m by omega]
    exact kk
  | succ n ih =>
    intro i t hz hi kk
    refine mm_blk (pc' := 210) ok_Md_device 2 _ _ _ rfl ?_
    refine mm_getf ok_Md_device (mp_0 w) rfl f_Md_66 rfl ?_
    rw [hz]
    refine mm_ic_ge ok_Md_device 230 rfl (by decide) (fun c => ?_) (fun c => ?_)
    · exact absurd c (nI_ge (by omega) (by omega))
    refine mm_blk (pc' := 217) ok_Md_device 1 _ _ _ rfl ?_
    refine mm_getf ok_Md_device (mp_0 w) rfl f_Md_19 rfl ?_
    refine mm_blk (pc' := 223) ok_Md_device 2 _ _ _ rfl ?_
    refine mm_iast (j := i) ok_Md_device (mp_5 w) rfl rfl (by omega) (by rw [List.length_map, List.length_range]; exact (by omega)) ?_
    refine mm_V_heap (mu_5 w (by omega) _) ?_
    refine mm_blk (pc' := 207) ok_Md_device 2 _ _ _ rfl ?_
    rw [nI_1]
    exact ih (i + 1) (m_s t 5 i 1) hz (by omega) kk
set_option maxHeartbeats 4000000 in
theorem c_Md_device_r (w : mm_inj mdom K) (ok : m_ok nd nn t) {b id dr : Int32} {cl : Nat} (hcl : cl ≤ 6) (hb : ¬ (b < 2 ∨ 4 < b ∨ id - id / 2 * 2 = 0 ∨ id = -1 ∨ nI cl < 1 ∨ 6 < nI cl)) (hn : nd < 4) : mm_C G M_Md_device [.ref (K 0), .int b, .int id, .int (nI cl), .int dr] (MP K t h) 0 0 (mm_E (some (.int (nI nd))) (MP K (m_dev t nd b id cl dr) h)) := by
  have en := ok.2.2.1
  refine mm_C_of (by decide +kernel) rfl (Nat.le_of_ble_eq_true rfl) rfl ?_
  refine mm_blk (pc' := 2) ok_Md_device 2 _ _ _ rfl ?_
  refine mm_ic_lt ok_Md_device 36 rfl (by decide) (fun c => ?_) (fun c => ?_)
  · exact absurd (Or.inl c) hb
  refine mm_blk (pc' := 7) ok_Md_device 2 _ _ _ rfl ?_
  refine mm_ic_gt ok_Md_device 36 rfl (by decide) (fun c => ?_) (fun c => ?_)
  · exact absurd (Or.inr (Or.inl c)) hb
  refine mm_blk (pc' := 12) ok_Md_device 2 _ _ _ rfl ?_
  refine mm_irem ok_Md_device rfl (by decide) ?_
  refine mm_if_eq ok_Md_device 36 rfl (by decide) (fun c => ?_) (fun c => ?_)
  · exact absurd (Or.inr (Or.inr (Or.inl c))) hb
  refine mm_blk (pc' := 18) ok_Md_device 2 _ _ _ rfl ?_
  refine mm_ic_eq ok_Md_device 36 rfl (by decide) (fun c => ?_) (fun c => ?_)
  · exact absurd (Or.inr (Or.inr (Or.inr (Or.inl c)))) hb
  refine mm_blk (pc' := 23) ok_Md_device 2 _ _ _ rfl ?_
  refine mm_ic_lt ok_Md_device 36 rfl (by decide) (fun c => ?_) (fun c => ?_)
  · exact absurd (Or.inr (Or.inr (Or.inr (Or.inr (Or.inl c))))) hb
  refine mm_blk (pc' := 29) ok_Md_device 2 _ _ _ rfl ?_
  refine mm_ic_gt ok_Md_device 36 rfl (by decide) (fun c => ?_) (fun c => ?_)
  · exact absurd (Or.inr (Or.inr (Or.inr (Or.inr (Or.inr c))))) hb
  refine mm_blk (pc' := 42) ok_Md_device 5 _ _ _ rfl ?_
  refine mm_if_ne ok_Md_device 49 rfl (by decide) (fun c => ?_) (fun c => ?_)
  rotate_left
  · exact absurd c (by decide)
  refine mm_blk (pc' := 50) ok_Md_device 1 _ _ _ rfl ?_
  refine mm_getf ok_Md_device (mp_0 w) rfl f_Md_66 rfl ?_
  refine mm_blk (pc' := 54) ok_Md_device 1 _ _ _ rfl ?_
  rw [en]
  refine mm_ic_ne ok_Md_device 61 rfl (by decide) (fun c => ?_) (fun c => ?_)
  rotate_left
  · exact absurd ((nI_eq (b := 4) (by omega) (by decide)).mp c) (by omega)
  refine mm_blk (pc' := 62) ok_Md_device 1 _ _ _ rfl ?_
  refine mm_putf ok_Md_device (mp_0 w) rfl f_Md_62 (Or.inl rfl) (mm_fit_I _) ?_
  refine mm_V_heap (mu_0 w 0 _) ?_
  refine mm_blk (pc' := 66) ok_Md_device 1 _ _ _ rfl ?_
  refine mm_getf ok_Md_device (mp_0 w) rfl f_Md_62 rfl ?_
  refine mm_if_le ok_Md_device 74 rfl (by decide) (fun c => ?_) (fun c => ?_)
  rotate_left
  · exact absurd (show (0 : Int32) ≤ 0 by decide) c
  refine mm_blk (pc' := 75) ok_Md_device 1 _ _ _ rfl ?_
  refine mm_getf ok_Md_device (mp_0 w) rfl f_Md_66 rfl ?_
  rw [show m_s t 0 0 0 0 1 = nI nd from en]
  refine mm_blk (pc' := 81) ok_Md_device 2 _ _ _ rfl ?_
  refine mm_getf ok_Md_device (mp_0 w) rfl f_Md_7 rfl ?_
  refine mm_blk (pc' := 87) ok_Md_device 2 _ _ _ rfl ?_
  refine mm_iast (j := nd) ok_Md_device (mp_2 w) rfl rfl (by omega) (by rw [List.length_map, List.length_range]; exact (by omega)) ?_
  refine mm_V_heap (mu_2 w (by omega) _) ?_
  refine mm_blk (pc' := 89) ok_Md_device 1 _ _ _ rfl ?_
  refine mm_getf ok_Md_device (mp_0 w) rfl f_Md_13 rfl ?_
  refine mm_blk (pc' := 95) ok_Md_device 2 _ _ _ rfl ?_
  refine mm_iast (j := nd) ok_Md_device (mp_3 w) rfl rfl (by omega) (by rw [List.length_map, List.length_range]; exact (by omega)) ?_
  refine mm_V_heap (mu_3 w (by omega) _) ?_
  refine mm_blk (pc' := 97) ok_Md_device 1 _ _ _ rfl ?_
  refine mm_getf ok_Md_device (mp_0 w) rfl f_Md_16 rfl ?_
  refine mm_blk (pc' := 103) ok_Md_device 2 _ _ _ rfl ?_
  refine mm_iast (j := nd) ok_Md_device (mp_4 w) rfl rfl (by omega) (by rw [List.length_map, List.length_range]; exact (by omega)) ?_
  refine mm_V_heap (mu_4 w (by omega) _) ?_
  refine mm_blk (pc' := 107) ok_Md_device 2 _ _ _ rfl ?_
  refine l_Md_dev1 (d := nd) w hn hcl cl 0 _ (by omega) ?_
  obtain ⟨t1, ht1⟩ : ∃ t1, t1 = m_dv1 nd dr cl 0 (m_dvA t nd b id cl) := ⟨_, rfl⟩
  have e1 : t1 0 1 = nI nd := by
    rw [ht1]
    have e0 : m_dv1 nd dr cl 0 (m_dvA t nd b id cl) 0 = m_dvA t nd b id cl 0 := by
      refine up_0 ?_ _ _ _
      intro _ _; rfl
    rw [e0]; exact en
  unfold m_dev
  rw [← ht1]
  refine mm_V_heap (show MP K (m_dv1 nd dr cl 0 _) h = MP K t1 h by rw [ht1]; rfl) ?_
  refine mm_blk (pc' := 164) ok_Md_device 2 _ _ _ rfl ?_
  refine mm_getf ok_Md_device (mp_0 w) rfl f_Md_66 rfl ?_
  refine mm_blk (pc' := 169) ok_Md_device 2 _ _ _ rfl ?_
  rw [e1, nI_1]
  refine mm_putf ok_Md_device (mp_0 w) rfl f_Md_66 (Or.inl rfl) (mm_fit_I _) ?_
  refine mm_V_heap (mu_0 w 1 (nI (nd + 1))) ?_
  refine mm_blk (pc' := 175) ok_Md_device 2 _ _ _ rfl ?_
  obtain ⟨t2, ht2⟩ : ∃ t2, t2 = m_s t1 0 1 (nI (nd + 1)) := ⟨_, rfl⟩
  have e2 : t2 0 1 = nI (nd + 1) := by rw [ht2]; rfl
  rw [← ht2]
  refine l_Md_dev2 w 24 0 t2 (by omega) ?_
  obtain ⟨t3, ht3⟩ : ∃ t3, t3 = m_dv2 24 0 t2 := ⟨_, rfl⟩
  have e3 : t3 0 1 = nI (nd + 1) := by
    rw [ht3, show m_dv2 24 0 t2 0 = t2 0 by
      refine up_0 ?_ _ _ _
      intro _ _; rfl]
    exact e2
  rw [← ht3]
  refine mm_blk (pc' := 207) ok_Md_device 2 _ _ _ rfl ?_
  refine l_Md_dev3 w (m := nd + 1) (by omega) (nd + 1) 0 t3 e3 (by omega) ?_
  rw [show up (fun d t => m_s t 5 d 1) (nd + 1) 0 t3 = m_rst (nd + 1) t3 from rfl]
  generalize m_rst (nd + 1) t3 = t4
  refine mm_blk (pc' := 232) ok_Md_device 2 _ _ _ rfl ?_
  refine mm_putf ok_Md_device (mp_0 w) rfl f_Md_69 (Or.inl rfl) (mm_fit_I _) ?_
  refine mm_V_heap (mu_0 w 19 (0)) ?_
  refine mm_blk (pc' := 237) ok_Md_device 2 _ _ _ rfl ?_
  refine mm_putf ok_Md_device (mp_0 w) rfl f_Md_72 (Or.inl rfl) (mm_fit_I _) ?_
  refine mm_V_heap (mu_0 w 20 (0)) ?_
  refine mm_blk (pc' := 242) ok_Md_device 2 _ _ _ rfl ?_
  refine mm_putf ok_Md_device (mp_0 w) rfl f_Md_75 (Or.inl rfl) (mm_fit_I _) ?_
  refine mm_V_heap (mu_0 w 21 (0)) ?_
  refine mm_blk (pc' := 247) ok_Md_device 2 _ _ _ rfl ?_
  refine mm_putf ok_Md_device (mp_0 w) rfl f_Md_78 (Or.inl rfl) mm_fit_Z0 ?_
  refine mm_V_heap (mu_0 w 23 (0)) ?_
  refine mm_blk (pc' := 252) ok_Md_device 1 _ _ _ rfl ?_
  exact mm_iret ok_Md_device rfl rfl ⟨rfl, rfl⟩
end MD5
