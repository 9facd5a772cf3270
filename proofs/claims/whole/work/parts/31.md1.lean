/-! the reference: its smaller methods -/
def m_out (t : mS) (c : Nat) : Int32 := if t 5 (c / 6) = 0 then t 11 c else t 12 c
def m_val (t : mS) (j : Nat) : Int32 := if t 16 j < 0 then m_out t (m_dr t j) else if t 16 j < 2 then t 16 j else if t 16 j = 2 then m_out t (m_dr t j) * m_out t (m_dr t (m_pt t j)) else m_out t (m_dr t j) + m_out t (m_dr t (m_pt t j)) - m_out t (m_dr t j) * m_out t (m_dr t (m_pt t j))
def m_sg (t : mS) (c : Nat) : Int32 := if t 10 c = 0 then (if t 13 c < 0 then 0 else m_val t (m_no t c)) else m_out t c
def m_cut (t : mS) (j : Nat) : mS := m_s (m_s t 16 j (-1)) 17 j (-1)
def m_heal (t : mS) (j : Nat) : mS := if t 17 j < 0 then m_cut t j else m_cut (m_cut t j) (m_pt t j)
def dnk (z : Nat → Int32) (a k : Nat) : Nat → Int32 := fun i => if a ≤ i ∧ i + 1 < a + k then z (i + 1) else z i
def dn (z : Nat → Int32) (a l : Nat) (x : Int32) : Nat → Int32 := upd (dnk z a l) (a + l - 1) x
def dwn (f : Nat → Int32 → Int32) : Nat → Int32 → Int32
  | 0, v => v
  | k + 1, v => dwn f k (f k v)
def m_num (t : mS) (d : Nat) : Int32 := dwn (fun k v => 2 * v + t 6 (4 * d + k)) (m_wd t d) 0
section MD1
variable {G : mm_G} {K : Nat → Nat} {t : mS} {h : mm_Hp} {nd nn : Nat}
theorem dnk_1 (z : Nat → Int32) (a : Nat) : dnk z a 1 = z := by
  funext i
  unfold dnk
  rw [if_neg (by omega)]
theorem dnk_s (z : Nat → Int32) (a k : Nat) (hk : 1 ≤ k) : upd (dnk z a k) (a + k - 1) (dnk z a k (a + k)) = dnk z a (k + 1) := by
  funext i
  unfold upd dnk
  by_cases e : i = a + k - 1
  · rw [if_pos e, if_neg (by omega), if_pos (by omega), e]
    congr 1
    omega
  · rw [if_neg e]
    by_cases e2 : a ≤ i ∧ i + 1 < a + k
    · rw [if_pos e2, if_pos (by omega)]
    · rw [if_neg e2, if_neg (by omega)]

set_option maxHeartbeats 1000000 in
theorem c_Md_thrown (w : mm_inj mdom K)  : mm_C G M_Md_thrown [.ref (K 0)] (MP K t h) 0 0 (mm_E (some (.int (t 0 0))) (MP K t h)) := by
  refine mm_C_of (by decide +kernel) rfl (Nat.le_of_ble_eq_true rfl) rfl ?_
  refine mm_blk (pc' := 1) ok_Md_thrown 1 _ _ _ rfl ?_
  refine mm_getf ok_Md_thrown (mp_0 w) rfl f_Md_62 rfl ?_
  exact mm_iret ok_Md_thrown rfl rfl ⟨rfl, rfl⟩
set_option maxHeartbeats 1000000 in
theorem c_Md_out1  {x y : Int32} (hx : x < 0 ∨ ¬ x < y) : mm_C G M_Md_out [.int x, .int y] h 0 0 (mm_E (some (.int 1)) h) := by
  refine mm_C_of (by decide +kernel) rfl (Nat.le_of_ble_eq_true rfl) rfl ?_
  refine mm_blk (pc' := 1) ok_Md_out 1 _ _ _ rfl ?_
  refine mm_if_lt ok_Md_out 9 rfl (by decide) (fun c1 => ?_) (fun c1 => ?_)
  · -- 9 t
    refine mm_blk (pc' := 14) ok_Md_out 2 _ _ _ rfl ?_
    exact mm_zret ok_Md_out rfl rfl rfl ⟨rfl, rfl⟩
  · -- 4 f
    refine mm_blk (pc' := 6) ok_Md_out 2 _ _ _ rfl ?_
    refine mm_ic_lt ok_Md_out 13 rfl (by decide) (fun c => ?_) (fun c => ?_)
    · exact absurd c (hx.resolve_left c1)
    refine mm_blk (pc' := 14) ok_Md_out 2 _ _ _ rfl ?_
    exact mm_zret ok_Md_out rfl rfl rfl ⟨rfl, rfl⟩
set_option maxHeartbeats 1000000 in
theorem c_Md_out0  {x y : Int32} (h0 : ¬ x < 0) (hx : x < y) : mm_C G M_Md_out [.int x, .int y] h 0 0 (mm_E (some (.int 0)) h) := by
  refine mm_C_of (by decide +kernel) rfl (Nat.le_of_ble_eq_true rfl) rfl ?_
  refine mm_blk (pc' := 1) ok_Md_out 1 _ _ _ rfl ?_
  refine mm_if_lt ok_Md_out 9 rfl (by decide) (fun c => ?_) (fun c => ?_)
  · exact absurd c h0
  refine mm_blk (pc' := 6) ok_Md_out 2 _ _ _ rfl ?_
  refine mm_ic_lt ok_Md_out 13 rfl (by decide) (fun c => ?_) (fun c => ?_)
  rotate_left
  · exact absurd hx c
  refine mm_blk (pc' := 14) ok_Md_out 1 _ _ _ rfl ?_
  exact mm_zret ok_Md_out rfl rfl rfl ⟨rfl, rfl⟩
theorem c_Md_outN {a b : Nat} (hab : a < b) (hb : b < 1000) : mm_C G M_Md_out [.int (nI a), .int (nI b)] h 0 0 (mm_E (some (.int 0)) h) := c_Md_out0 (nI_pos (by omega)) (nI_lt hab (by omega))
theorem out_of {x : Int32} {n : Nat} (hn : n < 2147483648) (hx : ¬ inR x n) : x < 0 ∨ ¬ x < nI n := by
  rcases pk_ix x (n := n) hn with h1 | h1 | h1
  · exact Or.inl h1
  · exact Or.inr (Int32.not_lt.mpr h1)
  · exact absurd ((inR_iff hn).mpr h1) hx
set_option maxHeartbeats 1000000 in
theorem c_Md_fail (w : mm_inj mdom K) (x : Int32) : mm_C G M_Md_fail [.ref (K 0), .int x] (MP K t h) 0 0 (mm_E (some (.int 0)) (MP K (m_s t 0 0 x) h)) := by
  refine mm_C_of (by decide +kernel) rfl (Nat.le_of_ble_eq_true rfl) rfl ?_
  refine mm_blk (pc' := 2) ok_Md_fail 2 _ _ _ rfl ?_
  refine mm_putf ok_Md_fail (mp_0 w) rfl f_Md_62 (Or.inl rfl) (mm_fit_I _) ?_
  refine mm_V_heap (mu_0 w 0 _) ?_
  refine mm_blk (pc' := 6) ok_Md_fail 1 _ _ _ rfl ?_
  exact mm_iret ok_Md_fail rfl rfl ⟨rfl, rfl⟩
set_option maxHeartbeats 1000000 in
theorem c_Md_after0_0   : mm_C G M_Md_after [.int (nI 0), .int 0] h 0 0 (mm_E (some (.int 1)) h) := by
  refine mm_C_of (by decide +kernel) rfl (Nat.le_of_ble_eq_true rfl) rfl ?_
  refine mm_blk (pc' := 1) ok_Md_after 1 _ _ _ rfl ?_
  refine mm_if_eq ok_Md_after 127 rfl (by decide) (fun c => ?_) (fun c => ?_)
  rotate_left
  · first | exact c (by decide) | exact absurd c (by decide)
  refine mm_blk (pc' := 129) ok_Md_after 2 _ _ _ rfl ?_
  refine mm_ic_lt ok_Md_after 144 rfl (by decide) (fun c => ?_) (fun c => ?_)
  rotate_left
  · first | exact c (by decide) | exact absurd c (by decide)
  refine mm_blk (pc' := 229) ok_Md_after 2 _ _ _ rfl ?_
  exact mm_iret ok_Md_after rfl rfl ⟨rfl, rfl⟩
set_option maxHeartbeats 1000000 in
theorem c_Md_after1_0  {b : Int32} (hb : ¬ b = 0) : mm_C G M_Md_after [.int (nI 0), .int b] h 0 0 (mm_E (some (.int 0)) h) := by
  refine mm_C_of (by decide +kernel) rfl (Nat.le_of_ble_eq_true rfl) rfl ?_
  refine mm_blk (pc' := 1) ok_Md_after 1 _ _ _ rfl ?_
  refine mm_if_eq ok_Md_after 127 rfl (by decide) (fun c => ?_) (fun c => ?_)
  · exact absurd c hb
  refine mm_blk (pc' := 5) ok_Md_after 1 _ _ _ rfl ?_
  refine mm_if_eq ok_Md_after 14 rfl (by decide) (fun c => ?_) (fun c => ?_)
  rotate_left
  · first | exact c (by decide) | exact absurd c (by decide)
  refine mm_blk (pc' := 126) ok_Md_after 2 _ _ _ rfl ?_
  exact mm_iret ok_Md_after rfl rfl ⟨rfl, rfl⟩
set_option maxHeartbeats 1000000 in
theorem c_Md_after0_1   : mm_C G M_Md_after [.int (nI 1), .int 0] h 0 0 (mm_E (some (.int 1)) h) := by
  refine mm_C_of (by decide +kernel) rfl (Nat.le_of_ble_eq_true rfl) rfl ?_
  refine mm_blk (pc' := 1) ok_Md_after 1 _ _ _ rfl ?_
  refine mm_if_eq ok_Md_after 127 rfl (by decide) (fun c => ?_) (fun c => ?_)
  rotate_left
  · first | exact c (by decide) | exact absurd c (by decide)
  refine mm_blk (pc' := 129) ok_Md_after 2 _ _ _ rfl ?_
  refine mm_ic_lt ok_Md_after 144 rfl (by decide) (fun c => ?_) (fun c => ?_)
  rotate_left
  · first | exact c (by decide) | exact absurd c (by decide)
  refine mm_blk (pc' := 229) ok_Md_after 2 _ _ _ rfl ?_
  exact mm_iret ok_Md_after rfl rfl ⟨rfl, rfl⟩
set_option maxHeartbeats 1000000 in
theorem c_Md_after1_1  {b : Int32} (hb : ¬ b = 0) : mm_C G M_Md_after [.int (nI 1), .int b] h 0 0 (mm_E (some (.int 2)) h) := by
  refine mm_C_of (by decide +kernel) rfl (Nat.le_of_ble_eq_true rfl) rfl ?_
  refine mm_blk (pc' := 1) ok_Md_after 1 _ _ _ rfl ?_
  refine mm_if_eq ok_Md_after 127 rfl (by decide) (fun c => ?_) (fun c => ?_)
  · exact absurd c hb
  refine mm_blk (pc' := 5) ok_Md_after 1 _ _ _ rfl ?_
  refine mm_if_eq ok_Md_after 14 rfl (by decide) (fun c => ?_) (fun c => ?_)
  · first | exact c (by decide) | exact absurd c (by decide)
  refine mm_blk (pc' := 11) ok_Md_after 2 _ _ _ rfl ?_
  refine mm_ic_ne ok_Md_after 18 rfl (by decide) (fun c => ?_) (fun c => ?_)
  rotate_left
  · first | exact c (by decide) | exact absurd c (by decide)
  refine mm_blk (pc' := 20) ok_Md_after 2 _ _ _ rfl ?_
  refine mm_ic_eq ok_Md_after 35 rfl (by decide) (fun c => ?_) (fun c => ?_)
  rotate_left
  · first | exact c (by decide) | exact absurd c (by decide)
  refine mm_blk (pc' := 126) ok_Md_after 2 _ _ _ rfl ?_
  exact mm_iret ok_Md_after rfl rfl ⟨rfl, rfl⟩
set_option maxHeartbeats 1000000 in
theorem c_Md_after0_2   : mm_C G M_Md_after [.int (nI 2), .int 0] h 0 0 (mm_E (some (.int 3)) h) := by
  refine mm_C_of (by decide +kernel) rfl (Nat.le_of_ble_eq_true rfl) rfl ?_
  refine mm_blk (pc' := 1) ok_Md_after 1 _ _ _ rfl ?_
  refine mm_if_eq ok_Md_after 127 rfl (by decide) (fun c => ?_) (fun c => ?_)
  rotate_left
  · first | exact c (by decide) | exact absurd c (by decide)
  refine mm_blk (pc' := 129) ok_Md_after 2 _ _ _ rfl ?_
  refine mm_ic_lt ok_Md_after 144 rfl (by decide) (fun c => ?_) (fun c => ?_)
  · first | exact c (by decide) | exact absurd c (by decide)
  refine mm_blk (pc' := 135) ok_Md_after 2 _ _ _ rfl ?_
  refine mm_ic_eq ok_Md_after 144 rfl (by decide) (fun c => ?_) (fun c => ?_)
  · first | exact c (by decide) | exact absurd c (by decide)
  refine mm_blk (pc' := 141) ok_Md_after 2 _ _ _ rfl ?_
  refine mm_ic_ne ok_Md_after 148 rfl (by decide) (fun c => ?_) (fun c => ?_)
  rotate_left
  · first | exact c (by decide) | exact absurd c (by decide)
  refine mm_blk (pc' := 150) ok_Md_after 2 _ _ _ rfl ?_
  refine mm_ic_ne ok_Md_after 157 rfl (by decide) (fun c => ?_) (fun c => ?_)
  · first | exact c (by decide) | exact absurd c (by decide)
  refine mm_blk (pc' := 229) ok_Md_after 2 _ _ _ rfl ?_
  exact mm_iret ok_Md_after rfl rfl ⟨rfl, rfl⟩
set_option maxHeartbeats 1000000 in
theorem c_Md_after1_2  {b : Int32} (hb : ¬ b = 0) : mm_C G M_Md_after [.int (nI 2), .int b] h 0 0 (mm_E (some (.int 9)) h) := by
  refine mm_C_of (by decide +kernel) rfl (Nat.le_of_ble_eq_true rfl) rfl ?_
  refine mm_blk (pc' := 1) ok_Md_after 1 _ _ _ rfl ?_
  refine mm_if_eq ok_Md_after 127 rfl (by decide) (fun c => ?_) (fun c => ?_)
  · exact absurd c hb
  refine mm_blk (pc' := 5) ok_Md_after 1 _ _ _ rfl ?_
  refine mm_if_eq ok_Md_after 14 rfl (by decide) (fun c => ?_) (fun c => ?_)
  · first | exact c (by decide) | exact absurd c (by decide)
  refine mm_blk (pc' := 11) ok_Md_after 2 _ _ _ rfl ?_
  refine mm_ic_ne ok_Md_after 18 rfl (by decide) (fun c => ?_) (fun c => ?_)
  rotate_left
  · first | exact c (by decide) | exact absurd c (by decide)
  refine mm_blk (pc' := 20) ok_Md_after 2 _ _ _ rfl ?_
  refine mm_ic_eq ok_Md_after 35 rfl (by decide) (fun c => ?_) (fun c => ?_)
  · first | exact c (by decide) | exact absurd c (by decide)
  refine mm_blk (pc' := 26) ok_Md_after 2 _ _ _ rfl ?_
  refine mm_ic_eq ok_Md_after 35 rfl (by decide) (fun c => ?_) (fun c => ?_)
  · first | exact c (by decide) | exact absurd c (by decide)
  refine mm_blk (pc' := 32) ok_Md_after 2 _ _ _ rfl ?_
  refine mm_ic_ne ok_Md_after 39 rfl (by decide) (fun c => ?_) (fun c => ?_)
  rotate_left
  · first | exact c (by decide) | exact absurd c (by decide)
  refine mm_blk (pc' := 41) ok_Md_after 2 _ _ _ rfl ?_
  refine mm_ic_ne ok_Md_after 49 rfl (by decide) (fun c => ?_) (fun c => ?_)
  · first | exact c (by decide) | exact absurd c (by decide)
  refine mm_blk (pc' := 126) ok_Md_after 2 _ _ _ rfl ?_
  exact mm_iret ok_Md_after rfl rfl ⟨rfl, rfl⟩
set_option maxHeartbeats 1000000 in
theorem c_Md_after0_3   : mm_C G M_Md_after [.int (nI 3), .int 0] h 0 0 (mm_E (some (.int 4)) h) := by
  refine mm_C_of (by decide +kernel) rfl (Nat.le_of_ble_eq_true rfl) rfl ?_
  refine mm_blk (pc' := 1) ok_Md_after 1 _ _ _ rfl ?_
  refine mm_if_eq ok_Md_after 127 rfl (by decide) (fun c => ?_) (fun c => ?_)
  rotate_left
  · first | exact c (by decide) | exact absurd c (by decide)
  refine mm_blk (pc' := 129) ok_Md_after 2 _ _ _ rfl ?_
  refine mm_ic_lt ok_Md_after 144 rfl (by decide) (fun c => ?_) (fun c => ?_)
  · first | exact c (by decide) | exact absurd c (by decide)
  refine mm_blk (pc' := 135) ok_Md_after 2 _ _ _ rfl ?_
  refine mm_ic_eq ok_Md_after 144 rfl (by decide) (fun c => ?_) (fun c => ?_)
  · first | exact c (by decide) | exact absurd c (by decide)
  refine mm_blk (pc' := 141) ok_Md_after 2 _ _ _ rfl ?_
  refine mm_ic_ne ok_Md_after 148 rfl (by decide) (fun c => ?_) (fun c => ?_)
  rotate_left
  · first | exact c (by decide) | exact absurd c (by decide)
  refine mm_blk (pc' := 150) ok_Md_after 2 _ _ _ rfl ?_
  refine mm_ic_ne ok_Md_after 157 rfl (by decide) (fun c => ?_) (fun c => ?_)
  rotate_left
  · first | exact c (by decide) | exact absurd c (by decide)
  refine mm_blk (pc' := 159) ok_Md_after 2 _ _ _ rfl ?_
  refine mm_ic_eq ok_Md_after 173 rfl (by decide) (fun c => ?_) (fun c => ?_)
  rotate_left
  · first | exact c (by decide) | exact absurd c (by decide)
  refine mm_blk (pc' := 229) ok_Md_after 2 _ _ _ rfl ?_
  exact mm_iret ok_Md_after rfl rfl ⟨rfl, rfl⟩
set_option maxHeartbeats 1000000 in
theorem c_Md_after1_3  {b : Int32} (hb : ¬ b = 0) : mm_C G M_Md_after [.int (nI 3), .int b] h 0 0 (mm_E (some (.int 5)) h) := by
  refine mm_C_of (by decide +kernel) rfl (Nat.le_of_ble_eq_true rfl) rfl ?_
  refine mm_blk (pc' := 1) ok_Md_after 1 _ _ _ rfl ?_
  refine mm_if_eq ok_Md_after 127 rfl (by decide) (fun c => ?_) (fun c => ?_)
  · exact absurd c hb
  refine mm_blk (pc' := 5) ok_Md_after 1 _ _ _ rfl ?_
  refine mm_if_eq ok_Md_after 14 rfl (by decide) (fun c => ?_) (fun c => ?_)
  · first | exact c (by decide) | exact absurd c (by decide)
  refine mm_blk (pc' := 11) ok_Md_after 2 _ _ _ rfl ?_
  refine mm_ic_ne ok_Md_after 18 rfl (by decide) (fun c => ?_) (fun c => ?_)
  rotate_left
  · first | exact c (by decide) | exact absurd c (by decide)
  refine mm_blk (pc' := 20) ok_Md_after 2 _ _ _ rfl ?_
  refine mm_ic_eq ok_Md_after 35 rfl (by decide) (fun c => ?_) (fun c => ?_)
  · first | exact c (by decide) | exact absurd c (by decide)
  refine mm_blk (pc' := 26) ok_Md_after 2 _ _ _ rfl ?_
  refine mm_ic_eq ok_Md_after 35 rfl (by decide) (fun c => ?_) (fun c => ?_)
  · first | exact c (by decide) | exact absurd c (by decide)
  refine mm_blk (pc' := 32) ok_Md_after 2 _ _ _ rfl ?_
  refine mm_ic_ne ok_Md_after 39 rfl (by decide) (fun c => ?_) (fun c => ?_)
  rotate_left
  · first | exact c (by decide) | exact absurd c (by decide)
  refine mm_blk (pc' := 41) ok_Md_after 2 _ _ _ rfl ?_
  refine mm_ic_ne ok_Md_after 49 rfl (by decide) (fun c => ?_) (fun c => ?_)
  rotate_left
  · first | exact c (by decide) | exact absurd c (by decide)
  refine mm_blk (pc' := 51) ok_Md_after 2 _ _ _ rfl ?_
  refine mm_ic_eq ok_Md_after 59 rfl (by decide) (fun c => ?_) (fun c => ?_)
  rotate_left
  · first | exact c (by decide) | exact absurd c (by decide)
  refine mm_blk (pc' := 126) ok_Md_after 2 _ _ _ rfl ?_
  exact mm_iret ok_Md_after rfl rfl ⟨rfl, rfl⟩
set_option maxHeartbeats 1000000 in
theorem c_Md_after0_4   : mm_C G M_Md_after [.int (nI 4), .int 0] h 0 0 (mm_E (some (.int 4)) h) := by
  refine mm_C_of (by decide +kernel) rfl (Nat.le_of_ble_eq_true rfl) rfl ?_
  refine mm_blk (pc' := 1) ok_Md_after 1 _ _ _ rfl ?_
  refine mm_if_eq ok_Md_after 127 rfl (by decide) (fun c => ?_) (fun c => ?_)
  rotate_left
  · first | exact c (by decide) | exact absurd c (by decide)
  refine mm_blk (pc' := 129) ok_Md_after 2 _ _ _ rfl ?_
  refine mm_ic_lt ok_Md_after 144 rfl (by decide) (fun c => ?_) (fun c => ?_)
  · first | exact c (by decide) | exact absurd c (by decide)
  refine mm_blk (pc' := 135) ok_Md_after 2 _ _ _ rfl ?_
  refine mm_ic_eq ok_Md_after 144 rfl (by decide) (fun c => ?_) (fun c => ?_)
  · first | exact c (by decide) | exact absurd c (by decide)
  refine mm_blk (pc' := 141) ok_Md_after 2 _ _ _ rfl ?_
  refine mm_ic_ne ok_Md_after 148 rfl (by decide) (fun c => ?_) (fun c => ?_)
  rotate_left
  · first | exact c (by decide) | exact absurd c (by decide)
  refine mm_blk (pc' := 150) ok_Md_after 2 _ _ _ rfl ?_
  refine mm_ic_ne ok_Md_after 157 rfl (by decide) (fun c => ?_) (fun c => ?_)
  rotate_left
  · first | exact c (by decide) | exact absurd c (by decide)
  refine mm_blk (pc' := 159) ok_Md_after 2 _ _ _ rfl ?_
  refine mm_ic_eq ok_Md_after 173 rfl (by decide) (fun c => ?_) (fun c => ?_)
  · first | exact c (by decide) | exact absurd c (by decide)
  refine mm_blk (pc' := 164) ok_Md_after 2 _ _ _ rfl ?_
  refine mm_ic_eq ok_Md_after 173 rfl (by decide) (fun c => ?_) (fun c => ?_)
  rotate_left
  · first | exact c (by decide) | exact absurd c (by decide)
  refine mm_blk (pc' := 229) ok_Md_after 2 _ _ _ rfl ?_
  exact mm_iret ok_Md_after rfl rfl ⟨rfl, rfl⟩
set_option maxHeartbeats 1000000 in
theorem c_Md_after1_4  {b : Int32} (hb : ¬ b = 0) : mm_C G M_Md_after [.int (nI 4), .int b] h 0 0 (mm_E (some (.int 5)) h) := by
  refine mm_C_of (by decide +kernel) rfl (Nat.le_of_ble_eq_true rfl) rfl ?_
  refine mm_blk (pc' := 1) ok_Md_after 1 _ _ _ rfl ?_
  refine mm_if_eq ok_Md_after 127 rfl (by decide) (fun c => ?_) (fun c => ?_)
  · exact absurd c hb
  refine mm_blk (pc' := 5) ok_Md_after 1 _ _ _ rfl ?_
  refine mm_if_eq ok_Md_after 14 rfl (by decide) (fun c => ?_) (fun c => ?_)
  · first | exact c (by decide) | exact absurd c (by decide)
  refine mm_blk (pc' := 11) ok_Md_after 2 _ _ _ rfl ?_
  refine mm_ic_ne ok_Md_after 18 rfl (by decide) (fun c => ?_) (fun c => ?_)
  rotate_left
  · first | exact c (by decide) | exact absurd c (by decide)
  refine mm_blk (pc' := 20) ok_Md_after 2 _ _ _ rfl ?_
  refine mm_ic_eq ok_Md_after 35 rfl (by decide) (fun c => ?_) (fun c => ?_)
  · first | exact c (by decide) | exact absurd c (by decide)
  refine mm_blk (pc' := 26) ok_Md_after 2 _ _ _ rfl ?_
  refine mm_ic_eq ok_Md_after 35 rfl (by decide) (fun c => ?_) (fun c => ?_)
  · first | exact c (by decide) | exact absurd c (by decide)
  refine mm_blk (pc' := 32) ok_Md_after 2 _ _ _ rfl ?_
  refine mm_ic_ne ok_Md_after 39 rfl (by decide) (fun c => ?_) (fun c => ?_)
  rotate_left
  · first | exact c (by decide) | exact absurd c (by decide)
  refine mm_blk (pc' := 41) ok_Md_after 2 _ _ _ rfl ?_
  refine mm_ic_ne ok_Md_after 49 rfl (by decide) (fun c => ?_) (fun c => ?_)
  rotate_left
  · first | exact c (by decide) | exact absurd c (by decide)
  refine mm_blk (pc' := 51) ok_Md_after 2 _ _ _ rfl ?_
  refine mm_ic_eq ok_Md_after 59 rfl (by decide) (fun c => ?_) (fun c => ?_)
  · first | exact c (by decide) | exact absurd c (by decide)
  refine mm_blk (pc' := 56) ok_Md_after 2 _ _ _ rfl ?_
  refine mm_ic_ne ok_Md_after 63 rfl (by decide) (fun c => ?_) (fun c => ?_)
  · first | exact c (by decide) | exact absurd c (by decide)
  refine mm_blk (pc' := 126) ok_Md_after 2 _ _ _ rfl ?_
  exact mm_iret ok_Md_after rfl rfl ⟨rfl, rfl⟩
set_option maxHeartbeats 1000000 in
theorem c_Md_after0_5   : mm_C G M_Md_after [.int (nI 5), .int 0] h 0 0 (mm_E (some (.int 6)) h) := by
  refine mm_C_of (by decide +kernel) rfl (Nat.le_of_ble_eq_true rfl) rfl ?_
  refine mm_blk (pc' := 1) ok_Md_after 1 _ _ _ rfl ?_
  refine mm_if_eq ok_Md_after 127 rfl (by decide) (fun c => ?_) (fun c => ?_)
  rotate_left
  · first | exact c (by decide) | exact absurd c (by decide)
  refine mm_blk (pc' := 129) ok_Md_after 2 _ _ _ rfl ?_
  refine mm_ic_lt ok_Md_after 144 rfl (by decide) (fun c => ?_) (fun c => ?_)
  · first | exact c (by decide) | exact absurd c (by decide)
  refine mm_blk (pc' := 135) ok_Md_after 2 _ _ _ rfl ?_
  refine mm_ic_eq ok_Md_after 144 rfl (by decide) (fun c => ?_) (fun c => ?_)
  · first | exact c (by decide) | exact absurd c (by decide)
  refine mm_blk (pc' := 141) ok_Md_after 2 _ _ _ rfl ?_
  refine mm_ic_ne ok_Md_after 148 rfl (by decide) (fun c => ?_) (fun c => ?_)
  rotate_left
  · first | exact c (by decide) | exact absurd c (by decide)
  refine mm_blk (pc' := 150) ok_Md_after 2 _ _ _ rfl ?_
  refine mm_ic_ne ok_Md_after 157 rfl (by decide) (fun c => ?_) (fun c => ?_)
  rotate_left
  · first | exact c (by decide) | exact absurd c (by decide)
  refine mm_blk (pc' := 159) ok_Md_after 2 _ _ _ rfl ?_
  refine mm_ic_eq ok_Md_after 173 rfl (by decide) (fun c => ?_) (fun c => ?_)
  · first | exact c (by decide) | exact absurd c (by decide)
  refine mm_blk (pc' := 164) ok_Md_after 2 _ _ _ rfl ?_
  refine mm_ic_eq ok_Md_after 173 rfl (by decide) (fun c => ?_) (fun c => ?_)
  · first | exact c (by decide) | exact absurd c (by decide)
  refine mm_blk (pc' := 170) ok_Md_after 2 _ _ _ rfl ?_
  refine mm_ic_ne ok_Md_after 177 rfl (by decide) (fun c => ?_) (fun c => ?_)
  rotate_left
  · first | exact c (by decide) | exact absurd c (by decide)
  refine mm_blk (pc' := 179) ok_Md_after 2 _ _ _ rfl ?_
  refine mm_ic_eq ok_Md_after 188 rfl (by decide) (fun c => ?_) (fun c => ?_)
  rotate_left
  · first | exact c (by decide) | exact absurd c (by decide)
  refine mm_blk (pc' := 229) ok_Md_after 2 _ _ _ rfl ?_
  exact mm_iret ok_Md_after rfl rfl ⟨rfl, rfl⟩
set_option maxHeartbeats 1000000 in
theorem c_Md_after1_5  {b : Int32} (hb : ¬ b = 0) : mm_C G M_Md_after [.int (nI 5), .int b] h 0 0 (mm_E (some (.int 8)) h) := by
  refine mm_C_of (by decide +kernel) rfl (Nat.le_of_ble_eq_true rfl) rfl ?_
  refine mm_blk (pc' := 1) ok_Md_after 1 _ _ _ rfl ?_
  refine mm_if_eq ok_Md_after 127 rfl (by decide) (fun c => ?_) (fun c => ?_)
  · exact absurd c hb
  refine mm_blk (pc' := 5) ok_Md_after 1 _ _ _ rfl ?_
  refine mm_if_eq ok_Md_after 14 rfl (by decide) (fun c => ?_) (fun c => ?_)
  · first | exact c (by decide) | exact absurd c (by decide)
  refine mm_blk (pc' := 11) ok_Md_after 2 _ _ _ rfl ?_
  refine mm_ic_ne ok_Md_after 18 rfl (by decide) (fun c => ?_) (fun c => ?_)
  rotate_left
  · first | exact c (by decide) | exact absurd c (by decide)
  refine mm_blk (pc' := 20) ok_Md_after 2 _ _ _ rfl ?_
  refine mm_ic_eq ok_Md_after 35 rfl (by decide) (fun c => ?_) (fun c => ?_)
  · first | exact c (by decide) | exact absurd c (by decide)
  refine mm_blk (pc' := 26) ok_Md_after 2 _ _ _ rfl ?_
  refine mm_ic_eq ok_Md_after 35 rfl (by decide) (fun c => ?_) (fun c => ?_)
  · first | exact c (by decide) | exact absurd c (by decide)
  refine mm_blk (pc' := 32) ok_Md_after 2 _ _ _ rfl ?_
  refine mm_ic_ne ok_Md_after 39 rfl (by decide) (fun c => ?_) (fun c => ?_)
  rotate_left
  · first | exact c (by decide) | exact absurd c (by decide)
  refine mm_blk (pc' := 41) ok_Md_after 2 _ _ _ rfl ?_
  refine mm_ic_ne ok_Md_after 49 rfl (by decide) (fun c => ?_) (fun c => ?_)
  rotate_left
  · first | exact c (by decide) | exact absurd c (by decide)
  refine mm_blk (pc' := 51) ok_Md_after 2 _ _ _ rfl ?_
  refine mm_ic_eq ok_Md_after 59 rfl (by decide) (fun c => ?_) (fun c => ?_)
  · first | exact c (by decide) | exact absurd c (by decide)
  refine mm_blk (pc' := 56) ok_Md_after 2 _ _ _ rfl ?_
  refine mm_ic_ne ok_Md_after 63 rfl (by decide) (fun c => ?_) (fun c => ?_)
  rotate_left
  · first | exact c (by decide) | exact absurd c (by decide)
  refine mm_blk (pc' := 65) ok_Md_after 2 _ _ _ rfl ?_
  refine mm_ic_eq ok_Md_after 74 rfl (by decide) (fun c => ?_) (fun c => ?_)
  rotate_left
  · first | exact c (by decide) | exact absurd c (by decide)
  refine mm_blk (pc' := 126) ok_Md_after 2 _ _ _ rfl ?_
  exact mm_iret ok_Md_after rfl rfl ⟨rfl, rfl⟩
set_option maxHeartbeats 1000000 in
theorem c_Md_after0_6   : mm_C G M_Md_after [.int (nI 6), .int 0] h 0 0 (mm_E (some (.int 6)) h) := by
  refine mm_C_of (by decide +kernel) rfl (Nat.le_of_ble_eq_true rfl) rfl ?_
  refine mm_blk (pc' := 1) ok_Md_after 1 _ _ _ rfl ?_
  refine mm_if_eq ok_Md_after 127 rfl (by decide) (fun c => ?_) (fun c => ?_)
  rotate_left
  · first | exact c (by decide) | exact absurd c (by decide)
  refine mm_blk (pc' := 129) ok_Md_after 2 _ _ _ rfl ?_
  refine mm_ic_lt ok_Md_after 144 rfl (by decide) (fun c => ?_) (fun c => ?_)
  · first | exact c (by decide) | exact absurd c (by decide)
  refine mm_blk (pc' := 135) ok_Md_after 2 _ _ _ rfl ?_
  refine mm_ic_eq ok_Md_after 144 rfl (by decide) (fun c => ?_) (fun c => ?_)
  · first | exact c (by decide) | exact absurd c (by decide)
  refine mm_blk (pc' := 141) ok_Md_after 2 _ _ _ rfl ?_
  refine mm_ic_ne ok_Md_after 148 rfl (by decide) (fun c => ?_) (fun c => ?_)
  rotate_left
  · first | exact c (by decide) | exact absurd c (by decide)
  refine mm_blk (pc' := 150) ok_Md_after 2 _ _ _ rfl ?_
  refine mm_ic_ne ok_Md_after 157 rfl (by decide) (fun c => ?_) (fun c => ?_)
  rotate_left
  · first | exact c (by decide) | exact absurd c (by decide)
  refine mm_blk (pc' := 159) ok_Md_after 2 _ _ _ rfl ?_
  refine mm_ic_eq ok_Md_after 173 rfl (by decide) (fun c => ?_) (fun c => ?_)
  · first | exact c (by decide) | exact absurd c (by decide)
  refine mm_blk (pc' := 164) ok_Md_after 2 _ _ _ rfl ?_
  refine mm_ic_eq ok_Md_after 173 rfl (by decide) (fun c => ?_) (fun c => ?_)
  · first | exact c (by decide) | exact absurd c (by decide)
  refine mm_blk (pc' := 170) ok_Md_after 2 _ _ _ rfl ?_
  refine mm_ic_ne ok_Md_after 177 rfl (by decide) (fun c => ?_) (fun c => ?_)
  rotate_left
  · first | exact c (by decide) | exact absurd c (by decide)
  refine mm_blk (pc' := 179) ok_Md_after 2 _ _ _ rfl ?_
  refine mm_ic_eq ok_Md_after 188 rfl (by decide) (fun c => ?_) (fun c => ?_)
  · first | exact c (by decide) | exact absurd c (by decide)
  refine mm_blk (pc' := 185) ok_Md_after 2 _ _ _ rfl ?_
  refine mm_ic_ne ok_Md_after 193 rfl (by decide) (fun c => ?_) (fun c => ?_)
  · first | exact c (by decide) | exact absurd c (by decide)
  refine mm_blk (pc' := 229) ok_Md_after 2 _ _ _ rfl ?_
  exact mm_iret ok_Md_after rfl rfl ⟨rfl, rfl⟩
set_option maxHeartbeats 1000000 in
theorem c_Md_after1_6  {b : Int32} (hb : ¬ b = 0) : mm_C G M_Md_after [.int (nI 6), .int b] h 0 0 (mm_E (some (.int 7)) h) := by
  refine mm_C_of (by decide +kernel) rfl (Nat.le_of_ble_eq_true rfl) rfl ?_
  refine mm_blk (pc' := 1) ok_Md_after 1 _ _ _ rfl ?_
  refine mm_if_eq ok_Md_after 127 rfl (by decide) (fun c => ?_) (fun c => ?_)
  · exact absurd c hb
  refine mm_blk (pc' := 5) ok_Md_after 1 _ _ _ rfl ?_
  refine mm_if_eq ok_Md_after 14 rfl (by decide) (fun c => ?_) (fun c => ?_)
  · first | exact c (by decide) | exact absurd c (by decide)
  refine mm_blk (pc' := 11) ok_Md_after 2 _ _ _ rfl ?_
  refine mm_ic_ne ok_Md_after 18 rfl (by decide) (fun c => ?_) (fun c => ?_)
  rotate_left
  · first | exact c (by decide) | exact absurd c (by decide)
  refine mm_blk (pc' := 20) ok_Md_after 2 _ _ _ rfl ?_
  refine mm_ic_eq ok_Md_after 35 rfl (by decide) (fun c => ?_) (fun c => ?_)
  · first | exact c (by decide) | exact absurd c (by decide)
  refine mm_blk (pc' := 26) ok_Md_after 2 _ _ _ rfl ?_
  refine mm_ic_eq ok_Md_after 35 rfl (by decide) (fun c => ?_) (fun c => ?_)
  · first | exact c (by decide) | exact absurd c (by decide)
  refine mm_blk (pc' := 32) ok_Md_after 2 _ _ _ rfl ?_
  refine mm_ic_ne ok_Md_after 39 rfl (by decide) (fun c => ?_) (fun c => ?_)
  rotate_left
  · first | exact c (by decide) | exact absurd c (by decide)
  refine mm_blk (pc' := 41) ok_Md_after 2 _ _ _ rfl ?_
  refine mm_ic_ne ok_Md_after 49 rfl (by decide) (fun c => ?_) (fun c => ?_)
  rotate_left
  · first | exact c (by decide) | exact absurd c (by decide)
  refine mm_blk (pc' := 51) ok_Md_after 2 _ _ _ rfl ?_
  refine mm_ic_eq ok_Md_after 59 rfl (by decide) (fun c => ?_) (fun c => ?_)
  · first | exact c (by decide) | exact absurd c (by decide)
  refine mm_blk (pc' := 56) ok_Md_after 2 _ _ _ rfl ?_
  refine mm_ic_ne ok_Md_after 63 rfl (by decide) (fun c => ?_) (fun c => ?_)
  rotate_left
  · first | exact c (by decide) | exact absurd c (by decide)
  refine mm_blk (pc' := 65) ok_Md_after 2 _ _ _ rfl ?_
  refine mm_ic_eq ok_Md_after 74 rfl (by decide) (fun c => ?_) (fun c => ?_)
  · first | exact c (by decide) | exact absurd c (by decide)
  refine mm_blk (pc' := 71) ok_Md_after 2 _ _ _ rfl ?_
  refine mm_ic_ne ok_Md_after 79 rfl (by decide) (fun c => ?_) (fun c => ?_)
  rotate_left
  · first | exact c (by decide) | exact absurd c (by decide)
  refine mm_blk (pc' := 82) ok_Md_after 2 _ _ _ rfl ?_
  refine mm_ic_ne ok_Md_after 90 rfl (by decide) (fun c => ?_) (fun c => ?_)
  · first | exact c (by decide) | exact absurd c (by decide)
  refine mm_blk (pc' := 126) ok_Md_after 2 _ _ _ rfl ?_
  exact mm_iret ok_Md_after rfl rfl ⟨rfl, rfl⟩
set_option maxHeartbeats 1000000 in
theorem c_Md_after0_7   : mm_C G M_Md_after [.int (nI 7), .int 0] h 0 0 (mm_E (some (.int 4)) h) := by
  refine mm_C_of (by decide +kernel) rfl (Nat.le_of_ble_eq_true rfl) rfl ?_
  refine mm_blk (pc' := 1) ok_Md_after 1 _ _ _ rfl ?_
  refine mm_if_eq ok_Md_after 127 rfl (by decide) (fun c => ?_) (fun c => ?_)
  rotate_left
  · first | exact c (by decide) | exact absurd c (by decide)
  refine mm_blk (pc' := 129) ok_Md_after 2 _ _ _ rfl ?_
  refine mm_ic_lt ok_Md_after 144 rfl (by decide) (fun c => ?_) (fun c => ?_)
  · first | exact c (by decide) | exact absurd c (by decide)
  refine mm_blk (pc' := 135) ok_Md_after 2 _ _ _ rfl ?_
  refine mm_ic_eq ok_Md_after 144 rfl (by decide) (fun c => ?_) (fun c => ?_)
  · first | exact c (by decide) | exact absurd c (by decide)
  refine mm_blk (pc' := 141) ok_Md_after 2 _ _ _ rfl ?_
  refine mm_ic_ne ok_Md_after 148 rfl (by decide) (fun c => ?_) (fun c => ?_)
  rotate_left
  · first | exact c (by decide) | exact absurd c (by decide)
  refine mm_blk (pc' := 150) ok_Md_after 2 _ _ _ rfl ?_
  refine mm_ic_ne ok_Md_after 157 rfl (by decide) (fun c => ?_) (fun c => ?_)
  rotate_left
  · first | exact c (by decide) | exact absurd c (by decide)
  refine mm_blk (pc' := 159) ok_Md_after 2 _ _ _ rfl ?_
  refine mm_ic_eq ok_Md_after 173 rfl (by decide) (fun c => ?_) (fun c => ?_)
  · first | exact c (by decide) | exact absurd c (by decide)
  refine mm_blk (pc' := 164) ok_Md_after 2 _ _ _ rfl ?_
  refine mm_ic_eq ok_Md_after 173 rfl (by decide) (fun c => ?_) (fun c => ?_)
  · first | exact c (by decide) | exact absurd c (by decide)
  refine mm_blk (pc' := 170) ok_Md_after 2 _ _ _ rfl ?_
  refine mm_ic_ne ok_Md_after 177 rfl (by decide) (fun c => ?_) (fun c => ?_)
  · first | exact c (by decide) | exact absurd c (by decide)
  refine mm_blk (pc' := 229) ok_Md_after 2 _ _ _ rfl ?_
  exact mm_iret ok_Md_after rfl rfl ⟨rfl, rfl⟩
set_option maxHeartbeats 1000000 in
theorem c_Md_after1_7  {b : Int32} (hb : ¬ b = 0) : mm_C G M_Md_after [.int (nI 7), .int b] h 0 0 (mm_E (some (.int 8)) h) := by
  refine mm_C_of (by decide +kernel) rfl (Nat.le_of_ble_eq_true rfl) rfl ?_
  refine mm_blk (pc' := 1) ok_Md_after 1 _ _ _ rfl ?_
  refine mm_if_eq ok_Md_after 127 rfl (by decide) (fun c => ?_) (fun c => ?_)
  · exact absurd c hb
  refine mm_blk (pc' := 5) ok_Md_after 1 _ _ _ rfl ?_
  refine mm_if_eq ok_Md_after 14 rfl (by decide) (fun c => ?_) (fun c => ?_)
  · first | exact c (by decide) | exact absurd c (by decide)
  refine mm_blk (pc' := 11) ok_Md_after 2 _ _ _ rfl ?_
  refine mm_ic_ne ok_Md_after 18 rfl (by decide) (fun c => ?_) (fun c => ?_)
  rotate_left
  · first | exact c (by decide) | exact absurd c (by decide)
  refine mm_blk (pc' := 20) ok_Md_after 2 _ _ _ rfl ?_
  refine mm_ic_eq ok_Md_after 35 rfl (by decide) (fun c => ?_) (fun c => ?_)
  · first | exact c (by decide) | exact absurd c (by decide)
  refine mm_blk (pc' := 26) ok_Md_after 2 _ _ _ rfl ?_
  refine mm_ic_eq ok_Md_after 35 rfl (by decide) (fun c => ?_) (fun c => ?_)
  · first | exact c (by decide) | exact absurd c (by decide)
  refine mm_blk (pc' := 32) ok_Md_after 2 _ _ _ rfl ?_
  refine mm_ic_ne ok_Md_after 39 rfl (by decide) (fun c => ?_) (fun c => ?_)
  rotate_left
  · first | exact c (by decide) | exact absurd c (by decide)
  refine mm_blk (pc' := 41) ok_Md_after 2 _ _ _ rfl ?_
  refine mm_ic_ne ok_Md_after 49 rfl (by decide) (fun c => ?_) (fun c => ?_)
  rotate_left
  · first | exact c (by decide) | exact absurd c (by decide)
  refine mm_blk (pc' := 51) ok_Md_after 2 _ _ _ rfl ?_
  refine mm_ic_eq ok_Md_after 59 rfl (by decide) (fun c => ?_) (fun c => ?_)
  · first | exact c (by decide) | exact absurd c (by decide)
  refine mm_blk (pc' := 56) ok_Md_after 2 _ _ _ rfl ?_
  refine mm_ic_ne ok_Md_after 63 rfl (by decide) (fun c => ?_) (fun c => ?_)
  rotate_left
  · first | exact c (by decide) | exact absurd c (by decide)
  refine mm_blk (pc' := 65) ok_Md_after 2 _ _ _ rfl ?_
  refine mm_ic_eq ok_Md_after 74 rfl (by decide) (fun c => ?_) (fun c => ?_)
  · first | exact c (by decide) | exact absurd c (by decide)
  refine mm_blk (pc' := 71) ok_Md_after 2 _ _ _ rfl ?_
  refine mm_ic_ne ok_Md_after 79 rfl (by decide) (fun c => ?_) (fun c => ?_)
  · first | exact c (by decide) | exact absurd c (by decide)
  refine mm_blk (pc' := 126) ok_Md_after 2 _ _ _ rfl ?_
  exact mm_iret ok_Md_after rfl rfl ⟨rfl, rfl⟩
set_option maxHeartbeats 1000000 in
theorem c_Md_after0_8   : mm_C G M_Md_after [.int (nI 8), .int 0] h 0 0 (mm_E (some (.int 1)) h) := by
  refine mm_C_of (by decide +kernel) rfl (Nat.le_of_ble_eq_true rfl) rfl ?_
  refine mm_blk (pc' := 1) ok_Md_after 1 _ _ _ rfl ?_
  refine mm_if_eq ok_Md_after 127 rfl (by decide) (fun c => ?_) (fun c => ?_)
  rotate_left
  · first | exact c (by decide) | exact absurd c (by decide)
  refine mm_blk (pc' := 129) ok_Md_after 2 _ _ _ rfl ?_
  refine mm_ic_lt ok_Md_after 144 rfl (by decide) (fun c => ?_) (fun c => ?_)
  · first | exact c (by decide) | exact absurd c (by decide)
  refine mm_blk (pc' := 135) ok_Md_after 2 _ _ _ rfl ?_
  refine mm_ic_eq ok_Md_after 144 rfl (by decide) (fun c => ?_) (fun c => ?_)
  rotate_left
  · first | exact c (by decide) | exact absurd c (by decide)
  refine mm_blk (pc' := 229) ok_Md_after 2 _ _ _ rfl ?_
  exact mm_iret ok_Md_after rfl rfl ⟨rfl, rfl⟩
set_option maxHeartbeats 1000000 in
theorem c_Md_after1_8  {b : Int32} (hb : ¬ b = 0) : mm_C G M_Md_after [.int (nI 8), .int b] h 0 0 (mm_E (some (.int 2)) h) := by
  refine mm_C_of (by decide +kernel) rfl (Nat.le_of_ble_eq_true rfl) rfl ?_
  refine mm_blk (pc' := 1) ok_Md_after 1 _ _ _ rfl ?_
  refine mm_if_eq ok_Md_after 127 rfl (by decide) (fun c => ?_) (fun c => ?_)
  · exact absurd c hb
  refine mm_blk (pc' := 5) ok_Md_after 1 _ _ _ rfl ?_
  refine mm_if_eq ok_Md_after 14 rfl (by decide) (fun c => ?_) (fun c => ?_)
  · first | exact c (by decide) | exact absurd c (by decide)
  refine mm_blk (pc' := 11) ok_Md_after 2 _ _ _ rfl ?_
  refine mm_ic_ne ok_Md_after 18 rfl (by decide) (fun c => ?_) (fun c => ?_)
  rotate_left
  · first | exact c (by decide) | exact absurd c (by decide)
  refine mm_blk (pc' := 20) ok_Md_after 2 _ _ _ rfl ?_
  refine mm_ic_eq ok_Md_after 35 rfl (by decide) (fun c => ?_) (fun c => ?_)
  · first | exact c (by decide) | exact absurd c (by decide)
  refine mm_blk (pc' := 26) ok_Md_after 2 _ _ _ rfl ?_
  refine mm_ic_eq ok_Md_after 35 rfl (by decide) (fun c => ?_) (fun c => ?_)
  rotate_left
  · first | exact c (by decide) | exact absurd c (by decide)
  refine mm_blk (pc' := 126) ok_Md_after 2 _ _ _ rfl ?_
  exact mm_iret ok_Md_after rfl rfl ⟨rfl, rfl⟩
set_option maxHeartbeats 1000000 in
theorem c_Md_after0_9   : mm_C G M_Md_after [.int (nI 9), .int 0] h 0 0 (mm_E (some (.int 10)) h) := by
  refine mm_C_of (by decide +kernel) rfl (Nat.le_of_ble_eq_true rfl) rfl ?_
  refine mm_blk (pc' := 1) ok_Md_after 1 _ _ _ rfl ?_
  refine mm_if_eq ok_Md_after 127 rfl (by decide) (fun c => ?_) (fun c => ?_)
  rotate_left
  · first | exact c (by decide) | exact absurd c (by decide)
  refine mm_blk (pc' := 129) ok_Md_after 2 _ _ _ rfl ?_
  refine mm_ic_lt ok_Md_after 144 rfl (by decide) (fun c => ?_) (fun c => ?_)
  · first | exact c (by decide) | exact absurd c (by decide)
  refine mm_blk (pc' := 135) ok_Md_after 2 _ _ _ rfl ?_
  refine mm_ic_eq ok_Md_after 144 rfl (by decide) (fun c => ?_) (fun c => ?_)
  · first | exact c (by decide) | exact absurd c (by decide)
  refine mm_blk (pc' := 141) ok_Md_after 2 _ _ _ rfl ?_
  refine mm_ic_ne ok_Md_after 148 rfl (by decide) (fun c => ?_) (fun c => ?_)
  rotate_left
  · first | exact c (by decide) | exact absurd c (by decide)
  refine mm_blk (pc' := 150) ok_Md_after 2 _ _ _ rfl ?_
  refine mm_ic_ne ok_Md_after 157 rfl (by decide) (fun c => ?_) (fun c => ?_)
  rotate_left
  · first | exact c (by decide) | exact absurd c (by decide)
  refine mm_blk (pc' := 159) ok_Md_after 2 _ _ _ rfl ?_
  refine mm_ic_eq ok_Md_after 173 rfl (by decide) (fun c => ?_) (fun c => ?_)
  · first | exact c (by decide) | exact absurd c (by decide)
  refine mm_blk (pc' := 164) ok_Md_after 2 _ _ _ rfl ?_
  refine mm_ic_eq ok_Md_after 173 rfl (by decide) (fun c => ?_) (fun c => ?_)
  · first | exact c (by decide) | exact absurd c (by decide)
  refine mm_blk (pc' := 170) ok_Md_after 2 _ _ _ rfl ?_
  refine mm_ic_ne ok_Md_after 177 rfl (by decide) (fun c => ?_) (fun c => ?_)
  rotate_left
  · first | exact c (by decide) | exact absurd c (by decide)
  refine mm_blk (pc' := 179) ok_Md_after 2 _ _ _ rfl ?_
  refine mm_ic_eq ok_Md_after 188 rfl (by decide) (fun c => ?_) (fun c => ?_)
  · first | exact c (by decide) | exact absurd c (by decide)
  refine mm_blk (pc' := 185) ok_Md_after 2 _ _ _ rfl ?_
  refine mm_ic_ne ok_Md_after 193 rfl (by decide) (fun c => ?_) (fun c => ?_)
  rotate_left
  · first | exact c (by decide) | exact absurd c (by decide)
  refine mm_blk (pc' := 196) ok_Md_after 2 _ _ _ rfl ?_
  refine mm_ic_ne ok_Md_after 204 rfl (by decide) (fun c => ?_) (fun c => ?_)
  · first | exact c (by decide) | exact absurd c (by decide)
  refine mm_blk (pc' := 229) ok_Md_after 2 _ _ _ rfl ?_
  exact mm_iret ok_Md_after rfl rfl ⟨rfl, rfl⟩
set_option maxHeartbeats 1000000 in
theorem c_Md_after1_9  {b : Int32} (hb : ¬ b = 0) : mm_C G M_Md_after [.int (nI 9), .int b] h 0 0 (mm_E (some (.int 0)) h) := by
  refine mm_C_of (by decide +kernel) rfl (Nat.le_of_ble_eq_true rfl) rfl ?_
  refine mm_blk (pc' := 1) ok_Md_after 1 _ _ _ rfl ?_
  refine mm_if_eq ok_Md_after 127 rfl (by decide) (fun c => ?_) (fun c => ?_)
  · exact absurd c hb
  refine mm_blk (pc' := 5) ok_Md_after 1 _ _ _ rfl ?_
  refine mm_if_eq ok_Md_after 14 rfl (by decide) (fun c => ?_) (fun c => ?_)
  · first | exact c (by decide) | exact absurd c (by decide)
  refine mm_blk (pc' := 11) ok_Md_after 2 _ _ _ rfl ?_
  refine mm_ic_ne ok_Md_after 18 rfl (by decide) (fun c => ?_) (fun c => ?_)
  · first | exact c (by decide) | exact absurd c (by decide)
  refine mm_blk (pc' := 126) ok_Md_after 2 _ _ _ rfl ?_
  exact mm_iret ok_Md_after rfl rfl ⟨rfl, rfl⟩
set_option maxHeartbeats 1000000 in
theorem c_Md_after0_10   : mm_C G M_Md_after [.int (nI 10), .int 0] h 0 0 (mm_E (some (.int 11)) h) := by
  refine mm_C_of (by decide +kernel) rfl (Nat.le_of_ble_eq_true rfl) rfl ?_
  refine mm_blk (pc' := 1) ok_Md_after 1 _ _ _ rfl ?_
  refine mm_if_eq ok_Md_after 127 rfl (by decide) (fun c => ?_) (fun c => ?_)
  rotate_left
  · first | exact c (by decide) | exact absurd c (by decide)
  refine mm_blk (pc' := 129) ok_Md_after 2 _ _ _ rfl ?_
  refine mm_ic_lt ok_Md_after 144 rfl (by decide) (fun c => ?_) (fun c => ?_)
  · first | exact c (by decide) | exact absurd c (by decide)
  refine mm_blk (pc' := 135) ok_Md_after 2 _ _ _ rfl ?_
  refine mm_ic_eq ok_Md_after 144 rfl (by decide) (fun c => ?_) (fun c => ?_)
  · first | exact c (by decide) | exact absurd c (by decide)
  refine mm_blk (pc' := 141) ok_Md_after 2 _ _ _ rfl ?_
  refine mm_ic_ne ok_Md_after 148 rfl (by decide) (fun c => ?_) (fun c => ?_)
  rotate_left
  · first | exact c (by decide) | exact absurd c (by decide)
  refine mm_blk (pc' := 150) ok_Md_after 2 _ _ _ rfl ?_
  refine mm_ic_ne ok_Md_after 157 rfl (by decide) (fun c => ?_) (fun c => ?_)
  rotate_left
  · first | exact c (by decide) | exact absurd c (by decide)
  refine mm_blk (pc' := 159) ok_Md_after 2 _ _ _ rfl ?_
  refine mm_ic_eq ok_Md_after 173 rfl (by decide) (fun c => ?_) (fun c => ?_)
  · first | exact c (by decide) | exact absurd c (by decide)
  refine mm_blk (pc' := 164) ok_Md_after 2 _ _ _ rfl ?_
  refine mm_ic_eq ok_Md_after 173 rfl (by decide) (fun c => ?_) (fun c => ?_)
  · first | exact c (by decide) | exact absurd c (by decide)
  refine mm_blk (pc' := 170) ok_Md_after 2 _ _ _ rfl ?_
  refine mm_ic_ne ok_Md_after 177 rfl (by decide) (fun c => ?_) (fun c => ?_)
  rotate_left
  · first | exact c (by decide) | exact absurd c (by decide)
  refine mm_blk (pc' := 179) ok_Md_after 2 _ _ _ rfl ?_
  refine mm_ic_eq ok_Md_after 188 rfl (by decide) (fun c => ?_) (fun c => ?_)
  · first | exact c (by decide) | exact absurd c (by decide)
  refine mm_blk (pc' := 185) ok_Md_after 2 _ _ _ rfl ?_
  refine mm_ic_ne ok_Md_after 193 rfl (by decide) (fun c => ?_) (fun c => ?_)
  rotate_left
  · first | exact c (by decide) | exact absurd c (by decide)
  refine mm_blk (pc' := 196) ok_Md_after 2 _ _ _ rfl ?_
  refine mm_ic_ne ok_Md_after 204 rfl (by decide) (fun c => ?_) (fun c => ?_)
  rotate_left
  · first | exact c (by decide) | exact absurd c (by decide)
  refine mm_blk (pc' := 207) ok_Md_after 2 _ _ _ rfl ?_
  refine mm_ic_eq ok_Md_after 222 rfl (by decide) (fun c => ?_) (fun c => ?_)
  rotate_left
  · first | exact c (by decide) | exact absurd c (by decide)
  refine mm_blk (pc' := 229) ok_Md_after 2 _ _ _ rfl ?_
  exact mm_iret ok_Md_after rfl rfl ⟨rfl, rfl⟩
set_option maxHeartbeats 1000000 in
theorem c_Md_after1_10  {b : Int32} (hb : ¬ b = 0) : mm_C G M_Md_after [.int (nI 10), .int b] h 0 0 (mm_E (some (.int 12)) h) := by
  refine mm_C_of (by decide +kernel) rfl (Nat.le_of_ble_eq_true rfl) rfl ?_
  refine mm_blk (pc' := 1) ok_Md_after 1 _ _ _ rfl ?_
  refine mm_if_eq ok_Md_after 127 rfl (by decide) (fun c => ?_) (fun c => ?_)
  · exact absurd c hb
  refine mm_blk (pc' := 5) ok_Md_after 1 _ _ _ rfl ?_
  refine mm_if_eq ok_Md_after 14 rfl (by decide) (fun c => ?_) (fun c => ?_)
  · first | exact c (by decide) | exact absurd c (by decide)
  refine mm_blk (pc' := 11) ok_Md_after 2 _ _ _ rfl ?_
  refine mm_ic_ne ok_Md_after 18 rfl (by decide) (fun c => ?_) (fun c => ?_)
  rotate_left
  · first | exact c (by decide) | exact absurd c (by decide)
  refine mm_blk (pc' := 20) ok_Md_after 2 _ _ _ rfl ?_
  refine mm_ic_eq ok_Md_after 35 rfl (by decide) (fun c => ?_) (fun c => ?_)
  · first | exact c (by decide) | exact absurd c (by decide)
  refine mm_blk (pc' := 26) ok_Md_after 2 _ _ _ rfl ?_
  refine mm_ic_eq ok_Md_after 35 rfl (by decide) (fun c => ?_) (fun c => ?_)
  · first | exact c (by decide) | exact absurd c (by decide)
  refine mm_blk (pc' := 32) ok_Md_after 2 _ _ _ rfl ?_
  refine mm_ic_ne ok_Md_after 39 rfl (by decide) (fun c => ?_) (fun c => ?_)
  rotate_left
  · first | exact c (by decide) | exact absurd c (by decide)
  refine mm_blk (pc' := 41) ok_Md_after 2 _ _ _ rfl ?_
  refine mm_ic_ne ok_Md_after 49 rfl (by decide) (fun c => ?_) (fun c => ?_)
  rotate_left
  · first | exact c (by decide) | exact absurd c (by decide)
  refine mm_blk (pc' := 51) ok_Md_after 2 _ _ _ rfl ?_
  refine mm_ic_eq ok_Md_after 59 rfl (by decide) (fun c => ?_) (fun c => ?_)
  · first | exact c (by decide) | exact absurd c (by decide)
  refine mm_blk (pc' := 56) ok_Md_after 2 _ _ _ rfl ?_
  refine mm_ic_ne ok_Md_after 63 rfl (by decide) (fun c => ?_) (fun c => ?_)
  rotate_left
  · first | exact c (by decide) | exact absurd c (by decide)
  refine mm_blk (pc' := 65) ok_Md_after 2 _ _ _ rfl ?_
  refine mm_ic_eq ok_Md_after 74 rfl (by decide) (fun c => ?_) (fun c => ?_)
  · first | exact c (by decide) | exact absurd c (by decide)
  refine mm_blk (pc' := 71) ok_Md_after 2 _ _ _ rfl ?_
  refine mm_ic_ne ok_Md_after 79 rfl (by decide) (fun c => ?_) (fun c => ?_)
  rotate_left
  · first | exact c (by decide) | exact absurd c (by decide)
  refine mm_blk (pc' := 82) ok_Md_after 2 _ _ _ rfl ?_
  refine mm_ic_ne ok_Md_after 90 rfl (by decide) (fun c => ?_) (fun c => ?_)
  rotate_left
  · first | exact c (by decide) | exact absurd c (by decide)
  refine mm_blk (pc' := 93) ok_Md_after 2 _ _ _ rfl ?_
  refine mm_ic_eq ok_Md_after 102 rfl (by decide) (fun c => ?_) (fun c => ?_)
  rotate_left
  · first | exact c (by decide) | exact absurd c (by decide)
  refine mm_blk (pc' := 126) ok_Md_after 2 _ _ _ rfl ?_
  exact mm_iret ok_Md_after rfl rfl ⟨rfl, rfl⟩
set_option maxHeartbeats 1000000 in
theorem c_Md_after0_11   : mm_C G M_Md_after [.int (nI 11), .int 0] h 0 0 (mm_E (some (.int 11)) h) := by
  refine mm_C_of (by decide +kernel) rfl (Nat.le_of_ble_eq_true rfl) rfl ?_
  refine mm_blk (pc' := 1) ok_Md_after 1 _ _ _ rfl ?_
  refine mm_if_eq ok_Md_after 127 rfl (by decide) (fun c => ?_) (fun c => ?_)
  rotate_left
  · first | exact c (by decide) | exact absurd c (by decide)
  refine mm_blk (pc' := 129) ok_Md_after 2 _ _ _ rfl ?_
  refine mm_ic_lt ok_Md_after 144 rfl (by decide) (fun c => ?_) (fun c => ?_)
  · first | exact c (by decide) | exact absurd c (by decide)
  refine mm_blk (pc' := 135) ok_Md_after 2 _ _ _ rfl ?_
  refine mm_ic_eq ok_Md_after 144 rfl (by decide) (fun c => ?_) (fun c => ?_)
  · first | exact c (by decide) | exact absurd c (by decide)
  refine mm_blk (pc' := 141) ok_Md_after 2 _ _ _ rfl ?_
  refine mm_ic_ne ok_Md_after 148 rfl (by decide) (fun c => ?_) (fun c => ?_)
  rotate_left
  · first | exact c (by decide) | exact absurd c (by decide)
  refine mm_blk (pc' := 150) ok_Md_after 2 _ _ _ rfl ?_
  refine mm_ic_ne ok_Md_after 157 rfl (by decide) (fun c => ?_) (fun c => ?_)
  rotate_left
  · first | exact c (by decide) | exact absurd c (by decide)
  refine mm_blk (pc' := 159) ok_Md_after 2 _ _ _ rfl ?_
  refine mm_ic_eq ok_Md_after 173 rfl (by decide) (fun c => ?_) (fun c => ?_)
  · first | exact c (by decide) | exact absurd c (by decide)
  refine mm_blk (pc' := 164) ok_Md_after 2 _ _ _ rfl ?_
  refine mm_ic_eq ok_Md_after 173 rfl (by decide) (fun c => ?_) (fun c => ?_)
  · first | exact c (by decide) | exact absurd c (by decide)
  refine mm_blk (pc' := 170) ok_Md_after 2 _ _ _ rfl ?_
  refine mm_ic_ne ok_Md_after 177 rfl (by decide) (fun c => ?_) (fun c => ?_)
  rotate_left
  · first | exact c (by decide) | exact absurd c (by decide)
  refine mm_blk (pc' := 179) ok_Md_after 2 _ _ _ rfl ?_
  refine mm_ic_eq ok_Md_after 188 rfl (by decide) (fun c => ?_) (fun c => ?_)
  · first | exact c (by decide) | exact absurd c (by decide)
  refine mm_blk (pc' := 185) ok_Md_after 2 _ _ _ rfl ?_
  refine mm_ic_ne ok_Md_after 193 rfl (by decide) (fun c => ?_) (fun c => ?_)
  rotate_left
  · first | exact c (by decide) | exact absurd c (by decide)
  refine mm_blk (pc' := 196) ok_Md_after 2 _ _ _ rfl ?_
  refine mm_ic_ne ok_Md_after 204 rfl (by decide) (fun c => ?_) (fun c => ?_)
  rotate_left
  · first | exact c (by decide) | exact absurd c (by decide)
  refine mm_blk (pc' := 207) ok_Md_after 2 _ _ _ rfl ?_
  refine mm_ic_eq ok_Md_after 222 rfl (by decide) (fun c => ?_) (fun c => ?_)
  · first | exact c (by decide) | exact absurd c (by decide)
  refine mm_blk (pc' := 213) ok_Md_after 2 _ _ _ rfl ?_
  refine mm_ic_eq ok_Md_after 222 rfl (by decide) (fun c => ?_) (fun c => ?_)
  rotate_left
  · first | exact c (by decide) | exact absurd c (by decide)
  refine mm_blk (pc' := 229) ok_Md_after 2 _ _ _ rfl ?_
  exact mm_iret ok_Md_after rfl rfl ⟨rfl, rfl⟩
set_option maxHeartbeats 1000000 in
theorem c_Md_after1_11  {b : Int32} (hb : ¬ b = 0) : mm_C G M_Md_after [.int (nI 11), .int b] h 0 0 (mm_E (some (.int 12)) h) := by
  refine mm_C_of (by decide +kernel) rfl (Nat.le_of_ble_eq_true rfl) rfl ?_
  refine mm_blk (pc' := 1) ok_Md_after 1 _ _ _ rfl ?_
  refine mm_if_eq ok_Md_after 127 rfl (by decide) (fun c => ?_) (fun c => ?_)
  · exact absurd c hb
  refine mm_blk (pc' := 5) ok_Md_after 1 _ _ _ rfl ?_
  refine mm_if_eq ok_Md_after 14 rfl (by decide) (fun c => ?_) (fun c => ?_)
  · first | exact c (by decide) | exact absurd c (by decide)
  refine mm_blk (pc' := 11) ok_Md_after 2 _ _ _ rfl ?_
  refine mm_ic_ne ok_Md_after 18 rfl (by decide) (fun c => ?_) (fun c => ?_)
  rotate_left
  · first | exact c (by decide) | exact absurd c (by decide)
  refine mm_blk (pc' := 20) ok_Md_after 2 _ _ _ rfl ?_
  refine mm_ic_eq ok_Md_after 35 rfl (by decide) (fun c => ?_) (fun c => ?_)
  · first | exact c (by decide) | exact absurd c (by decide)
  refine mm_blk (pc' := 26) ok_Md_after 2 _ _ _ rfl ?_
  refine mm_ic_eq ok_Md_after 35 rfl (by decide) (fun c => ?_) (fun c => ?_)
  · first | exact c (by decide) | exact absurd c (by decide)
  refine mm_blk (pc' := 32) ok_Md_after 2 _ _ _ rfl ?_
  refine mm_ic_ne ok_Md_after 39 rfl (by decide) (fun c => ?_) (fun c => ?_)
  rotate_left
  · first | exact c (by decide) | exact absurd c (by decide)
  refine mm_blk (pc' := 41) ok_Md_after 2 _ _ _ rfl ?_
  refine mm_ic_ne ok_Md_after 49 rfl (by decide) (fun c => ?_) (fun c => ?_)
  rotate_left
  · first | exact c (by decide) | exact absurd c (by decide)
  refine mm_blk (pc' := 51) ok_Md_after 2 _ _ _ rfl ?_
  refine mm_ic_eq ok_Md_after 59 rfl (by decide) (fun c => ?_) (fun c => ?_)
  · first | exact c (by decide) | exact absurd c (by decide)
  refine mm_blk (pc' := 56) ok_Md_after 2 _ _ _ rfl ?_
  refine mm_ic_ne ok_Md_after 63 rfl (by decide) (fun c => ?_) (fun c => ?_)
  rotate_left
  · first | exact c (by decide) | exact absurd c (by decide)
  refine mm_blk (pc' := 65) ok_Md_after 2 _ _ _ rfl ?_
  refine mm_ic_eq ok_Md_after 74 rfl (by decide) (fun c => ?_) (fun c => ?_)
  · first | exact c (by decide) | exact absurd c (by decide)
  refine mm_blk (pc' := 71) ok_Md_after 2 _ _ _ rfl ?_
  refine mm_ic_ne ok_Md_after 79 rfl (by decide) (fun c => ?_) (fun c => ?_)
  rotate_left
  · first | exact c (by decide) | exact absurd c (by decide)
  refine mm_blk (pc' := 82) ok_Md_after 2 _ _ _ rfl ?_
  refine mm_ic_ne ok_Md_after 90 rfl (by decide) (fun c => ?_) (fun c => ?_)
  rotate_left
  · first | exact c (by decide) | exact absurd c (by decide)
  refine mm_blk (pc' := 93) ok_Md_after 2 _ _ _ rfl ?_
  refine mm_ic_eq ok_Md_after 102 rfl (by decide) (fun c => ?_) (fun c => ?_)
  · first | exact c (by decide) | exact absurd c (by decide)
  refine mm_blk (pc' := 99) ok_Md_after 2 _ _ _ rfl ?_
  refine mm_ic_ne ok_Md_after 107 rfl (by decide) (fun c => ?_) (fun c => ?_)
  · first | exact c (by decide) | exact absurd c (by decide)
  refine mm_blk (pc' := 126) ok_Md_after 2 _ _ _ rfl ?_
  exact mm_iret ok_Md_after rfl rfl ⟨rfl, rfl⟩
set_option maxHeartbeats 1000000 in
theorem c_Md_after0_12   : mm_C G M_Md_after [.int (nI 12), .int 0] h 0 0 (mm_E (some (.int 13)) h) := by
  refine mm_C_of (by decide +kernel) rfl (Nat.le_of_ble_eq_true rfl) rfl ?_
  refine mm_blk (pc' := 1) ok_Md_after 1 _ _ _ rfl ?_
  refine mm_if_eq ok_Md_after 127 rfl (by decide) (fun c => ?_) (fun c => ?_)
  rotate_left
  · first | exact c (by decide) | exact absurd c (by decide)
  refine mm_blk (pc' := 129) ok_Md_after 2 _ _ _ rfl ?_
  refine mm_ic_lt ok_Md_after 144 rfl (by decide) (fun c => ?_) (fun c => ?_)
  · first | exact c (by decide) | exact absurd c (by decide)
  refine mm_blk (pc' := 135) ok_Md_after 2 _ _ _ rfl ?_
  refine mm_ic_eq ok_Md_after 144 rfl (by decide) (fun c => ?_) (fun c => ?_)
  · first | exact c (by decide) | exact absurd c (by decide)
  refine mm_blk (pc' := 141) ok_Md_after 2 _ _ _ rfl ?_
  refine mm_ic_ne ok_Md_after 148 rfl (by decide) (fun c => ?_) (fun c => ?_)
  rotate_left
  · first | exact c (by decide) | exact absurd c (by decide)
  refine mm_blk (pc' := 150) ok_Md_after 2 _ _ _ rfl ?_
  refine mm_ic_ne ok_Md_after 157 rfl (by decide) (fun c => ?_) (fun c => ?_)
  rotate_left
  · first | exact c (by decide) | exact absurd c (by decide)
  refine mm_blk (pc' := 159) ok_Md_after 2 _ _ _ rfl ?_
  refine mm_ic_eq ok_Md_after 173 rfl (by decide) (fun c => ?_) (fun c => ?_)
  · first | exact c (by decide) | exact absurd c (by decide)
  refine mm_blk (pc' := 164) ok_Md_after 2 _ _ _ rfl ?_
  refine mm_ic_eq ok_Md_after 173 rfl (by decide) (fun c => ?_) (fun c => ?_)
  · first | exact c (by decide) | exact absurd c (by decide)
  refine mm_blk (pc' := 170) ok_Md_after 2 _ _ _ rfl ?_
  refine mm_ic_ne ok_Md_after 177 rfl (by decide) (fun c => ?_) (fun c => ?_)
  rotate_left
  · first | exact c (by decide) | exact absurd c (by decide)
  refine mm_blk (pc' := 179) ok_Md_after 2 _ _ _ rfl ?_
  refine mm_ic_eq ok_Md_after 188 rfl (by decide) (fun c => ?_) (fun c => ?_)
  · first | exact c (by decide) | exact absurd c (by decide)
  refine mm_blk (pc' := 185) ok_Md_after 2 _ _ _ rfl ?_
  refine mm_ic_ne ok_Md_after 193 rfl (by decide) (fun c => ?_) (fun c => ?_)
  rotate_left
  · first | exact c (by decide) | exact absurd c (by decide)
  refine mm_blk (pc' := 196) ok_Md_after 2 _ _ _ rfl ?_
  refine mm_ic_ne ok_Md_after 204 rfl (by decide) (fun c => ?_) (fun c => ?_)
  rotate_left
  · first | exact c (by decide) | exact absurd c (by decide)
  refine mm_blk (pc' := 207) ok_Md_after 2 _ _ _ rfl ?_
  refine mm_ic_eq ok_Md_after 222 rfl (by decide) (fun c => ?_) (fun c => ?_)
  · first | exact c (by decide) | exact absurd c (by decide)
  refine mm_blk (pc' := 213) ok_Md_after 2 _ _ _ rfl ?_
  refine mm_ic_eq ok_Md_after 222 rfl (by decide) (fun c => ?_) (fun c => ?_)
  · first | exact c (by decide) | exact absurd c (by decide)
  refine mm_blk (pc' := 219) ok_Md_after 2 _ _ _ rfl ?_
  refine mm_ic_ne ok_Md_after 227 rfl (by decide) (fun c => ?_) (fun c => ?_)
  rotate_left
  · first | exact c (by decide) | exact absurd c (by decide)
  refine mm_blk (pc' := 229) ok_Md_after 1 _ _ _ rfl ?_
  exact mm_iret ok_Md_after rfl rfl ⟨rfl, rfl⟩
set_option maxHeartbeats 1000000 in
theorem c_Md_after1_12  {b : Int32} (hb : ¬ b = 0) : mm_C G M_Md_after [.int (nI 12), .int b] h 0 0 (mm_E (some (.int 15)) h) := by
  refine mm_C_of (by decide +kernel) rfl (Nat.le_of_ble_eq_true rfl) rfl ?_
  refine mm_blk (pc' := 1) ok_Md_after 1 _ _ _ rfl ?_
  refine mm_if_eq ok_Md_after 127 rfl (by decide) (fun c => ?_) (fun c => ?_)
  · exact absurd c hb
  refine mm_blk (pc' := 5) ok_Md_after 1 _ _ _ rfl ?_
  refine mm_if_eq ok_Md_after 14 rfl (by decide) (fun c => ?_) (fun c => ?_)
  · first | exact c (by decide) | exact absurd c (by decide)
  refine mm_blk (pc' := 11) ok_Md_after 2 _ _ _ rfl ?_
  refine mm_ic_ne ok_Md_after 18 rfl (by decide) (fun c => ?_) (fun c => ?_)
  rotate_left
  · first | exact c (by decide) | exact absurd c (by decide)
  refine mm_blk (pc' := 20) ok_Md_after 2 _ _ _ rfl ?_
  refine mm_ic_eq ok_Md_after 35 rfl (by decide) (fun c => ?_) (fun c => ?_)
  · first | exact c (by decide) | exact absurd c (by decide)
  refine mm_blk (pc' := 26) ok_Md_after 2 _ _ _ rfl ?_
  refine mm_ic_eq ok_Md_after 35 rfl (by decide) (fun c => ?_) (fun c => ?_)
  · first | exact c (by decide) | exact absurd c (by decide)
  refine mm_blk (pc' := 32) ok_Md_after 2 _ _ _ rfl ?_
  refine mm_ic_ne ok_Md_after 39 rfl (by decide) (fun c => ?_) (fun c => ?_)
  rotate_left
  · first | exact c (by decide) | exact absurd c (by decide)
  refine mm_blk (pc' := 41) ok_Md_after 2 _ _ _ rfl ?_
  refine mm_ic_ne ok_Md_after 49 rfl (by decide) (fun c => ?_) (fun c => ?_)
  rotate_left
  · first | exact c (by decide) | exact absurd c (by decide)
  refine mm_blk (pc' := 51) ok_Md_after 2 _ _ _ rfl ?_
  refine mm_ic_eq ok_Md_after 59 rfl (by decide) (fun c => ?_) (fun c => ?_)
  · first | exact c (by decide) | exact absurd c (by decide)
  refine mm_blk (pc' := 56) ok_Md_after 2 _ _ _ rfl ?_
  refine mm_ic_ne ok_Md_after 63 rfl (by decide) (fun c => ?_) (fun c => ?_)
  rotate_left
  · first | exact c (by decide) | exact absurd c (by decide)
  refine mm_blk (pc' := 65) ok_Md_after 2 _ _ _ rfl ?_
  refine mm_ic_eq ok_Md_after 74 rfl (by decide) (fun c => ?_) (fun c => ?_)
  · first | exact c (by decide) | exact absurd c (by decide)
  refine mm_blk (pc' := 71) ok_Md_after 2 _ _ _ rfl ?_
  refine mm_ic_ne ok_Md_after 79 rfl (by decide) (fun c => ?_) (fun c => ?_)
  rotate_left
  · first | exact c (by decide) | exact absurd c (by decide)
  refine mm_blk (pc' := 82) ok_Md_after 2 _ _ _ rfl ?_
  refine mm_ic_ne ok_Md_after 90 rfl (by decide) (fun c => ?_) (fun c => ?_)
  rotate_left
  · first | exact c (by decide) | exact absurd c (by decide)
  refine mm_blk (pc' := 93) ok_Md_after 2 _ _ _ rfl ?_
  refine mm_ic_eq ok_Md_after 102 rfl (by decide) (fun c => ?_) (fun c => ?_)
  · first | exact c (by decide) | exact absurd c (by decide)
  refine mm_blk (pc' := 99) ok_Md_after 2 _ _ _ rfl ?_
  refine mm_ic_ne ok_Md_after 107 rfl (by decide) (fun c => ?_) (fun c => ?_)
  rotate_left
  · first | exact c (by decide) | exact absurd c (by decide)
  refine mm_blk (pc' := 110) ok_Md_after 2 _ _ _ rfl ?_
  refine mm_ic_eq ok_Md_after 119 rfl (by decide) (fun c => ?_) (fun c => ?_)
  rotate_left
  · first | exact c (by decide) | exact absurd c (by decide)
  refine mm_blk (pc' := 126) ok_Md_after 2 _ _ _ rfl ?_
  exact mm_iret ok_Md_after rfl rfl ⟨rfl, rfl⟩
set_option maxHeartbeats 1000000 in
theorem c_Md_after0_13   : mm_C G M_Md_after [.int (nI 13), .int 0] h 0 0 (mm_E (some (.int 13)) h) := by
  refine mm_C_of (by decide +kernel) rfl (Nat.le_of_ble_eq_true rfl) rfl ?_
  refine mm_blk (pc' := 1) ok_Md_after 1 _ _ _ rfl ?_
  refine mm_if_eq ok_Md_after 127 rfl (by decide) (fun c => ?_) (fun c => ?_)
  rotate_left
  · first | exact c (by decide) | exact absurd c (by decide)
  refine mm_blk (pc' := 129) ok_Md_after 2 _ _ _ rfl ?_
  refine mm_ic_lt ok_Md_after 144 rfl (by decide) (fun c => ?_) (fun c => ?_)
  · first | exact c (by decide) | exact absurd c (by decide)
  refine mm_blk (pc' := 135) ok_Md_after 2 _ _ _ rfl ?_
  refine mm_ic_eq ok_Md_after 144 rfl (by decide) (fun c => ?_) (fun c => ?_)
  · first | exact c (by decide) | exact absurd c (by decide)
  refine mm_blk (pc' := 141) ok_Md_after 2 _ _ _ rfl ?_
  refine mm_ic_ne ok_Md_after 148 rfl (by decide) (fun c => ?_) (fun c => ?_)
  rotate_left
  · first | exact c (by decide) | exact absurd c (by decide)
  refine mm_blk (pc' := 150) ok_Md_after 2 _ _ _ rfl ?_
  refine mm_ic_ne ok_Md_after 157 rfl (by decide) (fun c => ?_) (fun c => ?_)
  rotate_left
  · first | exact c (by decide) | exact absurd c (by decide)
  refine mm_blk (pc' := 159) ok_Md_after 2 _ _ _ rfl ?_
  refine mm_ic_eq ok_Md_after 173 rfl (by decide) (fun c => ?_) (fun c => ?_)
  · first | exact c (by decide) | exact absurd c (by decide)
  refine mm_blk (pc' := 164) ok_Md_after 2 _ _ _ rfl ?_
  refine mm_ic_eq ok_Md_after 173 rfl (by decide) (fun c => ?_) (fun c => ?_)
  · first | exact c (by decide) | exact absurd c (by decide)
  refine mm_blk (pc' := 170) ok_Md_after 2 _ _ _ rfl ?_
  refine mm_ic_ne ok_Md_after 177 rfl (by decide) (fun c => ?_) (fun c => ?_)
  rotate_left
  · first | exact c (by decide) | exact absurd c (by decide)
  refine mm_blk (pc' := 179) ok_Md_after 2 _ _ _ rfl ?_
  refine mm_ic_eq ok_Md_after 188 rfl (by decide) (fun c => ?_) (fun c => ?_)
  · first | exact c (by decide) | exact absurd c (by decide)
  refine mm_blk (pc' := 185) ok_Md_after 2 _ _ _ rfl ?_
  refine mm_ic_ne ok_Md_after 193 rfl (by decide) (fun c => ?_) (fun c => ?_)
  rotate_left
  · first | exact c (by decide) | exact absurd c (by decide)
  refine mm_blk (pc' := 196) ok_Md_after 2 _ _ _ rfl ?_
  refine mm_ic_ne ok_Md_after 204 rfl (by decide) (fun c => ?_) (fun c => ?_)
  rotate_left
  · first | exact c (by decide) | exact absurd c (by decide)
  refine mm_blk (pc' := 207) ok_Md_after 2 _ _ _ rfl ?_
  refine mm_ic_eq ok_Md_after 222 rfl (by decide) (fun c => ?_) (fun c => ?_)
  · first | exact c (by decide) | exact absurd c (by decide)
  refine mm_blk (pc' := 213) ok_Md_after 2 _ _ _ rfl ?_
  refine mm_ic_eq ok_Md_after 222 rfl (by decide) (fun c => ?_) (fun c => ?_)
  · first | exact c (by decide) | exact absurd c (by decide)
  refine mm_blk (pc' := 219) ok_Md_after 2 _ _ _ rfl ?_
  refine mm_ic_ne ok_Md_after 227 rfl (by decide) (fun c => ?_) (fun c => ?_)
  rotate_left
  · first | exact c (by decide) | exact absurd c (by decide)
  refine mm_blk (pc' := 229) ok_Md_after 1 _ _ _ rfl ?_
  exact mm_iret ok_Md_after rfl rfl ⟨rfl, rfl⟩
set_option maxHeartbeats 1000000 in
theorem c_Md_after1_13  {b : Int32} (hb : ¬ b = 0) : mm_C G M_Md_after [.int (nI 13), .int b] h 0 0 (mm_E (some (.int 14)) h) := by
  refine mm_C_of (by decide +kernel) rfl (Nat.le_of_ble_eq_true rfl) rfl ?_
  refine mm_blk (pc' := 1) ok_Md_after 1 _ _ _ rfl ?_
  refine mm_if_eq ok_Md_after 127 rfl (by decide) (fun c => ?_) (fun c => ?_)
  · exact absurd c hb
  refine mm_blk (pc' := 5) ok_Md_after 1 _ _ _ rfl ?_
  refine mm_if_eq ok_Md_after 14 rfl (by decide) (fun c => ?_) (fun c => ?_)
  · first | exact c (by decide) | exact absurd c (by decide)
  refine mm_blk (pc' := 11) ok_Md_after 2 _ _ _ rfl ?_
  refine mm_ic_ne ok_Md_after 18 rfl (by decide) (fun c => ?_) (fun c => ?_)
  rotate_left
  · first | exact c (by decide) | exact absurd c (by decide)
  refine mm_blk (pc' := 20) ok_Md_after 2 _ _ _ rfl ?_
  refine mm_ic_eq ok_Md_after 35 rfl (by decide) (fun c => ?_) (fun c => ?_)
  · first | exact c (by decide) | exact absurd c (by decide)
  refine mm_blk (pc' := 26) ok_Md_after 2 _ _ _ rfl ?_
  refine mm_ic_eq ok_Md_after 35 rfl (by decide) (fun c => ?_) (fun c => ?_)
  · first | exact c (by decide) | exact absurd c (by decide)
  refine mm_blk (pc' := 32) ok_Md_after 2 _ _ _ rfl ?_
  refine mm_ic_ne ok_Md_after 39 rfl (by decide) (fun c => ?_) (fun c => ?_)
  rotate_left
  · first | exact c (by decide) | exact absurd c (by decide)
  refine mm_blk (pc' := 41) ok_Md_after 2 _ _ _ rfl ?_
  refine mm_ic_ne ok_Md_after 49 rfl (by decide) (fun c => ?_) (fun c => ?_)
  rotate_left
  · first | exact c (by decide) | exact absurd c (by decide)
  refine mm_blk (pc' := 51) ok_Md_after 2 _ _ _ rfl ?_
  refine mm_ic_eq ok_Md_after 59 rfl (by decide) (fun c => ?_) (fun c => ?_)
  · first | exact c (by decide) | exact absurd c (by decide)
  refine mm_blk (pc' := 56) ok_Md_after 2 _ _ _ rfl ?_
  refine mm_ic_ne ok_Md_after 63 rfl (by decide) (fun c => ?_) (fun c => ?_)
  rotate_left
  · first | exact c (by decide) | exact absurd c (by decide)
  refine mm_blk (pc' := 65) ok_Md_after 2 _ _ _ rfl ?_
  refine mm_ic_eq ok_Md_after 74 rfl (by decide) (fun c => ?_) (fun c => ?_)
  · first | exact c (by decide) | exact absurd c (by decide)
  refine mm_blk (pc' := 71) ok_Md_after 2 _ _ _ rfl ?_
  refine mm_ic_ne ok_Md_after 79 rfl (by decide) (fun c => ?_) (fun c => ?_)
  rotate_left
  · first | exact c (by decide) | exact absurd c (by decide)
  refine mm_blk (pc' := 82) ok_Md_after 2 _ _ _ rfl ?_
  refine mm_ic_ne ok_Md_after 90 rfl (by decide) (fun c => ?_) (fun c => ?_)
  rotate_left
  · first | exact c (by decide) | exact absurd c (by decide)
  refine mm_blk (pc' := 93) ok_Md_after 2 _ _ _ rfl ?_
  refine mm_ic_eq ok_Md_after 102 rfl (by decide) (fun c => ?_) (fun c => ?_)
  · first | exact c (by decide) | exact absurd c (by decide)
  refine mm_blk (pc' := 99) ok_Md_after 2 _ _ _ rfl ?_
  refine mm_ic_ne ok_Md_after 107 rfl (by decide) (fun c => ?_) (fun c => ?_)
  rotate_left
  · first | exact c (by decide) | exact absurd c (by decide)
  refine mm_blk (pc' := 110) ok_Md_after 2 _ _ _ rfl ?_
  refine mm_ic_eq ok_Md_after 119 rfl (by decide) (fun c => ?_) (fun c => ?_)
  · first | exact c (by decide) | exact absurd c (by decide)
  refine mm_blk (pc' := 116) ok_Md_after 2 _ _ _ rfl ?_
  refine mm_ic_ne ok_Md_after 124 rfl (by decide) (fun c => ?_) (fun c => ?_)
  rotate_left
  · first | exact c (by decide) | exact absurd c (by decide)
  refine mm_blk (pc' := 126) ok_Md_after 1 _ _ _ rfl ?_
  exact mm_iret ok_Md_after rfl rfl ⟨rfl, rfl⟩
set_option maxHeartbeats 1000000 in
theorem c_Md_after0_14   : mm_C G M_Md_after [.int (nI 14), .int 0] h 0 0 (mm_E (some (.int 11)) h) := by
  refine mm_C_of (by decide +kernel) rfl (Nat.le_of_ble_eq_true rfl) rfl ?_
  refine mm_blk (pc' := 1) ok_Md_after 1 _ _ _ rfl ?_
  refine mm_if_eq ok_Md_after 127 rfl (by decide) (fun c => ?_) (fun c => ?_)
  rotate_left
  · first | exact c (by decide) | exact absurd c (by decide)
  refine mm_blk (pc' := 129) ok_Md_after 2 _ _ _ rfl ?_
  refine mm_ic_lt ok_Md_after 144 rfl (by decide) (fun c => ?_) (fun c => ?_)
  · first | exact c (by decide) | exact absurd c (by decide)
  refine mm_blk (pc' := 135) ok_Md_after 2 _ _ _ rfl ?_
  refine mm_ic_eq ok_Md_after 144 rfl (by decide) (fun c => ?_) (fun c => ?_)
  · first | exact c (by decide) | exact absurd c (by decide)
  refine mm_blk (pc' := 141) ok_Md_after 2 _ _ _ rfl ?_
  refine mm_ic_ne ok_Md_after 148 rfl (by decide) (fun c => ?_) (fun c => ?_)
  rotate_left
  · first | exact c (by decide) | exact absurd c (by decide)
  refine mm_blk (pc' := 150) ok_Md_after 2 _ _ _ rfl ?_
  refine mm_ic_ne ok_Md_after 157 rfl (by decide) (fun c => ?_) (fun c => ?_)
  rotate_left
  · first | exact c (by decide) | exact absurd c (by decide)
  refine mm_blk (pc' := 159) ok_Md_after 2 _ _ _ rfl ?_
  refine mm_ic_eq ok_Md_after 173 rfl (by decide) (fun c => ?_) (fun c => ?_)
  · first | exact c (by decide) | exact absurd c (by decide)
  refine mm_blk (pc' := 164) ok_Md_after 2 _ _ _ rfl ?_
  refine mm_ic_eq ok_Md_after 173 rfl (by decide) (fun c => ?_) (fun c => ?_)
  · first | exact c (by decide) | exact absurd c (by decide)
  refine mm_blk (pc' := 170) ok_Md_after 2 _ _ _ rfl ?_
  refine mm_ic_ne ok_Md_after 177 rfl (by decide) (fun c => ?_) (fun c => ?_)
  rotate_left
  · first | exact c (by decide) | exact absurd c (by decide)
  refine mm_blk (pc' := 179) ok_Md_after 2 _ _ _ rfl ?_
  refine mm_ic_eq ok_Md_after 188 rfl (by decide) (fun c => ?_) (fun c => ?_)
  · first | exact c (by decide) | exact absurd c (by decide)
  refine mm_blk (pc' := 185) ok_Md_after 2 _ _ _ rfl ?_
  refine mm_ic_ne ok_Md_after 193 rfl (by decide) (fun c => ?_) (fun c => ?_)
  rotate_left
  · first | exact c (by decide) | exact absurd c (by decide)
  refine mm_blk (pc' := 196) ok_Md_after 2 _ _ _ rfl ?_
  refine mm_ic_ne ok_Md_after 204 rfl (by decide) (fun c => ?_) (fun c => ?_)
  rotate_left
  · first | exact c (by decide) | exact absurd c (by decide)
  refine mm_blk (pc' := 207) ok_Md_after 2 _ _ _ rfl ?_
  refine mm_ic_eq ok_Md_after 222 rfl (by decide) (fun c => ?_) (fun c => ?_)
  · first | exact c (by decide) | exact absurd c (by decide)
  refine mm_blk (pc' := 213) ok_Md_after 2 _ _ _ rfl ?_
  refine mm_ic_eq ok_Md_after 222 rfl (by decide) (fun c => ?_) (fun c => ?_)
  · first | exact c (by decide) | exact absurd c (by decide)
  refine mm_blk (pc' := 219) ok_Md_after 2 _ _ _ rfl ?_
  refine mm_ic_ne ok_Md_after 227 rfl (by decide) (fun c => ?_) (fun c => ?_)
  · first | exact c (by decide) | exact absurd c (by decide)
  refine mm_blk (pc' := 229) ok_Md_after 2 _ _ _ rfl ?_
  exact mm_iret ok_Md_after rfl rfl ⟨rfl, rfl⟩
set_option maxHeartbeats 1000000 in
theorem c_Md_after1_14  {b : Int32} (hb : ¬ b = 0) : mm_C G M_Md_after [.int (nI 14), .int b] h 0 0 (mm_E (some (.int 15)) h) := by
  refine mm_C_of (by decide +kernel) rfl (Nat.le_of_ble_eq_true rfl) rfl ?_
  refine mm_blk (pc' := 1) ok_Md_after 1 _ _ _ rfl ?_
  refine mm_if_eq ok_Md_after 127 rfl (by decide) (fun c => ?_) (fun c => ?_)
  · exact absurd c hb
  refine mm_blk (pc' := 5) ok_Md_after 1 _ _ _ rfl ?_
  refine mm_if_eq ok_Md_after 14 rfl (by decide) (fun c => ?_) (fun c => ?_)
  · first | exact c (by decide) | exact absurd c (by decide)
  refine mm_blk (pc' := 11) ok_Md_after 2 _ _ _ rfl ?_
  refine mm_ic_ne ok_Md_after 18 rfl (by decide) (fun c => ?_) (fun c => ?_)
  rotate_left
  · first | exact c (by decide) | exact absurd c (by decide)
  refine mm_blk (pc' := 20) ok_Md_after 2 _ _ _ rfl ?_
  refine mm_ic_eq ok_Md_after 35 rfl (by decide) (fun c => ?_) (fun c => ?_)
  · first | exact c (by decide) | exact absurd c (by decide)
  refine mm_blk (pc' := 26) ok_Md_after 2 _ _ _ rfl ?_
  refine mm_ic_eq ok_Md_after 35 rfl (by decide) (fun c => ?_) (fun c => ?_)
  · first | exact c (by decide) | exact absurd c (by decide)
  refine mm_blk (pc' := 32) ok_Md_after 2 _ _ _ rfl ?_
  refine mm_ic_ne ok_Md_after 39 rfl (by decide) (fun c => ?_) (fun c => ?_)
  rotate_left
  · first | exact c (by decide) | exact absurd c (by decide)
  refine mm_blk (pc' := 41) ok_Md_after 2 _ _ _ rfl ?_
  refine mm_ic_ne ok_Md_after 49 rfl (by decide) (fun c => ?_) (fun c => ?_)
  rotate_left
  · first | exact c (by decide) | exact absurd c (by decide)
  refine mm_blk (pc' := 51) ok_Md_after 2 _ _ _ rfl ?_
  refine mm_ic_eq ok_Md_after 59 rfl (by decide) (fun c => ?_) (fun c => ?_)
  · first | exact c (by decide) | exact absurd c (by decide)
  refine mm_blk (pc' := 56) ok_Md_after 2 _ _ _ rfl ?_
  refine mm_ic_ne ok_Md_after 63 rfl (by decide) (fun c => ?_) (fun c => ?_)
  rotate_left
  · first | exact c (by decide) | exact absurd c (by decide)
  refine mm_blk (pc' := 65) ok_Md_after 2 _ _ _ rfl ?_
  refine mm_ic_eq ok_Md_after 74 rfl (by decide) (fun c => ?_) (fun c => ?_)
  · first | exact c (by decide) | exact absurd c (by decide)
  refine mm_blk (pc' := 71) ok_Md_after 2 _ _ _ rfl ?_
  refine mm_ic_ne ok_Md_after 79 rfl (by decide) (fun c => ?_) (fun c => ?_)
  rotate_left
  · first | exact c (by decide) | exact absurd c (by decide)
  refine mm_blk (pc' := 82) ok_Md_after 2 _ _ _ rfl ?_
  refine mm_ic_ne ok_Md_after 90 rfl (by decide) (fun c => ?_) (fun c => ?_)
  rotate_left
  · first | exact c (by decide) | exact absurd c (by decide)
  refine mm_blk (pc' := 93) ok_Md_after 2 _ _ _ rfl ?_
  refine mm_ic_eq ok_Md_after 102 rfl (by decide) (fun c => ?_) (fun c => ?_)
  · first | exact c (by decide) | exact absurd c (by decide)
  refine mm_blk (pc' := 99) ok_Md_after 2 _ _ _ rfl ?_
  refine mm_ic_ne ok_Md_after 107 rfl (by decide) (fun c => ?_) (fun c => ?_)
  rotate_left
  · first | exact c (by decide) | exact absurd c (by decide)
  refine mm_blk (pc' := 110) ok_Md_after 2 _ _ _ rfl ?_
  refine mm_ic_eq ok_Md_after 119 rfl (by decide) (fun c => ?_) (fun c => ?_)
  · first | exact c (by decide) | exact absurd c (by decide)
  refine mm_blk (pc' := 116) ok_Md_after 2 _ _ _ rfl ?_
  refine mm_ic_ne ok_Md_after 124 rfl (by decide) (fun c => ?_) (fun c => ?_)
  · first | exact c (by decide) | exact absurd c (by decide)
  refine mm_blk (pc' := 126) ok_Md_after 2 _ _ _ rfl ?_
  exact mm_iret ok_Md_after rfl rfl ⟨rfl, rfl⟩
set_option maxHeartbeats 1000000 in
theorem c_Md_after0_15   : mm_C G M_Md_after [.int (nI 15), .int 0] h 0 0 (mm_E (some (.int 1)) h) := by
  refine mm_C_of (by decide +kernel) rfl (Nat.le_of_ble_eq_true rfl) rfl ?_
  refine mm_blk (pc' := 1) ok_Md_after 1 _ _ _ rfl ?_
  refine mm_if_eq ok_Md_after 127 rfl (by decide) (fun c => ?_) (fun c => ?_)
  rotate_left
  · first | exact c (by decide) | exact absurd c (by decide)
  refine mm_blk (pc' := 129) ok_Md_after 2 _ _ _ rfl ?_
  refine mm_ic_lt ok_Md_after 144 rfl (by decide) (fun c => ?_) (fun c => ?_)
  · first | exact c (by decide) | exact absurd c (by decide)
  refine mm_blk (pc' := 135) ok_Md_after 2 _ _ _ rfl ?_
  refine mm_ic_eq ok_Md_after 144 rfl (by decide) (fun c => ?_) (fun c => ?_)
  · first | exact c (by decide) | exact absurd c (by decide)
  refine mm_blk (pc' := 141) ok_Md_after 2 _ _ _ rfl ?_
  refine mm_ic_ne ok_Md_after 148 rfl (by decide) (fun c => ?_) (fun c => ?_)
  · first | exact c (by decide) | exact absurd c (by decide)
  refine mm_blk (pc' := 229) ok_Md_after 2 _ _ _ rfl ?_
  exact mm_iret ok_Md_after rfl rfl ⟨rfl, rfl⟩
set_option maxHeartbeats 1000000 in
theorem c_Md_after1_15  {b : Int32} (hb : ¬ b = 0) : mm_C G M_Md_after [.int (nI 15), .int b] h 0 0 (mm_E (some (.int 2)) h) := by
  refine mm_C_of (by decide +kernel) rfl (Nat.le_of_ble_eq_true rfl) rfl ?_
  refine mm_blk (pc' := 1) ok_Md_after 1 _ _ _ rfl ?_
  refine mm_if_eq ok_Md_after 127 rfl (by decide) (fun c => ?_) (fun c => ?_)
  · exact absurd c hb
  refine mm_blk (pc' := 5) ok_Md_after 1 _ _ _ rfl ?_
  refine mm_if_eq ok_Md_after 14 rfl (by decide) (fun c => ?_) (fun c => ?_)
  · first | exact c (by decide) | exact absurd c (by decide)
  refine mm_blk (pc' := 11) ok_Md_after 2 _ _ _ rfl ?_
  refine mm_ic_ne ok_Md_after 18 rfl (by decide) (fun c => ?_) (fun c => ?_)
  rotate_left
  · first | exact c (by decide) | exact absurd c (by decide)
  refine mm_blk (pc' := 20) ok_Md_after 2 _ _ _ rfl ?_
  refine mm_ic_eq ok_Md_after 35 rfl (by decide) (fun c => ?_) (fun c => ?_)
  · first | exact c (by decide) | exact absurd c (by decide)
  refine mm_blk (pc' := 26) ok_Md_after 2 _ _ _ rfl ?_
  refine mm_ic_eq ok_Md_after 35 rfl (by decide) (fun c => ?_) (fun c => ?_)
  · first | exact c (by decide) | exact absurd c (by decide)
  refine mm_blk (pc' := 32) ok_Md_after 2 _ _ _ rfl ?_
  refine mm_ic_ne ok_Md_after 39 rfl (by decide) (fun c => ?_) (fun c => ?_)
  · first | exact c (by decide) | exact absurd c (by decide)
  refine mm_blk (pc' := 126) ok_Md_after 2 _ _ _ rfl ?_
  exact mm_iret ok_Md_after rfl rfl ⟨rfl, rfl⟩
def m_aft (k : Nat) (b : Int32) : Int32 := if b = 0 then mm_t0.getD k 0 else mm_t1.getD k 0
theorem c_Md_after {k : Nat} (hk : k < 16) (b : Int32) : mm_C G M_Md_after [.int (nI k), .int b] h 0 0 (mm_E (some (.int (m_aft k b))) h) := by
  unfold m_aft
  by_cases hb : b = 0
  · rw [if_pos hb, hb]
    rcases (show k = 0 ∨ k = 1 ∨ k = 2 ∨ k = 3 ∨ k = 4 ∨ k = 5 ∨ k = 6 ∨ k = 7 ∨ k = 8 ∨ k = 9 ∨ k = 10 ∨ k = 11 ∨ k = 12 ∨ k = 13 ∨ k = 14 ∨ k = 15 by omega) with rfl | rfl | rfl | rfl | rfl | rfl | rfl | rfl | rfl | rfl | rfl | rfl | rfl | rfl | rfl | rfl
    · exact c_Md_after0_0
    · exact c_Md_after0_1
    · exact c_Md_after0_2
    · exact c_Md_after0_3
    · exact c_Md_after0_4
    · exact c_Md_after0_5
    · exact c_Md_after0_6
    · exact c_Md_after0_7
    · exact c_Md_after0_8
    · exact c_Md_after0_9
    · exact c_Md_after0_10
    · exact c_Md_after0_11
    · exact c_Md_after0_12
    · exact c_Md_after0_13
    · exact c_Md_after0_14
    · exact c_Md_after0_15
  · rw [if_neg hb]
    rcases (show k = 0 ∨ k = 1 ∨ k = 2 ∨ k = 3 ∨ k = 4 ∨ k = 5 ∨ k = 6 ∨ k = 7 ∨ k = 8 ∨ k = 9 ∨ k = 10 ∨ k = 11 ∨ k = 12 ∨ k = 13 ∨ k = 14 ∨ k = 15 by omega) with rfl | rfl | rfl | rfl | rfl | rfl | rfl | rfl | rfl | rfl | rfl | rfl | rfl | rfl | rfl | rfl
    · exact c_Md_after1_0 hb
    · exact c_Md_after1_1 hb
    · exact c_Md_after1_2 hb
    · exact c_Md_after1_3 hb
    · exact c_Md_after1_4 hb
    · exact c_Md_after1_5 hb
    · exact c_Md_after1_6 hb
    · exact c_Md_after1_7 hb
    · exact c_Md_after1_8 hb
    · exact c_Md_after1_9 hb
    · exact c_Md_after1_10 hb
    · exact c_Md_after1_11 hb
    · exact c_Md_after1_12 hb
    · exact c_Md_after1_13 hb
    · exact c_Md_after1_14 hb
    · exact c_Md_after1_15 hb
set_option maxHeartbeats 1000000 in
theorem c_Md_isCell1 (w : mm_inj mdom K) (ok : m_ok nd nn t) {d k : Nat} (hd : d < nd) (hk : k < m_cl t d) : mm_C G M_Md_isCell [.ref (K 0), .int (nI d), .int (nI k)] (MP K t h) 0 0 (mm_E (some (.int 1)) (MP K t h)) := by
  have h4 := ok.1
  obtain ⟨-, c6, ec⟩ := ok.2.2.2.2.1 d hd
  refine mm_C_of (by decide +kernel) rfl (Nat.le_of_ble_eq_true rfl) rfl ?_
  refine mm_blk (pc' := 2) ok_Md_isCell 2 _ _ _ rfl ?_
  refine mm_getf ok_Md_isCell (mp_0 w) rfl f_Md_66 rfl ?_
  rw [show t 0 1 = nI nd from ok.2.2.1]
  refine mm_cSE ok_Md_isCell (As := [.int (nI d), .int (nI nd)]) rfl k_Md_isCell_82 rfl (Nat.le_of_ble_eq_true rfl) (c_Md_outN hd (by omega)) ?_
  refine mm_if_ne ok_Md_isCell 28 rfl (by decide) (fun c => ?_) (fun c => ?_)
  · exact absurd rfl c
  refine mm_blk (pc' := 13) ok_Md_isCell 2 _ _ _ rfl ?_
  refine mm_getf ok_Md_isCell (mp_0 w) rfl f_Md_16 rfl ?_
  refine mm_blk (pc' := 17) ok_Md_isCell 1 _ _ _ rfl ?_
  refine mm_iald (j := d) ok_Md_isCell (mp_4 w) rfl rfl (by omega) (oIs_get (by omega) _) ?_
  rw [ec]
  refine mm_cSE ok_Md_isCell (As := [.int (nI k), .int (nI (m_cl t d))]) rfl k_Md_isCell_82 rfl (Nat.le_of_ble_eq_true rfl) (c_Md_outN hk (by omega)) ?_
  refine mm_if_ne ok_Md_isCell 28 rfl (by decide) (fun c => ?_) (fun c => ?_)
  · exact absurd rfl c
  refine mm_blk (pc' := 29) ok_Md_isCell 2 _ _ _ rfl ?_
  exact mm_zret ok_Md_isCell rfl rfl rfl ⟨rfl, rfl⟩
set_option maxHeartbeats 1000000 in
theorem c_Md_isCell0 (w : mm_inj mdom K) (ok : m_ok nd nn t) {x y : Int32} (hx : ¬ ∃ d, d < nd ∧ x = nI d ∧ inR y (m_cl t d)) : mm_C G M_Md_isCell [.ref (K 0), .int x, .int y] (MP K t h) 0 0 (mm_E (some (.int 0)) (MP K t h)) := by
  have h4 := ok.1
  refine mm_C_of (by decide +kernel) rfl (Nat.le_of_ble_eq_true rfl) rfl ?_
  by_cases hr : inR x nd
  · obtain ⟨d, hd, rfl⟩ := (inR_iff (by omega)).mp hr
    obtain ⟨-, c6, ec⟩ := ok.2.2.2.2.1 d hd
    refine mm_blk (pc' := 2) ok_Md_isCell 2 _ _ _ rfl ?_
    refine mm_getf ok_Md_isCell (mp_0 w) rfl f_Md_66 rfl ?_
    rw [show t 0 1 = nI nd from ok.2.2.1]
    refine mm_cSE ok_Md_isCell (As := [.int (nI d), .int (nI nd)]) rfl k_Md_isCell_82 rfl (Nat.le_of_ble_eq_true rfl) (c_Md_outN hd (by omega)) ?_
    refine mm_if_ne ok_Md_isCell 28 rfl (by decide) (fun c => ?_) (fun c => ?_)
    · exact absurd rfl c
    refine mm_blk (pc' := 13) ok_Md_isCell 2 _ _ _ rfl ?_
    refine mm_getf ok_Md_isCell (mp_0 w) rfl f_Md_16 rfl ?_
    refine mm_blk (pc' := 17) ok_Md_isCell 1 _ _ _ rfl ?_
    refine mm_iald (j := d) ok_Md_isCell (mp_4 w) rfl rfl (by omega) (oIs_get (by omega) _) ?_
    rw [ec]
    refine mm_cSE ok_Md_isCell (As := [.int y, .int (nI (m_cl t d))]) rfl k_Md_isCell_82 rfl (Nat.le_of_ble_eq_true rfl) (c_Md_out1 (out_of (by omega) (fun z => hx ⟨d, hd, rfl, z⟩))) ?_
    refine mm_if_ne ok_Md_isCell 28 rfl (by decide) (fun c => ?_) (fun c => ?_)
    rotate_left
    · exact absurd c (by decide)
    refine mm_blk (pc' := 29) ok_Md_isCell 1 _ _ _ rfl ?_
    exact mm_zret ok_Md_isCell rfl rfl rfl ⟨rfl, rfl⟩
  · refine mm_blk (pc' := 2) ok_Md_isCell 2 _ _ _ rfl ?_
    refine mm_getf ok_Md_isCell (mp_0 w) rfl f_Md_66 rfl ?_
    rw [show t 0 1 = nI nd from ok.2.2.1]
    refine mm_cSE ok_Md_isCell (As := [.int x, .int (nI nd)]) rfl k_Md_isCell_82 rfl (Nat.le_of_ble_eq_true rfl) (c_Md_out1 (out_of (by omega) hr)) ?_
    refine mm_if_ne ok_Md_isCell 28 rfl (by decide) (fun c => ?_) (fun c => ?_)
    rotate_left
    · exact absurd c (by decide)
    refine mm_blk (pc' := 29) ok_Md_isCell 1 _ _ _ rfl ?_
    exact mm_zret ok_Md_isCell rfl rfl rfl ⟨rfl, rfl⟩
set_option maxHeartbeats 1000000 in
theorem c_Md_heal (w : mm_inj mdom K) {j : Nat} (hj : j < 8) (hp : ¬ t 17 j < 0 → m_pt t j < 8 ∧ t 17 j = nI (m_pt t j)) : mm_C G M_Md_heal [.ref (K 0), .int (nI j)] (MP K t h) 0 0 (mm_E none (MP K (m_heal t j) h)) := by
  refine mm_C_of (by decide +kernel) rfl (Nat.le_of_ble_eq_true rfl) rfl ?_
  refine mm_blk (pc' := 1) ok_Md_heal 1 _ _ _ rfl ?_
  refine mm_getf ok_Md_heal (mp_0 w) rfl f_Md_53 rfl ?_
  refine mm_blk (pc' := 5) ok_Md_heal 1 _ _ _ rfl ?_
  refine mm_iald (j := j) ok_Md_heal (mp_17 w) rfl rfl (by omega) (oIs_get (by omega) _) ?_
  refine mm_blk (pc' := 8) ok_Md_heal 2 _ _ _ rfl ?_
  refine mm_getf ok_Md_heal (mp_0 w) rfl f_Md_50 rfl ?_
  refine mm_blk (pc' := 13) ok_Md_heal 2 _ _ _ rfl ?_
  refine mm_iast (j := j) ok_Md_heal (mp_16 w) rfl rfl (by omega) (by rw [List.length_map, List.length_range]; exact (by omega)) ?_
  refine mm_V_heap (mu_16 w (by omega) _) ?_
  refine mm_blk (pc' := 15) ok_Md_heal 1 _ _ _ rfl ?_
  refine mm_getf ok_Md_heal (mp_0 w) rfl f_Md_53 rfl ?_
  refine mm_blk (pc' := 20) ok_Md_heal 2 _ _ _ rfl ?_
  refine mm_iast (j := j) ok_Md_heal (mp_17 w) rfl rfl (by omega) (by rw [List.length_map, List.length_range]; exact (by omega)) ?_
  refine mm_V_heap (mu_17 w (by omega) _) ?_
  refine mm_blk (pc' := 22) ok_Md_heal 1 _ _ _ rfl ?_
  refine mm_if_ge ok_Md_heal 26 rfl (by decide) (fun c22 => ?_) (fun c22 => ?_)
  · -- 26 t
    obtain ⟨p1, p2⟩ := hp (Int32.not_lt.mpr c22)
    rw [p2]
    refine mm_blk (pc' := 27) ok_Md_heal 1 _ _ _ rfl ?_
    refine mm_getf ok_Md_heal (mp_0 w) rfl f_Md_50 rfl ?_
    refine mm_blk (pc' := 32) ok_Md_heal 2 _ _ _ rfl ?_
    refine mm_iast (j := m_pt t j) ok_Md_heal (mp_16 w) rfl rfl (by omega) (by rw [List.length_map, List.length_range]; exact (by omega)) ?_
    refine mm_V_heap (mu_16 w (by omega) _) ?_
    refine mm_blk (pc' := 34) ok_Md_heal 1 _ _ _ rfl ?_
    refine mm_getf ok_Md_heal (mp_0 w) rfl f_Md_53 rfl ?_
    refine mm_blk (pc' := 39) ok_Md_heal 2 _ _ _ rfl ?_
    refine mm_iast (j := m_pt t j) ok_Md_heal (mp_17 w) rfl rfl (by omega) (by rw [List.length_map, List.length_range]; exact (by omega)) ?_
    refine mm_V_heap (mu_17 w (by omega) _) ?_
    exact mm_vret ok_Md_heal rfl rfl ⟨rfl, by rw [show m_heal t j = m_cut (m_cut t j) (m_pt t j) from if_neg (Int32.not_lt.mpr c22)]; rfl⟩
  · -- 25 f
    exact mm_vret ok_Md_heal rfl rfl ⟨rfl, by rw [show m_heal t j = m_cut t j from if_pos (Int32.not_le.mp c22)]; rfl⟩
set_option maxHeartbeats 1000000 in
theorem c_Md_output (w : mm_inj mdom K) {c : Nat} (hc : c < 24) : mm_C G M_Md_output [.ref (K 0), .int (nI c)] (MP K t h) 0 0 (mm_E (some (.int (m_out t c))) (MP K t h)) := by
  refine mm_C_of (by decide +kernel) rfl (Nat.le_of_ble_eq_true rfl) rfl ?_
  refine mm_blk (pc' := 1) ok_Md_output 1 _ _ _ rfl ?_
  refine mm_getf ok_Md_output (mp_0 w) rfl f_Md_19 rfl ?_
  refine mm_blk (pc' := 7) ok_Md_output 2 _ _ _ rfl ?_
  refine mm_idiv ok_Md_output rfl (by decide) ?_
  rw [show nI c / 6 = nI (c / 6) from pk_div (d := 6) (by omega) (by decide) (by decide)]
  refine mm_iald (j := c / 6) ok_Md_output (mp_5 w) rfl rfl (by omega) (oIs_get (by omega) _) ?_
  refine mm_if_ne ok_Md_output 21 rfl (by decide) (fun c9 => ?_) (fun c9 => ?_)
  · -- 21 t
    refine mm_blk (pc' := 22) ok_Md_output 1 _ _ _ rfl ?_
    refine mm_getf ok_Md_output (mp_0 w) rfl f_Md_41 rfl ?_
    refine mm_blk (pc' := 26) ok_Md_output 1 _ _ _ rfl ?_
    refine mm_iald (j := c) ok_Md_output (mp_12 w) rfl rfl (by omega) (oIs_get (by omega) _) ?_
    exact mm_iret ok_Md_output rfl rfl ⟨by unfold m_out; first | rw [if_pos c9] | rw [if_neg c9], rfl⟩
  · -- 12 f
    refine mm_blk (pc' := 13) ok_Md_output 1 _ _ _ rfl ?_
    refine mm_getf ok_Md_output (mp_0 w) rfl f_Md_38 rfl ?_
    refine mm_blk (pc' := 17) ok_Md_output 1 _ _ _ rfl ?_
    refine mm_iald (j := c) ok_Md_output (mp_11 w) rfl rfl (by omega) (oIs_get (by omega) _) ?_
    refine mm_blk (pc' := 27) ok_Md_output 1 _ _ _ rfl ?_
    exact mm_iret ok_Md_output rfl rfl ⟨by unfold m_out; first | rw [if_pos c9] | rw [if_neg c9], rfl⟩
set_option maxHeartbeats 1000000 in
theorem c_Md_valueOf (w : mm_inj mdom K) (ok : m_ok nd nn t) {j : Nat} (hj : j < nn) : mm_C G M_Md_valueOf [.ref (K 0), .int (nI j)] (MP K t h) 0 0 (mm_E (some (.int (m_val t j))) (MP K t h)) := by
  have h8 := ok.2.1
  obtain ⟨d1, d2⟩ := ok.2.2.2.2.2.2.1 j hj
  obtain ⟨hp0, hp⟩ := ok.2.2.2.2.2.2.2.1 j hj
  refine mm_C_of (by decide +kernel) rfl (Nat.le_of_ble_eq_true rfl) rfl ?_
  refine mm_blk (pc' := 2) ok_Md_valueOf 2 _ _ _ rfl ?_
  refine mm_getf ok_Md_valueOf (mp_0 w) rfl f_Md_47 rfl ?_
  refine mm_blk (pc' := 6) ok_Md_valueOf 1 _ _ _ rfl ?_
  refine mm_iald (j := j) ok_Md_valueOf (mp_15 w) rfl rfl (by omega) (oIs_get (by omega) _) ?_
  rw [d2]
  refine mm_cVE ok_Md_valueOf (As := [.int (nI (m_dr t j))]) rfl k_Md_valueOf_96 (mp_0 w) rfl rfl rfl (Nat.le_of_ble_eq_true rfl) (c_Md_output w d1) ?_
  refine mm_blk (pc' := 12) ok_Md_valueOf 2 _ _ _ rfl ?_
  refine mm_getf ok_Md_valueOf (mp_0 w) rfl f_Md_50 rfl ?_
  refine mm_blk (pc' := 16) ok_Md_valueOf 1 _ _ _ rfl ?_
  refine mm_iald (j := j) ok_Md_valueOf (mp_16 w) rfl rfl (by omega) (oIs_get (by omega) _) ?_
  refine mm_if_ge ok_Md_valueOf 22 rfl (by decide) (fun c17 => ?_) (fun c17 => ?_)
  · -- 22 t
    refine mm_blk (pc' := 23) ok_Md_valueOf 1 _ _ _ rfl ?_
    refine mm_getf ok_Md_valueOf (mp_0 w) rfl f_Md_50 rfl ?_
    refine mm_blk (pc' := 27) ok_Md_valueOf 1 _ _ _ rfl ?_
    refine mm_iald (j := j) ok_Md_valueOf (mp_16 w) rfl rfl (by omega) (oIs_get (by omega) _) ?_
    refine mm_blk (pc' := 29) ok_Md_valueOf 1 _ _ _ rfl ?_
    refine mm_ic_ge ok_Md_valueOf 39 rfl (by decide) (fun c29 => ?_) (fun c29 => ?_)
    · -- 39 t
      have g2 : ¬ t 16 j < 2 := Int32.not_lt.mpr c29
      obtain ⟨p1, p2⟩ := hp (hp0 g2)
      obtain ⟨q1, q2⟩ := ok.2.2.2.2.2.2.1 (m_pt t j) p1
      refine mm_blk (pc' := 41) ok_Md_valueOf 2 _ _ _ rfl ?_
      refine mm_getf ok_Md_valueOf (mp_0 w) rfl f_Md_47 rfl ?_
      refine mm_blk (pc' := 45) ok_Md_valueOf 1 _ _ _ rfl ?_
      refine mm_getf ok_Md_valueOf (mp_0 w) rfl f_Md_53 rfl ?_
      refine mm_blk (pc' := 49) ok_Md_valueOf 1 _ _ _ rfl ?_
      refine mm_iald (j := j) ok_Md_valueOf (mp_17 w) rfl rfl (by omega) (oIs_get (by omega) _) ?_
      rw [p2]
      refine mm_iald (j := m_pt t j) ok_Md_valueOf (mp_15 w) rfl rfl (by omega) (oIs_get (by omega) _) ?_
      rw [q2]
      refine mm_cVE ok_Md_valueOf (As := [.int (nI (m_dr t (m_pt t j)))]) rfl k_Md_valueOf_96 (mp_0 w) rfl rfl rfl (Nat.le_of_ble_eq_true rfl) (c_Md_output w q1) ?_
      refine mm_blk (pc' := 56) ok_Md_valueOf 2 _ _ _ rfl ?_
      refine mm_getf ok_Md_valueOf (mp_0 w) rfl f_Md_50 rfl ?_
      refine mm_blk (pc' := 60) ok_Md_valueOf 1 _ _ _ rfl ?_
      refine mm_iald (j := j) ok_Md_valueOf (mp_16 w) rfl rfl (by omega) (oIs_get (by omega) _) ?_
      refine mm_blk (pc' := 62) ok_Md_valueOf 1 _ _ _ rfl ?_
      refine mm_ic_ne ok_Md_valueOf 71 rfl (by decide) (fun c62 => ?_) (fun c62 => ?_)
      · -- 71 t
        refine mm_blk (pc' := 78) ok_Md_valueOf 7 _ _ _ rfl ?_
        exact mm_iret ok_Md_valueOf rfl rfl ⟨by unfold m_val; rw [if_neg (Int32.not_lt.mpr c17), if_neg g2]; first | rw [if_pos c62] | rw [if_neg c62], rfl⟩
      · -- 65 f
        refine mm_blk (pc' := 78) ok_Md_valueOf 4 _ _ _ rfl ?_
        exact mm_iret ok_Md_valueOf rfl rfl ⟨by unfold m_val; rw [if_neg (Int32.not_lt.mpr c17), if_neg g2]; first | rw [if_pos c62] | rw [if_neg c62], rfl⟩
    · -- 32 f
      refine mm_blk (pc' := 33) ok_Md_valueOf 1 _ _ _ rfl ?_
      refine mm_getf ok_Md_valueOf (mp_0 w) rfl f_Md_50 rfl ?_
      refine mm_blk (pc' := 37) ok_Md_valueOf 1 _ _ _ rfl ?_
      refine mm_iald (j := j) ok_Md_valueOf (mp_16 w) rfl rfl (by omega) (oIs_get (by omega) _) ?_
      exact mm_iret ok_Md_valueOf rfl rfl ⟨by unfold m_val; rw [if_neg (Int32.not_lt.mpr c17), if_pos (Int32.not_le.mp c29)], rfl⟩
  · -- 20 f
    refine mm_blk (pc' := 21) ok_Md_valueOf 1 _ _ _ rfl ?_
    exact mm_iret ok_Md_valueOf rfl rfl ⟨by unfold m_val; rw [if_pos (Int32.not_le.mp c17)], rfl⟩
set_option maxHeartbeats 1000000 in
theorem c_Md_signal (w : mm_inj mdom K) (ok : m_ok nd nn t) {c : Nat} (hc : c < 24) (hn : ¬ t 13 c < 0 → m_no t c < nn ∧ t 13 c = nI (m_no t c)) : mm_C G M_Md_signal [.ref (K 0), .int (nI c)] (MP K t h) 0 0 (mm_E (some (.int (m_sg t c))) (MP K t h)) := by
  refine mm_C_of (by decide +kernel) rfl (Nat.le_of_ble_eq_true rfl) rfl ?_
  refine mm_blk (pc' := 1) ok_Md_signal 1 _ _ _ rfl ?_
  refine mm_getf ok_Md_signal (mp_0 w) rfl f_Md_34 rfl ?_
  refine mm_blk (pc' := 5) ok_Md_signal 1 _ _ _ rfl ?_
  refine mm_zald (j := c) ok_Md_signal (mp_10 w) rfl rfl (by omega) (oIs_get (by omega) _) ?_
  refine mm_if_eq ok_Md_signal 15 rfl (by decide) (fun c6 => ?_) (fun c6 => ?_)
  · -- 15 t
    refine mm_blk (pc' := 16) ok_Md_signal 1 _ _ _ rfl ?_
    refine mm_getf ok_Md_signal (mp_0 w) rfl f_Md_44 rfl ?_
    refine mm_blk (pc' := 20) ok_Md_signal 1 _ _ _ rfl ?_
    refine mm_iald (j := c) ok_Md_signal (mp_13 w) rfl rfl (by omega) (oIs_get (by omega) _) ?_
    refine mm_if_ge ok_Md_signal 28 rfl (by decide) (fun c21 => ?_) (fun c21 => ?_)
    · -- 28 t
      obtain ⟨n1, n2⟩ := hn (Int32.not_lt.mpr c21)
      refine mm_blk (pc' := 30) ok_Md_signal 2 _ _ _ rfl ?_
      refine mm_getf ok_Md_signal (mp_0 w) rfl f_Md_44 rfl ?_
      refine mm_blk (pc' := 34) ok_Md_signal 1 _ _ _ rfl ?_
      refine mm_iald (j := c) ok_Md_signal (mp_13 w) rfl rfl (by omega) (oIs_get (by omega) _) ?_
      rw [n2]
      refine mm_cVE ok_Md_signal (As := [.int (nI (m_no t c))]) rfl k_Md_signal_100 (mp_0 w) rfl rfl rfl (Nat.le_of_ble_eq_true rfl) (c_Md_valueOf w ok n1) ?_
      exact mm_iret ok_Md_signal rfl rfl ⟨by unfold m_sg; rw [if_pos c6]; first | rw [if_pos (Int32.not_le.mp c21)] | rw [if_neg (Int32.not_lt.mpr c21)], rfl⟩
    · -- 24 f
      refine mm_blk (pc' := 38) ok_Md_signal 2 _ _ _ rfl ?_
      exact mm_iret ok_Md_signal rfl rfl ⟨by unfold m_sg; rw [if_pos c6]; first | rw [if_pos (Int32.not_le.mp c21)] | rw [if_neg (Int32.not_lt.mpr c21)], rfl⟩
  · -- 9 f
    refine mm_blk (pc' := 11) ok_Md_signal 2 _ _ _ rfl ?_
    refine mm_cVE ok_Md_signal (As := [.int (nI c)]) rfl k_Md_signal_96 (mp_0 w) rfl rfl rfl (Nat.le_of_ble_eq_true rfl) (c_Md_output w hc) ?_
    exact mm_iret ok_Md_signal rfl rfl ⟨by unfold m_sg; rw [if_neg c6], rfl⟩
end MD1
