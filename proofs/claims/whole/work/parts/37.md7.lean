/-! the reference: test; a new one -/
section MD7
variable {G : mm_G} {K : Nat → Nat} {t : mS} {h : mm_Hp} {nd nn : Nat} {Q : mm_O → mm_Hp → Prop}

set_option maxHeartbeats 1000000 in
theorem c_Md_test_x (w : mm_inj mdom K) (e : t 0 1 = 0 ∨ t 0 14 = 0) : mm_C G M_Md_test [.ref (K 0)] (MP K t h) 0 0 (mm_E (some (.int 0)) (MP K (m_s t 0 0 1) h)) := by
  refine mm_C_of (by decide +kernel) rfl (Nat.le_of_ble_eq_true rfl) rfl ?_
  refine mm_blk (pc' := 2) ok_Md_test 2 _ _ _ rfl ?_
  refine mm_getf ok_Md_test (mp_0 w) rfl f_Md_66 rfl ?_
  refine mm_if_eq ok_Md_test 15 rfl (by decide) (fun c5 => ?_) (fun c5 => ?_)
  · -- 15 t
    refine mm_blk (pc' := 20) ok_Md_test 2 _ _ _ rfl ?_
    refine mm_putf ok_Md_test (mp_0 w) rfl f_Md_62 (Or.inl rfl) (mm_fit_I _) ?_
    refine mm_V_heap (mu_0 w 0 _) ?_
    refine mm_blk (pc' := 24) ok_Md_test 1 _ _ _ rfl ?_
    refine mm_getf ok_Md_test (mp_0 w) rfl f_Md_62 rfl ?_
    refine mm_if_le ok_Md_test 32 rfl (by decide) (fun c => ?_) (fun c => ?_)
    · exact absurd (show (1 : Int32) ≤ 0 from c) (by decide)
    refine mm_blk (pc' := 31) ok_Md_test 1 _ _ _ rfl ?_
    exact mm_iret ok_Md_test rfl rfl ⟨rfl, rfl⟩
  · -- 8 f
    refine mm_blk (pc' := 9) ok_Md_test 1 _ _ _ rfl ?_
    refine mm_getf ok_Md_test (mp_0 w) rfl f_Md_89 rfl ?_
    refine mm_if_ne ok_Md_test 19 rfl (by decide) (fun c => ?_) (fun c => ?_)
    · exact absurd (e.resolve_left c5) c
    refine mm_blk (pc' := 20) ok_Md_test 2 _ _ _ rfl ?_
    refine mm_putf ok_Md_test (mp_0 w) rfl f_Md_62 (Or.inl rfl) (mm_fit_I _) ?_
    refine mm_V_heap (mu_0 w 0 _) ?_
    refine mm_blk (pc' := 24) ok_Md_test 1 _ _ _ rfl ?_
    refine mm_getf ok_Md_test (mp_0 w) rfl f_Md_62 rfl ?_
    refine mm_if_le ok_Md_test 32 rfl (by decide) (fun c => ?_) (fun c => ?_)
    · exact absurd (show (1 : Int32) ≤ 0 from c) (by decide)
    refine mm_blk (pc' := 31) ok_Md_test 1 _ _ _ rfl ?_
    exact mm_iret ok_Md_test rfl rfl ⟨rfl, rfl⟩
set_option maxHeartbeats 1000000 in
theorem l_Md_testW (w : mm_inj mdom K) (ok : m_ok nd nn t) : ∀ (n i : Nat) (x : Int32), i + n = nd → mm_V G M_Md_test 63 [(0, .ref (K 0)), (1, .int (up (fun d a => a + t 2 d) n i x)), (2, .int (nI nd))] [] (MP K t h) 0 0 Q → mm_V G M_Md_test 40 [(0, .ref (K 0)), (1, .int x), (2, .int (nI i))] [] (MP K t h) 0 0 Q := by
  have h4 := ok.1
  intro n
  induction n with
  | zero =>
    intro i x hi kk
    refine mm_blk (pc' := 42) ok_Md_test 2 _ _ _ rfl ?_
    refine mm_getf ok_Md_test (mp_0 w) rfl f_Md_66 rfl ?_
    rw [ok.2.2.1]
    refine mm_ic_ge ok_Md_test 63 rfl (by decide) (fun c => ?_) (fun c => ?_)
    rotate_left
    · exact absurd (nI_le (by omega) (by omega)) c
    rw [show i = nd by omega]
    exact kk
  | succ n ih =>
    intro i x hi kk
    refine mm_blk (pc' := 42) ok_Md_test 2 _ _ _ rfl ?_
    refine mm_getf ok_Md_test (mp_0 w) rfl f_Md_66 rfl ?_
    rw [ok.2.2.1]
    refine mm_ic_ge ok_Md_test 63 rfl (by decide) (fun c => ?_) (fun c => ?_)
    · exact absurd c (nI_ge (by omega) (by omega))
    refine mm_blk (pc' := 50) ok_Md_test 2 _ _ _ rfl ?_
    refine mm_getf ok_Md_test (mp_0 w) rfl f_Md_7 rfl ?_
    refine mm_blk (pc' := 54) ok_Md_test 1 _ _ _ rfl ?_
    refine mm_iald (j := i) ok_Md_test (mp_2 w) rfl rfl (by omega) (oIs_get (by omega) _) ?_
    refine mm_blk (pc' := 40) ok_Md_test 4 _ _ _ rfl ?_
    rw [nI_1]
    exact ih (i + 1) _ (by omega) kk
set_option maxHeartbeats 1000000 in
theorem l_Md_testB (w : mm_inj mdom K) {all : Nat} (ha : all < 1000) : ∀ (n i : Nat) (t : mS), m_good nd nn t → i + n = all → mm_V G M_Md_test 97 [(0, .ref (K 0)), (1, .int (nI all)), (2, .int (nI (all + 1)))] [] (MP K (up (fun b t => m_tk nd (if b + 1 = all then 1 else 0) 0 t) n i t) h) 0 0 Q → mm_V G M_Md_test 70 [(0, .ref (K 0)), (1, .int (nI all)), (2, .int (nI (i + 1)))] [] (MP K t h) 0 0 Q := by
  intro n
  induction n with
  | zero =>
    intro i t g hi kk
    refine mm_blk (pc' := 72) ok_Md_test 2 _ _ _ rfl ?_
    refine mm_ic_gt ok_Md_test 97 rfl (by decide) (fun c => ?_) (fun c => ?_)
    rotate_left
    · exact absurd (nI_lt (by omega) (by omega)) c
    rw [show i = all by omega]
    exact kk
  | succ n ih =>
    intro i t g hi kk
    have eb : (if nI (i + 1) = nI all then (1 : Int32) else 0) = if i + 1 = all then 1 else 0 := by
      by_cases e : i + 1 = all
      · rw [if_pos e, if_pos (by rw [e])]
      · rw [if_neg e, if_neg (fun z => e ((nI_eq (by omega) (by omega)).mp z))]
    refine mm_blk (pc' := 72) ok_Md_test 2 _ _ _ rfl ?_
    refine mm_ic_gt ok_Md_test 97 rfl (by decide) (fun c => ?_) (fun c => ?_)
    · exact absurd c (nI_nlt (by omega) (by omega))
    refine mm_blk (pc' := 78) ok_Md_test 3 _ _ _ rfl ?_
    refine mm_tc_ne ok_Md_test 85 rfl (by decide) rfl rfl rfl (by decide) ?_
    refine mm_blk (pc' := 87) ok_Md_test 1 _ _ _ rfl ?_
    rw [eb]
    refine mm_cVE ok_Md_test (As := [.int (if i + 1 = all then 1 else 0), .int 0]) rfl k_Md_test_127 (mp_0 w) rfl rfl rfl (Nat.le_of_ble_eq_true rfl) (c_tk w g (if i + 1 = all then 1 else 0) 0) ?_
    refine mm_blk (pc' := 70) ok_Md_test 3 _ _ _ rfl ?_
    rw [nI_1]
    refine mm_V_pick [0, 1, 2] rfl ?_
    exact ih (i + 1) _ (tk_good g _ _) (by omega) kk
set_option maxHeartbeats 1000000 in
theorem l_Md_testS (w : mm_inj mdom K) {a1 : Int32} : ∀ (n i : Nat) (t : mS), m_ok nd nn t → i + n = nn → mm_V G M_Md_test 124 [(0, .ref (K 0)), (1, .int a1), (2, .int (nI nn))] [] (MP K (up (fun n t => m_s t 18 n 0) n i t) h) 0 0 Q → mm_V G M_Md_test 103 [(0, .ref (K 0)), (1, .int a1), (2, .int (nI i))] [] (MP K t h) 0 0 Q := by
  intro n
  induction n with
  | zero =>
    intro i t ok hi kk
    have h8 := ok.2.1
    refine mm_blk (pc' := 105) ok_Md_test 2 _ _ _ rfl ?_
    refine mm_getf ok_Md_test (mp_0 w) rfl f_Md_89 rfl ?_
    rw [ok.2.2.2.1]
    refine mm_ic_ge ok_Md_test 124 rfl (by decide) (fun c => ?_) (fun c => ?_)
    rotate_left
    · exact absurd (nI_le (by omega) (by omega)) c
    rw [show i = nn by omega]
    exact kk
  | succ n ih =>
    intro i t ok hi kk
    have h8 := ok.2.1
    refine mm_blk (pc' := 105) ok_Md_test 2 _ _ _ rfl ?_
    refine mm_getf ok_Md_test (mp_0 w) rfl f_Md_89 rfl ?_
    rw [ok.2.2.2.1]
    refine mm_ic_ge ok_Md_test 124 rfl (by decide) (fun c => ?_) (fun c => ?_)
    · exact absurd c (nI_ge (by omega) (by omega))
    refine mm_blk (pc' := 112) ok_Md_test 1 _ _ _ rfl ?_
    refine mm_getf ok_Md_test (mp_0 w) rfl f_Md_56 rfl ?_
    refine mm_blk (pc' := 117) ok_Md_test 2 _ _ _ rfl ?_
    refine mm_iast (j := i) ok_Md_test (mp_18 w) rfl rfl (by omega) (by rw [List.length_map, List.length_range]; exact (by omega)) ?_
    refine mm_V_heap (mu_18 w (by omega) _) ?_
    refine mm_blk (pc' := 103) ok_Md_test 2 _ _ _ rfl ?_
    rw [nI_1]
    exact ih (i + 1) _ (ok_18 ok i 0) (by omega) kk
set_option maxHeartbeats 1000000 in
theorem l_Md_testR (w : mm_inj mdom K) {a1 : Int32} : ∀ (n r : Nat) (t : mS), m_good nd nn t → r + n = 4 → (∀ r', mm_V G M_Md_test 156 [(0, .ref (K 0)), (1, .int a1), (2, .int (nI r'))] [] (MP K (m_tl nd nn n r t) h) 0 0 Q) → mm_V G M_Md_test 126 [(0, .ref (K 0)), (1, .int a1), (2, .int (nI r))] [] (MP K t h) 0 0 Q := by
  intro n
  induction n with
  | zero =>
    intro r t g hi kk
    have h8 := g.1.2.1
    have hp9 : ∀ r, r < 5 → (1 : Int32) <<< (nI r &&& 31) = nI (2 ^ r) := by decide
    have hpow := hp9 r (by omega)
    have hp2 : 2 ^ r ≤ 16 := Nat.le_trans (Nat.pow_le_pow_right (by decide) (show r ≤ 4 by omega)) (by decide)
    have hr4 : r = 4 := by omega
    subst hr4
    refine mm_blk (pc' := 130) ok_Md_test 4 _ _ _ rfl ?_
    refine mm_getf ok_Md_test (mp_0 w) rfl f_Md_89 rfl ?_
    refine mm_blk (pc' := 135) ok_Md_test 2 _ _ _ rfl ?_
    rw [hpow, g.1.2.2.2.1, nI_1]
    refine mm_ic_gt ok_Md_test 156 rfl (by decide) (fun c => ?_) (fun c => ?_)
    rotate_left
    · exact absurd (nI_lt (by show nn + 1 < 2 ^ 4; omega) (by omega)) c
    exact kk 4
  | succ n ih =>
    intro r t g hi kk
    have h8 := g.1.2.1
    have hp9 : ∀ r, r < 5 → (1 : Int32) <<< (nI r &&& 31) = nI (2 ^ r) := by decide
    have hpow := hp9 r (by omega)
    have hp2 : 2 ^ r ≤ 16 := Nat.le_trans (Nat.pow_le_pow_right (by decide) (show r ≤ 4 by omega)) (by decide)
    refine mm_blk (pc' := 130) ok_Md_test 4 _ _ _ rfl ?_
    refine mm_getf ok_Md_test (mp_0 w) rfl f_Md_89 rfl ?_
    refine mm_blk (pc' := 135) ok_Md_test 2 _ _ _ rfl ?_
    rw [hpow, g.1.2.2.2.1, nI_1]
    refine mm_ic_gt ok_Md_test 156 rfl (by decide) (fun c135 => ?_) (fun c135 => ?_)
    · -- 156 t
      have e9 : m_tl nd nn (n + 1) r t = t := if_neg (fun z => absurd c135 (nI_nlt z (by omega)))
      rw [e9] at kk
      exact kk r
    · -- 138 f
      refine mm_blk (pc' := 141) ok_Md_test 3 _ _ _ rfl ?_
      refine mm_cVE ok_Md_test (As := [.int (nI r), .int 0]) rfl k_Md_test_143 (mp_0 w) rfl rfl rfl (Nat.le_of_ble_eq_true rfl) (c_Md_round w g (nI r) 0) ?_
      refine mm_blk (pc' := 147) ok_Md_test 3 _ _ _ rfl ?_
      refine mm_cVE ok_Md_test (As := [.int (nI r), .int 1]) rfl k_Md_test_143 (mp_0 w) rfl rfl rfl (Nat.le_of_ble_eq_true rfl) (c_Md_round w (rnd_good (nI r) 0 g) (nI r) 1) ?_
      refine mm_blk (pc' := 126) ok_Md_test 2 _ _ _ rfl ?_
      rw [nI_1]
      have hle : 2 ^ r ≤ nn + 1 := by
        by_cases z : 2 ^ r ≤ nn + 1
        · exact z
        · exact absurd (nI_lt (by omega) (by omega)) c135
      have e9 : m_tl nd nn (n + 1) r t = m_tl nd nn n (r + 1) (m_rnd nd (nI r) 1 (m_rnd nd (nI r) 0 t)) := if_pos hle
      rw [e9] at kk
      exact ih (r + 1) _ (rnd_good _ _ (rnd_good _ _ g)) (by omega) kk
set_option maxHeartbeats 1000000 in
theorem l_Md_testF (w : mm_inj mdom K) (ok : m_ok nd nn t) {a1 a2 : Int32} : ∀ (n i : Nat) (x : Int32), i + n = nn → mm_V G M_Md_test 166 [(0, .ref (K 0)), (1, .int a1), (2, .int a2), (3, .int x), (4, .int (nI i))] [] (MP K t h) 0 0 (mm_E (some (.int (up (fun n a => if t 18 n = nI n + 1 then a else a + 1) n i x))) (MP K t h)) := by
  have h8 := ok.2.1
  intro n
  induction n with
  | zero =>
    intro i x hi
    refine mm_blk (pc' := 169) ok_Md_test 2 _ _ _ rfl ?_
    refine mm_getf ok_Md_test (mp_0 w) rfl f_Md_89 rfl ?_
    rw [ok.2.2.2.1]
    refine mm_ic_ge ok_Md_test 203 rfl (by decide) (fun c => ?_) (fun c => ?_)
    rotate_left
    · exact absurd (nI_le (by omega) (by omega)) c
    refine mm_blk (pc' := 204) ok_Md_test 1 _ _ _ rfl ?_
    exact mm_iret ok_Md_test rfl rfl ⟨rfl, rfl⟩
  | succ n ih =>
    intro i x hi
    refine mm_blk (pc' := 169) ok_Md_test 2 _ _ _ rfl ?_
    refine mm_getf ok_Md_test (mp_0 w) rfl f_Md_89 rfl ?_
    rw [ok.2.2.2.1]
    refine mm_ic_ge ok_Md_test 203 rfl (by decide) (fun c => ?_) (fun c => ?_)
    · exact absurd c (nI_ge (by omega) (by omega))
    refine mm_blk (pc' := 176) ok_Md_test 1 _ _ _ rfl ?_
    refine mm_getf ok_Md_test (mp_0 w) rfl f_Md_56 rfl ?_
    refine mm_blk (pc' := 181) ok_Md_test 1 _ _ _ rfl ?_
    refine mm_iald (j := i) ok_Md_test (mp_18 w) rfl rfl (by omega) (oIs_get (by omega) _) ?_
    refine mm_blk (pc' := 186) ok_Md_test 3 _ _ _ rfl ?_
    refine mm_ic_ne ok_Md_test 193 rfl (by decide) (fun c186 => ?_) (fun c186 => ?_)
    · -- 193 t
      refine mm_blk (pc' := 166) ok_Md_test 6 _ _ _ rfl ?_
      rw [nI_1]
      unfold up
      first | rw [if_pos c186] | rw [if_neg c186]
      exact ih (i + 1) _ (by omega)
    · -- 189 f
      refine mm_blk (pc' := 166) ok_Md_test 5 _ _ _ rfl ?_
      rw [nI_1]
      unfold up
      first | rw [if_pos c186] | rw [if_neg c186]
      exact ih (i + 1) _ (by omega)
set_option maxHeartbeats 4000000 in
theorem c_Md_test_r (w : mm_inj mdom K) (g : m_good nd nn t) (hd : 0 < nd) (hn : 0 < nn) {all : Nat} (ha : all < 1000) (hall : up (fun d a => a + t 2 d) nd 0 0 = nI all) : mm_C G M_Md_test [.ref (K 0)] (MP K t h) 0 0 (mm_E (some (.int (m_cnt nn (m_tst nd nn all t)))) (MP K (m_tst nd nn all t) h)) := by
  have h4 := g.1.1
  have h8 := g.1.2.1
  have e1 : ¬ t 0 1 = 0 := by rw [g.1.2.2.1]; exact nI_ne0 hd (by omega)
  have e2 : ¬ t 0 14 = 0 := by rw [g.1.2.2.2.1]; exact nI_ne0 hn (by omega)
  have g0 := good_s0 g 0
  unfold m_tst
  obtain ⟨t1, ht1⟩ : ∃ t1, t1 = m_go6 nd (m_s t 0 0 0) := ⟨_, rfl⟩
  have g1 : m_good nd nn t1 := by rw [ht1]; exact go6_good g0
  have hs1 : t1 2 = t 2 := by
    rw [ht1]
    unfold m_go6
    repeat rw [show ∀ b x t', m_tk nd b x t' 2 = t' 2 from fun b x t' => (same_tick nd b x t').1 2 (by decide)]
    rfl
  have hall1 : up (fun d a => a + t1 2 d) nd 0 0 = nI all := by rw [hs1]; exact hall
  obtain ⟨t2, ht2⟩ : ∃ t2, t2 = m_com nd (m_tk nd 1 0 t1) := ⟨_, rfl⟩
  have g2 : m_good nd nn t2 := by rw [ht2]; exact com_good (tk_good g1 _ _)
  obtain ⟨t3, ht3⟩ : ∃ t3, t3 = m_ex nd all t2 := ⟨_, rfl⟩
  have upg : ∀ (n i : Nat) (t : mS), m_good nd nn t → m_good nd nn (up (fun b t => m_tk nd (if b + 1 = all then 1 else 0) 0 t) n i t) := by
    intro n
    induction n with
    | zero => intro i t g; exact g
    | succ n ih => intro i t g; exact ih _ _ (tk_good g _ _)
  have g3 : m_good nd nn t3 := by rw [ht3]; exact upg _ _ _ g2
  obtain ⟨t4, ht4⟩ : ∃ t4, t4 = m_lv nd t3 := ⟨_, rfl⟩
  have g4 : m_good nd nn t4 := by rw [ht4]; exact lv_good g3
  obtain ⟨t5, ht5⟩ : ∃ t5, t5 = m_fg nn t4 := ⟨_, rfl⟩
  have fgg : ∀ (n i : Nat) (t : mS), m_good nd nn t → m_good nd nn (up (fun n t => m_s t 18 n 0) n i t) := by
    intro n
    induction n with
    | zero => intro i t g; exact g
    | succ n ih => intro i t g; exact ih _ _ ⟨ok_18 g.1 i 0, g.2⟩
  have g5 : m_good nd nn t5 := by rw [ht5]; exact fgg _ _ _ g4
  have tlg : ∀ (n r : Nat) (t : mS), m_good nd nn t → m_good nd nn (m_tl nd nn n r t) := by
    intro n
    induction n with
    | zero => intro i t g; exact g
    | succ n ih =>
      intro r t g
      unfold m_tl
      split
      · exact ih _ _ (rnd_good _ _ (rnd_good _ _ g))
      · exact g
  obtain ⟨t6, ht6⟩ : ∃ t6, t6 = m_tl nd nn 4 0 t5 := ⟨_, rfl⟩
  have g6 : m_good nd nn t6 := by rw [ht6]; exact tlg _ _ _ g5
  rw [← ht1, ← ht2, ← ht3, ← ht4, ← ht5, ← ht6]
  refine mm_C_of (by decide +kernel) rfl (Nat.le_of_ble_eq_true rfl) rfl ?_
  refine mm_blk (pc' := 2) ok_Md_test 2 _ _ _ rfl ?_
  refine mm_getf ok_Md_test (mp_0 w) rfl f_Md_66 rfl ?_
  refine mm_if_eq ok_Md_test 15 rfl (by decide) (fun c => ?_) (fun c => ?_)
  · exact absurd c e1
  refine mm_blk (pc' := 9) ok_Md_test 1 _ _ _ rfl ?_
  refine mm_getf ok_Md_test (mp_0 w) rfl f_Md_89 rfl ?_
  refine mm_if_ne ok_Md_test 19 rfl (by decide) (fun c => ?_) (fun c => ?_)
  rotate_left
  · exact absurd c e2
  refine mm_blk (pc' := 20) ok_Md_test 1 _ _ _ rfl ?_
  refine mm_putf ok_Md_test (mp_0 w) rfl f_Md_62 (Or.inl rfl) (mm_fit_I _) ?_
  refine mm_V_heap (mu_0 w 0 _) ?_
  refine mm_blk (pc' := 24) ok_Md_test 1 _ _ _ rfl ?_
  refine mm_getf ok_Md_test (mp_0 w) rfl f_Md_62 rfl ?_
  refine mm_if_le ok_Md_test 32 rfl (by decide) (fun c => ?_) (fun c => ?_)
  rotate_left
  · exact absurd (show (0 : Int32) ≤ 0 by decide) c
  refine mm_blk (pc' := 33) ok_Md_test 1 _ _ _ rfl ?_
  refine mm_cVE ok_Md_test (As := []) rfl k_Md_test_130 (mp_0 w) rfl rfl rfl (Nat.le_of_ble_eq_true rfl) (c_Md_goIdle w g0) ?_
  rw [← ht1]
  refine mm_blk (pc' := 40) ok_Md_test 4 _ _ _ rfl ?_
  refine l_Md_testW w g1.1 nd 0 0 (by omega) ?_
  rw [hall1]
  refine mm_blk (pc' := 65) ok_Md_test 2 _ _ _ rfl ?_
  refine mm_cVE ok_Md_test (As := [.int 1]) rfl k_Md_test_133 (mp_0 w) rfl rfl rfl (Nat.le_of_ble_eq_true rfl) (c_Md_comeTo1 w g1) ?_
  rw [← ht2]
  refine mm_blk (pc' := 70) ok_Md_test 2 _ _ _ rfl ?_
  refine l_Md_testB w ha all 0 t2 g2 (by omega) ?_
  rw [show up (fun b t => m_tk nd (if b + 1 = all then 1 else 0) 0 t) all 0 t2 = t3 by rw [ht3]; rfl]
  refine mm_blk (pc' := 98) ok_Md_test 1 _ _ _ rfl ?_
  refine mm_cVE ok_Md_test (As := []) rfl k_Md_test_137 (mp_0 w) rfl rfl rfl (Nat.le_of_ble_eq_true rfl) (c_Md_leave w g3) ?_
  rw [← ht4]
  refine mm_blk (pc' := 103) ok_Md_test 2 _ _ _ rfl ?_
  refine l_Md_testS w nn 0 t4 g4.1 (by omega) ?_
  rw [show up (fun n t => m_s t 18 n 0) nn 0 t4 = t5 by rw [ht5]; rfl]
  refine mm_blk (pc' := 126) ok_Md_test 2 _ _ _ rfl ?_
  refine l_Md_testR w 4 0 t5 g5 (by omega) (fun r' => ?_)
  rw [← ht6]
  refine mm_blk (pc' := 158) ok_Md_test 2 _ _ _ rfl ?_
  refine mm_putf ok_Md_test (mp_0 w) rfl f_Md_78 (Or.inl rfl) mm_fit_Z1 ?_
  refine mm_V_heap (mu_0 w 23 (1)) ?_
  refine mm_blk (pc' := 166) ok_Md_test 4 _ _ _ rfl ?_
  exact l_Md_testF w (ok_s0 g6.1 (by decide) (by decide) 1) nn 0 0 (by omega)
end MD7
/-- a heap with some addresses more -/
def alh : List (Nat × mm_Ob) → mm_Hp → mm_Hp
  | [], h => h
  | p :: l, h => fun b => if b = p.1 then some p.2 else alh l h b
theorem alh_no : ∀ {l : List (Nat × mm_Ob)} {h : mm_Hp} {b : Nat}, (∀ p ∈ l, b ≠ p.1) → alh l h b = h b
  | [], _, _, _ => rfl
  | p :: l, h, b, hb => by
    unfold alh
    rw [if_neg (hb p List.mem_cons_self)]
    exact alh_no (fun q hq => hb q (List.mem_cons_of_mem _ hq))
theorem alh_none : ∀ {l : List (Nat × mm_Ob)} {h : mm_Hp} {b : Nat}, alh l h b = none → (∀ p ∈ l, b ≠ p.1) ∧ h b = none
  | [], _, _, e => ⟨fun p hp => absurd hp (List.not_mem_nil), e⟩
  | p :: l, h, b, e => by
    unfold alh at e
    split at e
    · cases e
    · rename_i hne
      obtain ⟨h1, h2⟩ := alh_none e
      exact ⟨fun q hq => by rcases List.mem_cons.mp hq with rfl | hq; exact hne; exact h1 q hq, h2⟩
theorem alh_upd (p : Nat × mm_Ob) (l : List (Nat × mm_Ob)) (h : mm_Hp) (o : mm_Ob) : mm_up (alh (p :: l) h) p.1 o = alh ((p.1, o) :: l) h := by
  funext b
  unfold mm_up alh
  by_cases e : b = p.1
  · rw [if_pos e, if_pos e]
  · rw [if_neg e, if_neg e, if_neg e]
theorem alh_new : ∀ (l : List (Nat × mm_Ob)) (h : mm_Hp) {q : Nat} (o : mm_Ob), (∀ p ∈ l, q ≠ p.1) → mm_up (alh l h) q o = alh (l ++ [(q, o)]) h
  | [], h, q, o, _ => rfl
  | p :: l, h, q, o, hq => by
    funext b
    have ih := congrFun (alh_new l h o (fun r hr => hq r (List.mem_cons_of_mem _ hr))) b
    show mm_up (alh (p :: l) h) q o b = (if b = p.1 then some p.2 else alh (l ++ [(q, o)]) h b)
    rw [← ih]
    unfold mm_up
    by_cases e : b = q
    · rw [if_pos e, if_pos e, if_neg (by rw [e]; exact hq p List.mem_cons_self)]
    · rw [if_neg e, if_neg e]; rfl
theorem alh_at : ∀ {l : List (Nat × mm_Ob)} {h : mm_Hp} {p : Nat × mm_Ob}, (l.map Prod.fst).Nodup → p ∈ l → alh l h p.1 = some p.2
  | r :: l, h, p, hn, hp => by
    unfold alh
    rcases List.mem_cons.mp hp with rfl | hp
    · rw [if_pos rfl]
    · have hn' := List.nodup_cons.mp hn
      rw [if_neg (fun e => hn'.1 (List.mem_map.mpr ⟨p, hp, e⟩))]
      exact alh_at hn'.2 hp
theorem nodup_app {l : List (Nat × mm_Ob)} {q : Nat} {o : mm_Ob} (hn : (l.map Prod.fst).Nodup) (hq : ∀ p ∈ l, q ≠ p.1) : ((l ++ [(q, o)]).map Prod.fst).Nodup := by
  rw [List.map_append, List.nodup_append]
  refine ⟨hn, by simp, ?_⟩
  intro a ha b hb
  obtain ⟨p, hp, rfl⟩ := List.mem_map.mp ha
  simp at hb
  rw [hb]
  exact Ne.symm (hq p hp)
theorem kl_inj : ∀ {dom ks : List Nat}, dom.length = ks.length → ks.Nodup → mm_inj dom (fun n => ks.getD (dom.idxOf n) 0) := by
  intro dom ks hl hn m hm n hk e
  have h1 := List.idxOf_lt_length_iff.mpr hm
  have h2 := List.idxOf_lt_length_iff.mpr hk
  have e : ks.getD (dom.idxOf m) 0 = ks.getD (dom.idxOf n) 0 := e
  have i1 : dom.idxOf m < ks.length := by omega
  have i2 : dom.idxOf n < ks.length := by omega
  rw [List.getD_eq_getElem?_getD, List.getD_eq_getElem?_getD, List.getElem?_eq_getElem i1, List.getElem?_eq_getElem i2] at e
  have e : ks[dom.idxOf m] = ks[dom.idxOf n] := e
  have h3 := (List.getElem_inj hn).mp e
  rw [← List.getElem_idxOf h1, ← List.getElem_idxOf h2]
  exact getElem_congr_idx h3

section MDN
variable {G : mm_G} {h : mm_Hp}
def m_new : mS := fun _ _ => 0
theorem new_MP {a q2 q3 q4 q5 q6 q7 q8 q9 q10 q11 q12 q13 q15 q16 q17 q18 q22 : Nat} (hn : [a, q2, q3, q4, q5, q6, q7, q8, q9, q10, q11, q12, q13, q15, q16, q17, q18, q22].Nodup) : ∃ K, mm_inj mdom K ∧ K 0 = a ∧ (∀ n ∈ mdom, n ≠ 0 → K n ∈ [q2, q3, q4, q5, q6, q7, q8, q9, q10, q11, q12, q13, q15, q16, q17, q18, q22]) ∧ alh [(a, (4, [Value.int 0, Value.int 0, Value.ref q2, Value.ref q3, Value.ref q4, Value.ref q5, Value.ref q6, Value.ref q7, Value.ref q8, Value.ref q9, Value.ref q10, Value.ref q11, Value.ref q12, Value.ref q13, Value.int 0, Value.ref q15, Value.ref q16, Value.ref q17, Value.ref q18, Value.int 0, Value.int 0, Value.int 0, Value.ref q22, Value.int 0])), (q2, (10, List.replicate 4 (Value.int 0))), (q3, (10, List.replicate 4 (Value.int 0))), (q4, (10, List.replicate 4 (Value.int 0))), (q5, (10, List.replicate 4 (Value.int 0))), (q6, (10, List.replicate 16 (Value.int 0))), (q7, (10, List.replicate 24 (Value.int 0))), (q8, (10, List.replicate 128 (Value.int 0))), (q9, (10, List.replicate 4 (Value.int 0))), (q10, (11, List.replicate 24 (Value.int 0))), (q11, (10, List.replicate 24 (Value.int 0))), (q12, (10, List.replicate 24 (Value.int 0))), (q13, (10, List.replicate 24 (Value.int 0))), (q15, (10, List.replicate 8 (Value.int 0))), (q16, (10, List.replicate 8 (Value.int 0))), (q17, (10, List.replicate 8 (Value.int 0))), (q18, (10, List.replicate 8 (Value.int 0))), (q22, (10, List.replicate 4 (Value.int 0)))] h = MP K m_new h := by
  refine ⟨fun n => [a, q2, q3, q4, q5, q6, q7, q8, q9, q10, q11, q12, q13, q15, q16, q17, q18, q22].getD (mdom.idxOf n) 0, kl_inj rfl hn, rfl, ?_, ?_⟩
  · intro n hm h0
    simp only [mdom, List.mem_cons, List.not_mem_nil, or_false] at hm
    rcases hm with rfl | rfl | rfl | rfl | rfl | rfl | rfl | rfl | rfl | rfl | rfl | rfl | rfl | rfl | rfl | rfl | rfl | rfl
    · exact absurd rfl h0
    · show q2 ∈ _; simp
    · show q3 ∈ _; simp
    · show q4 ∈ _; simp
    · show q5 ∈ _; simp
    · show q6 ∈ _; simp
    · show q7 ∈ _; simp
    · show q8 ∈ _; simp
    · show q9 ∈ _; simp
    · show q10 ∈ _; simp
    · show q11 ∈ _; simp
    · show q12 ∈ _; simp
    · show q13 ∈ _; simp
    · show q15 ∈ _; simp
    · show q16 ∈ _; simp
    · show q17 ∈ _; simp
    · show q18 ∈ _; simp
    · show q22 ∈ _; simp
  · refine pl_ext (kl_inj rfl hn) (fun n hm => ?_) (fun b hb => ?_)
    · simp only [mdom, List.mem_cons, List.not_mem_nil, or_false] at hm
      have hN : ([(a, (4, [Value.int 0, Value.int 0, Value.ref q2, Value.ref q3, Value.ref q4, Value.ref q5, Value.ref q6, Value.ref q7, Value.ref q8, Value.ref q9, Value.ref q10, Value.ref q11, Value.ref q12, Value.ref q13, Value.int 0, Value.ref q15, Value.ref q16, Value.ref q17, Value.ref q18, Value.int 0, Value.int 0, Value.int 0, Value.ref q22, Value.int 0])), (q2, (10, List.replicate 4 (Value.int 0))), (q3, (10, List.replicate 4 (Value.int 0))), (q4, (10, List.replicate 4 (Value.int 0))), (q5, (10, List.replicate 4 (Value.int 0))), (q6, (10, List.replicate 16 (Value.int 0))), (q7, (10, List.replicate 24 (Value.int 0))), (q8, (10, List.replicate 128 (Value.int 0))), (q9, (10, List.replicate 4 (Value.int 0))), (q10, (11, List.replicate 24 (Value.int 0))), (q11, (10, List.replicate 24 (Value.int 0))), (q12, (10, List.replicate 24 (Value.int 0))), (q13, (10, List.replicate 24 (Value.int 0))), (q15, (10, List.replicate 8 (Value.int 0))), (q16, (10, List.replicate 8 (Value.int 0))), (q17, (10, List.replicate 8 (Value.int 0))), (q18, (10, List.replicate 8 (Value.int 0))), (q22, (10, List.replicate 4 (Value.int 0)))].map Prod.fst).Nodup := hn
      rcases hm with rfl | rfl | rfl | rfl | rfl | rfl | rfl | rfl | rfl | rfl | rfl | rfl | rfl | rfl | rfl | rfl | rfl | rfl
      · exact alh_at (p := (a, (4, [Value.int 0, Value.int 0, Value.ref q2, Value.ref q3, Value.ref q4, Value.ref q5, Value.ref q6, Value.ref q7, Value.ref q8, Value.ref q9, Value.ref q10, Value.ref q11, Value.ref q12, Value.ref q13, Value.int 0, Value.ref q15, Value.ref q16, Value.ref q17, Value.ref q18, Value.int 0, Value.int 0, Value.int 0, Value.ref q22, Value.int 0]))) hN (by simp)
      · exact alh_at (p := (q2, (10, List.replicate 4 (Value.int 0)))) hN (by simp)
      · exact alh_at (p := (q3, (10, List.replicate 4 (Value.int 0)))) hN (by simp)
      · exact alh_at (p := (q4, (10, List.replicate 4 (Value.int 0)))) hN (by simp)
      · exact alh_at (p := (q5, (10, List.replicate 4 (Value.int 0)))) hN (by simp)
      · exact alh_at (p := (q6, (10, List.replicate 16 (Value.int 0)))) hN (by simp)
      · exact alh_at (p := (q7, (10, List.replicate 24 (Value.int 0)))) hN (by simp)
      · exact alh_at (p := (q8, (10, List.replicate 128 (Value.int 0)))) hN (by simp)
      · exact alh_at (p := (q9, (10, List.replicate 4 (Value.int 0)))) hN (by simp)
      · exact alh_at (p := (q10, (11, List.replicate 24 (Value.int 0)))) hN (by simp)
      · exact alh_at (p := (q11, (10, List.replicate 24 (Value.int 0)))) hN (by simp)
      · exact alh_at (p := (q12, (10, List.replicate 24 (Value.int 0)))) hN (by simp)
      · exact alh_at (p := (q13, (10, List.replicate 24 (Value.int 0)))) hN (by simp)
      · exact alh_at (p := (q15, (10, List.replicate 8 (Value.int 0)))) hN (by simp)
      · exact alh_at (p := (q16, (10, List.replicate 8 (Value.int 0)))) hN (by simp)
      · exact alh_at (p := (q17, (10, List.replicate 8 (Value.int 0)))) hN (by simp)
      · exact alh_at (p := (q18, (10, List.replicate 8 (Value.int 0)))) hN (by simp)
      · exact alh_at (p := (q22, (10, List.replicate 4 (Value.int 0)))) hN (by simp)
    · refine alh_no (fun p hp => ?_)
      simp only [List.mem_cons, List.not_mem_nil, or_false] at hp
      rcases hp with rfl | rfl | rfl | rfl | rfl | rfl | rfl | rfl | rfl | rfl | rfl | rfl | rfl | rfl | rfl | rfl | rfl | rfl
      · exact Ne.symm (hb 0 (by decide))
      · exact Ne.symm (hb 2 (by decide))
      · exact Ne.symm (hb 3 (by decide))
      · exact Ne.symm (hb 4 (by decide))
      · exact Ne.symm (hb 5 (by decide))
      · exact Ne.symm (hb 6 (by decide))
      · exact Ne.symm (hb 7 (by decide))
      · exact Ne.symm (hb 8 (by decide))
      · exact Ne.symm (hb 9 (by decide))
      · exact Ne.symm (hb 10 (by decide))
      · exact Ne.symm (hb 11 (by decide))
      · exact Ne.symm (hb 12 (by decide))
      · exact Ne.symm (hb 13 (by decide))
      · exact Ne.symm (hb 15 (by decide))
      · exact Ne.symm (hb 16 (by decide))
      · exact Ne.symm (hb 17 (by decide))
      · exact Ne.symm (hb 18 (by decide))
      · exact Ne.symm (hb 22 (by decide))
set_option maxHeartbeats 4000000 in
theorem c_Md_init {a : Nat} (ha : h a = some (4, mm_df 4)) : mm_C G M_Md_init [.ref a] h 17 320 (fun o h' => ∃ K, mm_inj mdom K ∧ K 0 = a ∧ (∀ n ∈ mdom, n ≠ 0 → h (K n) = none) ∧ o = .inl none ∧ h' = MP K m_new h) := by
  have e0 : h = alh [(a, (4, [Value.int 0, Value.int 0, Value.null, Value.null, Value.null, Value.null, Value.null, Value.null, Value.null, Value.null, Value.null, Value.null, Value.null, Value.null, Value.int 0, Value.null, Value.null, Value.null, Value.null, Value.int 0, Value.int 0, Value.int 0, Value.null, Value.int 0]))] h := by
    funext b
    show h b = if b = a then _ else h b
    split
    · rename_i e; rw [e, ha]; rfl
    · rfl
  have hN : (List.map Prod.fst [(a, (4, [Value.int 0, Value.int 0, Value.null, Value.null, Value.null, Value.null, Value.null, Value.null, Value.null, Value.null, Value.null, Value.null, Value.null, Value.null, Value.int 0, Value.null, Value.null, Value.null, Value.null, Value.int 0, Value.int 0, Value.int 0, Value.null, Value.int 0]))]).Nodup := by simp
  refine mm_C_of (by decide +kernel) rfl (Nat.le_of_ble_eq_true rfl) rfl ?_
  refine mm_V_heap e0 ?_
  refine mm_blk (pc' := 1) ok_Md_init 1 _ _ _ rfl ?_
  refine mm_oinit ok_Md_init rfl oi_Md_1 (Nat.le_of_ble_eq_true rfl) (by decide) (by decide) ?_
  refine mm_blk (pc' := 6) ok_Md_init 2 _ _ _ rfl ?_
  refine mm_V_wid (k1 := 1 + 16) (k2 := 4 + 316) (by omega) (by omega) ?_
  refine mm_newI (kc := 16) (ks := 316) (N := 4) ok_Md_init ac_I rfl rfl (by decide) (fun q2 hq2 => ?_)
  obtain ⟨n2, z2⟩ := alh_none hq2
  rw [alh_new _ _ _ n2]
  have hN2 := nodup_app (o := (10, List.replicate 4 (Value.int 0))) hN n2
  have d2 : a ≠ q2 := Ne.symm (n2 (a, (4, [Value.int 0, Value.int 0, Value.null, Value.null, Value.null, Value.null, Value.null, Value.null, Value.null, Value.null, Value.null, Value.null, Value.null, Value.null, Value.int 0, Value.null, Value.null, Value.null, Value.null, Value.int 0, Value.int 0, Value.int 0, Value.null, Value.int 0])) List.mem_cons_self)
  refine mm_putf ok_Md_init (if_pos rfl) rfl f_Md_7 (Or.inr ⟨rfl, rfl, rfl⟩) (mm_fit_AI _) ?_
  refine mm_V_heap (alh_upd (a, (4, [Value.int 0, Value.int 0, Value.null, Value.null, Value.null, Value.null, Value.null, Value.null, Value.null, Value.null, Value.null, Value.null, Value.null, Value.null, Value.int 0, Value.null, Value.null, Value.null, Value.null, Value.int 0, Value.int 0, Value.int 0, Value.null, Value.int 0])) _ h _) ?_
  refine mm_V_heap (show _ = alh [(a, (4, [Value.int 0, Value.int 0, Value.ref q2, Value.null, Value.null, Value.null, Value.null, Value.null, Value.null, Value.null, Value.null, Value.null, Value.null, Value.null, Value.int 0, Value.null, Value.null, Value.null, Value.null, Value.int 0, Value.int 0, Value.int 0, Value.null, Value.int 0])), (q2, (10, List.replicate 4 (Value.int 0)))] h from rfl) ?_
  have hN2 : (List.map Prod.fst [(a, (4, [Value.int 0, Value.int 0, Value.ref q2, Value.null, Value.null, Value.null, Value.null, Value.null, Value.null, Value.null, Value.null, Value.null, Value.null, Value.null, Value.int 0, Value.null, Value.null, Value.null, Value.null, Value.int 0, Value.int 0, Value.int 0, Value.null, Value.int 0])), (q2, (10, List.replicate 4 (Value.int 0)))]).Nodup := hN2
  refine mm_blk (pc' := 13) ok_Md_init 2 _ _ _ rfl ?_
  refine mm_V_wid (k1 := 1 + 15) (k2 := 4 + 312) (by omega) (by omega) ?_
  refine mm_newI (kc := 15) (ks := 312) (N := 4) ok_Md_init ac_I rfl rfl (by decide) (fun q3 hq3 => ?_)
  obtain ⟨n3, z3⟩ := alh_none hq3
  rw [alh_new _ _ _ n3]
  have hN3 := nodup_app (o := (10, List.replicate 4 (Value.int 0))) hN2 n3
  have d3 : a ≠ q3 := Ne.symm (n3 (a, (4, [Value.int 0, Value.int 0, Value.ref q2, Value.null, Value.null, Value.null, Value.null, Value.null, Value.null, Value.null, Value.null, Value.null, Value.null, Value.null, Value.int 0, Value.null, Value.null, Value.null, Value.null, Value.int 0, Value.int 0, Value.int 0, Value.null, Value.int 0])) List.mem_cons_self)
  refine mm_putf ok_Md_init (if_pos rfl) rfl f_Md_13 (Or.inr ⟨rfl, rfl, rfl⟩) (mm_fit_AI _) ?_
  refine mm_V_heap (alh_upd (a, (4, [Value.int 0, Value.int 0, Value.ref q2, Value.null, Value.null, Value.null, Value.null, Value.null, Value.null, Value.null, Value.null, Value.null, Value.null, Value.null, Value.int 0, Value.null, Value.null, Value.null, Value.null, Value.int 0, Value.int 0, Value.int 0, Value.null, Value.int 0])) _ h _) ?_
  refine mm_V_heap (show _ = alh [(a, (4, [Value.int 0, Value.int 0, Value.ref q2, Value.ref q3, Value.null, Value.null, Value.null, Value.null, Value.null, Value.null, Value.null, Value.null, Value.null, Value.null, Value.int 0, Value.null, Value.null, Value.null, Value.null, Value.int 0, Value.int 0, Value.int 0, Value.null, Value.int 0])), (q2, (10, List.replicate 4 (Value.int 0))), (q3, (10, List.replicate 4 (Value.int 0)))] h from rfl) ?_
  have hN3 : (List.map Prod.fst [(a, (4, [Value.int 0, Value.int 0, Value.ref q2, Value.ref q3, Value.null, Value.null, Value.null, Value.null, Value.null, Value.null, Value.null, Value.null, Value.null, Value.null, Value.int 0, Value.null, Value.null, Value.null, Value.null, Value.int 0, Value.int 0, Value.int 0, Value.null, Value.int 0])), (q2, (10, List.replicate 4 (Value.int 0))), (q3, (10, List.replicate 4 (Value.int 0)))]).Nodup := hN3
  refine mm_blk (pc' := 20) ok_Md_init 2 _ _ _ rfl ?_
  refine mm_V_wid (k1 := 1 + 14) (k2 := 4 + 308) (by omega) (by omega) ?_
  refine mm_newI (kc := 14) (ks := 308) (N := 4) ok_Md_init ac_I rfl rfl (by decide) (fun q4 hq4 => ?_)
  obtain ⟨n4, z4⟩ := alh_none hq4
  rw [alh_new _ _ _ n4]
  have hN4 := nodup_app (o := (10, List.replicate 4 (Value.int 0))) hN3 n4
  have d4 : a ≠ q4 := Ne.symm (n4 (a, (4, [Value.int 0, Value.int 0, Value.ref q2, Value.ref q3, Value.null, Value.null, Value.null, Value.null, Value.null, Value.null, Value.null, Value.null, Value.null, Value.null, Value.int 0, Value.null, Value.null, Value.null, Value.null, Value.int 0, Value.int 0, Value.int 0, Value.null, Value.int 0])) List.mem_cons_self)
  refine mm_putf ok_Md_init (if_pos rfl) rfl f_Md_16 (Or.inr ⟨rfl, rfl, rfl⟩) (mm_fit_AI _) ?_
  refine mm_V_heap (alh_upd (a, (4, [Value.int 0, Value.int 0, Value.ref q2, Value.ref q3, Value.null, Value.null, Value.null, Value.null, Value.null, Value.null, Value.null, Value.null, Value.null, Value.null, Value.int 0, Value.null, Value.null, Value.null, Value.null, Value.int 0, Value.int 0, Value.int 0, Value.null, Value.int 0])) _ h _) ?_
  refine mm_V_heap (show _ = alh [(a, (4, [Value.int 0, Value.int 0, Value.ref q2, Value.ref q3, Value.ref q4, Value.null, Value.null, Value.null, Value.null, Value.null, Value.null, Value.null, Value.null, Value.null, Value.int 0, Value.null, Value.null, Value.null, Value.null, Value.int 0, Value.int 0, Value.int 0, Value.null, Value.int 0])), (q2, (10, List.replicate 4 (Value.int 0))), (q3, (10, List.replicate 4 (Value.int 0))), (q4, (10, List.replicate 4 (Value.int 0)))] h from rfl) ?_
  have hN4 : (List.map Prod.fst [(a, (4, [Value.int 0, Value.int 0, Value.ref q2, Value.ref q3, Value.ref q4, Value.null, Value.null, Value.null, Value.null, Value.null, Value.null, Value.null, Value.null, Value.null, Value.int 0, Value.null, Value.null, Value.null, Value.null, Value.int 0, Value.int 0, Value.int 0, Value.null, Value.int 0])), (q2, (10, List.replicate 4 (Value.int 0))), (q3, (10, List.replicate 4 (Value.int 0))), (q4, (10, List.replicate 4 (Value.int 0)))]).Nodup := hN4
  refine mm_blk (pc' := 27) ok_Md_init 2 _ _ _ rfl ?_
  refine mm_V_wid (k1 := 1 + 13) (k2 := 4 + 304) (by omega) (by omega) ?_
  refine mm_newI (kc := 13) (ks := 304) (N := 4) ok_Md_init ac_I rfl rfl (by decide) (fun q5 hq5 => ?_)
  obtain ⟨n5, z5⟩ := alh_none hq5
  rw [alh_new _ _ _ n5]
  have hN5 := nodup_app (o := (10, List.replicate 4 (Value.int 0))) hN4 n5
  have d5 : a ≠ q5 := Ne.symm (n5 (a, (4, [Value.int 0, Value.int 0, Value.ref q2, Value.ref q3, Value.ref q4, Value.null, Value.null, Value.null, Value.null, Value.null, Value.null, Value.null, Value.null, Value.null, Value.int 0, Value.null, Value.null, Value.null, Value.null, Value.int 0, Value.int 0, Value.int 0, Value.null, Value.int 0])) List.mem_cons_self)
  refine mm_putf ok_Md_init (if_pos rfl) rfl f_Md_19 (Or.inr ⟨rfl, rfl, rfl⟩) (mm_fit_AI _) ?_
  refine mm_V_heap (alh_upd (a, (4, [Value.int 0, Value.int 0, Value.ref q2, Value.ref q3, Value.ref q4, Value.null, Value.null, Value.null, Value.null, Value.null, Value.null, Value.null, Value.null, Value.null, Value.int 0, Value.null, Value.null, Value.null, Value.null, Value.int 0, Value.int 0, Value.int 0, Value.null, Value.int 0])) _ h _) ?_
  refine mm_V_heap (show _ = alh [(a, (4, [Value.int 0, Value.int 0, Value.ref q2, Value.ref q3, Value.ref q4, Value.ref q5, Value.null, Value.null, Value.null, Value.null, Value.null, Value.null, Value.null, Value.null, Value.int 0, Value.null, Value.null, Value.null, Value.null, Value.int 0, Value.int 0, Value.int 0, Value.null, Value.int 0])), (q2, (10, List.replicate 4 (Value.int 0))), (q3, (10, List.replicate 4 (Value.int 0))), (q4, (10, List.replicate 4 (Value.int 0))), (q5, (10, List.replicate 4 (Value.int 0)))] h from rfl) ?_
  have hN5 : (List.map Prod.fst [(a, (4, [Value.int 0, Value.int 0, Value.ref q2, Value.ref q3, Value.ref q4, Value.ref q5, Value.null, Value.null, Value.null, Value.null, Value.null, Value.null, Value.null, Value.null, Value.int 0, Value.null, Value.null, Value.null, Value.null, Value.int 0, Value.int 0, Value.int 0, Value.null, Value.int 0])), (q2, (10, List.replicate 4 (Value.int 0))), (q3, (10, List.replicate 4 (Value.int 0))), (q4, (10, List.replicate 4 (Value.int 0))), (q5, (10, List.replicate 4 (Value.int 0)))]).Nodup := hN5
  refine mm_blk (pc' := 35) ok_Md_init 2 _ _ _ rfl ?_
  refine mm_V_wid (k1 := 1 + 12) (k2 := 16 + 288) (by omega) (by omega) ?_
  refine mm_newI (kc := 12) (ks := 288) (N := 16) ok_Md_init ac_I rfl rfl (by decide) (fun q6 hq6 => ?_)
  obtain ⟨n6, z6⟩ := alh_none hq6
  rw [alh_new _ _ _ n6]
  have hN6 := nodup_app (o := (10, List.replicate 16 (Value.int 0))) hN5 n6
  have d6 : a ≠ q6 := Ne.symm (n6 (a, (4, [Value.int 0, Value.int 0, Value.ref q2, Value.ref q3, Value.ref q4, Value.ref q5, Value.null, Value.null, Value.null, Value.null, Value.null, Value.null, Value.null, Value.null, Value.int 0, Value.null, Value.null, Value.null, Value.null, Value.int 0, Value.int 0, Value.int 0, Value.null, Value.int 0])) List.mem_cons_self)
  refine mm_putf ok_Md_init (if_pos rfl) rfl f_Md_22 (Or.inr ⟨rfl, rfl, rfl⟩) (mm_fit_AI _) ?_
  refine mm_V_heap (alh_upd (a, (4, [Value.int 0, Value.int 0, Value.ref q2, Value.ref q3, Value.ref q4, Value.ref q5, Value.null, Value.null, Value.null, Value.null, Value.null, Value.null, Value.null, Value.null, Value.int 0, Value.null, Value.null, Value.null, Value.null, Value.int 0, Value.int 0, Value.int 0, Value.null, Value.int 0])) _ h _) ?_
  refine mm_V_heap (show _ = alh [(a, (4, [Value.int 0, Value.int 0, Value.ref q2, Value.ref q3, Value.ref q4, Value.ref q5, Value.ref q6, Value.null, Value.null, Value.null, Value.null, Value.null, Value.null, Value.null, Value.int 0, Value.null, Value.null, Value.null, Value.null, Value.int 0, Value.int 0, Value.int 0, Value.null, Value.int 0])), (q2, (10, List.replicate 4 (Value.int 0))), (q3, (10, List.replicate 4 (Value.int 0))), (q4, (10, List.replicate 4 (Value.int 0))), (q5, (10, List.replicate 4 (Value.int 0))), (q6, (10, List.replicate 16 (Value.int 0)))] h from rfl) ?_
  have hN6 : (List.map Prod.fst [(a, (4, [Value.int 0, Value.int 0, Value.ref q2, Value.ref q3, Value.ref q4, Value.ref q5, Value.ref q6, Value.null, Value.null, Value.null, Value.null, Value.null, Value.null, Value.null, Value.int 0, Value.null, Value.null, Value.null, Value.null, Value.int 0, Value.int 0, Value.int 0, Value.null, Value.int 0])), (q2, (10, List.replicate 4 (Value.int 0))), (q3, (10, List.replicate 4 (Value.int 0))), (q4, (10, List.replicate 4 (Value.int 0))), (q5, (10, List.replicate 4 (Value.int 0))), (q6, (10, List.replicate 16 (Value.int 0)))]).Nodup := hN6
  refine mm_blk (pc' := 43) ok_Md_init 2 _ _ _ rfl ?_
  refine mm_V_wid (k1 := 1 + 11) (k2 := 24 + 264) (by omega) (by omega) ?_
  refine mm_newI (kc := 11) (ks := 264) (N := 24) ok_Md_init ac_I rfl rfl (by decide) (fun q7 hq7 => ?_)
  obtain ⟨n7, z7⟩ := alh_none hq7
  rw [alh_new _ _ _ n7]
  have hN7 := nodup_app (o := (10, List.replicate 24 (Value.int 0))) hN6 n7
  have d7 : a ≠ q7 := Ne.symm (n7 (a, (4, [Value.int 0, Value.int 0, Value.ref q2, Value.ref q3, Value.ref q4, Value.ref q5, Value.ref q6, Value.null, Value.null, Value.null, Value.null, Value.null, Value.null, Value.null, Value.int 0, Value.null, Value.null, Value.null, Value.null, Value.int 0, Value.int 0, Value.int 0, Value.null, Value.int 0])) List.mem_cons_self)
  refine mm_putf ok_Md_init (if_pos rfl) rfl f_Md_25 (Or.inr ⟨rfl, rfl, rfl⟩) (mm_fit_AI _) ?_
  refine mm_V_heap (alh_upd (a, (4, [Value.int 0, Value.int 0, Value.ref q2, Value.ref q3, Value.ref q4, Value.ref q5, Value.ref q6, Value.null, Value.null, Value.null, Value.null, Value.null, Value.null, Value.null, Value.int 0, Value.null, Value.null, Value.null, Value.null, Value.int 0, Value.int 0, Value.int 0, Value.null, Value.int 0])) _ h _) ?_
  refine mm_V_heap (show _ = alh [(a, (4, [Value.int 0, Value.int 0, Value.ref q2, Value.ref q3, Value.ref q4, Value.ref q5, Value.ref q6, Value.ref q7, Value.null, Value.null, Value.null, Value.null, Value.null, Value.null, Value.int 0, Value.null, Value.null, Value.null, Value.null, Value.int 0, Value.int 0, Value.int 0, Value.null, Value.int 0])), (q2, (10, List.replicate 4 (Value.int 0))), (q3, (10, List.replicate 4 (Value.int 0))), (q4, (10, List.replicate 4 (Value.int 0))), (q5, (10, List.replicate 4 (Value.int 0))), (q6, (10, List.replicate 16 (Value.int 0))), (q7, (10, List.replicate 24 (Value.int 0)))] h from rfl) ?_
  have hN7 : (List.map Prod.fst [(a, (4, [Value.int 0, Value.int 0, Value.ref q2, Value.ref q3, Value.ref q4, Value.ref q5, Value.ref q6, Value.ref q7, Value.null, Value.null, Value.null, Value.null, Value.null, Value.null, Value.int 0, Value.null, Value.null, Value.null, Value.null, Value.int 0, Value.int 0, Value.int 0, Value.null, Value.int 0])), (q2, (10, List.replicate 4 (Value.int 0))), (q3, (10, List.replicate 4 (Value.int 0))), (q4, (10, List.replicate 4 (Value.int 0))), (q5, (10, List.replicate 4 (Value.int 0))), (q6, (10, List.replicate 16 (Value.int 0))), (q7, (10, List.replicate 24 (Value.int 0)))]).Nodup := hN7
  refine mm_blk (pc' := 52) ok_Md_init 2 _ _ _ rfl ?_
  refine mm_V_wid (k1 := 1 + 10) (k2 := 128 + 136) (by omega) (by omega) ?_
  refine mm_newI (kc := 10) (ks := 136) (N := 128) ok_Md_init ac_I rfl rfl (by decide) (fun q8 hq8 => ?_)
  obtain ⟨n8, z8⟩ := alh_none hq8
  rw [alh_new _ _ _ n8]
  have hN8 := nodup_app (o := (10, List.replicate 128 (Value.int 0))) hN7 n8
  have d8 : a ≠ q8 := Ne.symm (n8 (a, (4, [Value.int 0, Value.int 0, Value.ref q2, Value.ref q3, Value.ref q4, Value.ref q5, Value.ref q6, Value.ref q7, Value.null, Value.null, Value.null, Value.null, Value.null, Value.null, Value.int 0, Value.null, Value.null, Value.null, Value.null, Value.int 0, Value.int 0, Value.int 0, Value.null, Value.int 0])) List.mem_cons_self)
  refine mm_putf ok_Md_init (if_pos rfl) rfl f_Md_28 (Or.inr ⟨rfl, rfl, rfl⟩) (mm_fit_AI _) ?_
  refine mm_V_heap (alh_upd (a, (4, [Value.int 0, Value.int 0, Value.ref q2, Value.ref q3, Value.ref q4, Value.ref q5, Value.ref q6, Value.ref q7, Value.null, Value.null, Value.null, Value.null, Value.null, Value.null, Value.int 0, Value.null, Value.null, Value.null, Value.null, Value.int 0, Value.int 0, Value.int 0, Value.null, Value.int 0])) _ h _) ?_
  refine mm_V_heap (show _ = alh [(a, (4, [Value.int 0, Value.int 0, Value.ref q2, Value.ref q3, Value.ref q4, Value.ref q5, Value.ref q6, Value.ref q7, Value.ref q8, Value.null, Value.null, Value.null, Value.null, Value.null, Value.int 0, Value.null, Value.null, Value.null, Value.null, Value.int 0, Value.int 0, Value.int 0, Value.null, Value.int 0])), (q2, (10, List.replicate 4 (Value.int 0))), (q3, (10, List.replicate 4 (Value.int 0))), (q4, (10, List.replicate 4 (Value.int 0))), (q5, (10, List.replicate 4 (Value.int 0))), (q6, (10, List.replicate 16 (Value.int 0))), (q7, (10, List.replicate 24 (Value.int 0))), (q8, (10, List.replicate 128 (Value.int 0)))] h from rfl) ?_
  have hN8 : (List.map Prod.fst [(a, (4, [Value.int 0, Value.int 0, Value.ref q2, Value.ref q3, Value.ref q4, Value.ref q5, Value.ref q6, Value.ref q7, Value.ref q8, Value.null, Value.null, Value.null, Value.null, Value.null, Value.int 0, Value.null, Value.null, Value.null, Value.null, Value.int 0, Value.int 0, Value.int 0, Value.null, Value.int 0])), (q2, (10, List.replicate 4 (Value.int 0))), (q3, (10, List.replicate 4 (Value.int 0))), (q4, (10, List.replicate 4 (Value.int 0))), (q5, (10, List.replicate 4 (Value.int 0))), (q6, (10, List.replicate 16 (Value.int 0))), (q7, (10, List.replicate 24 (Value.int 0))), (q8, (10, List.replicate 128 (Value.int 0)))]).Nodup := hN8
  refine mm_blk (pc' := 59) ok_Md_init 2 _ _ _ rfl ?_
  refine mm_V_wid (k1 := 1 + 9) (k2 := 4 + 132) (by omega) (by omega) ?_
  refine mm_newI (kc := 9) (ks := 132) (N := 4) ok_Md_init ac_I rfl rfl (by decide) (fun q9 hq9 => ?_)
  obtain ⟨n9, z9⟩ := alh_none hq9
  rw [alh_new _ _ _ n9]
  have hN9 := nodup_app (o := (10, List.replicate 4 (Value.int 0))) hN8 n9
  have d9 : a ≠ q9 := Ne.symm (n9 (a, (4, [Value.int 0, Value.int 0, Value.ref q2, Value.ref q3, Value.ref q4, Value.ref q5, Value.ref q6, Value.ref q7, Value.ref q8, Value.null, Value.null, Value.null, Value.null, Value.null, Value.int 0, Value.null, Value.null, Value.null, Value.null, Value.int 0, Value.int 0, Value.int 0, Value.null, Value.int 0])) List.mem_cons_self)
  refine mm_putf ok_Md_init (if_pos rfl) rfl f_Md_31 (Or.inr ⟨rfl, rfl, rfl⟩) (mm_fit_AI _) ?_
  refine mm_V_heap (alh_upd (a, (4, [Value.int 0, Value.int 0, Value.ref q2, Value.ref q3, Value.ref q4, Value.ref q5, Value.ref q6, Value.ref q7, Value.ref q8, Value.null, Value.null, Value.null, Value.null, Value.null, Value.int 0, Value.null, Value.null, Value.null, Value.null, Value.int 0, Value.int 0, Value.int 0, Value.null, Value.int 0])) _ h _) ?_
  refine mm_V_heap (show _ = alh [(a, (4, [Value.int 0, Value.int 0, Value.ref q2, Value.ref q3, Value.ref q4, Value.ref q5, Value.ref q6, Value.ref q7, Value.ref q8, Value.ref q9, Value.null, Value.null, Value.null, Value.null, Value.int 0, Value.null, Value.null, Value.null, Value.null, Value.int 0, Value.int 0, Value.int 0, Value.null, Value.int 0])), (q2, (10, List.replicate 4 (Value.int 0))), (q3, (10, List.replicate 4 (Value.int 0))), (q4, (10, List.replicate 4 (Value.int 0))), (q5, (10, List.replicate 4 (Value.int 0))), (q6, (10, List.replicate 16 (Value.int 0))), (q7, (10, List.replicate 24 (Value.int 0))), (q8, (10, List.replicate 128 (Value.int 0))), (q9, (10, List.replicate 4 (Value.int 0)))] h from rfl) ?_
  have hN9 : (List.map Prod.fst [(a, (4, [Value.int 0, Value.int 0, Value.ref q2, Value.ref q3, Value.ref q4, Value.ref q5, Value.ref q6, Value.ref q7, Value.ref q8, Value.ref q9, Value.null, Value.null, Value.null, Value.null, Value.int 0, Value.null, Value.null, Value.null, Value.null, Value.int 0, Value.int 0, Value.int 0, Value.null, Value.int 0])), (q2, (10, List.replicate 4 (Value.int 0))), (q3, (10, List.replicate 4 (Value.int 0))), (q4, (10, List.replicate 4 (Value.int 0))), (q5, (10, List.replicate 4 (Value.int 0))), (q6, (10, List.replicate 16 (Value.int 0))), (q7, (10, List.replicate 24 (Value.int 0))), (q8, (10, List.replicate 128 (Value.int 0))), (q9, (10, List.replicate 4 (Value.int 0)))]).Nodup := hN9
  refine mm_blk (pc' := 67) ok_Md_init 2 _ _ _ rfl ?_
  refine mm_V_wid (k1 := 1 + 8) (k2 := 24 + 108) (by omega) (by omega) ?_
  refine mm_newZ (kc := 8) (ks := 108) (N := 24) ok_Md_init ac_Z rfl rfl (by decide) (fun q10 hq10 => ?_)
  obtain ⟨n10, z10⟩ := alh_none hq10
  rw [alh_new _ _ _ n10]
  have hN10 := nodup_app (o := (11, List.replicate 24 (Value.int 0))) hN9 n10
  have d10 : a ≠ q10 := Ne.symm (n10 (a, (4, [Value.int 0, Value.int 0, Value.ref q2, Value.ref q3, Value.ref q4, Value.ref q5, Value.ref q6, Value.ref q7, Value.ref q8, Value.ref q9, Value.null, Value.null, Value.null, Value.null, Value.int 0, Value.null, Value.null, Value.null, Value.null, Value.int 0, Value.int 0, Value.int 0, Value.null, Value.int 0])) List.mem_cons_self)
  refine mm_putf ok_Md_init (if_pos rfl) rfl f_Md_34 (Or.inr ⟨rfl, rfl, rfl⟩) (mm_fit_AZ _) ?_
  refine mm_V_heap (alh_upd (a, (4, [Value.int 0, Value.int 0, Value.ref q2, Value.ref q3, Value.ref q4, Value.ref q5, Value.ref q6, Value.ref q7, Value.ref q8, Value.ref q9, Value.null, Value.null, Value.null, Value.null, Value.int 0, Value.null, Value.null, Value.null, Value.null, Value.int 0, Value.int 0, Value.int 0, Value.null, Value.int 0])) _ h _) ?_
  refine mm_V_heap (show _ = alh [(a, (4, [Value.int 0, Value.int 0, Value.ref q2, Value.ref q3, Value.ref q4, Value.ref q5, Value.ref q6, Value.ref q7, Value.ref q8, Value.ref q9, Value.ref q10, Value.null, Value.null, Value.null, Value.int 0, Value.null, Value.null, Value.null, Value.null, Value.int 0, Value.int 0, Value.int 0, Value.null, Value.int 0])), (q2, (10, List.replicate 4 (Value.int 0))), (q3, (10, List.replicate 4 (Value.int 0))), (q4, (10, List.replicate 4 (Value.int 0))), (q5, (10, List.replicate 4 (Value.int 0))), (q6, (10, List.replicate 16 (Value.int 0))), (q7, (10, List.replicate 24 (Value.int 0))), (q8, (10, List.replicate 128 (Value.int 0))), (q9, (10, List.replicate 4 (Value.int 0))), (q10, (11, List.replicate 24 (Value.int 0)))] h from rfl) ?_
  have hN10 : (List.map Prod.fst [(a, (4, [Value.int 0, Value.int 0, Value.ref q2, Value.ref q3, Value.ref q4, Value.ref q5, Value.ref q6, Value.ref q7, Value.ref q8, Value.ref q9, Value.ref q10, Value.null, Value.null, Value.null, Value.int 0, Value.null, Value.null, Value.null, Value.null, Value.int 0, Value.int 0, Value.int 0, Value.null, Value.int 0])), (q2, (10, List.replicate 4 (Value.int 0))), (q3, (10, List.replicate 4 (Value.int 0))), (q4, (10, List.replicate 4 (Value.int 0))), (q5, (10, List.replicate 4 (Value.int 0))), (q6, (10, List.replicate 16 (Value.int 0))), (q7, (10, List.replicate 24 (Value.int 0))), (q8, (10, List.replicate 128 (Value.int 0))), (q9, (10, List.replicate 4 (Value.int 0))), (q10, (11, List.replicate 24 (Value.int 0)))]).Nodup := hN10
  refine mm_blk (pc' := 75) ok_Md_init 2 _ _ _ rfl ?_
  refine mm_V_wid (k1 := 1 + 7) (k2 := 24 + 84) (by omega) (by omega) ?_
  refine mm_newI (kc := 7) (ks := 84) (N := 24) ok_Md_init ac_I rfl rfl (by decide) (fun q11 hq11 => ?_)
  obtain ⟨n11, z11⟩ := alh_none hq11
  rw [alh_new _ _ _ n11]
  have hN11 := nodup_app (o := (10, List.replicate 24 (Value.int 0))) hN10 n11
  have d11 : a ≠ q11 := Ne.symm (n11 (a, (4, [Value.int 0, Value.int 0, Value.ref q2, Value.ref q3, Value.ref q4, Value.ref q5, Value.ref q6, Value.ref q7, Value.ref q8, Value.ref q9, Value.ref q10, Value.null, Value.null, Value.null, Value.int 0, Value.null, Value.null, Value.null, Value.null, Value.int 0, Value.int 0, Value.int 0, Value.null, Value.int 0])) List.mem_cons_self)
  refine mm_putf ok_Md_init (if_pos rfl) rfl f_Md_38 (Or.inr ⟨rfl, rfl, rfl⟩) (mm_fit_AI _) ?_
  refine mm_V_heap (alh_upd (a, (4, [Value.int 0, Value.int 0, Value.ref q2, Value.ref q3, Value.ref q4, Value.ref q5, Value.ref q6, Value.ref q7, Value.ref q8, Value.ref q9, Value.ref q10, Value.null, Value.null, Value.null, Value.int 0, Value.null, Value.null, Value.null, Value.null, Value.int 0, Value.int 0, Value.int 0, Value.null, Value.int 0])) _ h _) ?_
  refine mm_V_heap (show _ = alh [(a, (4, [Value.int 0, Value.int 0, Value.ref q2, Value.ref q3, Value.ref q4, Value.ref q5, Value.ref q6, Value.ref q7, Value.ref q8, Value.ref q9, Value.ref q10, Value.ref q11, Value.null, Value.null, Value.int 0, Value.null, Value.null, Value.null, Value.null, Value.int 0, Value.int 0, Value.int 0, Value.null, Value.int 0])), (q2, (10, List.replicate 4 (Value.int 0))), (q3, (10, List.replicate 4 (Value.int 0))), (q4, (10, List.replicate 4 (Value.int 0))), (q5, (10, List.replicate 4 (Value.int 0))), (q6, (10, List.replicate 16 (Value.int 0))), (q7, (10, List.replicate 24 (Value.int 0))), (q8, (10, List.replicate 128 (Value.int 0))), (q9, (10, List.replicate 4 (Value.int 0))), (q10, (11, List.replicate 24 (Value.int 0))), (q11, (10, List.replicate 24 (Value.int 0)))] h from rfl) ?_
  have hN11 : (List.map Prod.fst [(a, (4, [Value.int 0, Value.int 0, Value.ref q2, Value.ref q3, Value.ref q4, Value.ref q5, Value.ref q6, Value.ref q7, Value.ref q8, Value.ref q9, Value.ref q10, Value.ref q11, Value.null, Value.null, Value.int 0, Value.null, Value.null, Value.null, Value.null, Value.int 0, Value.int 0, Value.int 0, Value.null, Value.int 0])), (q2, (10, List.replicate 4 (Value.int 0))), (q3, (10, List.replicate 4 (Value.int 0))), (q4, (10, List.replicate 4 (Value.int 0))), (q5, (10, List.replicate 4 (Value.int 0))), (q6, (10, List.replicate 16 (Value.int 0))), (q7, (10, List.replicate 24 (Value.int 0))), (q8, (10, List.replicate 128 (Value.int 0))), (q9, (10, List.replicate 4 (Value.int 0))), (q10, (11, List.replicate 24 (Value.int 0))), (q11, (10, List.replicate 24 (Value.int 0)))]).Nodup := hN11
  refine mm_blk (pc' := 83) ok_Md_init 2 _ _ _ rfl ?_
  refine mm_V_wid (k1 := 1 + 6) (k2 := 24 + 60) (by omega) (by omega) ?_
  refine mm_newI (kc := 6) (ks := 60) (N := 24) ok_Md_init ac_I rfl rfl (by decide) (fun q12 hq12 => ?_)
  obtain ⟨n12, z12⟩ := alh_none hq12
  rw [alh_new _ _ _ n12]
  have hN12 := nodup_app (o := (10, List.replicate 24 (Value.int 0))) hN11 n12
  have d12 : a ≠ q12 := Ne.symm (n12 (a, (4, [Value.int 0, Value.int 0, Value.ref q2, Value.ref q3, Value.ref q4, Value.ref q5, Value.ref q6, Value.ref q7, Value.ref q8, Value.ref q9, Value.ref q10, Value.ref q11, Value.null, Value.null, Value.int 0, Value.null, Value.null, Value.null, Value.null, Value.int 0, Value.int 0, Value.int 0, Value.null, Value.int 0])) List.mem_cons_self)
  refine mm_putf ok_Md_init (if_pos rfl) rfl f_Md_41 (Or.inr ⟨rfl, rfl, rfl⟩) (mm_fit_AI _) ?_
  refine mm_V_heap (alh_upd (a, (4, [Value.int 0, Value.int 0, Value.ref q2, Value.ref q3, Value.ref q4, Value.ref q5, Value.ref q6, Value.ref q7, Value.ref q8, Value.ref q9, Value.ref q10, Value.ref q11, Value.null, Value.null, Value.int 0, Value.null, Value.null, Value.null, Value.null, Value.int 0, Value.int 0, Value.int 0, Value.null, Value.int 0])) _ h _) ?_
  refine mm_V_heap (show _ = alh [(a, (4, [Value.int 0, Value.int 0, Value.ref q2, Value.ref q3, Value.ref q4, Value.ref q5, Value.ref q6, Value.ref q7, Value.ref q8, Value.ref q9, Value.ref q10, Value.ref q11, Value.ref q12, Value.null, Value.int 0, Value.null, Value.null, Value.null, Value.null, Value.int 0, Value.int 0, Value.int 0, Value.null, Value.int 0])), (q2, (10, List.replicate 4 (Value.int 0))), (q3, (10, List.replicate 4 (Value.int 0))), (q4, (10, List.replicate 4 (Value.int 0))), (q5, (10, List.replicate 4 (Value.int 0))), (q6, (10, List.replicate 16 (Value.int 0))), (q7, (10, List.replicate 24 (Value.int 0))), (q8, (10, List.replicate 128 (Value.int 0))), (q9, (10, List.replicate 4 (Value.int 0))), (q10, (11, List.replicate 24 (Value.int 0))), (q11, (10, List.replicate 24 (Value.int 0))), (q12, (10, List.replicate 24 (Value.int 0)))] h from rfl) ?_
  have hN12 : (List.map Prod.fst [(a, (4, [Value.int 0, Value.int 0, Value.ref q2, Value.ref q3, Value.ref q4, Value.ref q5, Value.ref q6, Value.ref q7, Value.ref q8, Value.ref q9, Value.ref q10, Value.ref q11, Value.ref q12, Value.null, Value.int 0, Value.null, Value.null, Value.null, Value.null, Value.int 0, Value.int 0, Value.int 0, Value.null, Value.int 0])), (q2, (10, List.replicate 4 (Value.int 0))), (q3, (10, List.replicate 4 (Value.int 0))), (q4, (10, List.replicate 4 (Value.int 0))), (q5, (10, List.replicate 4 (Value.int 0))), (q6, (10, List.replicate 16 (Value.int 0))), (q7, (10, List.replicate 24 (Value.int 0))), (q8, (10, List.replicate 128 (Value.int 0))), (q9, (10, List.replicate 4 (Value.int 0))), (q10, (11, List.replicate 24 (Value.int 0))), (q11, (10, List.replicate 24 (Value.int 0))), (q12, (10, List.replicate 24 (Value.int 0)))]).Nodup := hN12
  refine mm_blk (pc' := 91) ok_Md_init 2 _ _ _ rfl ?_
  refine mm_V_wid (k1 := 1 + 5) (k2 := 24 + 36) (by omega) (by omega) ?_
  refine mm_newI (kc := 5) (ks := 36) (N := 24) ok_Md_init ac_I rfl rfl (by decide) (fun q13 hq13 => ?_)
  obtain ⟨n13, z13⟩ := alh_none hq13
  rw [alh_new _ _ _ n13]
  have hN13 := nodup_app (o := (10, List.replicate 24 (Value.int 0))) hN12 n13
  have d13 : a ≠ q13 := Ne.symm (n13 (a, (4, [Value.int 0, Value.int 0, Value.ref q2, Value.ref q3, Value.ref q4, Value.ref q5, Value.ref q6, Value.ref q7, Value.ref q8, Value.ref q9, Value.ref q10, Value.ref q11, Value.ref q12, Value.null, Value.int 0, Value.null, Value.null, Value.null, Value.null, Value.int 0, Value.int 0, Value.int 0, Value.null, Value.int 0])) List.mem_cons_self)
  refine mm_putf ok_Md_init (if_pos rfl) rfl f_Md_44 (Or.inr ⟨rfl, rfl, rfl⟩) (mm_fit_AI _) ?_
  refine mm_V_heap (alh_upd (a, (4, [Value.int 0, Value.int 0, Value.ref q2, Value.ref q3, Value.ref q4, Value.ref q5, Value.ref q6, Value.ref q7, Value.ref q8, Value.ref q9, Value.ref q10, Value.ref q11, Value.ref q12, Value.null, Value.int 0, Value.null, Value.null, Value.null, Value.null, Value.int 0, Value.int 0, Value.int 0, Value.null, Value.int 0])) _ h _) ?_
  refine mm_V_heap (show _ = alh [(a, (4, [Value.int 0, Value.int 0, Value.ref q2, Value.ref q3, Value.ref q4, Value.ref q5, Value.ref q6, Value.ref q7, Value.ref q8, Value.ref q9, Value.ref q10, Value.ref q11, Value.ref q12, Value.ref q13, Value.int 0, Value.null, Value.null, Value.null, Value.null, Value.int 0, Value.int 0, Value.int 0, Value.null, Value.int 0])), (q2, (10, List.replicate 4 (Value.int 0))), (q3, (10, List.replicate 4 (Value.int 0))), (q4, (10, List.replicate 4 (Value.int 0))), (q5, (10, List.replicate 4 (Value.int 0))), (q6, (10, List.replicate 16 (Value.int 0))), (q7, (10, List.replicate 24 (Value.int 0))), (q8, (10, List.replicate 128 (Value.int 0))), (q9, (10, List.replicate 4 (Value.int 0))), (q10, (11, List.replicate 24 (Value.int 0))), (q11, (10, List.replicate 24 (Value.int 0))), (q12, (10, List.replicate 24 (Value.int 0))), (q13, (10, List.replicate 24 (Value.int 0)))] h from rfl) ?_
  have hN13 : (List.map Prod.fst [(a, (4, [Value.int 0, Value.int 0, Value.ref q2, Value.ref q3, Value.ref q4, Value.ref q5, Value.ref q6, Value.ref q7, Value.ref q8, Value.ref q9, Value.ref q10, Value.ref q11, Value.ref q12, Value.ref q13, Value.int 0, Value.null, Value.null, Value.null, Value.null, Value.int 0, Value.int 0, Value.int 0, Value.null, Value.int 0])), (q2, (10, List.replicate 4 (Value.int 0))), (q3, (10, List.replicate 4 (Value.int 0))), (q4, (10, List.replicate 4 (Value.int 0))), (q5, (10, List.replicate 4 (Value.int 0))), (q6, (10, List.replicate 16 (Value.int 0))), (q7, (10, List.replicate 24 (Value.int 0))), (q8, (10, List.replicate 128 (Value.int 0))), (q9, (10, List.replicate 4 (Value.int 0))), (q10, (11, List.replicate 24 (Value.int 0))), (q11, (10, List.replicate 24 (Value.int 0))), (q12, (10, List.replicate 24 (Value.int 0))), (q13, (10, List.replicate 24 (Value.int 0)))]).Nodup := hN13
  refine mm_blk (pc' := 99) ok_Md_init 2 _ _ _ rfl ?_
  refine mm_V_wid (k1 := 1 + 4) (k2 := 8 + 28) (by omega) (by omega) ?_
  refine mm_newI (kc := 4) (ks := 28) (N := 8) ok_Md_init ac_I rfl rfl (by decide) (fun q15 hq15 => ?_)
  obtain ⟨n15, z15⟩ := alh_none hq15
  rw [alh_new _ _ _ n15]
  have hN15 := nodup_app (o := (10, List.replicate 8 (Value.int 0))) hN13 n15
  have d15 : a ≠ q15 := Ne.symm (n15 (a, (4, [Value.int 0, Value.int 0, Value.ref q2, Value.ref q3, Value.ref q4, Value.ref q5, Value.ref q6, Value.ref q7, Value.ref q8, Value.ref q9, Value.ref q10, Value.ref q11, Value.ref q12, Value.ref q13, Value.int 0, Value.null, Value.null, Value.null, Value.null, Value.int 0, Value.int 0, Value.int 0, Value.null, Value.int 0])) List.mem_cons_self)
  refine mm_putf ok_Md_init (if_pos rfl) rfl f_Md_47 (Or.inr ⟨rfl, rfl, rfl⟩) (mm_fit_AI _) ?_
  refine mm_V_heap (alh_upd (a, (4, [Value.int 0, Value.int 0, Value.ref q2, Value.ref q3, Value.ref q4, Value.ref q5, Value.ref q6, Value.ref q7, Value.ref q8, Value.ref q9, Value.ref q10, Value.ref q11, Value.ref q12, Value.ref q13, Value.int 0, Value.null, Value.null, Value.null, Value.null, Value.int 0, Value.int 0, Value.int 0, Value.null, Value.int 0])) _ h _) ?_
  refine mm_V_heap (show _ = alh [(a, (4, [Value.int 0, Value.int 0, Value.ref q2, Value.ref q3, Value.ref q4, Value.ref q5, Value.ref q6, Value.ref q7, Value.ref q8, Value.ref q9, Value.ref q10, Value.ref q11, Value.ref q12, Value.ref q13, Value.int 0, Value.ref q15, Value.null, Value.null, Value.null, Value.int 0, Value.int 0, Value.int 0, Value.null, Value.int 0])), (q2, (10, List.replicate 4 (Value.int 0))), (q3, (10, List.replicate 4 (Value.int 0))), (q4, (10, List.replicate 4 (Value.int 0))), (q5, (10, List.replicate 4 (Value.int 0))), (q6, (10, List.replicate 16 (Value.int 0))), (q7, (10, List.replicate 24 (Value.int 0))), (q8, (10, List.replicate 128 (Value.int 0))), (q9, (10, List.replicate 4 (Value.int 0))), (q10, (11, List.replicate 24 (Value.int 0))), (q11, (10, List.replicate 24 (Value.int 0))), (q12, (10, List.replicate 24 (Value.int 0))), (q13, (10, List.replicate 24 (Value.int 0))), (q15, (10, List.replicate 8 (Value.int 0)))] h from rfl) ?_
  have hN15 : (List.map Prod.fst [(a, (4, [Value.int 0, Value.int 0, Value.ref q2, Value.ref q3, Value.ref q4, Value.ref q5, Value.ref q6, Value.ref q7, Value.ref q8, Value.ref q9, Value.ref q10, Value.ref q11, Value.ref q12, Value.ref q13, Value.int 0, Value.ref q15, Value.null, Value.null, Value.null, Value.int 0, Value.int 0, Value.int 0, Value.null, Value.int 0])), (q2, (10, List.replicate 4 (Value.int 0))), (q3, (10, List.replicate 4 (Value.int 0))), (q4, (10, List.replicate 4 (Value.int 0))), (q5, (10, List.replicate 4 (Value.int 0))), (q6, (10, List.replicate 16 (Value.int 0))), (q7, (10, List.replicate 24 (Value.int 0))), (q8, (10, List.replicate 128 (Value.int 0))), (q9, (10, List.replicate 4 (Value.int 0))), (q10, (11, List.replicate 24 (Value.int 0))), (q11, (10, List.replicate 24 (Value.int 0))), (q12, (10, List.replicate 24 (Value.int 0))), (q13, (10, List.replicate 24 (Value.int 0))), (q15, (10, List.replicate 8 (Value.int 0)))]).Nodup := hN15
  refine mm_blk (pc' := 107) ok_Md_init 2 _ _ _ rfl ?_
  refine mm_V_wid (k1 := 1 + 3) (k2 := 8 + 20) (by omega) (by omega) ?_
  refine mm_newI (kc := 3) (ks := 20) (N := 8) ok_Md_init ac_I rfl rfl (by decide) (fun q16 hq16 => ?_)
  obtain ⟨n16, z16⟩ := alh_none hq16
  rw [alh_new _ _ _ n16]
  have hN16 := nodup_app (o := (10, List.replicate 8 (Value.int 0))) hN15 n16
  have d16 : a ≠ q16 := Ne.symm (n16 (a, (4, [Value.int 0, Value.int 0, Value.ref q2, Value.ref q3, Value.ref q4, Value.ref q5, Value.ref q6, Value.ref q7, Value.ref q8, Value.ref q9, Value.ref q10, Value.ref q11, Value.ref q12, Value.ref q13, Value.int 0, Value.ref q15, Value.null, Value.null, Value.null, Value.int 0, Value.int 0, Value.int 0, Value.null, Value.int 0])) List.mem_cons_self)
  refine mm_putf ok_Md_init (if_pos rfl) rfl f_Md_50 (Or.inr ⟨rfl, rfl, rfl⟩) (mm_fit_AI _) ?_
  refine mm_V_heap (alh_upd (a, (4, [Value.int 0, Value.int 0, Value.ref q2, Value.ref q3, Value.ref q4, Value.ref q5, Value.ref q6, Value.ref q7, Value.ref q8, Value.ref q9, Value.ref q10, Value.ref q11, Value.ref q12, Value.ref q13, Value.int 0, Value.ref q15, Value.null, Value.null, Value.null, Value.int 0, Value.int 0, Value.int 0, Value.null, Value.int 0])) _ h _) ?_
  refine mm_V_heap (show _ = alh [(a, (4, [Value.int 0, Value.int 0, Value.ref q2, Value.ref q3, Value.ref q4, Value.ref q5, Value.ref q6, Value.ref q7, Value.ref q8, Value.ref q9, Value.ref q10, Value.ref q11, Value.ref q12, Value.ref q13, Value.int 0, Value.ref q15, Value.ref q16, Value.null, Value.null, Value.int 0, Value.int 0, Value.int 0, Value.null, Value.int 0])), (q2, (10, List.replicate 4 (Value.int 0))), (q3, (10, List.replicate 4 (Value.int 0))), (q4, (10, List.replicate 4 (Value.int 0))), (q5, (10, List.replicate 4 (Value.int 0))), (q6, (10, List.replicate 16 (Value.int 0))), (q7, (10, List.replicate 24 (Value.int 0))), (q8, (10, List.replicate 128 (Value.int 0))), (q9, (10, List.replicate 4 (Value.int 0))), (q10, (11, List.replicate 24 (Value.int 0))), (q11, (10, List.replicate 24 (Value.int 0))), (q12, (10, List.replicate 24 (Value.int 0))), (q13, (10, List.replicate 24 (Value.int 0))), (q15, (10, List.replicate 8 (Value.int 0))), (q16, (10, List.replicate 8 (Value.int 0)))] h from rfl) ?_
  have hN16 : (List.map Prod.fst [(a, (4, [Value.int 0, Value.int 0, Value.ref q2, Value.ref q3, Value.ref q4, Value.ref q5, Value.ref q6, Value.ref q7, Value.ref q8, Value.ref q9, Value.ref q10, Value.ref q11, Value.ref q12, Value.ref q13, Value.int 0, Value.ref q15, Value.ref q16, Value.null, Value.null, Value.int 0, Value.int 0, Value.int 0, Value.null, Value.int 0])), (q2, (10, List.replicate 4 (Value.int 0))), (q3, (10, List.replicate 4 (Value.int 0))), (q4, (10, List.replicate 4 (Value.int 0))), (q5, (10, List.replicate 4 (Value.int 0))), (q6, (10, List.replicate 16 (Value.int 0))), (q7, (10, List.replicate 24 (Value.int 0))), (q8, (10, List.replicate 128 (Value.int 0))), (q9, (10, List.replicate 4 (Value.int 0))), (q10, (11, List.replicate 24 (Value.int 0))), (q11, (10, List.replicate 24 (Value.int 0))), (q12, (10, List.replicate 24 (Value.int 0))), (q13, (10, List.replicate 24 (Value.int 0))), (q15, (10, List.replicate 8 (Value.int 0))), (q16, (10, List.replicate 8 (Value.int 0)))]).Nodup := hN16
  refine mm_blk (pc' := 115) ok_Md_init 2 _ _ _ rfl ?_
  refine mm_V_wid (k1 := 1 + 2) (k2 := 8 + 12) (by omega) (by omega) ?_
  refine mm_newI (kc := 2) (ks := 12) (N := 8) ok_Md_init ac_I rfl rfl (by decide) (fun q17 hq17 => ?_)
  obtain ⟨n17, z17⟩ := alh_none hq17
  rw [alh_new _ _ _ n17]
  have hN17 := nodup_app (o := (10, List.replicate 8 (Value.int 0))) hN16 n17
  have d17 : a ≠ q17 := Ne.symm (n17 (a, (4, [Value.int 0, Value.int 0, Value.ref q2, Value.ref q3, Value.ref q4, Value.ref q5, Value.ref q6, Value.ref q7, Value.ref q8, Value.ref q9, Value.ref q10, Value.ref q11, Value.ref q12, Value.ref q13, Value.int 0, Value.ref q15, Value.ref q16, Value.null, Value.null, Value.int 0, Value.int 0, Value.int 0, Value.null, Value.int 0])) List.mem_cons_self)
  refine mm_putf ok_Md_init (if_pos rfl) rfl f_Md_53 (Or.inr ⟨rfl, rfl, rfl⟩) (mm_fit_AI _) ?_
  refine mm_V_heap (alh_upd (a, (4, [Value.int 0, Value.int 0, Value.ref q2, Value.ref q3, Value.ref q4, Value.ref q5, Value.ref q6, Value.ref q7, Value.ref q8, Value.ref q9, Value.ref q10, Value.ref q11, Value.ref q12, Value.ref q13, Value.int 0, Value.ref q15, Value.ref q16, Value.null, Value.null, Value.int 0, Value.int 0, Value.int 0, Value.null, Value.int 0])) _ h _) ?_
  refine mm_V_heap (show _ = alh [(a, (4, [Value.int 0, Value.int 0, Value.ref q2, Value.ref q3, Value.ref q4, Value.ref q5, Value.ref q6, Value.ref q7, Value.ref q8, Value.ref q9, Value.ref q10, Value.ref q11, Value.ref q12, Value.ref q13, Value.int 0, Value.ref q15, Value.ref q16, Value.ref q17, Value.null, Value.int 0, Value.int 0, Value.int 0, Value.null, Value.int 0])), (q2, (10, List.replicate 4 (Value.int 0))), (q3, (10, List.replicate 4 (Value.int 0))), (q4, (10, List.replicate 4 (Value.int 0))), (q5, (10, List.replicate 4 (Value.int 0))), (q6, (10, List.replicate 16 (Value.int 0))), (q7, (10, List.replicate 24 (Value.int 0))), (q8, (10, List.replicate 128 (Value.int 0))), (q9, (10, List.replicate 4 (Value.int 0))), (q10, (11, List.replicate 24 (Value.int 0))), (q11, (10, List.replicate 24 (Value.int 0))), (q12, (10, List.replicate 24 (Value.int 0))), (q13, (10, List.replicate 24 (Value.int 0))), (q15, (10, List.replicate 8 (Value.int 0))), (q16, (10, List.replicate 8 (Value.int 0))), (q17, (10, List.replicate 8 (Value.int 0)))] h from rfl) ?_
  have hN17 : (List.map Prod.fst [(a, (4, [Value.int 0, Value.int 0, Value.ref q2, Value.ref q3, Value.ref q4, Value.ref q5, Value.ref q6, Value.ref q7, Value.ref q8, Value.ref q9, Value.ref q10, Value.ref q11, Value.ref q12, Value.ref q13, Value.int 0, Value.ref q15, Value.ref q16, Value.ref q17, Value.null, Value.int 0, Value.int 0, Value.int 0, Value.null, Value.int 0])), (q2, (10, List.replicate 4 (Value.int 0))), (q3, (10, List.replicate 4 (Value.int 0))), (q4, (10, List.replicate 4 (Value.int 0))), (q5, (10, List.replicate 4 (Value.int 0))), (q6, (10, List.replicate 16 (Value.int 0))), (q7, (10, List.replicate 24 (Value.int 0))), (q8, (10, List.replicate 128 (Value.int 0))), (q9, (10, List.replicate 4 (Value.int 0))), (q10, (11, List.replicate 24 (Value.int 0))), (q11, (10, List.replicate 24 (Value.int 0))), (q12, (10, List.replicate 24 (Value.int 0))), (q13, (10, List.replicate 24 (Value.int 0))), (q15, (10, List.replicate 8 (Value.int 0))), (q16, (10, List.replicate 8 (Value.int 0))), (q17, (10, List.replicate 8 (Value.int 0)))]).Nodup := hN17
  refine mm_blk (pc' := 123) ok_Md_init 2 _ _ _ rfl ?_
  refine mm_V_wid (k1 := 1 + 1) (k2 := 8 + 4) (by omega) (by omega) ?_
  refine mm_newI (kc := 1) (ks := 4) (N := 8) ok_Md_init ac_I rfl rfl (by decide) (fun q18 hq18 => ?_)
  obtain ⟨n18, z18⟩ := alh_none hq18
  rw [alh_new _ _ _ n18]
  have hN18 := nodup_app (o := (10, List.replicate 8 (Value.int 0))) hN17 n18
  have d18 : a ≠ q18 := Ne.symm (n18 (a, (4, [Value.int 0, Value.int 0, Value.ref q2, Value.ref q3, Value.ref q4, Value.ref q5, Value.ref q6, Value.ref q7, Value.ref q8, Value.ref q9, Value.ref q10, Value.ref q11, Value.ref q12, Value.ref q13, Value.int 0, Value.ref q15, Value.ref q16, Value.ref q17, Value.null, Value.int 0, Value.int 0, Value.int 0, Value.null, Value.int 0])) List.mem_cons_self)
  refine mm_putf ok_Md_init (if_pos rfl) rfl f_Md_56 (Or.inr ⟨rfl, rfl, rfl⟩) (mm_fit_AI _) ?_
  refine mm_V_heap (alh_upd (a, (4, [Value.int 0, Value.int 0, Value.ref q2, Value.ref q3, Value.ref q4, Value.ref q5, Value.ref q6, Value.ref q7, Value.ref q8, Value.ref q9, Value.ref q10, Value.ref q11, Value.ref q12, Value.ref q13, Value.int 0, Value.ref q15, Value.ref q16, Value.ref q17, Value.null, Value.int 0, Value.int 0, Value.int 0, Value.null, Value.int 0])) _ h _) ?_
  refine mm_V_heap (show _ = alh [(a, (4, [Value.int 0, Value.int 0, Value.ref q2, Value.ref q3, Value.ref q4, Value.ref q5, Value.ref q6, Value.ref q7, Value.ref q8, Value.ref q9, Value.ref q10, Value.ref q11, Value.ref q12, Value.ref q13, Value.int 0, Value.ref q15, Value.ref q16, Value.ref q17, Value.ref q18, Value.int 0, Value.int 0, Value.int 0, Value.null, Value.int 0])), (q2, (10, List.replicate 4 (Value.int 0))), (q3, (10, List.replicate 4 (Value.int 0))), (q4, (10, List.replicate 4 (Value.int 0))), (q5, (10, List.replicate 4 (Value.int 0))), (q6, (10, List.replicate 16 (Value.int 0))), (q7, (10, List.replicate 24 (Value.int 0))), (q8, (10, List.replicate 128 (Value.int 0))), (q9, (10, List.replicate 4 (Value.int 0))), (q10, (11, List.replicate 24 (Value.int 0))), (q11, (10, List.replicate 24 (Value.int 0))), (q12, (10, List.replicate 24 (Value.int 0))), (q13, (10, List.replicate 24 (Value.int 0))), (q15, (10, List.replicate 8 (Value.int 0))), (q16, (10, List.replicate 8 (Value.int 0))), (q17, (10, List.replicate 8 (Value.int 0))), (q18, (10, List.replicate 8 (Value.int 0)))] h from rfl) ?_
  have hN18 : (List.map Prod.fst [(a, (4, [Value.int 0, Value.int 0, Value.ref q2, Value.ref q3, Value.ref q4, Value.ref q5, Value.ref q6, Value.ref q7, Value.ref q8, Value.ref q9, Value.ref q10, Value.ref q11, Value.ref q12, Value.ref q13, Value.int 0, Value.ref q15, Value.ref q16, Value.ref q17, Value.ref q18, Value.int 0, Value.int 0, Value.int 0, Value.null, Value.int 0])), (q2, (10, List.replicate 4 (Value.int 0))), (q3, (10, List.replicate 4 (Value.int 0))), (q4, (10, List.replicate 4 (Value.int 0))), (q5, (10, List.replicate 4 (Value.int 0))), (q6, (10, List.replicate 16 (Value.int 0))), (q7, (10, List.replicate 24 (Value.int 0))), (q8, (10, List.replicate 128 (Value.int 0))), (q9, (10, List.replicate 4 (Value.int 0))), (q10, (11, List.replicate 24 (Value.int 0))), (q11, (10, List.replicate 24 (Value.int 0))), (q12, (10, List.replicate 24 (Value.int 0))), (q13, (10, List.replicate 24 (Value.int 0))), (q15, (10, List.replicate 8 (Value.int 0))), (q16, (10, List.replicate 8 (Value.int 0))), (q17, (10, List.replicate 8 (Value.int 0))), (q18, (10, List.replicate 8 (Value.int 0)))]).Nodup := hN18
  refine mm_blk (pc' := 130) ok_Md_init 2 _ _ _ rfl ?_
  refine mm_V_wid (k1 := 1 + 0) (k2 := 4 + 0) (by omega) (by omega) ?_
  refine mm_newI (kc := 0) (ks := 0) (N := 4) ok_Md_init ac_I rfl rfl (by decide) (fun q22 hq22 => ?_)
  obtain ⟨n22, z22⟩ := alh_none hq22
  rw [alh_new _ _ _ n22]
  have hN22 := nodup_app (o := (10, List.replicate 4 (Value.int 0))) hN18 n22
  have d22 : a ≠ q22 := Ne.symm (n22 (a, (4, [Value.int 0, Value.int 0, Value.ref q2, Value.ref q3, Value.ref q4, Value.ref q5, Value.ref q6, Value.ref q7, Value.ref q8, Value.ref q9, Value.ref q10, Value.ref q11, Value.ref q12, Value.ref q13, Value.int 0, Value.ref q15, Value.ref q16, Value.ref q17, Value.ref q18, Value.int 0, Value.int 0, Value.int 0, Value.null, Value.int 0])) List.mem_cons_self)
  refine mm_putf ok_Md_init (if_pos rfl) rfl f_Md_59 (Or.inr ⟨rfl, rfl, rfl⟩) (mm_fit_AI _) ?_
  refine mm_V_heap (alh_upd (a, (4, [Value.int 0, Value.int 0, Value.ref q2, Value.ref q3, Value.ref q4, Value.ref q5, Value.ref q6, Value.ref q7, Value.ref q8, Value.ref q9, Value.ref q10, Value.ref q11, Value.ref q12, Value.ref q13, Value.int 0, Value.ref q15, Value.ref q16, Value.ref q17, Value.ref q18, Value.int 0, Value.int 0, Value.int 0, Value.null, Value.int 0])) _ h _) ?_
  refine mm_V_heap (show _ = alh [(a, (4, [Value.int 0, Value.int 0, Value.ref q2, Value.ref q3, Value.ref q4, Value.ref q5, Value.ref q6, Value.ref q7, Value.ref q8, Value.ref q9, Value.ref q10, Value.ref q11, Value.ref q12, Value.ref q13, Value.int 0, Value.ref q15, Value.ref q16, Value.ref q17, Value.ref q18, Value.int 0, Value.int 0, Value.int 0, Value.ref q22, Value.int 0])), (q2, (10, List.replicate 4 (Value.int 0))), (q3, (10, List.replicate 4 (Value.int 0))), (q4, (10, List.replicate 4 (Value.int 0))), (q5, (10, List.replicate 4 (Value.int 0))), (q6, (10, List.replicate 16 (Value.int 0))), (q7, (10, List.replicate 24 (Value.int 0))), (q8, (10, List.replicate 128 (Value.int 0))), (q9, (10, List.replicate 4 (Value.int 0))), (q10, (11, List.replicate 24 (Value.int 0))), (q11, (10, List.replicate 24 (Value.int 0))), (q12, (10, List.replicate 24 (Value.int 0))), (q13, (10, List.replicate 24 (Value.int 0))), (q15, (10, List.replicate 8 (Value.int 0))), (q16, (10, List.replicate 8 (Value.int 0))), (q17, (10, List.replicate 8 (Value.int 0))), (q18, (10, List.replicate 8 (Value.int 0))), (q22, (10, List.replicate 4 (Value.int 0)))] h from rfl) ?_
  have hN22 : (List.map Prod.fst [(a, (4, [Value.int 0, Value.int 0, Value.ref q2, Value.ref q3, Value.ref q4, Value.ref q5, Value.ref q6, Value.ref q7, Value.ref q8, Value.ref q9, Value.ref q10, Value.ref q11, Value.ref q12, Value.ref q13, Value.int 0, Value.ref q15, Value.ref q16, Value.ref q17, Value.ref q18, Value.int 0, Value.int 0, Value.int 0, Value.ref q22, Value.int 0])), (q2, (10, List.replicate 4 (Value.int 0))), (q3, (10, List.replicate 4 (Value.int 0))), (q4, (10, List.replicate 4 (Value.int 0))), (q5, (10, List.replicate 4 (Value.int 0))), (q6, (10, List.replicate 16 (Value.int 0))), (q7, (10, List.replicate 24 (Value.int 0))), (q8, (10, List.replicate 128 (Value.int 0))), (q9, (10, List.replicate 4 (Value.int 0))), (q10, (11, List.replicate 24 (Value.int 0))), (q11, (10, List.replicate 24 (Value.int 0))), (q12, (10, List.replicate 24 (Value.int 0))), (q13, (10, List.replicate 24 (Value.int 0))), (q15, (10, List.replicate 8 (Value.int 0))), (q16, (10, List.replicate 8 (Value.int 0))), (q17, (10, List.replicate 8 (Value.int 0))), (q18, (10, List.replicate 8 (Value.int 0))), (q22, (10, List.replicate 4 (Value.int 0)))]).Nodup := hN22
  refine mm_vret ok_Md_init rfl rfl ?_
  obtain ⟨K, k1, k2, k3, k4⟩ := new_MP (h := h) hN22
  refine ⟨K, k1, k2, fun n hn h0 => ?_, rfl, k4⟩
  have h9 := k3 n hn h0
  simp only [List.mem_cons, List.not_mem_nil, or_false] at h9
  rcases h9 with e | e | e | e | e | e | e | e | e | e | e | e | e | e | e | e | e
  · rw [e]; exact z2
  · rw [e]; exact z3
  · rw [e]; exact z4
  · rw [e]; exact z5
  · rw [e]; exact z6
  · rw [e]; exact z7
  · rw [e]; exact z8
  · rw [e]; exact z9
  · rw [e]; exact z10
  · rw [e]; exact z11
  · rw [e]; exact z12
  · rw [e]; exact z13
  · rw [e]; exact z15
  · rw [e]; exact z16
  · rw [e]; exact z17
  · rw [e]; exact z18
  · rw [e]; exact z22
end MDN
