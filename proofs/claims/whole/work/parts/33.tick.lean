/-! the reference: a clock -/
def m_one (d : Nat) (t : mS) : mS := up (fun k t => m_s t 6 (4 * d + k) (if k = 0 then 1 else 0)) 4 0 t
def m_tk1 (p : Int32) (d : Nat) (t : mS) : mS := if p = 3 then m_cap d t else if p = 8 then m_upd d t else if p = 15 then m_s t 5 d (m_num t d) else if p = 10 then m_one d t else t
def m_rst (nd : Nat) (t : mS) : mS := up (fun d t => m_s t 5 d 1) nd 0 t
def m_fin (nd k : Nat) (b : Int32) (t : mS) : mS := if m_aft k b = 0 then m_s (m_rst nd (m_s t 0 19 (m_aft k b))) 0 20 (m_rst nd (m_s t 0 19 (m_aft k b)) 0 20 + 1) else m_s (m_s t 0 19 (m_aft k b)) 0 20 (m_s t 0 19 (m_aft k b) 0 20 + 1)
def m_shf (nd k : Nat) (x : Int32) (t : mS) : Int32 × mS := if k = 4 then up (m_sh1 1) nd 0 (x, t) else if k = 11 then up (m_sh1 0) nd 0 (x, t) else (0, t)
def m_ps (t : mS) : Nat := (t 0 19).toNatClampNeg
def m_tick (nd : Nat) (b x : Int32) (t : mS) : Int32 × mS := ((m_shf nd (m_ps t) x t).1, m_fin nd (m_ps t) b (up (m_tk1 (nI (m_ps t))) nd 0 (m_shf nd (m_ps t) x t).2))
theorem up_0 {f : Nat → mS → mS} (hf : ∀ i t, f i t 0 = t 0) : ∀ (n i : Nat) (t : mS), up f n i t 0 = t 0 := by
  intro n
  induction n with
  | zero => intro i t; rfl
  | succ n ih => intro i t; exact (ih _ _).trans (hf i t)
theorem cap_0 (d : Nat) (t : mS) : m_cap d t 0 = t 0 := by
  unfold m_cap m_cp7 m_cp8
  split
  · refine Eq.trans (up_0 ?_ _ _ _) (Eq.trans (up_0 ?_ _ _ _) ?_)
    · intro _ _; rfl
    · intro _ _; rfl
    · rfl
  · refine Eq.trans (up_0 ?_ _ _ _) ?_
    · intro _ _; rfl
    · rfl
theorem upd_0 (d : Nat) (t : mS) : m_upd d t 0 = t 0 := by
  unfold m_upd
  split
  · refine up_0 ?_ _ _ _
    intro _ _; rfl
  · rfl
theorem one_0 (d : Nat) (t : mS) : m_one d t 0 = t 0 := by
  refine up_0 ?_ _ _ _
  intro _ _; rfl
theorem tk1_0 (p : Int32) (d : Nat) (t : mS) : m_tk1 p d t 0 = t 0 := by
  unfold m_tk1
  repeat' split
  · exact cap_0 d t
  · exact upd_0 d t
  · rfl
  · exact one_0 d t
  · rfl
theorem same_one (d : Nat) (t : mS) : m_same t (m_one d t) := same_up (fun _ t => same_w t (by decide) _) _ _ _
theorem same_tk1 (p : Int32) (d : Nat) (t : mS) : m_same t (m_tk1 p d t) := by
  unfold m_tk1
  repeat' split
  · exact same_cap d t
  · exact same_upd d t
  · exact same_w t (n := 5) (by decide) _
  · exact same_one d t
  · exact same_rf t
theorem sh_0 (data : Int32) : ∀ (n i : Nat) (x : Int32 × mS), (up (m_sh1 data) n i x).2 0 = x.2 0 := by
  intro n
  induction n with
  | zero => intro i x; rfl
  | succ n ih =>
    intro i x
    refine (ih _ _).trans ?_
    unfold m_sh1
    repeat' split
    all_goals rfl
theorem same_fin (nd k : Nat) (b : Int32) (t : mS) : m_same t (m_fin nd k b t) := by
  have h0 : ∀ (t : mS) (f : Nat) (x : Int32), f = 19 ∨ f = 20 → m_same t (m_s t 0 f x) := fun t f x hf => ⟨fun n hn => m_s_ne _ _ _ (fun e => hn (by rw [e]; decide)), fun g h1 h2 => m_s_off _ _ _ (by omega)⟩
  unfold m_fin
  split
  · exact same_tr (h0 t 19 _ (Or.inl rfl)) (same_tr (same_up (fun _ t => same_w t (n := 5) (by decide) _) _ _ _) (h0 _ 20 _ (Or.inr rfl)))
  · exact same_tr (h0 t 19 _ (Or.inl rfl)) (h0 _ 20 _ (Or.inr rfl))
theorem same_shf (nd k : Nat) (x : Int32) (t : mS) : m_same t (m_shf nd k x t).2 := by
  unfold m_shf
  repeat' split
  · exact same_sh 1 nd 0 (x, t)
  · exact same_sh 0 nd 0 (x, t)
  · exact same_rf t
theorem same_tick (nd : Nat) (b x : Int32) (t : mS) : m_same t (m_tick nd b x t).2 := same_tr (same_shf nd (m_ps t) x t) (same_tr (same_up (fun i t => same_tk1 _ i t) _ _ _) (same_fin _ _ _ _))
section MD3
variable {G : mm_G} {K : Nat → Nat} {t : mS} {h : mm_Hp} {nd nn : Nat} {tms tdi goes : Int32} {Q : mm_O → mm_Hp → Prop}

set_option maxHeartbeats 1000000 in
theorem l_Md_tickR (w : mm_inj mdom K) : ∀ (n i : Nat) (t : mS), m_ok nd nn t → t 0 19 = 0 → i + n = nd → mm_V G M_Md_tick 168 [(0, .ref (K 0)), (1, .int tms), (2, .int tdi), (3, .int goes), (4, .int (nI i))] [] (MP K t h) 0 0 (mm_E (some (.int goes)) (MP K (m_s (up (fun d t => m_s t 5 d 1) n i t) 0 20 (up (fun d t => m_s t 5 d 1) n i t 0 20 + 1)) h)) := by
  intro n
  induction n with
  | zero =>
    intro i t ok hz hi
    have h4 := ok.1
    refine mm_blk (pc' := 171) ok_Md_tick 2 _ _ _ rfl ?_
    refine mm_getf ok_Md_tick (mp_0 w) rfl f_Md_66 rfl ?_
    rw [ok.2.2.1]
    refine mm_ic_ge ok_Md_tick 198 rfl (by decide) (fun c => ?_) (fun c => ?_)
    rotate_left
    · exact absurd (nI_le (by omega) (by omega)) c
    refine mm_blk (pc' := 200) ok_Md_tick 2 _ _ _ rfl ?_
    refine mm_getf ok_Md_tick (mp_0 w) rfl f_Md_72 rfl ?_
    refine mm_blk (pc' := 205) ok_Md_tick 2 _ _ _ rfl ?_
    refine mm_putf ok_Md_tick (mp_0 w) rfl f_Md_72 (Or.inl rfl) (mm_fit_I _) ?_
    refine mm_V_heap (mu_0 w 20 _) ?_
    refine mm_blk (pc' := 209) ok_Md_tick 1 _ _ _ rfl ?_
    exact mm_iret ok_Md_tick rfl rfl ⟨rfl, rfl⟩
  | succ n ih =>
    intro i t ok hz hi
    have h4 := ok.1
    refine mm_blk (pc' := 171) ok_Md_tick 2 _ _ _ rfl ?_
    refine mm_getf ok_Md_tick (mp_0 w) rfl f_Md_66 rfl ?_
    rw [ok.2.2.1]
    refine mm_ic_ge ok_Md_tick 198 rfl (by decide) (fun c => ?_) (fun c => ?_)
    · exact absurd c (nI_ge (by omega) (by omega))
    refine mm_blk (pc' := 178) ok_Md_tick 1 _ _ _ rfl ?_
    refine mm_getf ok_Md_tick (mp_0 w) rfl f_Md_69 rfl ?_
    rw [hz]
    refine mm_if_ne ok_Md_tick 198 rfl (by decide) (fun c => ?_) (fun c => ?_)
    · exact absurd rfl c
    refine mm_blk (pc' := 185) ok_Md_tick 1 _ _ _ rfl ?_
    refine mm_getf ok_Md_tick (mp_0 w) rfl f_Md_19 rfl ?_
    refine mm_blk (pc' := 191) ok_Md_tick 2 _ _ _ rfl ?_
    refine mm_iast (j := i) ok_Md_tick (mp_5 w) rfl rfl (by omega) (by rw [List.length_map, List.length_range]; exact (by omega)) ?_
    refine mm_V_heap (mu_5 w (by omega) _) ?_
    refine mm_blk (pc' := 168) ok_Md_tick 2 _ _ _ rfl ?_
    rw [nI_1]
    exact ih (i + 1) (m_s t 5 i 1) (same_ok (same_w t (n := 5) (by decide) _) ok) hz (by omega)
set_option maxHeartbeats 1000000 in
theorem t_Md_tick (w : mm_inj mdom K) (ok : m_ok nd nn t) {k i : Nat} (hk : k < 16) (hz : t 0 19 = nI k) : mm_V G M_Md_tick 153 [(0, .ref (K 0)), (1, .int tms), (2, .int tdi), (3, .int goes), (4, .int (nI i))] [] (MP K t h) 0 0 (mm_E (some (.int goes)) (MP K (m_fin nd k tms t) h)) := by
  have h4 := ok.1
  refine mm_blk (pc' := 155) ok_Md_tick 2 _ _ _ rfl ?_
  refine mm_getf ok_Md_tick (mp_0 w) rfl f_Md_69 rfl ?_
  refine mm_blk (pc' := 159) ok_Md_tick 1 _ _ _ rfl ?_
  rw [hz]
  refine mm_cSE ok_Md_tick (As := [.int (nI k), .int tms]) rfl k_Md_tick_123 rfl (Nat.le_of_ble_eq_true rfl) (c_Md_after hk tms) ?_
  refine mm_putf ok_Md_tick (mp_0 w) rfl f_Md_69 (Or.inl rfl) (mm_fit_I _) ?_
  refine mm_V_heap (mu_0 w 19 (m_aft k tms)) ?_
  refine mm_blk (pc' := 168) ok_Md_tick 2 _ _ _ rfl ?_
  have ok2 : m_ok nd nn (m_s t 0 19 (m_aft k tms)) := same_ok ⟨fun n hn => m_s_ne _ _ _ (fun e => hn (by rw [e]; decide)), fun g h1 h2 => m_s_off _ _ _ h1⟩ ok
  unfold m_fin
  by_cases e : m_aft k tms = 0
  · rw [if_pos e]
    exact l_Md_tickR w nd 0 (m_s t 0 19 (m_aft k tms)) ok2 e (by omega)
  · rw [if_neg e]
    by_cases hn : nd = 0
    · have hc : m_s t 0 19 (m_aft k tms) 0 1 = nI 0 := by show t 0 1 = nI 0; rw [ok.2.2.1, hn]
      refine mm_blk (pc' := 171) ok_Md_tick 2 _ _ _ rfl ?_
      refine mm_getf ok_Md_tick (mp_0 w) rfl f_Md_66 rfl ?_
      rw [hc]
      refine mm_ic_ge ok_Md_tick 198 rfl (by decide) (fun c => ?_) (fun c => ?_)
      rotate_left
      · exact absurd (nI_le (Nat.le_refl 0) (by omega)) c
      refine mm_blk (pc' := 200) ok_Md_tick 2 _ _ _ rfl ?_
      refine mm_getf ok_Md_tick (mp_0 w) rfl f_Md_72 rfl ?_
      refine mm_blk (pc' := 205) ok_Md_tick 2 _ _ _ rfl ?_
      refine mm_putf ok_Md_tick (mp_0 w) rfl f_Md_72 (Or.inl rfl) (mm_fit_I _) ?_
      refine mm_V_heap (mu_0 w 20 _) ?_
      refine mm_blk (pc' := 209) ok_Md_tick 1 _ _ _ rfl ?_
      exact mm_iret ok_Md_tick rfl rfl ⟨rfl, rfl⟩
    · have hc : m_s t 0 19 (m_aft k tms) 0 1 = nI nd := ok.2.2.1
      refine mm_blk (pc' := 171) ok_Md_tick 2 _ _ _ rfl ?_
      refine mm_getf ok_Md_tick (mp_0 w) rfl f_Md_66 rfl ?_
      rw [hc]
      refine mm_ic_ge ok_Md_tick 198 rfl (by decide) (fun c => ?_) (fun c => ?_)
      · exact absurd c (nI_nle (by omega) (by omega))
      refine mm_blk (pc' := 178) ok_Md_tick 1 _ _ _ rfl ?_
      refine mm_getf ok_Md_tick (mp_0 w) rfl f_Md_69 rfl ?_
      refine mm_if_ne ok_Md_tick 198 rfl (by decide) (fun c => ?_) (fun c => ?_)
      rotate_left
      · exact absurd c e
      refine mm_blk (pc' := 200) ok_Md_tick 2 _ _ _ rfl ?_
      refine mm_getf ok_Md_tick (mp_0 w) rfl f_Md_72 rfl ?_
      refine mm_blk (pc' := 205) ok_Md_tick 2 _ _ _ rfl ?_
      refine mm_putf ok_Md_tick (mp_0 w) rfl f_Md_72 (Or.inl rfl) (mm_fit_I _) ?_
      refine mm_V_heap (mu_0 w 20 _) ?_
      refine mm_blk (pc' := 209) ok_Md_tick 1 _ _ _ rfl ?_
      exact mm_iret ok_Md_tick rfl rfl ⟨rfl, rfl⟩
set_option maxHeartbeats 1000000 in
theorem l_Md_tick_3 (w : mm_inj mdom K) {p : Int32} (hp : p = 3) : ∀ (n i : Nat) (t : mS), m_ok nd nn t → t 0 19 = p → i + n = nd → mm_V G M_Md_tick 153 [(0, .ref (K 0)), (1, .int tms), (2, .int tdi), (3, .int goes), (4, .int (nI nd))] [] (MP K (up (m_tk1 p) n i t) h) 0 0 Q → mm_V G M_Md_tick 41 [(0, .ref (K 0)), (1, .int tms), (2, .int tdi), (3, .int goes), (4, .int (nI i))] [] (MP K t h) 0 0 Q := by
  intro n
  induction n with
  | zero =>
    intro i t ok hz hi kk
    have h4 := ok.1
    refine mm_blk (pc' := 44) ok_Md_tick 2 _ _ _ rfl ?_
    refine mm_getf ok_Md_tick (mp_0 w) rfl f_Md_66 rfl ?_
    rw [ok.2.2.1]
    refine mm_ic_ge ok_Md_tick 153 rfl (by decide) (fun c => ?_) (fun c => ?_)
    rotate_left
    · exact absurd (nI_le (by omega) (by omega)) c
    rw [show i = nd by omega]
    exact kk
  | succ n ih =>
    intro i t ok hz hi kk
    have h4 := ok.1
    have hlt : i < nd := by omega
    refine mm_blk (pc' := 44) ok_Md_tick 2 _ _ _ rfl ?_
    refine mm_getf ok_Md_tick (mp_0 w) rfl f_Md_66 rfl ?_
    rw [ok.2.2.1]
    refine mm_ic_ge ok_Md_tick 153 rfl (by decide) (fun c => ?_) (fun c => ?_)
    · exact absurd c (nI_ge (by omega) (by omega))
    refine mm_blk (pc' := 51) ok_Md_tick 1 _ _ _ rfl ?_
    refine mm_getf ok_Md_tick (mp_0 w) rfl f_Md_69 rfl ?_
    refine mm_blk (pc' := 55) ok_Md_tick 1 _ _ _ rfl ?_
    rw [hz]
    refine mm_ic_ne ok_Md_tick 64 rfl (by decide) (fun c => ?_) (fun c => ?_)
    · exact absurd hp c
    refine mm_blk (pc' := 61) ok_Md_tick 2 _ _ _ rfl ?_
    refine mm_cVE ok_Md_tick (As := [.int (nI i)]) rfl k_Md_tick_114 (mp_0 w) rfl rfl rfl (Nat.le_of_ble_eq_true rfl) (c_Md_capture w ok hlt) ?_
    have hz2 : m_cap i t 0 19 = p := by rw [cap_0]; exact hz
    refine mm_blk (pc' := 65) ok_Md_tick 1 _ _ _ rfl ?_
    refine mm_getf ok_Md_tick (mp_0 w) rfl f_Md_69 rfl ?_
    refine mm_blk (pc' := 70) ok_Md_tick 1 _ _ _ rfl ?_
    rw [hz2]
    refine mm_ic_ne ok_Md_tick 79 rfl (by decide) (fun c => ?_) (fun c => ?_)
    rotate_left
    · exact absurd c (by rw [hp]; decide)
    refine mm_blk (pc' := 80) ok_Md_tick 1 _ _ _ rfl ?_
    refine mm_getf ok_Md_tick (mp_0 w) rfl f_Md_69 rfl ?_
    refine mm_blk (pc' := 85) ok_Md_tick 1 _ _ _ rfl ?_
    rw [hz2]
    refine mm_ic_ne ok_Md_tick 101 rfl (by decide) (fun c => ?_) (fun c => ?_)
    rotate_left
    · exact absurd c (by rw [hp]; decide)
    refine mm_blk (pc' := 107) ok_Md_tick 4 _ _ _ rfl ?_
    refine mm_ic_ge ok_Md_tick 147 rfl (by decide) (fun c107 => ?_) (fun c107 => ?_)
    · -- 147 t
      refine mm_blk (pc' := 41) ok_Md_tick 2 _ _ _ rfl ?_
      rw [nI_1]
      refine mm_V_pick [0, 1, 2, 3, 4] rfl ?_
      have e9 : m_tk1 p i t = m_cap i t := by unfold m_tk1; rw [if_pos hp]
      refine ih (i + 1) (m_cap i t) (same_ok (same_cap i t) ok) (hz2) (by omega) ?_
      rw [← e9]
      exact kk
    · -- 110 f
      refine mm_blk (pc' := 111) ok_Md_tick 1 _ _ _ rfl ?_
      refine mm_getf ok_Md_tick (mp_0 w) rfl f_Md_69 rfl ?_
      refine mm_blk (pc' := 116) ok_Md_tick 1 _ _ _ rfl ?_
      rw [hz2]
      refine mm_ic_ne ok_Md_tick 147 rfl (by decide) (fun c => ?_) (fun c => ?_)
      rotate_left
      · exact absurd c (by rw [hp]; decide)
      refine mm_blk (pc' := 41) ok_Md_tick 2 _ _ _ rfl ?_
      rw [nI_1]
      refine mm_V_pick [0, 1, 2, 3, 4] rfl ?_
      have e9 : m_tk1 p i t = m_cap i t := by unfold m_tk1; rw [if_pos hp]
      refine ih (i + 1) (m_cap i t) (same_ok (same_cap i t) ok) (hz2) (by omega) ?_
      rw [← e9]
      exact kk
set_option maxHeartbeats 1000000 in
theorem l_Md_tick_8 (w : mm_inj mdom K) {p : Int32} (hp : p = 8) : ∀ (n i : Nat) (t : mS), m_ok nd nn t → t 0 19 = p → i + n = nd → mm_V G M_Md_tick 153 [(0, .ref (K 0)), (1, .int tms), (2, .int tdi), (3, .int goes), (4, .int (nI nd))] [] (MP K (up (m_tk1 p) n i t) h) 0 0 Q → mm_V G M_Md_tick 41 [(0, .ref (K 0)), (1, .int tms), (2, .int tdi), (3, .int goes), (4, .int (nI i))] [] (MP K t h) 0 0 Q := by
  intro n
  induction n with
  | zero =>
    intro i t ok hz hi kk
    have h4 := ok.1
    refine mm_blk (pc' := 44) ok_Md_tick 2 _ _ _ rfl ?_
    refine mm_getf ok_Md_tick (mp_0 w) rfl f_Md_66 rfl ?_
    rw [ok.2.2.1]
    refine mm_ic_ge ok_Md_tick 153 rfl (by decide) (fun c => ?_) (fun c => ?_)
    rotate_left
    · exact absurd (nI_le (by omega) (by omega)) c
    rw [show i = nd by omega]
    exact kk
  | succ n ih =>
    intro i t ok hz hi kk
    have h4 := ok.1
    have hlt : i < nd := by omega
    refine mm_blk (pc' := 44) ok_Md_tick 2 _ _ _ rfl ?_
    refine mm_getf ok_Md_tick (mp_0 w) rfl f_Md_66 rfl ?_
    rw [ok.2.2.1]
    refine mm_ic_ge ok_Md_tick 153 rfl (by decide) (fun c => ?_) (fun c => ?_)
    · exact absurd c (nI_ge (by omega) (by omega))
    refine mm_blk (pc' := 51) ok_Md_tick 1 _ _ _ rfl ?_
    refine mm_getf ok_Md_tick (mp_0 w) rfl f_Md_69 rfl ?_
    refine mm_blk (pc' := 55) ok_Md_tick 1 _ _ _ rfl ?_
    rw [hz]
    refine mm_ic_ne ok_Md_tick 64 rfl (by decide) (fun c => ?_) (fun c => ?_)
    rotate_left
    · exact absurd c (by rw [hp]; decide)
    refine mm_blk (pc' := 65) ok_Md_tick 1 _ _ _ rfl ?_
    refine mm_getf ok_Md_tick (mp_0 w) rfl f_Md_69 rfl ?_
    refine mm_blk (pc' := 70) ok_Md_tick 1 _ _ _ rfl ?_
    rw [hz]
    refine mm_ic_ne ok_Md_tick 79 rfl (by decide) (fun c => ?_) (fun c => ?_)
    · exact absurd hp c
    refine mm_blk (pc' := 76) ok_Md_tick 2 _ _ _ rfl ?_
    refine mm_cVE ok_Md_tick (As := [.int (nI i)]) rfl k_Md_tick_117 (mp_0 w) rfl rfl rfl (Nat.le_of_ble_eq_true rfl) (c_Md_update w ok hlt) ?_
    have hz2 : m_upd i t 0 19 = p := by rw [upd_0]; exact hz
    refine mm_blk (pc' := 80) ok_Md_tick 1 _ _ _ rfl ?_
    refine mm_getf ok_Md_tick (mp_0 w) rfl f_Md_69 rfl ?_
    refine mm_blk (pc' := 85) ok_Md_tick 1 _ _ _ rfl ?_
    rw [hz2]
    refine mm_ic_ne ok_Md_tick 101 rfl (by decide) (fun c => ?_) (fun c => ?_)
    rotate_left
    · exact absurd c (by rw [hp]; decide)
    refine mm_blk (pc' := 107) ok_Md_tick 4 _ _ _ rfl ?_
    refine mm_ic_ge ok_Md_tick 147 rfl (by decide) (fun c107 => ?_) (fun c107 => ?_)
    · -- 147 t
      refine mm_blk (pc' := 41) ok_Md_tick 2 _ _ _ rfl ?_
      rw [nI_1]
      refine mm_V_pick [0, 1, 2, 3, 4] rfl ?_
      have e9 : m_tk1 p i t = m_upd i t := by unfold m_tk1; rw [if_neg (by rw [hp]; decide), if_pos hp]
      refine ih (i + 1) (m_upd i t) (same_ok (same_upd i t) ok) (hz2) (by omega) ?_
      rw [← e9]
      exact kk
    · -- 110 f
      refine mm_blk (pc' := 111) ok_Md_tick 1 _ _ _ rfl ?_
      refine mm_getf ok_Md_tick (mp_0 w) rfl f_Md_69 rfl ?_
      refine mm_blk (pc' := 116) ok_Md_tick 1 _ _ _ rfl ?_
      rw [hz2]
      refine mm_ic_ne ok_Md_tick 147 rfl (by decide) (fun c => ?_) (fun c => ?_)
      rotate_left
      · exact absurd c (by rw [hp]; decide)
      refine mm_blk (pc' := 41) ok_Md_tick 2 _ _ _ rfl ?_
      rw [nI_1]
      refine mm_V_pick [0, 1, 2, 3, 4] rfl ?_
      have e9 : m_tk1 p i t = m_upd i t := by unfold m_tk1; rw [if_neg (by rw [hp]; decide), if_pos hp]
      refine ih (i + 1) (m_upd i t) (same_ok (same_upd i t) ok) (hz2) (by omega) ?_
      rw [← e9]
      exact kk
set_option maxHeartbeats 1000000 in
theorem l_Md_tick_15 (w : mm_inj mdom K) {p : Int32} (hp : p = 15) : ∀ (n i : Nat) (t : mS), m_ok nd nn t → t 0 19 = p → i + n = nd → mm_V G M_Md_tick 153 [(0, .ref (K 0)), (1, .int tms), (2, .int tdi), (3, .int goes), (4, .int (nI nd))] [] (MP K (up (m_tk1 p) n i t) h) 0 0 Q → mm_V G M_Md_tick 41 [(0, .ref (K 0)), (1, .int tms), (2, .int tdi), (3, .int goes), (4, .int (nI i))] [] (MP K t h) 0 0 Q := by
  intro n
  induction n with
  | zero =>
    intro i t ok hz hi kk
    have h4 := ok.1
    refine mm_blk (pc' := 44) ok_Md_tick 2 _ _ _ rfl ?_
    refine mm_getf ok_Md_tick (mp_0 w) rfl f_Md_66 rfl ?_
    rw [ok.2.2.1]
    refine mm_ic_ge ok_Md_tick 153 rfl (by decide) (fun c => ?_) (fun c => ?_)
    rotate_left
    · exact absurd (nI_le (by omega) (by omega)) c
    rw [show i = nd by omega]
    exact kk
  | succ n ih =>
    intro i t ok hz hi kk
    have h4 := ok.1
    have hlt : i < nd := by omega
    refine mm_blk (pc' := 44) ok_Md_tick 2 _ _ _ rfl ?_
    refine mm_getf ok_Md_tick (mp_0 w) rfl f_Md_66 rfl ?_
    rw [ok.2.2.1]
    refine mm_ic_ge ok_Md_tick 153 rfl (by decide) (fun c => ?_) (fun c => ?_)
    · exact absurd c (nI_ge (by omega) (by omega))
    refine mm_blk (pc' := 51) ok_Md_tick 1 _ _ _ rfl ?_
    refine mm_getf ok_Md_tick (mp_0 w) rfl f_Md_69 rfl ?_
    refine mm_blk (pc' := 55) ok_Md_tick 1 _ _ _ rfl ?_
    rw [hz]
    refine mm_ic_ne ok_Md_tick 64 rfl (by decide) (fun c => ?_) (fun c => ?_)
    rotate_left
    · exact absurd c (by rw [hp]; decide)
    refine mm_blk (pc' := 65) ok_Md_tick 1 _ _ _ rfl ?_
    refine mm_getf ok_Md_tick (mp_0 w) rfl f_Md_69 rfl ?_
    refine mm_blk (pc' := 70) ok_Md_tick 1 _ _ _ rfl ?_
    rw [hz]
    refine mm_ic_ne ok_Md_tick 79 rfl (by decide) (fun c => ?_) (fun c => ?_)
    rotate_left
    · exact absurd c (by rw [hp]; decide)
    refine mm_blk (pc' := 80) ok_Md_tick 1 _ _ _ rfl ?_
    refine mm_getf ok_Md_tick (mp_0 w) rfl f_Md_69 rfl ?_
    refine mm_blk (pc' := 85) ok_Md_tick 1 _ _ _ rfl ?_
    rw [hz]
    refine mm_ic_ne ok_Md_tick 101 rfl (by decide) (fun c => ?_) (fun c => ?_)
    · exact absurd hp c
    refine mm_blk (pc' := 89) ok_Md_tick 1 _ _ _ rfl ?_
    refine mm_getf ok_Md_tick (mp_0 w) rfl f_Md_19 rfl ?_
    refine mm_blk (pc' := 97) ok_Md_tick 3 _ _ _ rfl ?_
    refine mm_cVE ok_Md_tick (As := [.int (nI i)]) rfl k_Md_tick_120 (mp_0 w) rfl rfl rfl (Nat.le_of_ble_eq_true rfl) (c_Md_numberIn w ok hlt) ?_
    refine mm_iast (j := i) ok_Md_tick (mp_5 w) rfl rfl (by omega) (by rw [List.length_map, List.length_range]; exact (by omega)) ?_
    refine mm_V_heap (mu_5 w (by omega) _) ?_
    have hz2 : m_s t 5 i (m_num t i) 0 19 = p := hz
    refine mm_blk (pc' := 107) ok_Md_tick 4 _ _ _ rfl ?_
    refine mm_ic_ge ok_Md_tick 147 rfl (by decide) (fun c107 => ?_) (fun c107 => ?_)
    · -- 147 t
      refine mm_blk (pc' := 41) ok_Md_tick 2 _ _ _ rfl ?_
      rw [nI_1]
      refine mm_V_pick [0, 1, 2, 3, 4] rfl ?_
      have e9 : m_tk1 p i t = m_s t 5 i (m_num t i) := by unfold m_tk1; rw [if_neg (by rw [hp]; decide), if_neg (by rw [hp]; decide), if_pos hp]
      refine ih (i + 1) (m_s t 5 i (m_num t i)) (same_ok (same_w t (n := 5) (by decide) _) ok) (hz2) (by omega) ?_
      rw [← e9]
      exact kk
    · -- 110 f
      refine mm_blk (pc' := 111) ok_Md_tick 1 _ _ _ rfl ?_
      refine mm_getf ok_Md_tick (mp_0 w) rfl f_Md_69 rfl ?_
      refine mm_blk (pc' := 116) ok_Md_tick 1 _ _ _ rfl ?_
      rw [hz2]
      refine mm_ic_ne ok_Md_tick 147 rfl (by decide) (fun c => ?_) (fun c => ?_)
      rotate_left
      · exact absurd c (by rw [hp]; decide)
      refine mm_blk (pc' := 41) ok_Md_tick 2 _ _ _ rfl ?_
      rw [nI_1]
      refine mm_V_pick [0, 1, 2, 3, 4] rfl ?_
      have e9 : m_tk1 p i t = m_s t 5 i (m_num t i) := by unfold m_tk1; rw [if_neg (by rw [hp]; decide), if_neg (by rw [hp]; decide), if_pos hp]
      refine ih (i + 1) (m_s t 5 i (m_num t i)) (same_ok (same_w t (n := 5) (by decide) _) ok) (hz2) (by omega) ?_
      rw [← e9]
      exact kk
set_option maxHeartbeats 1000000 in
theorem l_Md_tick_o (w : mm_inj mdom K) {p : Int32} (hn3 : ¬ p = 3) (hn8 : ¬ p = 8) (hn15 : ¬ p = 15) (hn10 : ¬ p = 10) : ∀ (n i : Nat) (t : mS), m_ok nd nn t → t 0 19 = p → i + n = nd → mm_V G M_Md_tick 153 [(0, .ref (K 0)), (1, .int tms), (2, .int tdi), (3, .int goes), (4, .int (nI nd))] [] (MP K (up (m_tk1 p) n i t) h) 0 0 Q → mm_V G M_Md_tick 41 [(0, .ref (K 0)), (1, .int tms), (2, .int tdi), (3, .int goes), (4, .int (nI i))] [] (MP K t h) 0 0 Q := by
  intro n
  induction n with
  | zero =>
    intro i t ok hz hi kk
    have h4 := ok.1
    refine mm_blk (pc' := 44) ok_Md_tick 2 _ _ _ rfl ?_
    refine mm_getf ok_Md_tick (mp_0 w) rfl f_Md_66 rfl ?_
    rw [ok.2.2.1]
    refine mm_ic_ge ok_Md_tick 153 rfl (by decide) (fun c => ?_) (fun c => ?_)
    rotate_left
    · exact absurd (nI_le (by omega) (by omega)) c
    rw [show i = nd by omega]
    exact kk
  | succ n ih =>
    intro i t ok hz hi kk
    have h4 := ok.1
    have hlt : i < nd := by omega
    refine mm_blk (pc' := 44) ok_Md_tick 2 _ _ _ rfl ?_
    refine mm_getf ok_Md_tick (mp_0 w) rfl f_Md_66 rfl ?_
    rw [ok.2.2.1]
    refine mm_ic_ge ok_Md_tick 153 rfl (by decide) (fun c => ?_) (fun c => ?_)
    · exact absurd c (nI_ge (by omega) (by omega))
    refine mm_blk (pc' := 51) ok_Md_tick 1 _ _ _ rfl ?_
    refine mm_getf ok_Md_tick (mp_0 w) rfl f_Md_69 rfl ?_
    refine mm_blk (pc' := 55) ok_Md_tick 1 _ _ _ rfl ?_
    rw [hz]
    refine mm_ic_ne ok_Md_tick 64 rfl (by decide) (fun c => ?_) (fun c => ?_)
    rotate_left
    · exact absurd c (hn3)
    refine mm_blk (pc' := 65) ok_Md_tick 1 _ _ _ rfl ?_
    refine mm_getf ok_Md_tick (mp_0 w) rfl f_Md_69 rfl ?_
    refine mm_blk (pc' := 70) ok_Md_tick 1 _ _ _ rfl ?_
    rw [hz]
    refine mm_ic_ne ok_Md_tick 79 rfl (by decide) (fun c => ?_) (fun c => ?_)
    rotate_left
    · exact absurd c (hn8)
    refine mm_blk (pc' := 80) ok_Md_tick 1 _ _ _ rfl ?_
    refine mm_getf ok_Md_tick (mp_0 w) rfl f_Md_69 rfl ?_
    refine mm_blk (pc' := 85) ok_Md_tick 1 _ _ _ rfl ?_
    rw [hz]
    refine mm_ic_ne ok_Md_tick 101 rfl (by decide) (fun c => ?_) (fun c => ?_)
    rotate_left
    · exact absurd c (hn15)
    refine mm_blk (pc' := 107) ok_Md_tick 4 _ _ _ rfl ?_
    refine mm_ic_ge ok_Md_tick 147 rfl (by decide) (fun c107 => ?_) (fun c107 => ?_)
    · -- 147 t
      refine mm_blk (pc' := 41) ok_Md_tick 2 _ _ _ rfl ?_
      rw [nI_1]
      refine mm_V_pick [0, 1, 2, 3, 4] rfl ?_
      have e9 : m_tk1 p i t = t := by unfold m_tk1; rw [if_neg hn3, if_neg hn8, if_neg hn15, if_neg hn10]
      refine ih (i + 1) (t) (same_ok (same_rf t) ok) (hz) (by omega) ?_
      rw [← e9]
      exact kk
    · -- 110 f
      refine mm_blk (pc' := 111) ok_Md_tick 1 _ _ _ rfl ?_
      refine mm_getf ok_Md_tick (mp_0 w) rfl f_Md_69 rfl ?_
      refine mm_blk (pc' := 116) ok_Md_tick 1 _ _ _ rfl ?_
      rw [hz]
      refine mm_ic_ne ok_Md_tick 147 rfl (by decide) (fun c => ?_) (fun c => ?_)
      rotate_left
      · exact absurd c (hn10)
      refine mm_blk (pc' := 41) ok_Md_tick 2 _ _ _ rfl ?_
      rw [nI_1]
      refine mm_V_pick [0, 1, 2, 3, 4] rfl ?_
      have e9 : m_tk1 p i t = t := by unfold m_tk1; rw [if_neg hn3, if_neg hn8, if_neg hn15, if_neg hn10]
      refine ih (i + 1) (t) (same_ok (same_rf t) ok) (hz) (by omega) ?_
      rw [← e9]
      exact kk
set_option maxHeartbeats 1000000 in
theorem l_Md_tickI (w : mm_inj mdom K) {i : Nat} (hi4 : i < 4) : ∀ (n k : Nat) (t : mS), t 0 19 = 10 → k + n = 4 → mm_V G M_Md_tick 147 [(0, .ref (K 0)), (1, .int tms), (2, .int tdi), (3, .int goes), (4, .int (nI i))] [] (MP K (up (fun k t => m_s t 6 (4 * i + k) (if k = 0 then 1 else 0)) n k t) h) 0 0 Q → mm_V G M_Md_tick 104 [(0, .ref (K 0)), (1, .int tms), (2, .int tdi), (3, .int goes), (4, .int (nI i)), (5, .int (nI k))] [] (MP K t h) 0 0 Q := by
  intro n
  induction n with
  | zero =>
    intro k t hz hk kk
    refine mm_blk (pc' := 107) ok_Md_tick 2 _ _ _ rfl ?_
    refine mm_ic_ge ok_Md_tick 147 rfl (by decide) (fun c => ?_) (fun c => ?_)
    rotate_left
    · exact absurd (show nI 4 ≤ nI k from nI_le (by omega) (by omega)) c
    refine mm_V_pick [0, 1, 2, 3, 4] rfl ?_
    exact kk
  | succ n ih =>
    intro k t hz hk kk
    have ek : (if nI k = 0 then (1 : Int32) else 0) = if k = 0 then 1 else 0 := by
      by_cases e : k = 0
      · rw [if_pos e, e]; rfl
      · rw [if_neg e, if_neg (nI_ne0 (by omega) (by omega))]
    refine mm_blk (pc' := 107) ok_Md_tick 2 _ _ _ rfl ?_
    refine mm_ic_ge ok_Md_tick 147 rfl (by decide) (fun c => ?_) (fun c => ?_)
    · exact absurd c (show ¬ nI 4 ≤ nI k from nI_ge (by omega) (by omega))
    refine mm_blk (pc' := 111) ok_Md_tick 1 _ _ _ rfl ?_
    refine mm_getf ok_Md_tick (mp_0 w) rfl f_Md_69 rfl ?_
    refine mm_blk (pc' := 116) ok_Md_tick 1 _ _ _ rfl ?_
    rw [hz]
    refine mm_ic_ne ok_Md_tick 147 rfl (by decide) (fun c => ?_) (fun c => ?_)
    · exact absurd rfl c
    refine mm_blk (pc' := 120) ok_Md_tick 1 _ _ _ rfl ?_
    refine mm_getf ok_Md_tick (mp_0 w) rfl f_Md_22 rfl ?_
    refine mm_blk (pc' := 132) ok_Md_tick 6 _ _ _ rfl ?_
    refine mm_ti_ne ok_Md_tick 139 rfl (by decide) rfl rfl rfl (by decide) ?_
    rw [ek]
    refine mm_iast (j := 4 * i + k) ok_Md_tick (mp_6 w) rfl (ix4 _ _) (by omega) (by rw [List.length_map, List.length_range]; exact (by omega)) ?_
    refine mm_V_heap (mu_6 w (by omega) _) ?_
    refine mm_blk (pc' := 104) ok_Md_tick 2 _ _ _ rfl ?_
    rw [nI_1]
    exact ih (k + 1) (m_s t 6 (4 * i + k) _) hz (by omega) kk
set_option maxHeartbeats 1000000 in
theorem l_Md_tick_10 (w : mm_inj mdom K) {p : Int32} (hp : p = 10) : ∀ (n i : Nat) (t : mS), m_ok nd nn t → t 0 19 = p → i + n = nd → mm_V G M_Md_tick 153 [(0, .ref (K 0)), (1, .int tms), (2, .int tdi), (3, .int goes), (4, .int (nI nd))] [] (MP K (up (m_tk1 p) n i t) h) 0 0 Q → mm_V G M_Md_tick 41 [(0, .ref (K 0)), (1, .int tms), (2, .int tdi), (3, .int goes), (4, .int (nI i))] [] (MP K t h) 0 0 Q := by
  intro n
  induction n with
  | zero =>
    intro i t ok hz hi kk
    have h4 := ok.1
    refine mm_blk (pc' := 44) ok_Md_tick 2 _ _ _ rfl ?_
    refine mm_getf ok_Md_tick (mp_0 w) rfl f_Md_66 rfl ?_
    rw [ok.2.2.1]
    refine mm_ic_ge ok_Md_tick 153 rfl (by decide) (fun c => ?_) (fun c => ?_)
    rotate_left
    · exact absurd (nI_le (by omega) (by omega)) c
    rw [show i = nd by omega]
    exact kk
  | succ n ih =>
    intro i t ok hz hi kk
    have h4 := ok.1
    have hlt : i < nd := by omega
    refine mm_blk (pc' := 44) ok_Md_tick 2 _ _ _ rfl ?_
    refine mm_getf ok_Md_tick (mp_0 w) rfl f_Md_66 rfl ?_
    rw [ok.2.2.1]
    refine mm_ic_ge ok_Md_tick 153 rfl (by decide) (fun c => ?_) (fun c => ?_)
    · exact absurd c (nI_ge (by omega) (by omega))
    refine mm_blk (pc' := 51) ok_Md_tick 1 _ _ _ rfl ?_
    refine mm_getf ok_Md_tick (mp_0 w) rfl f_Md_69 rfl ?_
    refine mm_blk (pc' := 55) ok_Md_tick 1 _ _ _ rfl ?_
    rw [hz]
    refine mm_ic_ne ok_Md_tick 64 rfl (by decide) (fun c => ?_) (fun c => ?_)
    rotate_left
    · exact absurd c (by rw [hp]; decide)
    refine mm_blk (pc' := 65) ok_Md_tick 1 _ _ _ rfl ?_
    refine mm_getf ok_Md_tick (mp_0 w) rfl f_Md_69 rfl ?_
    refine mm_blk (pc' := 70) ok_Md_tick 1 _ _ _ rfl ?_
    rw [hz]
    refine mm_ic_ne ok_Md_tick 79 rfl (by decide) (fun c => ?_) (fun c => ?_)
    rotate_left
    · exact absurd c (by rw [hp]; decide)
    refine mm_blk (pc' := 80) ok_Md_tick 1 _ _ _ rfl ?_
    refine mm_getf ok_Md_tick (mp_0 w) rfl f_Md_69 rfl ?_
    refine mm_blk (pc' := 85) ok_Md_tick 1 _ _ _ rfl ?_
    rw [hz]
    refine mm_ic_ne ok_Md_tick 101 rfl (by decide) (fun c => ?_) (fun c => ?_)
    rotate_left
    · exact absurd c (by rw [hp]; decide)
    refine mm_blk (pc' := 104) ok_Md_tick 2 _ _ _ rfl ?_
    refine l_Md_tickI w (by omega) 4 0 t (by rw [hz, hp]) (by omega) ?_
    refine mm_blk (pc' := 41) ok_Md_tick 2 _ _ _ rfl ?_
    rw [nI_1]
    refine mm_V_pick [0, 1, 2, 3, 4] rfl ?_
    have e9 : m_tk1 p i t = m_one i t := by unfold m_tk1; rw [if_neg (by rw [hp]; decide), if_neg (by rw [hp]; decide), if_neg (by rw [hp]; decide), if_pos hp]
    refine ih (i + 1) (m_one i t) (same_ok (same_one i t) ok) (by rw [one_0]; exact hz) (by omega) ?_
    rw [← e9]
    exact kk
theorem l_Md_tick (w : mm_inj mdom K) {p : Int32} (ok : m_ok nd nn t) (hz : t 0 19 = p) (kk : mm_V G M_Md_tick 153 [(0, .ref (K 0)), (1, .int tms), (2, .int tdi), (3, .int goes), (4, .int (nI nd))] [] (MP K (up (m_tk1 p) nd 0 t) h) 0 0 Q) : mm_V G M_Md_tick 41 [(0, .ref (K 0)), (1, .int tms), (2, .int tdi), (3, .int goes), (4, .int (nI 0))] [] (MP K t h) 0 0 Q := by
  by_cases h3 : p = 3
  · exact l_Md_tick_3 w h3 nd 0 t ok hz (by omega) kk
  · by_cases h8 : p = 8
    · exact l_Md_tick_8 w h8 nd 0 t ok hz (by omega) kk
    · by_cases h15 : p = 15
      · exact l_Md_tick_15 w h15 nd 0 t ok hz (by omega) kk
      · by_cases h10 : p = 10
        · exact l_Md_tick_10 w h10 nd 0 t ok hz (by omega) kk
        · exact l_Md_tick_o w h3 h8 h15 h10 nd 0 t ok hz (by omega) kk
set_option maxHeartbeats 2000000 in
theorem c_Md_tick (w : mm_inj mdom K) (ok : m_ok nd nn t) {k : Nat} (hk : k < 16) (hz : t 0 19 = nI k) (tms tdi : Int32) : mm_C G M_Md_tick [.ref (K 0), .int tms, .int tdi] (MP K t h) 0 0 (mm_E (some (.int (m_tick nd tms tdi t).1)) (MP K (m_tick nd tms tdi t).2 h)) := by
  have hk9 : m_ps t = k := by unfold m_ps; rw [hz]; exact nI_clamp (by omega)
  unfold m_tick
  rw [hk9]
  have hs0 : (m_shf nd k tdi t).2 0 = t 0 := by
    unfold m_shf
    repeat' split
    · exact sh_0 1 nd 0 (tdi, t)
    · exact sh_0 0 nd 0 (tdi, t)
    · rfl
  have ok2 := same_ok (same_shf nd k tdi t) ok
  have hz2 : (m_shf nd k tdi t).2 0 19 = nI k := by rw [hs0]; exact hz
  have fin : mm_V G M_Md_tick 41 [(0, .ref (K 0)), (1, .int tms), (2, .int tdi), (3, .int (m_shf nd k tdi t).1), (4, .int (nI 0))] [] (MP K (m_shf nd k tdi t).2 h) 0 0 (mm_E (some (.int (m_shf nd k tdi t).1)) (MP K (m_fin nd k tms (up (m_tk1 (nI k)) nd 0 (m_shf nd k tdi t).2)) h)) := by
    refine l_Md_tick w ok2 hz2 ?_
    refine t_Md_tick w (same_ok (same_up (fun i t => same_tk1 _ i t) _ _ _) ok2) hk ?_
    rw [up_0 (fun i t => tk1_0 _ i t)]
    exact hz2
  generalize mm_E (some (.int (m_shf nd k tdi t).1)) (MP K (m_fin nd k tms (up (m_tk1 (nI k)) nd 0 (m_shf nd k tdi t).2)) h) = Q9 at fin ⊢
  refine mm_C_of (by decide +kernel) rfl (Nat.le_of_ble_eq_true rfl) rfl ?_
  by_cases k4 : k = 4
  · have e4 : m_shf nd k tdi t = up (m_sh1 1) nd 0 (tdi, t) := if_pos k4
    rw [e4] at fin
    subst k4
    refine mm_blk (pc' := 3) ok_Md_tick 3 _ _ _ rfl ?_
    refine mm_getf ok_Md_tick (mp_0 w) rfl f_Md_69 rfl ?_
    refine mm_blk (pc' := 7) ok_Md_tick 1 _ _ _ rfl ?_
    rw [hz]
    refine mm_ic_eq ok_Md_tick 19 rfl (by decide) (fun c => ?_) (fun c => ?_)
    rotate_left
    · exact absurd rfl c
    refine mm_blk (pc' := 21) ok_Md_tick 2 _ _ _ rfl ?_
    refine mm_getf ok_Md_tick (mp_0 w) rfl f_Md_69 rfl ?_
    refine mm_blk (pc' := 25) ok_Md_tick 1 _ _ _ rfl ?_
    rw [hz]
    refine mm_ic_ne ok_Md_tick 32 rfl (by decide) (fun c => ?_) (fun c => ?_)
    · exact absurd rfl c
    refine mm_blk (pc' := 34) ok_Md_tick 3 _ _ _ rfl ?_
    refine mm_cVE ok_Md_tick (As := [.int 1, .int tdi]) rfl k_Md_tick_110 (mp_0 w) rfl rfl rfl (Nat.le_of_ble_eq_true rfl) (c_Md_shiftAll w ok 1 tdi) ?_
    refine mm_blk (pc' := 41) ok_Md_tick 3 _ _ _ rfl ?_
    exact fin
  · by_cases k11 : k = 11
    · have e11 : m_shf nd k tdi t = up (m_sh1 0) nd 0 (tdi, t) := by unfold m_shf; rw [if_neg k4, if_pos k11]
      rw [e11] at fin
      subst k11
      refine mm_blk (pc' := 3) ok_Md_tick 3 _ _ _ rfl ?_
      refine mm_getf ok_Md_tick (mp_0 w) rfl f_Md_69 rfl ?_
      refine mm_blk (pc' := 7) ok_Md_tick 1 _ _ _ rfl ?_
      rw [hz]
      refine mm_ic_eq ok_Md_tick 19 rfl (by decide) (fun c => ?_) (fun c => ?_)
      · exact absurd c (by decide)
      refine mm_blk (pc' := 11) ok_Md_tick 1 _ _ _ rfl ?_
      refine mm_getf ok_Md_tick (mp_0 w) rfl f_Md_69 rfl ?_
      refine mm_blk (pc' := 16) ok_Md_tick 1 _ _ _ rfl ?_
      rw [hz]
      refine mm_ic_ne ok_Md_tick 38 rfl (by decide) (fun c => ?_) (fun c => ?_)
      · exact absurd rfl c
      refine mm_blk (pc' := 21) ok_Md_tick 2 _ _ _ rfl ?_
      refine mm_getf ok_Md_tick (mp_0 w) rfl f_Md_69 rfl ?_
      refine mm_blk (pc' := 25) ok_Md_tick 1 _ _ _ rfl ?_
      rw [hz]
      refine mm_ic_ne ok_Md_tick 32 rfl (by decide) (fun c => ?_) (fun c => ?_)
      rotate_left
      · exact absurd c (by decide)
      refine mm_blk (pc' := 34) ok_Md_tick 2 _ _ _ rfl ?_
      refine mm_cVE ok_Md_tick (As := [.int 0, .int tdi]) rfl k_Md_tick_110 (mp_0 w) rfl rfl rfl (Nat.le_of_ble_eq_true rfl) (c_Md_shiftAll w ok 0 tdi) ?_
      refine mm_blk (pc' := 41) ok_Md_tick 3 _ _ _ rfl ?_
      exact fin
    · have eo : m_shf nd k tdi t = (0, t) := by unfold m_shf; rw [if_neg k4, if_neg k11]
      rw [eo] at fin
      refine mm_blk (pc' := 3) ok_Md_tick 3 _ _ _ rfl ?_
      refine mm_getf ok_Md_tick (mp_0 w) rfl f_Md_69 rfl ?_
      refine mm_blk (pc' := 7) ok_Md_tick 1 _ _ _ rfl ?_
      rw [hz]
      refine mm_ic_eq ok_Md_tick 19 rfl (by decide) (fun c => ?_) (fun c => ?_)
      · exact absurd ((nI_eq (b := 4) (by omega) (by decide)).mp c) k4
      refine mm_blk (pc' := 11) ok_Md_tick 1 _ _ _ rfl ?_
      refine mm_getf ok_Md_tick (mp_0 w) rfl f_Md_69 rfl ?_
      refine mm_blk (pc' := 16) ok_Md_tick 1 _ _ _ rfl ?_
      rw [hz]
      refine mm_ic_ne ok_Md_tick 38 rfl (by decide) (fun c => ?_) (fun c => ?_)
      rotate_left
      · exact absurd ((nI_eq (b := 11) (by omega) (by decide)).mp c) k11
      refine mm_blk (pc' := 41) ok_Md_tick 2 _ _ _ rfl ?_
      exact fin
end MD3
