/-! the reference: find, test -/
def m_fw (b : Nat) (bit wd : Int32) : Int32 := if b % 32 = 0 then bit else wd ||| bit <<< (nI (b % 32) &&& 31)
def m_fm (mo wd : Int32) : Int32 := if mo = 0 then 0 else if wd = -1 then 0 else 1
def m_ff (mo wd : Int32) (t : mS) : mS := if mo = 0 then t else if t 0 21 < 4 then m_s (m_s t 22 (t 0 21).toNatClampNeg wd) 0 21 (t 0 21 + 1) else t
def m_ft (b : Nat) : Int32 := if b = 159 then 1 else 0
def m_fs (nd b : Nat) (x : Int32 × Int32 × mS) : Int32 × Int32 × mS :=
  if b % 32 = 31 then (m_fm x.1 (m_fw b (m_tick nd (m_ft b) 1 x.2.2).1 x.2.1), m_fw b (m_tick nd (m_ft b) 1 x.2.2).1 x.2.1, m_ff (m_fm x.1 (m_fw b (m_tick nd (m_ft b) 1 x.2.2).1 x.2.1)) (m_fw b (m_tick nd (m_ft b) 1 x.2.2).1 x.2.1) (m_tk nd (m_ft b) 1 x.2.2))
  else (x.1, m_fw b (m_tick nd (m_ft b) 1 x.2.2).1 x.2.1, m_tk nd (m_ft b) 1 x.2.2)
def m_fnd (nd : Nat) (t : mS) : mS := m_lv nd (up (m_fs nd) 160 0 (1, 0, m_s (m_com nd (m_go6 nd (m_s t 0 0 0))) 0 21 0)).2.2
def m_rbit (t : mS) (r : Int32) (c : Nat) : Int32 := if t 13 c < 0 then 0 else if t 10 c = 0 then 0 else ((t 13 c + 1) >>> (r &&& 31)) &&& 1
def m_rt (t : mS) (d c : Nat) : Int32 := if d = 0 ∧ c + 1 = m_cl t 0 then 1 else 0
def m_rs (takes r n dv bit : Int32) (t : mS) : mS := if takes = 0 then t else if n < 0 then t else if dv = 0 then m_s t 18 n.toNatClampNeg (t 18 n.toNatClampNeg ||| bit <<< (r &&& 31)) else t
def m_rc (nd : Nat) (r takes : Int32) (d c : Nat) (t : mS) : mS := m_rs takes r (t 13 (6 * d + c)) (t 10 (6 * d + c)) (m_tick nd (m_rt t d c) (m_rbit t r (6 * d + c)) t).1 (m_tk nd (m_rt t d c) (m_rbit t r (6 * d + c)) t)
def m_rd (nd : Nat) (r takes : Int32) : Nat → mS → mS
  | 0, t => t
  | d + 1, t => m_rd nd r takes d (up (m_rc nd r takes d) (m_cl t d) 0 t)
def m_rnd (nd : Nat) (r takes : Int32) (t : mS) : mS := m_lv nd (m_rd nd r takes nd (m_com nd t))
def m_tl (nd nn : Nat) : Nat → Nat → mS → mS
  | 0, _, t => t
  | n + 1, r, t => if 2 ^ r ≤ nn + 1 then m_tl nd nn n (r + 1) (m_rnd nd (nI r) 1 (m_rnd nd (nI r) 0 t)) else t
def m_ex (nd all : Nat) (t : mS) : mS := up (fun b t => m_tk nd (if b + 1 = all then 1 else 0) 0 t) all 0 t
def m_fg (nn : Nat) (t : mS) : mS := up (fun n t => m_s t 18 n 0) nn 0 t
def m_cnt (nn : Nat) (t : mS) : Int32 := up (fun n a => if t 18 n = nI n + 1 then a else a + 1) nn 0 0
def m_tst (nd nn all : Nat) (t : mS) : mS := m_s (m_tl nd nn 4 0 (m_fg nn (m_lv nd (m_ex nd all (m_com nd (m_tk nd 1 0 (m_go6 nd (m_s t 0 0 0)))))))) 0 23 1
def m_fd (t : mS) : Prop := ∃ f, f ≤ 4 ∧ t 0 21 = nI f
theorem tk_fd {nd : Nat} {t : mS} (f : m_fd t) (b x : Int32) : m_fd (m_tk nd b x t) := by
  obtain ⟨f, h1, h2⟩ := f
  exact ⟨f, h1, by rw [← h2]; exact (same_tick nd b x t).2 21 (by decide) (by decide)⟩
theorem ok_18 {nd nn : Nat} {t : mS} (ok : m_ok nd nn t) (k : Nat) (x : Int32) : m_ok nd nn (m_s t 18 k x) := ok
theorem ok_22 {nd nn : Nat} {t : mS} (ok : m_ok nd nn t) (k : Nat) (x : Int32) : m_ok nd nn (m_s t 22 k x) := ok
theorem go6_good {nd nn : Nat} {t : mS} (g : m_good nd nn t) : m_good nd nn (m_go6 nd t) := tk_good (tk_good (tk_good (tk_good (tk_good (tk_good g _ _) _ _) _ _) _ _) _ _) _ _
theorem com_good {nd nn : Nat} {t : mS} (g : m_good nd nn t) : m_good nd nn (m_com nd t) := tk_good (tk_good (tk_good g _ _) _ _) _ _
theorem lv_good {nd nn : Nat} {t : mS} (g : m_good nd nn t) : m_good nd nn (m_lv nd t) := tk_good (tk_good g _ _) _ _
theorem ff_good {nd nn : Nat} {t : mS} (g : m_good nd nn t) (f : m_fd t) (mo wd : Int32) : m_good nd nn (m_ff mo wd t) ∧ m_fd (m_ff mo wd t) := by
  unfold m_ff
  split
  · exact ⟨g, f⟩
  · split
    · rename_i h4
      obtain ⟨f, h1, h2⟩ := f
      refine ⟨⟨ok_s0 (ok_22 g.1 _ _) (by decide) (by decide) _, g.2⟩, f + 1, ?_, ?_⟩
      · rw [h2] at h4
        have := (nI_ltI (b := 4) (by omega) (by decide)).mp h4
        omega
      · rw [m_s_at, h2, nI_1]
    · exact ⟨g, f⟩
theorem fs_good {nd nn : Nat} (b : Nat) {x : Int32 × Int32 × mS} (g : m_good nd nn x.2.2) (f : m_fd x.2.2) : m_good nd nn (m_fs nd b x).2.2 ∧ m_fd (m_fs nd b x).2.2 := by
  unfold m_fs
  split
  · exact ff_good (tk_good g _ _) (tk_fd f _ _) _ _
  · exact ⟨tk_good g _ _, tk_fd f _ _⟩
theorem rs_good {nd nn : Nat} {t : mS} (g : m_good nd nn t) (a r n v b : Int32) : m_good nd nn (m_rs a r n v b t) := by
  unfold m_rs
  repeat' split
  · exact g
  · exact g
  · exact ⟨ok_18 g.1 _ _, g.2⟩
  · exact g
theorem rs_same (a r n v b : Int32) (t : mS) : ∀ k, k ≠ 18 → m_rs a r n v b t k = t k := by
  intro k hk
  unfold m_rs
  repeat' split
  · rfl
  · rfl
  · exact m_s_ne _ _ _ hk
  · rfl
theorem rc_good {nd nn : Nat} {t : mS} (g : m_good nd nn t) (r takes : Int32) (d c : Nat) : m_good nd nn (m_rc nd r takes d c t) := rs_good (tk_good g _ _) _ _ _ _ _
theorem rc_same (nd : Nat) (r takes : Int32) (d c : Nat) (t : mS) {k : Nat} (h18 : k ≠ 18) (hk : k ∉ [0, 5, 6, 7, 8, 9, 11]) : m_rc nd r takes d c t k = t k := by
  unfold m_rc
  rw [rs_same _ _ _ _ _ _ k h18]
  exact (same_tick nd _ _ t).1 k hk
section MD6
variable {G : mm_G} {K : Nat → Nat} {t : mS} {h : mm_Hp} {nd nn : Nat} {Q : mm_O → mm_Hp → Prop}

set_option maxHeartbeats 1000000 in
theorem c_Md_find_x (w : mm_inj mdom K) (e : t 0 1 = 0) : mm_C G M_Md_find [.ref (K 0)] (MP K t h) 0 0 (mm_E (some (.int 0)) (MP K (m_s t 0 0 1) h)) := by
  refine mm_C_of (by decide +kernel) rfl (Nat.le_of_ble_eq_true rfl) rfl ?_
  refine mm_blk (pc' := 2) ok_Md_find 2 _ _ _ rfl ?_
  refine mm_getf ok_Md_find (mp_0 w) rfl f_Md_66 rfl ?_
  refine mm_if_ne ok_Md_find 12 rfl (by decide) (fun c => ?_) (fun c => ?_)
  · exact absurd e c
  refine mm_blk (pc' := 13) ok_Md_find 2 _ _ _ rfl ?_
  refine mm_putf ok_Md_find (mp_0 w) rfl f_Md_62 (Or.inl rfl) (mm_fit_I _) ?_
  refine mm_V_heap (mu_0 w 0 _) ?_
  refine mm_blk (pc' := 17) ok_Md_find 1 _ _ _ rfl ?_
  refine mm_getf ok_Md_find (mp_0 w) rfl f_Md_62 rfl ?_
  refine mm_if_le ok_Md_find 25 rfl (by decide) (fun c => ?_) (fun c => ?_)
  · exact absurd (show (1 : Int32) ≤ 0 from c) (by decide)
  refine mm_blk (pc' := 24) ok_Md_find 1 _ _ _ rfl ?_
  exact mm_iret ok_Md_find rfl rfl ⟨rfl, rfl⟩
set_option maxHeartbeats 4000000 in
theorem l_Md_find (w : mm_inj mdom K) : ∀ (n b : Nat) (mo wd : Int32) (t : mS), m_good nd nn t → m_fd t → b + n = 160 → mm_V G M_Md_find 45 [(0, .ref (K 0)), (1, .int mo), (2, .int wd), (3, .int (nI b))] [] (MP K t h) 0 0 (mm_E (some (.int (m_lv nd (up (m_fs nd) n b (mo, wd, t)).2.2 0 21))) (MP K (m_lv nd (up (m_fs nd) n b (mo, wd, t)).2.2) h)) := by
  intro n
  induction n with
  | zero =>
    intro b mo wd t g f hi
    refine mm_blk (pc' := 49) ok_Md_find 2 _ _ _ rfl ?_
    refine mm_ic_ge ok_Md_find 155 rfl (by decide) (fun c => ?_) (fun c => ?_)
    rotate_left
    · exact absurd (show nI 160 ≤ nI b from nI_le (by omega) (by omega)) c
    refine mm_blk (pc' := 156) ok_Md_find 1 _ _ _ rfl ?_
    refine mm_cVE ok_Md_find (As := []) rfl k_Md_find_137 (mp_0 w) rfl rfl rfl (Nat.le_of_ble_eq_true rfl) (c_Md_leave w g) ?_
    refine mm_blk (pc' := 160) ok_Md_find 1 _ _ _ rfl ?_
    refine mm_getf ok_Md_find (mp_0 w) rfl f_Md_75 rfl ?_
    exact mm_iret ok_Md_find rfl rfl ⟨rfl, rfl⟩
  | succ n ih =>
    intro b mo wd t g f hi
    have eb : (if nI b = 159 then (1 : Int32) else 0) = m_ft b := by
      unfold m_ft
      by_cases e : b = 159
      · rw [if_pos e, e]; rfl
      · rw [if_neg e, if_neg (show ¬ nI b = 159 from fun z => e ((nI_eq (b := 159) (by omega) (by decide)).mp z))]
    by_cases h0 : b % 32 = 0
    · skip
      refine mm_blk (pc' := 49) ok_Md_find 2 _ _ _ rfl ?_
      refine mm_ic_ge ok_Md_find 155 rfl (by decide) (fun c => ?_) (fun c => ?_)
      · exact absurd c (show ¬ nI 160 ≤ nI b from nI_ge (by omega) (by omega))
      refine mm_blk (pc' := 57) ok_Md_find 3 _ _ _ rfl ?_
      refine mm_tc_ne ok_Md_find 64 rfl (by decide) rfl rfl rfl (by decide) ?_
      refine mm_blk (pc' := 66) ok_Md_find 1 _ _ _ rfl ?_
      rw [eb]
      refine mm_cVE ok_Md_find (As := [.int (m_ft b), .int 1]) rfl k_Md_find_127 (mp_0 w) rfl rfl rfl (Nat.le_of_ble_eq_true rfl) (c_tk w g (m_ft b) 1) ?_
      obtain ⟨bit, hbit⟩ : ∃ bit, bit = (m_tick nd (m_ft b) 1 t).1 := ⟨_, rfl⟩
      obtain ⟨T, hT⟩ : ∃ T, T = m_tk nd (m_ft b) 1 t := ⟨_, rfl⟩
      rw [← hbit, ← hT]
      have fT : m_fd T := by rw [hT]; exact tk_fd f _ _
      obtain ⟨fc, hf4, hfe⟩ := fT
      refine mm_blk (pc' := 74) ok_Md_find 3 _ _ _ rfl ?_
      refine mm_irem ok_Md_find rfl (by decide) ?_
      rw [show nI b - nI b / 32 * 32 = nI (b % 32) from pk_rem (d := 32) (by omega) (by decide) (by decide)]
      refine mm_if_ne ok_Md_find 83 rfl (by decide) (fun c => ?_) (fun c => ?_)
      · exact absurd (show nI (b % 32) = 0 by rw [h0]; rfl) c
      refine mm_blk (pc' := 96) ok_Md_find 5 _ _ _ rfl ?_
      refine mm_irem ok_Md_find rfl (by decide) ?_
      rw [show nI b - nI b / 32 * 32 = nI (b % 32) from pk_rem (d := 32) (by omega) (by decide) (by decide)]
      refine mm_blk (pc' := 99) ok_Md_find 1 _ _ _ rfl ?_
      refine mm_ic_ne ok_Md_find 149 rfl (by decide) (fun c => ?_) (fun c => ?_)
      rotate_left
      · exact absurd ((nI_eq (b := 31) (by omega) (by decide)).mp c) (by omega)
      refine mm_blk (pc' := 45) ok_Md_find 2 _ _ _ rfl ?_
      rw [nI_1]
      refine mm_V_pick [0, 1, 2, 3] rfl ?_
      have e9 : m_fs nd b (mo, wd, t) = (mo, bit, T) := by unfold m_fs m_fw; rw [if_neg (show ¬ b % 32 = 31 by omega), if_pos h0, ← hbit, ← hT]
      have gf := fs_good b (x := (mo, wd, t)) g f
      show mm_V _ _ _ _ _ _ _ _ (mm_E (some (.int (m_lv nd (up (m_fs nd) n (b + 1) (m_fs nd b (mo, wd, t))).2.2 0 21))) (MP K (m_lv nd (up (m_fs nd) n (b + 1) (m_fs nd b (mo, wd, t))).2.2) h))
      rw [e9] at gf ⊢
      exact ih (b + 1) _ _ _ gf.1 gf.2 (by omega)
    · by_cases h31 : b % 32 = 31
      · skip
        refine mm_blk (pc' := 49) ok_Md_find 2 _ _ _ rfl ?_
        refine mm_ic_ge ok_Md_find 155 rfl (by decide) (fun c => ?_) (fun c => ?_)
        · exact absurd c (show ¬ nI 160 ≤ nI b from nI_ge (by omega) (by omega))
        refine mm_blk (pc' := 57) ok_Md_find 3 _ _ _ rfl ?_
        refine mm_tc_ne ok_Md_find 64 rfl (by decide) rfl rfl rfl (by decide) ?_
        refine mm_blk (pc' := 66) ok_Md_find 1 _ _ _ rfl ?_
        rw [eb]
        refine mm_cVE ok_Md_find (As := [.int (m_ft b), .int 1]) rfl k_Md_find_127 (mp_0 w) rfl rfl rfl (Nat.le_of_ble_eq_true rfl) (c_tk w g (m_ft b) 1) ?_
        obtain ⟨bit, hbit⟩ : ∃ bit, bit = (m_tick nd (m_ft b) 1 t).1 := ⟨_, rfl⟩
        obtain ⟨T, hT⟩ : ∃ T, T = m_tk nd (m_ft b) 1 t := ⟨_, rfl⟩
        rw [← hbit, ← hT]
        have fT : m_fd T := by rw [hT]; exact tk_fd f _ _
        obtain ⟨fc, hf4, hfe⟩ := fT
        refine mm_blk (pc' := 74) ok_Md_find 3 _ _ _ rfl ?_
        refine mm_irem ok_Md_find rfl (by decide) ?_
        rw [show nI b - nI b / 32 * 32 = nI (b % 32) from pk_rem (d := 32) (by omega) (by decide) (by decide)]
        refine mm_if_ne ok_Md_find 83 rfl (by decide) (fun c => ?_) (fun c => ?_)
        rotate_left
        · exact absurd c (nI_ne0 (by omega) (by omega))
        refine mm_blk (pc' := 89) ok_Md_find 4 _ _ _ rfl ?_
        refine mm_irem ok_Md_find rfl (by decide) ?_
        rw [show nI b - nI b / 32 * 32 = nI (b % 32) from pk_rem (d := 32) (by omega) (by decide) (by decide)]
        refine mm_blk (pc' := 92) ok_Md_find 2 _ _ _ rfl ?_
        obtain ⟨W, hW⟩ : ∃ W, W = wd ||| bit <<< (nI (b % 32) &&& 31) := ⟨_, rfl⟩
        rw [← hW]
        refine mm_blk (pc' := 96) ok_Md_find 3 _ _ _ rfl ?_
        refine mm_irem ok_Md_find rfl (by decide) ?_
        rw [show nI b - nI b / 32 * 32 = nI (b % 32) from pk_rem (d := 32) (by omega) (by decide) (by decide)]
        refine mm_blk (pc' := 99) ok_Md_find 1 _ _ _ rfl ?_
        refine mm_ic_ne ok_Md_find 149 rfl (by decide) (fun c => ?_) (fun c => ?_)
        · exact absurd (show nI (b % 32) = 31 by rw [h31]; rfl) c
        refine mm_blk (pc' := 103) ok_Md_find 1 _ _ _ rfl ?_
        refine mm_if_eq ok_Md_find 115 rfl (by decide) (fun c103 => ?_) (fun c103 => ?_)
        · -- 115 t
          have hfm : m_fm mo W = 0 := by unfold m_fm; first | rw [if_pos c103] | (rw [if_neg c103]; exact if_pos c108)
          refine mm_blk (pc' := 118) ok_Md_find 3 _ _ _ rfl ?_
          refine mm_if_eq ok_Md_find 149 rfl (by decide) (fun c => ?_) (fun c => ?_)
          rotate_left
          · exact absurd rfl c
          refine mm_blk (pc' := 45) ok_Md_find 2 _ _ _ rfl ?_
          rw [nI_1]
          refine mm_V_pick [0, 1, 2, 3] rfl ?_
          have e9 : m_fs nd b (mo, wd, t) = (0, W, T) := by unfold m_fs m_fw; rw [if_pos h31, if_neg h0, ← hbit, ← hT, ← hW, hfm]; unfold m_ff; rw [if_pos rfl]
          have gf := fs_good b (x := (mo, wd, t)) g f
          show mm_V _ _ _ _ _ _ _ _ (mm_E (some (.int (m_lv nd (up (m_fs nd) n (b + 1) (m_fs nd b (mo, wd, t))).2.2 0 21))) (MP K (m_lv nd (up (m_fs nd) n (b + 1) (m_fs nd b (mo, wd, t))).2.2) h))
          rw [e9] at gf ⊢
          exact ih (b + 1) _ _ _ gf.1 gf.2 (by omega)
        · -- 106 f
          refine mm_blk (pc' := 108) ok_Md_find 2 _ _ _ rfl ?_
          refine mm_ic_eq ok_Md_find 115 rfl (by decide) (fun c108 => ?_) (fun c108 => ?_)
          · -- 115 t
            have hfm : m_fm mo W = 0 := by unfold m_fm; first | rw [if_pos c103] | (rw [if_neg c103]; exact if_pos c108)
            refine mm_blk (pc' := 118) ok_Md_find 3 _ _ _ rfl ?_
            refine mm_if_eq ok_Md_find 149 rfl (by decide) (fun c => ?_) (fun c => ?_)
            rotate_left
            · exact absurd rfl c
            refine mm_blk (pc' := 45) ok_Md_find 2 _ _ _ rfl ?_
            rw [nI_1]
            refine mm_V_pick [0, 1, 2, 3] rfl ?_
            have e9 : m_fs nd b (mo, wd, t) = (0, W, T) := by unfold m_fs m_fw; rw [if_pos h31, if_neg h0, ← hbit, ← hT, ← hW, hfm]; unfold m_ff; rw [if_pos rfl]
            have gf := fs_good b (x := (mo, wd, t)) g f
            show mm_V _ _ _ _ _ _ _ _ (mm_E (some (.int (m_lv nd (up (m_fs nd) n (b + 1) (m_fs nd b (mo, wd, t))).2.2 0 21))) (MP K (m_lv nd (up (m_fs nd) n (b + 1) (m_fs nd b (mo, wd, t))).2.2) h))
            rw [e9] at gf ⊢
            exact ih (b + 1) _ _ _ gf.1 gf.2 (by omega)
          · -- 111 f
            have hfm : m_fm mo W = 1 := by unfold m_fm; rw [if_neg c103]; exact if_neg c108
            refine mm_blk (pc' := 118) ok_Md_find 4 _ _ _ rfl ?_
            refine mm_if_eq ok_Md_find 149 rfl (by decide) (fun c => ?_) (fun c => ?_)
            · exact absurd c (by decide)
            refine mm_blk (pc' := 122) ok_Md_find 1 _ _ _ rfl ?_
            refine mm_getf ok_Md_find (mp_0 w) rfl f_Md_75 rfl ?_
            refine mm_blk (pc' := 126) ok_Md_find 1 _ _ _ rfl ?_
            refine mm_ic_ge ok_Md_find 149 rfl (by decide) (fun c126 => ?_) (fun c126 => ?_)
            · -- 149 t
              refine mm_blk (pc' := 45) ok_Md_find 2 _ _ _ rfl ?_
              rw [nI_1]
              refine mm_V_pick [0, 1, 2, 3] rfl ?_
              have e9 : m_fs nd b (mo, wd, t) = (1, W, T) := by unfold m_fs m_fw; rw [if_pos h31, if_neg h0, ← hbit, ← hT, ← hW, hfm]; unfold m_ff; rw [if_neg (by decide), if_neg (Int32.not_lt.mpr c126)]
              have gf := fs_good b (x := (mo, wd, t)) g f
              show mm_V _ _ _ _ _ _ _ _ (mm_E (some (.int (m_lv nd (up (m_fs nd) n (b + 1) (m_fs nd b (mo, wd, t))).2.2 0 21))) (MP K (m_lv nd (up (m_fs nd) n (b + 1) (m_fs nd b (mo, wd, t))).2.2) h))
              rw [e9] at gf ⊢
              exact ih (b + 1) _ _ _ gf.1 gf.2 (by omega)
            · -- 129 f
              have hlt : fc < 4 := by
                by_cases z : fc < 4
                · exact z
                · exact absurd (show (4 : Int32) ≤ T 0 21 by rw [hfe]; exact nI_le (a := 4) (by omega) (by omega)) c126
              have hcl : (T 0 21).toNatClampNeg = fc := by rw [hfe]; exact nI_clamp (by omega)
              refine mm_blk (pc' := 130) ok_Md_find 1 _ _ _ rfl ?_
              refine mm_getf ok_Md_find (mp_0 w) rfl f_Md_59 rfl ?_
              refine mm_blk (pc' := 134) ok_Md_find 1 _ _ _ rfl ?_
              refine mm_getf ok_Md_find (mp_0 w) rfl f_Md_75 rfl ?_
              refine mm_blk (pc' := 138) ok_Md_find 1 _ _ _ rfl ?_
              refine mm_iast (j := fc) ok_Md_find (mp_22 w) rfl hfe (by omega) (by rw [List.length_map, List.length_range]; exact (by omega)) ?_
              refine mm_V_heap (mu_22 w (by omega) _) ?_
              refine mm_blk (pc' := 141) ok_Md_find 2 _ _ _ rfl ?_
              refine mm_getf ok_Md_find (mp_0 w) rfl f_Md_75 rfl ?_
              refine mm_blk (pc' := 146) ok_Md_find 2 _ _ _ rfl ?_
              refine mm_putf ok_Md_find (mp_0 w) rfl f_Md_75 (Or.inl rfl) (mm_fit_I _) ?_
              refine mm_V_heap (mu_0 w 21 (T 0 21 + 1)) ?_
              refine mm_blk (pc' := 45) ok_Md_find 2 _ _ _ rfl ?_
              rw [nI_1]
              refine mm_V_pick [0, 1, 2, 3] rfl ?_
              have e9 : m_fs nd b (mo, wd, t) = (1, W, m_s (m_s T 22 fc W) 0 21 (T 0 21 + 1)) := by unfold m_fs m_fw; rw [if_pos h31, if_neg h0, ← hbit, ← hT, ← hW, hfm]; unfold m_ff; rw [if_neg (by decide), if_pos (Int32.not_le.mp c126), hcl]
              have gf := fs_good b (x := (mo, wd, t)) g f
              show mm_V _ _ _ _ _ _ _ _ (mm_E (some (.int (m_lv nd (up (m_fs nd) n (b + 1) (m_fs nd b (mo, wd, t))).2.2 0 21))) (MP K (m_lv nd (up (m_fs nd) n (b + 1) (m_fs nd b (mo, wd, t))).2.2) h))
              rw [e9] at gf ⊢
              exact ih (b + 1) _ _ _ gf.1 gf.2 (by omega)
      · skip
        refine mm_blk (pc' := 49) ok_Md_find 2 _ _ _ rfl ?_
        refine mm_ic_ge ok_Md_find 155 rfl (by decide) (fun c => ?_) (fun c => ?_)
        · exact absurd c (show ¬ nI 160 ≤ nI b from nI_ge (by omega) (by omega))
        refine mm_blk (pc' := 57) ok_Md_find 3 _ _ _ rfl ?_
        refine mm_tc_ne ok_Md_find 64 rfl (by decide) rfl rfl rfl (by decide) ?_
        refine mm_blk (pc' := 66) ok_Md_find 1 _ _ _ rfl ?_
        rw [eb]
        refine mm_cVE ok_Md_find (As := [.int (m_ft b), .int 1]) rfl k_Md_find_127 (mp_0 w) rfl rfl rfl (Nat.le_of_ble_eq_true rfl) (c_tk w g (m_ft b) 1) ?_
        obtain ⟨bit, hbit⟩ : ∃ bit, bit = (m_tick nd (m_ft b) 1 t).1 := ⟨_, rfl⟩
        obtain ⟨T, hT⟩ : ∃ T, T = m_tk nd (m_ft b) 1 t := ⟨_, rfl⟩
        rw [← hbit, ← hT]
        have fT : m_fd T := by rw [hT]; exact tk_fd f _ _
        obtain ⟨fc, hf4, hfe⟩ := fT
        refine mm_blk (pc' := 74) ok_Md_find 3 _ _ _ rfl ?_
        refine mm_irem ok_Md_find rfl (by decide) ?_
        rw [show nI b - nI b / 32 * 32 = nI (b % 32) from pk_rem (d := 32) (by omega) (by decide) (by decide)]
        refine mm_if_ne ok_Md_find 83 rfl (by decide) (fun c => ?_) (fun c => ?_)
        rotate_left
        · exact absurd c (nI_ne0 (by omega) (by omega))
        refine mm_blk (pc' := 89) ok_Md_find 4 _ _ _ rfl ?_
        refine mm_irem ok_Md_find rfl (by decide) ?_
        rw [show nI b - nI b / 32 * 32 = nI (b % 32) from pk_rem (d := 32) (by omega) (by decide) (by decide)]
        refine mm_blk (pc' := 96) ok_Md_find 5 _ _ _ rfl ?_
        refine mm_irem ok_Md_find rfl (by decide) ?_
        rw [show nI b - nI b / 32 * 32 = nI (b % 32) from pk_rem (d := 32) (by omega) (by decide) (by decide)]
        refine mm_blk (pc' := 99) ok_Md_find 1 _ _ _ rfl ?_
        refine mm_ic_ne ok_Md_find 149 rfl (by decide) (fun c => ?_) (fun c => ?_)
        rotate_left
        · exact absurd ((nI_eq (b := 31) (by omega) (by decide)).mp c) (by omega)
        refine mm_blk (pc' := 45) ok_Md_find 2 _ _ _ rfl ?_
        rw [nI_1]
        refine mm_V_pick [0, 1, 2, 3] rfl ?_
        have e9 : m_fs nd b (mo, wd, t) = (mo, wd ||| bit <<< (nI (b % 32) &&& 31), T) := by unfold m_fs m_fw; rw [if_neg (show ¬ b % 32 = 31 by omega), if_neg h0, ← hbit, ← hT]
        have gf := fs_good b (x := (mo, wd, t)) g f
        show mm_V _ _ _ _ _ _ _ _ (mm_E (some (.int (m_lv nd (up (m_fs nd) n (b + 1) (m_fs nd b (mo, wd, t))).2.2 0 21))) (MP K (m_lv nd (up (m_fs nd) n (b + 1) (m_fs nd b (mo, wd, t))).2.2) h))
        rw [e9] at gf ⊢
        exact ih (b + 1) _ _ _ gf.1 gf.2 (by omega)
set_option maxHeartbeats 1000000 in
theorem c_Md_find_r (w : mm_inj mdom K) (g : m_good nd nn t) (hn : 0 < nd) : mm_C G M_Md_find [.ref (K 0)] (MP K t h) 0 0 (mm_E (some (.int (m_fnd nd t 0 21))) (MP K (m_fnd nd t) h)) := by
  have h4 := g.1.1
  have e : ¬ t 0 1 = 0 := by rw [g.1.2.2.1]; exact nI_ne0 hn (by omega)
  have g0 := good_s0 g 0
  have g1 := go6_good g0
  have g2 := com_good g1
  refine mm_C_of (by decide +kernel) rfl (Nat.le_of_ble_eq_true rfl) rfl ?_
  refine mm_blk (pc' := 2) ok_Md_find 2 _ _ _ rfl ?_
  refine mm_getf ok_Md_find (mp_0 w) rfl f_Md_66 rfl ?_
  refine mm_if_ne ok_Md_find 12 rfl (by decide) (fun c => ?_) (fun c => ?_)
  rotate_left
  · exact absurd c e
  refine mm_blk (pc' := 13) ok_Md_find 1 _ _ _ rfl ?_
  refine mm_putf ok_Md_find (mp_0 w) rfl f_Md_62 (Or.inl rfl) (mm_fit_I _) ?_
  refine mm_V_heap (mu_0 w 0 _) ?_
  refine mm_blk (pc' := 17) ok_Md_find 1 _ _ _ rfl ?_
  refine mm_getf ok_Md_find (mp_0 w) rfl f_Md_62 rfl ?_
  refine mm_if_le ok_Md_find 25 rfl (by decide) (fun c => ?_) (fun c => ?_)
  rotate_left
  · exact absurd (show (0 : Int32) ≤ 0 by decide) c
  refine mm_blk (pc' := 26) ok_Md_find 1 _ _ _ rfl ?_
  refine mm_cVE ok_Md_find (As := []) rfl k_Md_find_130 (mp_0 w) rfl rfl rfl (Nat.le_of_ble_eq_true rfl) (c_Md_goIdle w g0) ?_
  refine mm_blk (pc' := 31) ok_Md_find 2 _ _ _ rfl ?_
  refine mm_cVE ok_Md_find (As := [.int 0]) rfl k_Md_find_133 (mp_0 w) rfl rfl rfl (Nat.le_of_ble_eq_true rfl) (c_Md_comeTo0 w g1) ?_
  refine mm_blk (pc' := 36) ok_Md_find 2 _ _ _ rfl ?_
  refine mm_putf ok_Md_find (mp_0 w) rfl f_Md_75 (Or.inl rfl) (mm_fit_I _) ?_
  refine mm_V_heap (mu_0 w 21 (0)) ?_
  refine mm_blk (pc' := 45) ok_Md_find 6 _ _ _ rfl ?_
  unfold m_fnd
  generalize m_com nd (m_go6 nd (m_s t 0 0 0)) = t2 at g2 ⊢
  exact l_Md_find w 160 0 1 0 (m_s t2 0 21 0) ⟨ok_s0 g2.1 (by decide) (by decide) 0, g2.2⟩ ⟨0, by omega, rfl⟩ (by omega)
set_option maxHeartbeats 4000000 in
theorem l_Md_roundC (w : mm_inj mdom K) {r takes : Int32} {d m : Nat} (hd : d < nd) (hm6 : m ≤ 6) : ∀ (n cx : Nat) (t : mS), m_good nd nn t → m_cl t d = m → cx + n = m → mm_V G M_Md_round 151 [(0, .ref (K 0)), (1, .int r), (2, .int takes), (3, .int (nI d)), (4, .int (nI m))] [] (MP K (up (m_rc nd r takes d) n cx t) h) 0 0 Q → mm_V G M_Md_round 19 [(0, .ref (K 0)), (1, .int r), (2, .int takes), (3, .int (nI d)), (4, .int (nI cx))] [] (MP K t h) 0 0 Q := by
  intro n
  induction n with
  | zero =>
    intro cx t g hm hi kk
    have h4 := g.1.1
    have el := (g.1.2.2.2.2.1 d hd).2.2
    have el0 := (g.1.2.2.2.2.1 0 (by omega)).2.2
    have hl0 := g.1.2.2.2.2.1 0 (by omega)
    rw [hm] at el
    refine mm_blk (pc' := 22) ok_Md_round 2 _ _ _ rfl ?_
    refine mm_getf ok_Md_round (mp_0 w) rfl f_Md_16 rfl ?_
    refine mm_blk (pc' := 26) ok_Md_round 1 _ _ _ rfl ?_
    refine mm_iald (j := d) ok_Md_round (mp_4 w) rfl rfl (by omega) (oIs_get (by omega) _) ?_
    rw [el]
    refine mm_ic_ge ok_Md_round 151 rfl (by decide) (fun c => ?_) (fun c => ?_)
    rotate_left
    · exact absurd (nI_le (by omega) (by omega)) c
    rw [show cx = m by omega]
    exact kk
  | succ n ih =>
    intro cx t g hm hi kk
    have h4 := g.1.1
    have el := (g.1.2.2.2.2.1 d hd).2.2
    have el0 := (g.1.2.2.2.2.1 0 (by omega)).2.2
    have hl0 := g.1.2.2.2.2.1 0 (by omega)
    rw [hm] at el
    refine mm_blk (pc' := 22) ok_Md_round 2 _ _ _ rfl ?_
    refine mm_getf ok_Md_round (mp_0 w) rfl f_Md_16 rfl ?_
    refine mm_blk (pc' := 26) ok_Md_round 1 _ _ _ rfl ?_
    refine mm_iald (j := d) ok_Md_round (mp_4 w) rfl rfl (by omega) (oIs_get (by omega) _) ?_
    rw [el]
    refine mm_ic_ge ok_Md_round 151 rfl (by decide) (fun c => ?_) (fun c => ?_)
    · exact absurd c (nI_ge (by omega) (by omega))
    refine mm_blk (pc' := 31) ok_Md_round 1 _ _ _ rfl ?_
    refine mm_getf ok_Md_round (mp_0 w) rfl f_Md_44 rfl ?_
    refine mm_blk (pc' := 41) ok_Md_round 5 _ _ _ rfl ?_
    refine mm_iald (j := 6 * d + cx) ok_Md_round (mp_13 w) rfl (ix6 _ _) (by omega) (oIs_get (by omega) _) ?_
    refine mm_blk (pc' := 45) ok_Md_round 2 _ _ _ rfl ?_
    refine mm_getf ok_Md_round (mp_0 w) rfl f_Md_34 rfl ?_
    refine mm_blk (pc' := 55) ok_Md_round 5 _ _ _ rfl ?_
    refine mm_zald (j := 6 * d + cx) ok_Md_round (mp_10 w) rfl (ix6 _ _) (by omega) (oIs_get (by omega) _) ?_
    obtain ⟨n5, hn5⟩ : ∃ n5, n5 = t 13 (6 * d + cx) := ⟨_, rfl⟩
    obtain ⟨n6, hn6⟩ : ∃ n6, n6 = t 10 (6 * d + cx) := ⟨_, rfl⟩
    obtain ⟨rb, hrb⟩ : ∃ rb, rb = m_rbit t r (6 * d + cx) := ⟨_, rfl⟩
    obtain ⟨rt, hrt⟩ : ∃ rt, rt = m_rt t d cx := ⟨_, rfl⟩
    rw [← hn5, ← hn6]
    refine mm_blk (pc' := 60) ok_Md_round 2 _ _ _ rfl ?_
    refine mm_V_heap rfl ?_
    have step : ∀ q : Int32, q = rb → mm_V G M_Md_round 80 [(0, .ref (K 0)), (1, .int r), (2, .int takes), (3, .int (nI d)), (4, .int (nI cx)), (5, .int n5), (6, .int n6)] [.int q] (MP K t h) 0 0 Q := by
      intro q hq
      rw [hq]
      refine mm_blk (pc' := 84) ok_Md_round 3 _ _ _ rfl ?_
      have hrt9 : ∀ q : Int32, q = rt → mm_V G M_Md_round 105 [(0, .ref (K 0)), (1, .int r), (2, .int takes), (3, .int (nI d)), (4, .int (nI cx)), (5, .int n5), (6, .int n6), (7, .int rb)] [.int q, .ref (K 0)] (MP K t h) 0 0 Q := by
        intro q hq
        rw [hq]
        refine mm_blk (pc' := 107) ok_Md_round 1 _ _ _ rfl ?_
        refine mm_cVE ok_Md_round (As := [.int rt, .int rb]) rfl k_Md_round_127 (mp_0 w) rfl rfl rfl (Nat.le_of_ble_eq_true rfl) (c_tk w g rt rb) ?_
        obtain ⟨bit, hbit⟩ : ∃ bit, bit = (m_tick nd rt rb t).1 := ⟨_, rfl⟩
        obtain ⟨T, hT⟩ : ∃ T, T = m_tk nd rt rb t := ⟨_, rfl⟩
        rw [← hbit, ← hT]
        refine mm_blk (pc' := 113) ok_Md_round 2 _ _ _ rfl ?_
        refine mm_if_eq ok_Md_round 145 rfl (by decide) (fun c113 => ?_) (fun c113 => ?_)
        · -- 145 t
          refine mm_blk (pc' := 19) ok_Md_round 2 _ _ _ rfl ?_
          rw [nI_1]
          refine mm_V_pick [0, 1, 2, 3, 4] rfl ?_
          have e9 : m_rc nd r takes d cx t = T := by unfold m_rc m_rs; rw [← hn5, ← hn6, ← hrt, ← hrb, ← hbit, ← hT]; rw [if_pos c113]
          refine ih (cx + 1) (T) ?_ ?_ (by omega) ?_
          · rw [← e9]; exact rc_good g r takes d cx
          · rw [← e9]; unfold m_cl; rw [rc_same nd r takes d cx t (by decide) (by decide)]; exact hm
          · rw [← e9]; exact kk
        · -- 116 f
          refine mm_blk (pc' := 118) ok_Md_round 1 _ _ _ rfl ?_
          refine mm_if_lt ok_Md_round 145 rfl (by decide) (fun c118 => ?_) (fun c118 => ?_)
          · -- 145 t
            refine mm_blk (pc' := 19) ok_Md_round 2 _ _ _ rfl ?_
            rw [nI_1]
            refine mm_V_pick [0, 1, 2, 3, 4] rfl ?_
            have e9 : m_rc nd r takes d cx t = T := by unfold m_rc m_rs; rw [← hn5, ← hn6, ← hrt, ← hrb, ← hbit, ← hT]; rw [if_neg c113, if_pos c118]
            refine ih (cx + 1) (T) ?_ ?_ (by omega) ?_
            · rw [← e9]; exact rc_good g r takes d cx
            · rw [← e9]; unfold m_cl; rw [rc_same nd r takes d cx t (by decide) (by decide)]; exact hm
            · rw [← e9]; exact kk
          · -- 121 f
            refine mm_blk (pc' := 123) ok_Md_round 1 _ _ _ rfl ?_
            refine mm_if_ne ok_Md_round 145 rfl (by decide) (fun c123 => ?_) (fun c123 => ?_)
            · -- 145 t
              refine mm_blk (pc' := 19) ok_Md_round 2 _ _ _ rfl ?_
              rw [nI_1]
              refine mm_V_pick [0, 1, 2, 3, 4] rfl ?_
              have e9 : m_rc nd r takes d cx t = T := by unfold m_rc m_rs; rw [← hn5, ← hn6, ← hrt, ← hrb, ← hbit, ← hT]; rw [if_neg c113, if_neg c118, if_neg c123]
              refine ih (cx + 1) (T) ?_ ?_ (by omega) ?_
              · rw [← e9]; exact rc_good g r takes d cx
              · rw [← e9]; unfold m_cl; rw [rc_same nd r takes d cx t (by decide) (by decide)]; exact hm
              · rw [← e9]; exact kk
            · -- 126 f
              obtain ⟨no, hno, hne⟩ : ∃ no, no < 8 ∧ n5 = nI no := by
                have h9 := g.1.2.2.2.2.2.2.2.2 d cx hd (by rw [hm]; omega) (by rw [← hn5]; exact c118)
                exact ⟨m_no t (6 * d + cx), by have := g.1.2.1; omega, by rw [hn5]; exact h9.2⟩
              have hcl : n5.toNatClampNeg = no := by rw [hne]; exact nI_clamp (by omega)
              refine mm_blk (pc' := 127) ok_Md_round 1 _ _ _ rfl ?_
              refine mm_getf ok_Md_round (mp_0 w) rfl f_Md_56 rfl ?_
              refine mm_blk (pc' := 133) ok_Md_round 2 _ _ _ rfl ?_
              refine mm_getf ok_Md_round (mp_0 w) rfl f_Md_56 rfl ?_
              refine mm_blk (pc' := 138) ok_Md_round 1 _ _ _ rfl ?_
              refine mm_iald (j := no) ok_Md_round (mp_18 w) rfl hne (by omega) (oIs_get (by omega) _) ?_
              refine mm_blk (pc' := 144) ok_Md_round 4 _ _ _ rfl ?_
              refine mm_iast (j := no) ok_Md_round (mp_18 w) rfl hne (by omega) (by rw [List.length_map, List.length_range]; exact (by omega)) ?_
              refine mm_V_heap (mu_18 w (by omega) _) ?_
              refine mm_blk (pc' := 19) ok_Md_round 2 _ _ _ rfl ?_
              rw [nI_1]
              refine mm_V_pick [0, 1, 2, 3, 4] rfl ?_
              have e9 : m_rc nd r takes d cx t = m_s T 18 no (T 18 no ||| bit <<< (r &&& 31)) := by unfold m_rc m_rs; rw [← hn5, ← hn6, ← hrt, ← hrb, ← hbit, ← hT]; rw [if_neg c113, if_neg c118, if_pos c123, hcl]
              refine ih (cx + 1) (m_s T 18 no (T 18 no ||| bit <<< (r &&& 31))) ?_ ?_ (by omega) ?_
              · rw [← e9]; exact rc_good g r takes d cx
              · rw [← e9]; unfold m_cl; rw [rc_same nd r takes d cx t (by decide) (by decide)]; exact hm
              · rw [← e9]; exact kk
      refine mm_if_ne ok_Md_round 104 rfl (by decide) (fun c84 => ?_) (fun c84 => ?_)
      · refine mm_blk (pc' := 105) ok_Md_round 1 _ _ _ rfl ?_
        exact hrt9 0 (by rw [hrt]; unfold m_rt; rw [if_neg (fun z => c84 (by rw [z.1]; rfl))])
      have hd0 : d = 0 := by
        by_cases z : d = 0
        · exact z
        · exact absurd c84 (nI_ne0 (by omega) (by omega))
      refine mm_blk (pc' := 90) ok_Md_round 2 _ _ _ rfl ?_
      refine mm_getf ok_Md_round (mp_0 w) rfl f_Md_16 rfl ?_
      refine mm_blk (pc' := 94) ok_Md_round 1 _ _ _ rfl ?_
      refine mm_iald (j := 0) ok_Md_round (mp_4 w) rfl rfl (show 0 < 2147483648 by decide) (oIs_get (by omega) _) ?_
      refine mm_blk (pc' := 97) ok_Md_round 2 _ _ _ rfl ?_
      rw [el0, show nI (m_cl t 0) - 1 = nI (m_cl t 0 - 1) from pk_sub (b := 1) hl0.1]
      refine mm_ic_ne ok_Md_round 104 rfl (by decide) (fun c97 => ?_) (fun c97 => ?_)
      · -- 104 t
        refine mm_blk (pc' := 105) ok_Md_round 1 _ _ _ rfl ?_
        exact hrt9 0 (by rw [hrt]; unfold m_rt; rw [if_neg (fun z => c97 (by rw [← z.2]; rfl))])
      · -- 100 f
        refine mm_blk (pc' := 105) ok_Md_round 2 _ _ _ rfl ?_
        exact hrt9 1 (by rw [hrt]; unfold m_rt; rw [if_pos ⟨hd0, by have := (nI_eq (by omega) (by omega)).mp c97; omega⟩])
    have hn56 : rb = if n5 < 0 then 0 else if n6 = 0 then 0 else ((n5 + 1) >>> (r &&& 31)) &&& 1 := by rw [hrb, hn5, hn6]; rfl
    refine mm_if_lt ok_Md_round 79 rfl (by decide) (fun c60 => ?_) (fun c60 => ?_)
    · refine mm_blk (pc' := 80) ok_Md_round 1 _ _ _ rfl ?_
      exact step 0 (by rw [hn56, if_pos c60])
    refine mm_blk (pc' := 65) ok_Md_round 1 _ _ _ rfl ?_
    refine mm_if_eq ok_Md_round 79 rfl (by decide) (fun c65 => ?_) (fun c65 => ?_)
    · refine mm_blk (pc' := 80) ok_Md_round 1 _ _ _ rfl ?_
      exact step 0 (by rw [hn56, if_neg c60, if_pos c65])
    refine mm_blk (pc' := 80) ok_Md_round 8 _ _ _ rfl ?_
    exact step _ (by rw [hn56, if_neg c60, if_neg c65])
theorem rcs_good (r takes : Int32) (d : Nat) : ∀ (n c : Nat) (t : mS), m_good nd nn t → m_good nd nn (up (m_rc nd r takes d) n c t) := by
  intro n
  induction n with
  | zero => intro c t g; exact g
  | succ n ih => intro c t g; exact ih _ _ (rc_good g r takes d c)
theorem rd_good (r takes : Int32) : ∀ (d : Nat) (t : mS), m_good nd nn t → m_good nd nn (m_rd nd r takes d t) := by
  intro d
  induction d with
  | zero => intro t g; exact g
  | succ d ih => intro t g; exact ih _ (rcs_good r takes d _ _ _ g)
theorem rnd_good (r takes : Int32) (g : m_good nd nn t) : m_good nd nn (m_rnd nd r takes t) := lv_good (rd_good r takes nd _ (com_good g))
set_option maxHeartbeats 1000000 in
theorem l_Md_round (w : mm_inj mdom K) {r takes : Int32} : ∀ (d : Nat) (t : mS), m_good nd nn t → d ≤ nd → mm_V G M_Md_round 12 [(0, .ref (K 0)), (1, .int r), (2, .int takes), (3, .int (nI d - 1))] [] (MP K t h) 0 0 (mm_E none (MP K (m_lv nd (m_rd nd r takes d t)) h)) := by
  intro d
  induction d with
  | zero =>
    intro t g hd
    refine mm_blk (pc' := 13) ok_Md_round 1 _ _ _ rfl ?_
    refine mm_if_lt ok_Md_round 157 rfl (by decide) (fun c => ?_) (fun c => ?_)
    rotate_left
    · first | exact c (by decide) | exact absurd c (by decide)
    refine mm_blk (pc' := 158) ok_Md_round 1 _ _ _ rfl ?_
    refine mm_cVE ok_Md_round (As := []) rfl k_Md_round_137 (mp_0 w) rfl rfl rfl (Nat.le_of_ble_eq_true rfl) (c_Md_leave w g) ?_
    exact mm_vret ok_Md_round rfl rfl ⟨rfl, rfl⟩
  | succ d ih =>
    intro t g hd
    have h4 := g.1.1
    rw [nI_pred]
    refine mm_blk (pc' := 13) ok_Md_round 1 _ _ _ rfl ?_
    refine mm_if_lt ok_Md_round 157 rfl (by decide) (fun c => ?_) (fun c => ?_)
    · exact absurd c (nI_pos (by omega))
    refine mm_blk (pc' := 19) ok_Md_round 2 _ _ _ rfl ?_
    refine l_Md_roundC w (by omega) (g.1.2.2.2.2.1 d (by omega)).2.1 (m_cl t d) 0 t g rfl (by omega) ?_
    refine mm_blk (pc' := 12) ok_Md_round 2 _ _ _ rfl ?_
    rw [show nI d + (-1) = nI d - 1 from (Int32.sub_eq_add_neg _ _).symm]
    refine mm_V_pick [0, 1, 2, 3] rfl ?_
    exact ih _ (rcs_good r takes d _ _ _ g) (by omega)
set_option maxHeartbeats 1000000 in
theorem c_Md_round (w : mm_inj mdom K) (g : m_good nd nn t) (r takes : Int32) : mm_C G M_Md_round [.ref (K 0), .int r, .int takes] (MP K t h) 0 0 (mm_E none (MP K (m_rnd nd r takes t) h)) := by
  have g1 := com_good g
  refine mm_C_of (by decide +kernel) rfl (Nat.le_of_ble_eq_true rfl) rfl ?_
  refine mm_blk (pc' := 2) ok_Md_round 2 _ _ _ rfl ?_
  refine mm_cVE ok_Md_round (As := [.int 0]) rfl k_Md_round_133 (mp_0 w) rfl rfl rfl (Nat.le_of_ble_eq_true rfl) (c_Md_comeTo0 w g) ?_
  refine mm_blk (pc' := 6) ok_Md_round 1 _ _ _ rfl ?_
  refine mm_getf ok_Md_round (mp_0 w) rfl f_Md_66 rfl ?_
  rw [g1.1.2.2.1]
  refine mm_blk (pc' := 12) ok_Md_round 3 _ _ _ rfl ?_
  exact l_Md_round w nd _ g1 (Nat.le_refl _)
end MD6
