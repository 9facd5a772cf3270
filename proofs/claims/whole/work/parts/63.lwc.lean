/-! one call's turn: all its cases -/
theorem par (x : Int32) : (x &&& 1) = 0 ↔ x - x / 2 * 2 = 0 := by
  have hx := x.le_toInt
  have hx2 := x.toInt_lt
  have h1 : (x &&& 1) = 0 ↔ x.toInt % 2 = 0 := by
    rw [← Int32.toBitVec_inj, Int32.toBitVec_and, ← BitVec.toNat_inj, BitVec.toNat_and]
    show x.toBitVec.toNat &&& 1 = 0 ↔ x.toBitVec.toInt % 2 = 0
    rw [Nat.and_one_is_mod, BitVec.toInt_eq_toNat_cond]
    split <;> omega
  have h2 : (x / 2).toInt = x.toInt.tdiv 2 := by
    rw [Int32.toInt_div_of_ne_right]
    · rfl
    · decide
  have hd : x.toInt - 1 ≤ x.toInt.tdiv 2 * 2 ∧ x.toInt.tdiv 2 * 2 ≤ x.toInt + 1 := by
    have := Int.tmod_add_mul_tdiv x.toInt 2
    have a1 := Int.tmod_lt_of_pos x.toInt (show (0 : Int) < 2 by decide)
    have a2 := Int.lt_tmod_of_pos x.toInt (show (0 : Int) < 2 by decide)
    omega
  have h3 : x - x / 2 * 2 = 0 ↔ x.toInt.tdiv 2 * 2 = x.toInt := by
    rw [← Int32.toInt_inj, Int32.toInt_sub, Int32.toInt_mul, h2]
    show (x.toInt - (x.toInt.tdiv 2 * 2).bmod (2 ^ 32)).bmod (2 ^ 32) = 0 ↔ _
    simp only [Int.bmod_def]
    omega
  rw [h1, h3]
  constructor
  · intro e; exact Int.tdiv_mul_cancel (Int.dvd_of_emod_eq_zero e)
  · intro e; omega
theorem rngI {x a b : Int32} (h1 : ¬ x < a) (h2 : x ≤ b) : a.toInt ≤ x.toInt ∧ x.toInt ≤ b.toInt := by
  rw [Int32.lt_iff_toInt_lt] at h1
  rw [Int32.le_iff_toInt_le] at h2
  omega
theorem nlt_le {x a : Int32} : ¬ a < x ↔ x ≤ a := by
  rw [Int32.lt_iff_toInt_lt, Int32.le_iff_toInt_le]; omega
theorem kinds {x : Int32} (h1 : ¬ x < -1) (h2 : x ≤ 3) : (x = -1 ∨ x = 0 ∨ x = 1) ∨ x = 2 ∨ x = 3 := by
  have := rngI h1 h2
  have e1 : (-1 : Int32).toInt = -1 := by decide
  have e2 : (3 : Int32).toInt = 3 := by decide
  rw [e1, e2] at this
  simp only [← Int32.toInt_inj]
  rw [e1, e2, show (0 : Int32).toInt = 0 by decide, show (1 : Int32).toInt = 1 by decide, show (2 : Int32).toInt = 2 by decide]
  omega
theorem wds {x : Int32} (h1 : ¬ x < 2) (h2 : x ≤ 4) : ∃ n, (2 ≤ n ∧ n ≤ 4) ∧ x = nI n := by
  have := rngI h1 h2
  rw [show (2 : Int32).toInt = 2 by decide, show (4 : Int32).toInt = 4 by decide] at this
  have h : x = 2 ∨ x = 3 ∨ x = 4 := by
    simp only [← Int32.toInt_inj]
    rw [show (2 : Int32).toInt = 2 by decide, show (3 : Int32).toInt = 3 by decide, show (4 : Int32).toInt = 4 by decide]
    omega
  rcases h with h | h | h
  · exact ⟨2, by decide, h⟩
  · exact ⟨3, by decide, h⟩
  · exact ⟨4, by decide, h⟩
theorem cls6 {x : Int32} (h1 : ¬ x < 1) (h2 : x ≤ 6) : ∃ n, (1 ≤ n ∧ n ≤ 6) ∧ x = nI n := by
  have := rngI h1 h2
  rw [show (1 : Int32).toInt = 1 by decide, show (6 : Int32).toInt = 6 by decide] at this
  have h : x = 1 ∨ x = 2 ∨ x = 3 ∨ x = 4 ∨ x = 5 ∨ x = 6 := by
    simp only [← Int32.toInt_inj]
    rw [show (1 : Int32).toInt = 1 by decide, show (2 : Int32).toInt = 2 by decide, show (3 : Int32).toInt = 3 by decide, show (4 : Int32).toInt = 4 by decide, show (5 : Int32).toInt = 5 by decide, show (6 : Int32).toInt = 6 by decide]
    omega
  rcases h with h | h | h | h | h | h
  · exact ⟨1, by decide, h⟩
  · exact ⟨2, by decide, h⟩
  · exact ⟨3, by decide, h⟩
  · exact ⟨4, by decide, h⟩
  · exact ⟨5, by decide, h⟩
  · exact ⟨6, by decide, h⟩
theorem badD_iff (b id cl : Int32) : c_badD b id cl ↔ (b < 2 ∨ 4 < b ∨ id - id / 2 * 2 = 0 ∨ id = -1 ∨ cl < 1 ∨ 6 < cl) := by
  unfold c_badD
  rw [par, ← nlt_le (x := cl) (a := 6), Classical.not_not]
  constructor
  · rintro (h | h | h | h | h | h)
    · exact Or.inl h
    · exact Or.inr (Or.inl h)
    · exact Or.inr (Or.inr (Or.inr (Or.inr (Or.inl h))))
    · exact Or.inr (Or.inr (Or.inr (Or.inr (Or.inr h))))
    · exact Or.inr (Or.inr (Or.inl h))
    · exact Or.inr (Or.inr (Or.inr (Or.inl h)))
  · rintro (h | h | h | h | h | h)
    · exact Or.inl h
    · exact Or.inr (Or.inl h)
    · exact Or.inr (Or.inr (Or.inr (Or.inr (Or.inl h))))
    · exact Or.inr (Or.inr (Or.inr (Or.inr (Or.inr h))))
    · exact Or.inr (Or.inr (Or.inl h))
    · exact Or.inr (Or.inr (Or.inr (Or.inl h)))
/-! 'thrown' stays 0 -/
def kz (t t' : mS) : Prop := t' 0 0 = t 0 0
theorem kz_rf (t : mS) : kz t t := rfl
theorem kz_tr {a b c : mS} (h : kz a b) (g : kz b c) : kz a c := Eq.trans g h
theorem kz_tk (nd : Nat) (b x : Int32) (t : mS) : kz t (m_tk nd b x t) := (same_tick nd b x t).2 0 (by decide) (by decide)
theorem kz_up {f : Nat → mS → mS} (hf : ∀ i t, kz t (f i t)) : ∀ (n i : Nat) (t : mS), kz t (up f n i t) := by
  intro n
  induction n with
  | zero => intro i t; exact kz_rf t
  | succ n ih => intro i t; exact kz_tr (hf i t) (ih _ _)
theorem kz_n (t : mS) {n : Nat} (hn : n ≠ 0) (k : Nat) (x : Int32) : kz t (m_s t n k x) := by
  unfold kz
  rw [m_s_ne _ _ _ (Ne.symm hn)]
theorem kz_0 (t : mS) {k : Nat} (hk : k ≠ 0) (x : Int32) : kz t (m_s t 0 k x) := by
  unfold kz
  rw [m_s_off _ _ _ (Ne.symm hk)]
theorem kz_rc (nd : Nat) (r takes : Int32) (d c : Nat) (t : mS) : kz t (m_rc nd r takes d c t) := by
  unfold m_rc
  have h := kz_tk nd (m_rt t d c) (m_rbit t r (6 * d + c)) t
  generalize m_tk nd (m_rt t d c) (m_rbit t r (6 * d + c)) t = t1 at h ⊢
  unfold m_rs
  repeat' split
  · exact h
  · exact h
  · exact kz_tr h (kz_n _ (by decide) _ _)
  · exact h
theorem kz_rd (nd : Nat) (r takes : Int32) : ∀ (d : Nat) (t : mS), kz t (m_rd nd r takes d t) := by
  intro d
  induction d with
  | zero => intro t; exact kz_rf t
  | succ d ih => intro t; exact kz_tr (kz_up (fun c t => kz_rc nd r takes d c t) _ _ _) (ih _)
theorem kz_lv (nd : Nat) (t : mS) : kz t (m_lv nd t) := kz_tr (kz_tk nd 1 0 t) (kz_tk nd 0 0 _)
theorem kz_com (nd : Nat) (t : mS) : kz t (m_com nd t) := kz_tr (kz_tr (kz_tk nd 1 0 t) (kz_tk nd 0 0 _)) (kz_tk nd 0 0 _)
theorem kz_go (nd : Nat) (t : mS) : kz t (m_go6 nd t) := kz_tr (kz_tr (kz_tr (kz_tr (kz_tr (kz_tk nd 1 0 t) (kz_tk nd 1 0 _)) (kz_tk nd 1 0 _)) (kz_tk nd 1 0 _)) (kz_tk nd 1 0 _)) (kz_tk nd 0 0 _)
theorem kz_rnd (nd : Nat) (r takes : Int32) (t : mS) : kz t (m_rnd nd r takes t) := kz_tr (kz_tr (kz_com nd t) (kz_rd nd r takes nd _)) (kz_lv nd _)
theorem kz_tl (nd nn : Nat) : ∀ (n r : Nat) (t : mS), kz t (m_tl nd nn n r t) := by
  intro n
  induction n with
  | zero => intro r t; exact kz_rf t
  | succ n ih =>
    intro r t
    unfold m_tl
    split
    · exact kz_tr (kz_tr (kz_rnd nd _ 0 t) (kz_rnd nd _ 1 _)) (ih _ _)
    · exact kz_rf t
theorem kz_ff (mo wd : Int32) (t : mS) : kz t (m_ff mo wd t) := by
  unfold m_ff
  repeat' split
  · exact kz_rf t
  · exact kz_tr (kz_n t (by decide) _ _) (kz_0 _ (by decide) _)
  · exact kz_rf t
theorem kz_fs (nd b : Nat) (x : Int32 × Int32 × mS) : kz x.2.2 (m_fs nd b x).2.2 := by
  unfold m_fs
  repeat' split
  all_goals first | exact kz_tk nd _ _ _ | exact kz_tr (kz_tk nd _ _ _) (kz_ff _ _ _)
theorem kz_fup (nd : Nat) : ∀ (n i : Nat) (x : Int32 × Int32 × mS), kz x.2.2 (up (m_fs nd) n i x).2.2 := by
  intro n
  induction n with
  | zero => intro i x; exact kz_rf _
  | succ n ih => intro i x; exact kz_tr (kz_fs nd i x) (ih _ _)
theorem z_fnd (nd : Nat) (t : mS) : m_fnd nd t 0 0 = 0 := by
  have h : kz (m_s t 0 0 0) (m_fnd nd t) := kz_tr (kz_tr (kz_tr (kz_tr (kz_go nd _) (kz_com nd _)) (kz_0 _ (by decide) 0)) (kz_fup nd 160 0 (1, 0, m_s (m_com nd (m_go6 nd (m_s t 0 0 0))) 0 21 0))) (kz_lv nd _)
  exact Eq.trans h (m_s_at t 0 0 0)
theorem z_tst (nd nn all : Nat) (t : mS) : m_tst nd nn all t 0 0 = 0 := by
  have h : kz (m_s t 0 0 0) (m_tst nd nn all t) := kz_tr (kz_tr (kz_tr (kz_tr (kz_tr (kz_tr (kz_tr (kz_go nd _) (kz_tk nd 1 0 _)) (kz_com nd _)) (kz_up (fun b t => kz_tk nd _ 0 t) all 0 _)) (kz_lv nd _)) (kz_up (fun n t => kz_n t (by decide) n 0) nn 0 _)) (kz_tl nd nn 4 0 _)) (kz_0 _ (by decide) 1)
  exact Eq.trans h (m_s_at t 0 0 0)
theorem z_net (t : mS) (nn a b : Nat) : m_net t nn a b 0 0 = 0 := by
  have h : kz (m_s t 0 0 0) (m_net t nn a b) := kz_tr (kz_tr (kz_tr (kz_tr (kz_tr (kz_tr (kz_tr (kz_n _ (by decide) _ _) (kz_n _ (by decide) _ _)) (kz_n _ (by decide) _ _)) (kz_n _ (by decide) _ _)) (kz_n _ (by decide) _ _)) (kz_n _ (by decide) _ _)) (kz_0 _ (by decide) _)) (kz_0 _ (by decide) _)
  exact Eq.trans h (m_s_at t 0 0 0)
theorem z_dev (t : mS) (d : Nat) (b id : Int32) (cl : Nat) (dr : Int32) : m_dev t d b id cl dr 0 0 = 0 := by
  have h1 : kz (m_s t 0 0 0) (m_dvA t d b id cl) := kz_tr (kz_tr (kz_n _ (by decide) _ _) (kz_n _ (by decide) _ _)) (kz_n _ (by decide) _ _)
  have h2 : ∀ u, kz u (m_dv1 d dr cl 0 u) := fun u => congrFun ((dv1_at cl 0 u).1 0 (by decide) (by decide)) 0
  have h3 : ∀ u, kz u (m_dv2 24 0 u) := fun u => congrFun ((dv2_at 24 0 u).1 0 (by decide) (by decide)) 0
  have h4 : ∀ u, kz u (m_rst (d + 1) u) := fun u => kz_up (fun e u => kz_n u (by decide) e 1) (d + 1) 0 u
  have h : kz (m_s t 0 0 0) (m_dev t d b id cl dr) := kz_tr (kz_tr (kz_tr (kz_tr (kz_tr (kz_tr (kz_tr (kz_tr h1 (h2 _)) (kz_0 _ (by decide) _)) (h3 _)) (h4 _)) (kz_0 _ (by decide) _)) (kz_0 _ (by decide) _)) (kz_0 _ (by decide) _)) (kz_0 _ (by decide) _)
  exact Eq.trans h (m_s_at t 0 0 0)
theorem z_flt1 (t : mS) (j : Nat) (kd : Int32) : m_flt1 t j kd 0 0 = 0 := by
  have h : kz (m_s t 0 0 0) (m_flt1 t j kd) := kz_tr (congrFun (heal_same 0 (by decide) (by decide)) 0) (kz_n _ (by decide) _ _)
  exact Eq.trans h (m_s_at t 0 0 0)
theorem z_flt2 (t : mS) (j i : Nat) (kd : Int32) : m_flt2 t j i kd 0 0 = 0 := by
  have h : kz (m_flt1 t j kd) (m_flt2 t j i kd) := kz_tr (kz_tr (kz_tr (congrFun (heal_same 0 (by decide) (by decide)) 0) (kz_n _ (by decide) _ _)) (kz_n _ (by decide) _ _)) (kz_n _ (by decide) _ _)
  exact Eq.trans h (z_flt1 t j kd)
theorem RU_n {nd : Nat} {t : mS} (hu : RU nd t) {n : Nat} (hn : n ≠ 6) (k : Nat) (y : Int32) : RU nd (m_s t n k y) := fun z hz => by
  rw [m_s_ne _ _ _ (Ne.symm hn)]; exact hu z hz
theorem RU_heal {nd : Nat} {t : mS} (hu : RU nd t) (j : Nat) : RU nd (m_heal t j) := fun z hz => by
  rw [heal_same 6 (by decide) (by decide)]; exact hu z hz
theorem RU_flt1 {nd : Nat} {t : mS} (hu : RU nd t) (j : Nat) (kd : Int32) : RU nd (m_flt1 t j kd) := RU_n (RU_heal (RU_n hu (by decide) 0 0) j) (by decide) _ _
theorem RU_flt2 {nd : Nat} {t : mS} (hu : RU nd t) (j i : Nat) (kd : Int32) : RU nd (m_flt2 t j i kd) := RU_n (RU_n (RU_n (RU_heal (RU_flt1 hu j kd) i) (by decide) _ _) (by decide) _ _) (by decide) _ _
theorem RU_net {nd : Nat} {t : mS} (hu : RU nd t) (nn a b : Nat) : RU nd (m_net t nn a b) := RU_n (RU_n (RU_n (RU_n (RU_n (RU_n (RU_n (RU_n (RU_n hu (by decide) _ _) (by decide) _ _) (by decide) _ _) (by decide) _ _) (by decide) _ _) (by decide) _ _) (by decide) _ _) (by decide) _ _) (by decide) _ _
theorem fix_tl (cc : Nat) : ∀ (n r : Nat) (S : cS), c_fix S (c_tl cc n r S) := by
  intro n
  induction n with
  | zero => intro r S; exact fix_rf S
  | succ n ih =>
    intro r S
    unfold c_tl
    split
    · exact fix_tr (fix_tbody cc r S) (ih _ _)
    · exact fix_rf S
theorem fix_test (cb cc : Nat) (S : cS) : c_fix S (c_test cb cc S) := fix_tr (fix_tr (fix_tr (fix_tr (fix_tr (fix_go5 S) (fix_sZ _ 1 0 0)) (fix_scan 1 cb _)) (fix_forget _)) (fix_tl cc 4 0 _)) (fix_sZ _ 0 7 1)
theorem fix_find (S : cS) : c_fix S (c_find S) := by
  have h : c_fix S (c_fsc S) := fix_tr (fix_tr (fix_go5 S) (fix_up (fun i S => fix_sZ S 1 i (-1)) 5 0 _)) (fix_scan 0 160 _)
  unfold c_find
  generalize c_fsc S = T at h ⊢
  have h2 := fix_tr h (fix_sZ T 0 6 (nI (c_words T 4 0)))
  generalize s_Z T 0 6 (nI (c_words T 4 0)) = U at h2 ⊢
  have h3 := cpy_Z (c_words T 4 0) (c_words T 4 0) 0 U
  exact fix_tr h2 ⟨h3.2.2.2.1, h3.2.2.2.2.2.2, fun i f _ => by rw [h3.2.2.2.2.1], fun j f _ => by rw [h3.2.2.2.2.2.1]⟩
theorem mnd_1 (S : cS) (j : Nat) : (c_mend S j).1 = S.1 := by unfold c_mend; split <;> rfl
theorem with_1 (S : cS) (j i : Nat) (kd : Int32) : (c_with S j i kd).1 = S.1 := Eq.trans (mnd_1 _ i) (mnd_1 S j)
theorem b01_01 (q : Bool) : (if b01 q = 0 then (0 : Int32) else 1) = b01 q := by cases q <;> decide
section LWC
variable {G : mm_G} {K Km : Nat → Nat} {S S1 : cS} {t t1 : mS} {o i kc ks mc ms : Nat} {x : Int64} {h : mm_Hp} {Q : mm_O → mm_Hp → Prop}
theorem LJ_new {K1 : Nat → Nat} (J : LJ G K S Km o) (w1 : c_wf G K1 S1) (ha : ∀ n ∈ cdom (c_nd S) (c_nn S), K1 n = K n) (hn : ∀ n ∈ cdom (c_nd S1) (c_nn S1), n ∉ cdom (c_nd S) (c_nn S) → MP Km t (mm_up h o (12, [.long x])) (K1 n) = none) : K1 0 = K 0 ∧ LJ G K1 S1 Km o := by
  refine ⟨ha 0 (cd_fix (by simp)), w1, J.2.1, fun m hm n hn2 e => ?_, fun m hm e => ?_, J.2.2.2.2⟩
  · by_cases hc : m ∈ cdom (c_nd S) (c_nn S)
    · rw [ha m hc] at e; exact J.2.2.1 m hc n hn2 e
    · have := hn m hm hc
      rw [e] at this
      unfold MP at this
      rw [mm_pl_at J.2.1 hn2] at this
      cases this
  · by_cases hc : m ∈ cdom (c_nd S) (c_nn S)
    · rw [ha m hc] at e; exact J.2.2.2.1 m hc e
    · have := hn m hm hc
      rw [e] at this
      unfold MP at this
      rw [mm_pl_no J.2.2.2.2, mm_up_self] at this
      cases this
set_option maxHeartbeats 1000000 in
theorem st_clock (I : LI G K S Km t o) (hN : i + 5 ≤ G.2.2.2.1) (hN2 : G.2.2.2.1 < 1000000) (k : LK G K Km o i kc ks h Q) : mm_V G M_Lw_law 424 (LL G (K 0) (Km 0) o i) [] (LH K S Km t o x h) (2 + kc) (20 + ks) Q := by
  obtain ⟨J, hr, hu⟩ := I
  by_cases hd : c_nd S = 0
  · exact lx_clock_IS (bv := 0) J hN hN2 (fun h1 => c_Cb_clock_x J.1 hd) (fun h1 => c_Md_clock_x J.2.1 (by rw [hr.1.1.2.2.1, hd]; rfl)) (m_s_at t 0 0 1) (Rel_s0 hr 1) (RU_s0 hu 0 1) k
  · have hd : 0 < c_nd S := Nat.pos_of_ne_zero hd
    obtain ⟨q, hq⟩ : ∃ q : Bool, (if G.2.2.2.2 (i + 2) = 0 then (0 : Int32) else 1) = b01 q := by
      by_cases e : G.2.2.2.2 (i + 2) = 0
      · exact ⟨false, by rw [if_pos e]; rfl⟩
      · exact ⟨true, by rw [if_neg e]; rfl⟩
    have hr0 := Rel_s0 hr 0
    have hu0 := RU_s0 hu 0 0
    obtain ⟨p, hp⟩ : ∃ p : Int32, p = (if G.2.2.2.2 (i + 1) = 0 then (0 : Int32) else 1) := ⟨_, rfl⟩
    obtain ⟨hT, a, e1, e2⟩ := RelT_tick (RelT_of hr0 hu0) p q
    refine lr_clock (S1 := c_stp S p (b01 q)) (t1 := m_tk (c_nd S) p (b01 q) (m_s t 0 0 0)) (bv := b01 a) J hN hN2 (fun h1 => ?_) (stp_wf J.1 _ _) (stp_keep S _ _).1 (fun h1 => ?_) (Eq.trans (kz_tk _ _ _ _) (m_s_at t 0 0 0)) (Rel_tick hr0 p q) ?_ k
    · rw [hq, ← hp, ← e1]; exact c_Cb_clock_r ⟨J.1, TR_ps hr.1⟩ p (b01 q) hd
    · have := c_Md_clock_r (h := h1) (G := G) J.2.1 (TR_good hr.1) hd p (b01 q)
      rw [b01_01, e2, b01_if] at this
      rw [hq, ← hp]; exact this
    · rw [hT.1.2.2.2]; exact hT.1.2.2.1
set_option maxHeartbeats 1000000 in
theorem st_look (I : LI G K S Km t o) (hN : i + 5 ≤ G.2.2.2.1) (hN2 : G.2.2.2.1 < 1000000) (k : LK G K Km o i kc ks h Q) : mm_V G M_Lw_law 544 (LL G (K 0) (Km 0) o i) [] (LH K S Km t o x h) (2 + kc) (20 + ks) Q := by
  obtain ⟨J, hr, hu⟩ := I
  by_cases hx : inR (G.2.2.2.2 (i + 1)) (c_nd S)
  · obtain ⟨d, hd, e⟩ := (inR_iff (by have := J.1.1; omega)).mp hx
    by_cases hk : inR (G.2.2.2.2 (i + 2)) 4
    · obtain ⟨q, hq, e2⟩ := (inR_iff (by decide)).mp hk
      have hq : q = 0 ∨ q = 1 ∨ q = 2 ∨ q = 3 := by omega
      rcases hq with rfl | rfl | rfl | rfl
      · refine lr_look (S1 := S) (t1 := m_s t 0 0 0) (bv := c_D S d 7) J hN hN2 (fun h1 => by rw [e, e2]; exact c_Cb_look_0 J.1 hd) J.1 rfl (fun h1 => ?_) (m_s_at t 0 0 0) (Rel_s0 hr 0) (RU_s0 hu 0 0) k
        rw [e, e2, ← (TR_dev hr.1 hd).1.2.2.2]; exact c_Md_look_0 J.2.1 (TR_ok hr.1) hd
      · refine lr_look (S1 := S) (t1 := m_s t 0 0 0) (bv := c_D S d 8) J hN hN2 (fun h1 => by rw [e, e2]; exact c_Cb_look_1 J.1 hd) J.1 rfl (fun h1 => ?_) (m_s_at t 0 0 0) (Rel_s0 hr 0) (RU_s0 hu 0 0) k
        rw [e, e2, ← look_1 hr.1 hd]; exact c_Md_look_1 J.2.1 (TR_ok hr.1) hd
      · refine lr_look (S1 := S) (t1 := m_s t 0 0 0) (bv := c_D S d 5) J hN hN2 (fun h1 => by rw [e, e2]; exact c_Cb_look_2 J.1 hd) J.1 rfl (fun h1 => ?_) (m_s_at t 0 0 0) (Rel_s0 hr 0) (RU_s0 hu 0 0) k
        rw [e, e2, ← look_2 hr.1 hd]; exact c_Md_look_2 J.2.1 (TR_ok hr.1) hd
      · refine lr_look (S1 := S) (t1 := m_s t 0 0 0) (bv := c_sig S d) J hN hN2 (fun h1 => by rw [e, e2]; exact c_Cb_look_3 J.1 hd) J.1 rfl (fun h1 => ?_) (m_s_at t 0 0 0) (Rel_s0 hr 0) (RU_s0 hu 0 0) k
        rw [e, e2, ← look_3 hr.1 hd]; exact c_Md_look_3 J.2.1 (TR_ok hr.1) hd
    · exact lx_look_IA (bv := 0) J hN hN2 (fun h1 => by rw [e]; exact c_Cb_look_y J.1 hd hk) (fun h1 => by rw [e]; exact c_Md_look_y J.2.1 (TR_ok hr.1) hd hk) (m_s_at _ 0 0 1) (Rel_s0 (Rel_s0 hr 0) 1) (RU_s0 (RU_s0 hu 0 0) 0 1) k
  · exact lx_look_IA (bv := 0) J hN hN2 (fun h1 => c_Cb_look_x J.1 hx) (fun h1 => c_Md_look_x J.2.1 (TR_ok hr.1) hx) (m_s_at _ 0 0 1) (Rel_s0 (Rel_s0 hr 0) 1) (RU_s0 (RU_s0 hu 0 0) 0 1) k
set_option maxHeartbeats 1000000 in
theorem st_value (I : LI G K S Km t o) (hN : i + 5 ≤ G.2.2.2.1) (hN2 : G.2.2.2.1 < 1000000) (k : LK G K Km o i kc ks h Q) : mm_V G M_Lw_law 612 (LL G (K 0) (Km 0) o i) [] (LH K S Km t o x h) (2 + kc) (20 + ks) Q := by
  obtain ⟨J, hr, hu⟩ := I
  by_cases hx : inR (G.2.2.2.2 (i + 1)) (c_nn S)
  · obtain ⟨j, hj, e⟩ := (inR_iff (by have := J.1.2.1; omega)).mp hx
    refine lr_value (S1 := S) (t1 := m_s t 0 0 0) (bv := c_car S j) J hN hN2 (fun h1 => by rw [e]; exact c_Cb_value_r J.1 hj) J.1 rfl (fun h1 => ?_) (m_s_at t 0 0 0) (Rel_s0 hr 0) (RU_s0 hu 0 0) k
    rw [e, ← value_r hr.1 hj]; exact c_Md_value_r J.2.1 (TR_ok hr.1) hj
  · exact lx_value_IA (bv := 0) J hN hN2 (fun h1 => c_Cb_value_x J.1 hx) (fun h1 => c_Md_value_x J.2.1 (TR_ok hr.1) hx) (m_s_at _ 0 0 1) (Rel_s0 hr 1) (RU_s0 hu 0 1) k
set_option maxHeartbeats 1000000 in
theorem st_core (I : LI G K S Km t o) (hN : i + 5 ≤ G.2.2.2.1) (hN2 : G.2.2.2.1 < 1000000) (k : LK G K Km o i kc ks h Q) : mm_V G M_Lw_law 348 (LL G (K 0) (Km 0) o i) [] (LH K S Km t o x h) (2 + kc) (20 + ks) Q := by
  obtain ⟨J, hr, hu⟩ := I
  have ok := TR_ok hr.1
  by_cases hc : isC S (G.2.2.2.2 (i + 1)) (G.2.2.2.2 (i + 2))
  · obtain ⟨d, hd, e, hin⟩ := (isC_iff hr.1 _ _).mp hc
    have hcl := ok.2.2.2.2.1 d hd
    obtain ⟨q, hq, e2⟩ := (inR_iff (by omega)).mp hin
    rw [e, e2] at hc
    by_cases hz : c_drv S d (nI q)
    · exact lr_core (S1 := s_D S d (upd (c_D S d) 6 (if (if G.2.2.2.2 (i + 3) = 0 then (0 : Int32) else 1) = 0 then c_D S d 6 &&& (1 <<< (nI q &&& 31) ^^^ -1) else c_D S d 6 ||| 1 <<< (nI q &&& 31)))) J hN hN2 (fun h1 => by rw [e, e2]; exact c_Cb_core_r J.1 hd hc hz) J.1 rfl (fun h1 => by rw [e, e2]; exact c_Md_core_r J.2.1 ok hd hq ((drv_iff hr.1 hd hq).mp hz)) (Eq.trans (kz_n _ (by decide) _ _) (m_s_at t 0 0 0)) (core_r hr hd hq hz _) (RU_n (RU_n hu (by decide) _ _) (by decide) _ _) k
    · exact lx_core_IA J hN hN2 (fun h1 => by rw [e, e2]; exact c_Cb_core_y J.1 hd hc hz) (fun h1 => by rw [e, e2]; exact c_Md_core_y J.2.1 ok hd hq (Classical.not_not.mp (fun z => hz ((drv_iff hr.1 hd hq).mpr z)))) (m_s_at _ 0 0 1) (Rel_s0 hr 1) (RU_s0 hu 0 1) k
  · exact lx_core_IA J hN hN2 (fun h1 => c_Cb_core_x J.1 hc) (fun h1 => c_Md_core_x J.2.1 ok (fun z => hc ((isC_iff hr.1 _ _).mpr z))) (m_s_at _ 0 0 1) (Rel_s0 hr 1) (RU_s0 hu 0 1) k
set_option maxHeartbeats 1000000 in
theorem st_fault (I : LI G K S Km t o) (hN : i + 5 ≤ G.2.2.2.1) (hN2 : G.2.2.2.1 < 1000000) (k : LK G K Km o i kc ks h Q) : mm_V G M_Lw_law 288 (LL G (K 0) (Km 0) o i) [] (LH K S Km t o x h) (2 + kc) (20 + ks) Q := by
  obtain ⟨J, hr, hu⟩ := I
  have ok := TR_ok hr.1
  by_cases hx : inR (G.2.2.2.2 (i + 1)) (c_nn S)
  · obtain ⟨j, hj, e⟩ := (inR_iff (by have := J.1.2.1; omega)).mp hx
    by_cases hk : G.2.2.2.2 (i + 2) < -1 ∨ ¬ G.2.2.2.2 (i + 2) ≤ 3
    · exact lx_fault_IA J hN hN2 (fun h1 => by rw [e]; exact c_Cb_fault_k J.1 hj hk) (fun h1 => by rw [e]; exact c_Md_fault_k J.2.1 ok hj hk) (m_s_at _ 0 0 1) (Rel_s0 hr 1) (RU_s0 hu 0 1) k
    · have hk1 : ¬ G.2.2.2.2 (i + 2) < -1 := fun z => hk (Or.inl z)
      have hk3 : G.2.2.2.2 (i + 2) ≤ 3 := Classical.not_not.mp (fun z => hk (Or.inr z))
      rcases kinds hk1 hk3 with hv | hv
      · have h2 : ¬ G.2.2.2.2 (i + 2) = 2 := by rcases hv with z | z | z <;> rw [z] <;> decide
        have h3 : ¬ G.2.2.2.2 (i + 2) = 3 := by rcases hv with z | z | z <;> rw [z] <;> decide
        have hlt : G.2.2.2.2 (i + 2) < 2 := by rcases hv with z | z | z <;> rw [z] <;> decide
        exact lr_fault J hN hN2 (fun h1 => by rw [e]; exact c_Cb_fault_1 J.1 hj hk1 hk3 h2 h3) (alone_wf J.1 hj _) (mnd_1 S j) (fun h1 => by rw [e]; exact c_Md_fault_1 J.2.1 ok hj hk1 hk3 hlt) (z_flt1 t j _) (fault_1 J.1 hr hj hv) (by rw [show c_nd (c_alone S j (G.2.2.2.2 (i + 2))) = c_nd S from congrArg Prod.fst (mnd_1 S j)]; exact RU_flt1 hu j _) k
      · have hlt : ¬ G.2.2.2.2 (i + 2) < 2 := by rcases hv with z | z <;> rw [z] <;> decide
        by_cases hy : inR (G.2.2.2.2 (i + 3)) (c_nn S)
        · obtain ⟨q, hq, e2⟩ := (inR_iff (by have := J.1.2.1; omega)).mp hy
          by_cases hqj : q = j
          · subst hqj
            exact lx_fault_IA J hN hN2 (fun h1 => by rw [e, e2]; exact c_Cb_fault_z J.1 hj hk1 hk3 hv rfl) (fun h1 => by rw [e, e2]; exact c_Md_fault_z J.2.1 ok hj hk1 hk3 hlt) (m_s_at _ 0 0 1) (Rel_s0 hr 1) (RU_s0 hu 0 1) k
          · exact lr_fault J hN hN2 (fun h1 => by rw [e, e2]; exact c_Cb_fault_2 J.1 hj hk1 hk3 hv hq hqj) (with_wf J.1 hj hq hqj _) (with_1 S j q _) (fun h1 => by rw [e, e2]; exact c_Md_fault_2 J.2.1 ok hj hq hqj hk1 hk3 hlt) (z_flt2 t j q _) (fault_2 J.1 hr hj hq hqj hv) (by rw [show c_nd (c_with S j q (G.2.2.2.2 (i + 2))) = c_nd S from congrArg Prod.fst (with_1 S j q _)]; exact RU_flt2 hu j q _) k
        · exact lx_fault_IA J hN hN2 (fun h1 => by rw [e]; exact c_Cb_fault_y J.1 hj hk1 hk3 hv hy) (fun h1 => by rw [e]; exact c_Md_fault_y J.2.1 ok hj hk1 hk3 hlt hy) (m_s_at _ 0 0 1) (Rel_s0 hr 1) (RU_s0 hu 0 1) k
  · exact lx_fault_IA J hN hN2 (fun h1 => c_Cb_fault_x J.1 hx) (fun h1 => c_Md_fault_x J.2.1 ok hx) (m_s_at _ 0 0 1) (Rel_s0 hr 1) (RU_s0 hu 0 1) k
set_option maxHeartbeats 1000000 in
theorem st_device (I : LI G K S Km t o) (hN : i + 5 ≤ G.2.2.2.1) (hN2 : G.2.2.2.1 < 1000000) (k : LK G K Km o i kc ks h Q) : mm_V G M_Lw_law 104 (LL G (K 0) (Km 0) o i) [] (LH K S Km t o x h) (2 + kc) (20 + ks) Q := by
  obtain ⟨J, hr, hu⟩ := I
  have ok := TR_ok hr.1
  by_cases hb : c_badD (G.2.2.2.2 (i + 1)) (G.2.2.2.2 (i + 2)) (G.2.2.2.2 (i + 3))
  · exact lx_device_IA (bv := 0) J hN hN2 (fun h1 => c_Cb_device_x J.1 hb) (fun h1 => c_Md_device_x J.2.1 ((badD_iff _ _ _).mp hb)) (m_s_at _ 0 0 1) (Rel_s0 hr 1) (RU_s0 hu 0 1) k
  · have hb2 := fun z => hb ((badD_iff _ _ _).mpr z)
    by_cases hn : c_nd S < 4
    · obtain ⟨wd, hwd, e1⟩ := wds (fun z => hb (Or.inl z)) (nlt_le.mp (fun z => hb (Or.inr (Or.inl z))))
      obtain ⟨cl, hcl, e3⟩ := cls6 (fun z => hb (Or.inr (Or.inr (Or.inl z)))) (Classical.not_not.mp (fun z => hb (Or.inr (Or.inr (Or.inr (Or.inl z))))))
      have hd := device_r hr hu hn hwd hcl (G.2.2.2.2 (i + 2)) (G.2.2.2.2 (i + 4))
      have hC := c_Cb_device_r (h := MP Km t (mm_up h o (12, [.long x]))) J.1 (dr := G.2.2.2.2 (i + 4)) hb hn
      have e4 : (c_dev S (nI wd) (G.2.2.2.2 (i + 2)) (nI cl) (G.2.2.2.2 (i + 4))).1 = (c_nd S + 1, c_nn S) := (restart_keep _).1
      rw [e1, e3] at hC
      rw [e1, e3] at hb2
      refine lq_device (mc := 2) (ms := 20) (S1 := c_dev S (nI wd) (G.2.2.2.2 (i + 2)) (nI cl) (G.2.2.2.2 (i + 4))) (PP := fun K1 => c_wf G K1 (c_dev S (nI wd) (G.2.2.2.2 (i + 2)) (nI cl) (G.2.2.2.2 (i + 4))) ∧ (∀ n ∈ cdom (c_nd S) (c_nn S), K1 n = K n) ∧ ∀ n ∈ cdom (c_nd S + 1) (c_nn S), n ∉ cdom (c_nd S) (c_nn S) → CP K S (MP Km t (mm_up h o (12, [.long x]))) (K1 n) = none) (bv := nI (c_nd S)) J hN hN2 (by omega) (by omega) ?_ (fun K1 z => ?_) (fun h1 => by rw [e1, e3]; exact c_Md_device_r J.2.1 ok hcl.2 hb2 hn) (z_dev t _ _ _ _ _) hd.1 (by rw [show c_nd (c_dev S (nI wd) (G.2.2.2.2 (i + 2)) (nI cl) (G.2.2.2.2 (i + 4))) = c_nd S + 1 from congrArg Prod.fst e4]; exact hd.2) k
      · rw [e1, e3]
        exact mm_C_wk hC (fun o h' ⟨K1, z1, z2, z3, z4, z5⟩ => ⟨K1, ⟨z1, z2, z3⟩, z4, z5⟩)
      · refine LJ_new (t := t) (h := h) (x := x) J z.1 z.2.1 (fun n hn2 hn3 => ?_)
        rw [show c_nd (c_dev S (nI wd) (G.2.2.2.2 (i + 2)) (nI cl) (G.2.2.2.2 (i + 4))) = c_nd S + 1 from congrArg Prod.fst e4, show c_nn (c_dev S (nI wd) (G.2.2.2.2 (i + 2)) (nI cl) (G.2.2.2.2 (i + 4))) = c_nn S from (congrArg Prod.snd e4 : _ = (c_nd S + 1, c_nn S).2)] at hn2
        exact pl_none (z.2.2 n hn2 hn3)
    · exact lx_device_IS (bv := 0) J hN hN2 (fun h1 => c_Cb_device_y J.1 hb hn) (fun h1 => c_Md_device_y J.2.1 ok hb2 hn) (m_s_at _ 0 0 2) (Rel_s0 hr 2) (RU_s0 hu 0 2) k
set_option maxHeartbeats 1000000 in
theorem st_net (I : LI G K S Km t o) (hN : i + 5 ≤ G.2.2.2.1) (hN2 : G.2.2.2.1 < 1000000) (k : LK G K Km o i kc ks h Q) : mm_V G M_Lw_law 196 (LL G (K 0) (Km 0) o i) [] (LH K S Km t o x h) (2 + kc) (20 + ks) Q := by
  obtain ⟨J, hr, hu⟩ := I
  have ok := TR_ok hr.1
  by_cases hx : isC S (G.2.2.2.2 (i + 1)) (G.2.2.2.2 (i + 2))
  · obtain ⟨d, hd, e1, hin⟩ := (isC_iff hr.1 _ _).mp hx
    have hcl := ok.2.2.2.2.1 d hd
    obtain ⟨a, ha, e2⟩ := (inR_iff (by omega)).mp hin
    by_cases hy : isC S (G.2.2.2.2 (i + 3)) (G.2.2.2.2 (i + 4))
    · obtain ⟨j, hj, e3, hin2⟩ := (isC_iff hr.1 _ _).mp hy
      have hcl2 := ok.2.2.2.2.1 j hj
      obtain ⟨b, hb, e4⟩ := (inR_iff (by omega)).mp hin2
      rw [e1, e2] at hx
      rw [e3, e4] at hy
      have q1 := drv_iff hr.1 hd ha
      have q2 := drv_iff hr.1 hj hb
      have q3 := wrd_iff hr.1 hd ha
      have q4 := wrd_iff hr.1 hj hb
      by_cases hbad : ¬ c_drv S d (nI a) ∨ c_drv S j (nI b) ∨ c_wrd4 S d (nI a) ∨ c_wrd4 S j (nI b)
      · have hbad2 : t 10 (6 * d + a) = 0 ∨ ¬ t 10 (6 * j + b) = 0 ∨ ¬ t 13 (6 * d + a) < 0 ∨ ¬ t 13 (6 * j + b) < 0 := by
          rcases hbad with z | z | z | z
          · exact Or.inl (Classical.not_not.mp (fun y => z (q1.mpr y)))
          · exact Or.inr (Or.inl (q2.mp z))
          · exact Or.inr (Or.inr (Or.inl (q3.mp z)))
          · exact Or.inr (Or.inr (Or.inr (q4.mp z)))
        exact lx_net_IA (bv := 0) J hN hN2 (fun h1 => by rw [e1, e2, e3, e4]; exact c_Cb_net_b J.1 hd hj hx hy hbad) (fun h1 => by rw [e1, e2, e3, e4]; exact c_Md_net_b J.2.1 ok hd ha hj hb hbad2) (m_s_at _ 0 0 1) (Rel_s0 hr 1) (RU_s0 hu 0 1) k
      · have d1 : c_drv S d (nI a) := Classical.not_not.mp (fun z => hbad (Or.inl z))
        have d2 : ¬ c_drv S j (nI b) := fun z => hbad (Or.inr (Or.inl z))
        have d3 : ¬ c_wrd4 S d (nI a) := fun z => hbad (Or.inr (Or.inr (Or.inl z)))
        have d4 : ¬ c_wrd4 S j (nI b) := fun z => hbad (Or.inr (Or.inr (Or.inr z)))
        have f1 := q1.mp d1
        have f2 : t 10 (6 * j + b) = 0 := Classical.not_not.mp (fun y => d2 (q2.mpr y))
        have f3 : t 13 (6 * d + a) < 0 := Classical.not_not.mp (fun y => d3 (q3.mpr y))
        have f4 : t 13 (6 * j + b) < 0 := Classical.not_not.mp (fun y => d4 (q4.mpr y))
        by_cases hn : c_nn S < 8
        · have hC := c_Cb_net_r (h := MP Km t (mm_up h o (12, [.long x]))) J.1 hd hj hx hy d1 d2 d3 d4 hn
          refine lq_net (mc := 2) (ms := 20) (S1 := c_net S d (nI a) j (nI b)) (PP := fun K1 => c_wf G K1 (c_net S d (nI a) j (nI b)) ∧ (∀ n ∈ cdom (c_nd S) (c_nn S), K1 n = K n) ∧ ∀ n ∈ cdom (c_nd S) (c_nn S + 1), n ∉ cdom (c_nd S) (c_nn S) → MP Km t (mm_up h o (12, [.long x])) (K1 n) = none) (bv := nI (c_nn S)) J hN hN2 (by omega) (by omega) ?_ (fun K1 z => LJ_new (t := t) (h := h) (x := x) J z.1 z.2.1 z.2.2) (fun h1 => by rw [e1, e2, e3, e4]; exact c_Md_net_r J.2.1 ok hd ha hj hb f1 f2 f3 f4 hn) (z_net t _ _ _) (net_r hr hd hj ha hb f1 f2 f3 f4 hn) (RU_net hu _ _ _) k
          rw [e1, e2, e3, e4]
          exact mm_C_wk hC (fun o h' ⟨K1, z1, z2, z3, z4, z5⟩ => ⟨K1, ⟨z1, z2, z3⟩, z4, z5⟩)
        · exact lx_net_IS (bv := 0) J hN hN2 (fun h1 => by rw [e1, e2, e3, e4]; exact c_Cb_net_f J.1 hd hj hx hy d1 d2 d3 d4 hn) (fun h1 => by rw [e1, e2, e3, e4]; exact c_Md_net_f J.2.1 ok hd ha hj hb f1 f2 f3 f4 hn) (m_s_at _ 0 0 2) (Rel_s0 hr 2) (RU_s0 hu 0 2) k
    · exact lx_net_IA (bv := 0) J hN hN2 (fun h1 => c_Cb_net_y J.1 hx hy) (fun h1 => by rw [e1, e2]; exact c_Md_net_y J.2.1 ok hd ha (fun z => hy ((isC_iff hr.1 _ _).mpr z))) (m_s_at _ 0 0 1) (Rel_s0 hr 1) (RU_s0 hu 0 1) k
  · exact lx_net_IA (bv := 0) J hN hN2 (fun h1 => c_Cb_net_x J.1 hx) (fun h1 => c_Md_net_x J.2.1 ok (fun z => hx ((isC_iff hr.1 _ _).mpr z))) (m_s_at _ 0 0 1) (Rel_s0 hr 1) (RU_s0 hu 0 1) k
set_option maxHeartbeats 1000000 in
theorem st_find (I : LI G K S Km t o) (hN : i + 5 ≤ G.2.2.2.1) (hN2 : G.2.2.2.1 < 1000000) (k : LK G K Km o i kc ks h Q) : mm_V G M_Lw_law 675 (LL G (K 0) (Km 0) o i) [] (LH K S Km t o x h) (2 + kc) (20 + ks) Q := by
  obtain ⟨J, hr, hu⟩ := I
  by_cases hd : c_nd S = 0
  · exact lx_find_IS (bv := 0) J hN hN2 (fun h1 => c_Cb_find_x J.1 hd) (fun h1 => c_Md_find_x J.2.1 (by rw [hr.1.1.2.2.1, hd]; rfl)) (m_s_at t 0 0 1) (Rel_s0 hr 1) (RU_s0 hu 0 1) k
  · have hd : 0 < c_nd S := Nat.pos_of_ne_zero hd
    have hf := find_r hr hu
    have hfx := fix_find S
    have hz := z_fnd (c_nd S) t
    have hC := fun h1 => c_Cb_find_r (h := h1) (G := G) (K := K) ⟨J.1, TR_ps hr.1⟩ hd
    have hM := fun h1 => c_Md_find_r (h := h1) (G := G) J.2.1 (TR_good hr.1) hd
    rw [hf.2.2.1] at hM
    obtain ⟨T, hT⟩ : ∃ T, T = c_find S := ⟨_, rfl⟩
    obtain ⟨u, hU⟩ : ∃ u, u = m_fnd (c_nd S) t := ⟨_, rfl⟩
    rw [← hT, ← hU] at hf
    rw [← hT] at hfx
    rw [← hU] at hz
    simp only [← hT] at hC
    simp only [← hU] at hM
    exact lr_find J hN hN2 hC (fix_wf hfx J.1) hfx.1 hM hz hf.1 (by rw [show c_nd T = c_nd S from congrArg Prod.fst hfx.1]; exact hf.2.1) k
set_option maxHeartbeats 1000000 in
theorem st_found (I : LI G K S Km t o) (hN : i + 5 ≤ G.2.2.2.1) (hN2 : G.2.2.2.1 < 1000000) (k : LK G K Km o i kc ks h Q) : mm_V G M_Lw_law 719 (LL G (K 0) (Km 0) o i) [] (LH K S Km t o x h) (2 + kc) (20 + ks) Q := by
  obtain ⟨J, hr, hu⟩ := I
  obtain ⟨f, hf4, f1, f2, f3⟩ := hr.2.2.2
  by_cases hx : G.2.2.2.2 (i + 1) < 0 ∨ ¬ G.2.2.2.2 (i + 1) < c_Z S 0 6
  · exact lx_found_IO (bv := 0) J hN hN2 (fun h1 => c_Cb_found_x J.1 hx) (fun h1 => c_Md_found_x J.2.1 (by rw [f1, ← f2]; exact hx)) (m_s_at _ 0 0 1) (Rel_s0 (Rel_s0 hr 0) 1) (RU_s0 (RU_s0 hu 0 0) 0 1) k
  · have hin : inR (G.2.2.2.2 (i + 1)) f := ⟨fun z => hx (Or.inl z), fun z => hx (Or.inr (fun y => by
      rw [f2] at y
      rw [Int32.lt_iff_toInt_lt] at y
      rw [Int32.le_iff_toInt_le] at z
      omega))⟩
    obtain ⟨j, hj, e⟩ := (inR_iff (by omega)).mp hin
    have hlt : nI j < c_Z S 0 6 := Classical.not_not.mp (fun z => hx (Or.inr (by rw [e]; exact z)))
    refine lr_found (S1 := S) (t1 := m_s t 0 0 0) (bv := c_Z S 2 j) J hN hN2 (fun h1 => by rw [e]; exact c_Cb_found_r J.1 (by omega) hlt) J.1 rfl (fun h1 => ?_) (m_s_at t 0 0 0) (Rel_s0 hr 0) (RU_s0 hu 0 0) k
    rw [e, ← f3 j hj]; exact c_Md_found_r J.2.1 f1 hj hf4
set_option maxHeartbeats 1000000 in
theorem st_saw (I : LI G K S Km t o) (hN : i + 5 ≤ G.2.2.2.1) (hN2 : G.2.2.2.1 < 1000000) (k : LK G K Km o i kc ks h Q) : mm_V G M_Lw_law 819 (LL G (K 0) (Km 0) o i) [] (LH K S Km t o x h) (2 + kc) (20 + ks) Q := by
  obtain ⟨J, hr, hu⟩ := I
  have e7 := hr.2.2.1
  by_cases hx : c_Z S 0 7 = 0 ∨ ¬ inR (G.2.2.2.2 (i + 1)) (c_nn S)
  · exact lx_saw_IO (bv := 0) J hN hN2 (fun h1 => c_Cb_saw_x J.1 hx) (fun h1 => c_Md_saw_x J.2.1 (TR_ok hr.1) (by rw [e7]; exact hx)) (m_s_at _ 0 0 1) (Rel_s0 (Rel_s0 hr 0) 1) (RU_s0 (RU_s0 hu 0 0) 0 1) k
  · have h7 : ¬ c_Z S 0 7 = 0 := fun z => hx (Or.inl z)
    obtain ⟨j, hj, e⟩ := (inR_iff (by have := J.1.2.1; omega)).mp (Classical.not_not.mp (fun z => hx (Or.inr z)))
    refine lr_saw (S1 := S) (t1 := m_s t 0 0 0) (bv := c_N S j 6) J hN hN2 (fun h1 => by rw [e]; exact c_Cb_saw_r J.1 h7 hj) J.1 rfl (fun h1 => ?_) (m_s_at t 0 0 0) (Rel_s0 hr 0) (RU_s0 hu 0 0) k
    rw [e, ← hr.2.1 j hj]; exact c_Md_saw_r J.2.1 (TR_ok hr.1) (by rw [e7]; exact h7) hj
set_option maxHeartbeats 1000000 in
theorem st_test (I : LI G K S Km t o) (hN : i + 5 ≤ G.2.2.2.1) (hN2 : G.2.2.2.1 < 1000000) (k : LK G K Km o i kc ks h Q) : mm_V G M_Lw_law 775 (LL G (K 0) (Km 0) o i) [] (LH K S Km t o x h) (2 + kc) (20 + ks) Q := by
  obtain ⟨J, hr, hu⟩ := I
  by_cases hd : c_nd S = 0 ∨ c_nn S = 0
  · exact lx_test_IS (bv := 0) J hN hN2 (fun h1 => c_Cb_test_x J.1 hd) (fun h1 => c_Md_test_x J.2.1 (by
      rw [hr.1.1.2.2.1, hr.1.1.2.2.2.1]
      rcases hd with z | z <;> rw [z]
      · exact Or.inl rfl
      · exact Or.inr rfl)) (m_s_at t 0 0 1) (Rel_s0 hr 1) (RU_s0 hu 0 1) k
  · have hd0 : 0 < c_nd S := Nat.pos_of_ne_zero (fun z => hd (Or.inl z))
    have hn0 : 0 < c_nn S := Nat.pos_of_ne_zero (fun z => hd (Or.inr z))
    obtain ⟨s1, s2, s3, s4, s5⟩ := sums hr.1
    have s5 := s5 hd0
    have hle : tot (m_cl t) (c_nd S) ≤ 24 := tot24 hr.1
    have hf := test_r hr hu s4
    have hfx := fix_test (tot (m_wd t) (c_nd S)) (tot (m_cl t) (c_nd S)) S
    have hz := z_tst (c_nd S) (c_nn S) (tot (m_wd t) (c_nd S)) t
    obtain ⟨cb, hcb⟩ : ∃ cb, tot (m_wd t) (c_nd S) = cb + 1 := ⟨tot (m_wd t) (c_nd S) - 1, by omega⟩
    obtain ⟨cc, hcc⟩ : ∃ cc, tot (m_cl t) (c_nd S) = cc + 1 := ⟨tot (m_cl t) (c_nd S) - 1, by omega⟩
    rw [hcc] at s1 hle
    rw [hcb] at s2 s3 s4
    rw [hcb, hcc] at hf hfx
    rw [hcb] at hz
    have hC := fun h1 => c_Cb_test_r (h := h1) (G := G) (K := K) ⟨J.1, TR_ps hr.1⟩ hd0 hn0 (cb := cb) (cc := cc) (by omega) (by omega) s2 s1
    have hM := fun h1 => c_Md_test_r (h := h1) (G := G) J.2.1 (TR_good hr.1) hd0 hn0 (all := cb + 1) (by omega) s3
    obtain ⟨T, hT⟩ : ∃ T, T = c_test (cb + 1) (cc + 1) S := ⟨_, rfl⟩
    obtain ⟨u, hU⟩ : ∃ u, u = m_tst (c_nd S) (c_nn S) (cb + 1) t := ⟨_, rfl⟩
    rw [← hT, ← hU] at hf
    rw [← hT] at hfx
    rw [← hU] at hz
    simp only [← hT] at hC
    simp only [← hU, ← hf.2.2.2] at hM
    exact lr_test J hN hN2 hC (fix_wf hfx J.1) hfx.1 hM hz hf.1 (by rw [show c_nd T = c_nd S from congrArg Prod.fst hfx.1]; exact hf.2.1) k
set_option maxHeartbeats 1000000 in
theorem st_state (I : LI G K S Km t o) (hN : i + 5 ≤ G.2.2.2.1) (hN2 : G.2.2.2.1 < 1000000) (k : LK G K Km o i kc ks h Q) : mm_V G M_Lw_law 531 (LL G (K 0) (Km 0) o i) [] (LH K S Km t o x h) (2 + kc) (20 + ks) Q := by
  obtain ⟨J, hr, hu⟩ := I
  obtain ⟨p, hp, e1, e2, -⟩ := hr.1.2.1
  refine mm_V_wid (k1 := kc) (k2 := ks) (by omega) (by omega) ?_
  have hM := c_Md_state (G := G) (t := t) (h := CP K S (mm_up h o (12, [.long x]))) J.2.1
  rw [e2, ← e1, ← LH_md J, ← LH_md J] at hM
  exact lw_state (LH_b J) (c_Cb_state J.1) (LH_m J) hM (k K S _ x rfl ⟨J, Rel_s0 hr 0, RU_s0 hu 0 0⟩)
set_option maxHeartbeats 1000000 in
theorem st_clocks (I : LI G K S Km t o) (hN : i + 5 ≤ G.2.2.2.1) (hN2 : G.2.2.2.1 < 1000000) (k : LK G K Km o i kc ks h Q) : mm_V G M_Lw_law 875 (LL G (K 0) (Km 0) o i) [] (LH K S Km t o x h) (2 + kc) (20 + ks) Q := by
  obtain ⟨J, hr, hu⟩ := I
  have e2 := hr.1.2.2
  refine mm_V_wid (k1 := kc) (k2 := ks) (by omega) (by omega) ?_
  have hM := c_Md_clocks (G := G) (t := t) (h := CP K S (mm_up h o (12, [.long x]))) J.2.1
  rw [e2, ← LH_md J, ← LH_md J] at hM
  exact lw_clocks (LH_b J) (c_Cb_clocks J.1) (LH_m J) hM (k K S _ x rfl ⟨J, Rel_s0 hr 0, RU_s0 hu 0 0⟩)
end LWC
