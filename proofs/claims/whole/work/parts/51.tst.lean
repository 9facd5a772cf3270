/-! test on both sides, all of it -/
def kp (S S' : cS) : Prop := c_Z S' 2 = c_Z S 2 ∧ c_Z S' 0 6 = c_Z S 0 6
def kq (t t' : mS) : Prop := t' 0 21 = t 0 21 ∧ t' 22 = t 22
theorem kp_rf (S : cS) : kp S S := ⟨rfl, rfl⟩
theorem kp_tr {a b c : cS} (h : kp a b) (g : kp b c) : kp a c := ⟨g.1.trans h.1, g.2.trans h.2⟩
theorem kq_rf (t : mS) : kq t t := ⟨rfl, rfl⟩
theorem kq_tr {a b c : mS} (h : kq a b) (g : kq b c) : kq a c := ⟨g.1.trans h.1, g.2.trans h.2⟩
theorem kp_stp (S : cS) (a b : Int32) : kp S (c_stp S a b) := ⟨(stp_Z S a b).2.2.2.2.2.1, (stp_Z S a b).2.2.1⟩
theorem kp_sZ (S : cS) (i k : Nat) (x : Int32) (h : i = 1 ∨ (i = 0 ∧ k = 7)) : kp S (s_Z S i k x) := by
  rcases h with rfl | ⟨rfl, rfl⟩ <;> exact ⟨rfl, rfl⟩
theorem kp_up {f : Nat → cS → cS} (hf : ∀ i S, kp S (f i S)) : ∀ (n i : Nat) (S : cS), kp S (up f n i S) := by
  intro n
  induction n with
  | zero => intro i S; exact kp_rf S
  | succ n ih => intro i S; exact kp_tr (hf i S) (ih _ _)
theorem kp_scb (S : cS) (b : Int32) (i : Nat) : kp S (c_scb S b i) := ⟨(scb_Z S b i).2.1, (scb_Z S b i).1⟩
theorem kp_scan (ins : Int32) (n : Nat) (S : cS) : kp S (c_scan ins n S) := by
  have h1 : ∀ S, kp S (c_lv2 (c_scl n n 0 (c_in3 S))) := fun S => kp_tr (kp_tr (kp_tr (kp_stp S 1 0) (kp_stp _ 0 0)) (kp_stp _ 0 0)) (kp_tr (kp_up (fun i S => kp_scb S _ i) _ _ _) (kp_tr (kp_stp _ 1 0) (kp_stp _ 0 0)))
  unfold c_scan
  split
  · exact h1 S
  · exact kp_tr (kp_stp S 1 0) (h1 _)
theorem kp_go5 (S : cS) : kp S (c_go5 S) := kp_tr (kp_up (fun _ S => kp_stp S 1 0) 5 0 S) (kp_stp _ 0 0)
theorem kp_half (cc : Nat) (p : Int32) (S : cS) : kp S (c_half cc p S) := kp_tr (kp_sZ S 1 0 p (Or.inl rfl)) (kp_scan 0 cc _)
theorem kp_note (S : cS) (r came : Int32) : kp S (c_note S r came) := ⟨by rw [note_Z], by rw [note_Z]⟩
theorem kp_forget (S : cS) : kp S (c_forget S) := ⟨by rw [forget_Z], by rw [forget_Z]⟩
theorem kp_tbody (cc r : Nat) (S : cS) : kp S (c_tbody cc r S) := kp_tr (kp_tr (kp_half cc _ S) (kp_half cc _ _)) (kp_note _ _ _)
theorem kp_tl (cc : Nat) : ∀ (n r : Nat) (S : cS), kp S (c_tl cc n r S) := by
  intro n
  induction n with
  | zero => intro r S; exact kp_rf S
  | succ n ih =>
    intro r S
    unfold c_tl
    split
    · exact kp_tr (kp_tbody cc r S) (ih _ _)
    · exact kp_rf S
theorem kq_tk (nd : Nat) (b x : Int32) (t : mS) : kq t (m_tk nd b x t) := ⟨(same_tick nd b x t).2 21 (by decide) (by decide), (same_tick nd b x t).1 22 (by decide)⟩
theorem kq_up {f : Nat → mS → mS} (hf : ∀ i t, kq t (f i t)) : ∀ (n i : Nat) (t : mS), kq t (up f n i t) := by
  intro n
  induction n with
  | zero => intro i t; exact kq_rf t
  | succ n ih => intro i t; exact kq_tr (hf i t) (ih _ _)
theorem kq_18 (t : mS) (k : Nat) (x : Int32) : kq t (m_s t 18 k x) := ⟨rfl, rfl⟩
theorem kq_rc (nd : Nat) (r takes : Int32) (d c : Nat) (t : mS) : kq t (m_rc nd r takes d c t) := by
  unfold m_rc
  have h := kq_tk nd (m_rt t d c) (m_rbit t r (6 * d + c)) t
  generalize m_tk nd (m_rt t d c) (m_rbit t r (6 * d + c)) t = t1 at h ⊢
  unfold m_rs
  repeat' split
  · exact h
  · exact h
  · exact kq_tr h (kq_18 _ _ _)
  · exact h
theorem kq_rd (nd : Nat) (r takes : Int32) : ∀ (d : Nat) (t : mS), kq t (m_rd nd r takes d t) := by
  intro d
  induction d with
  | zero => intro t; exact kq_rf t
  | succ d ih => intro t; exact kq_tr (kq_up (fun c t => kq_rc nd r takes d c t) _ _ _) (ih _)
theorem kq_rnd (nd : Nat) (r takes : Int32) (t : mS) : kq t (m_rnd nd r takes t) := kq_tr (kq_tr (kq_tr (kq_tr (kq_tk nd 1 0 t) (kq_tk nd 0 0 _)) (kq_tk nd 0 0 _)) (kq_rd nd r takes nd _)) (kq_tr (kq_tk nd 1 0 _) (kq_tk nd 0 0 _))
theorem kq_tl (nd nn : Nat) : ∀ (n r : Nat) (t : mS), kq t (m_tl nd nn n r t) := by
  intro n
  induction n with
  | zero => intro r t; exact kq_rf t
  | succ n ih =>
    intro r t
    unfold m_tl
    split
    · exact kq_tr (kq_tr (kq_rnd nd _ 0 t) (kq_rnd nd _ 1 _)) (ih _ _)
    · exact kq_rf t
section TST2
variable {S : cS} {t : mS} {nd : Nat}
theorem ext_loop {cb : Nat} (hcb : cb ≤ 16) : ∀ (n i : Nat) (S : cS) (t : mS), i + n = cb → RelT nd S t → (∀ k, i ≤ k → k < 32 → bt (c_Z S 1 0) k = false) → RelT nd (c_scl cb n i S) (up (fun b t => m_tk nd (if b + 1 = cb then 1 else 0) 0 t) n i t) := by
  intro n
  induction n with
  | zero => intro i S t _ h _; exact h
  | succ n ih =>
    intro i S t hi h hb
    have i32 : i / 32 = 0 := by omega
    have im : i % 32 = i := by omega
    obtain ⟨g1, a, g2, g3⟩ := RelT_scb h (if i + 1 = cb then 1 else 0) i (q := false) (by rw [i32, im]; exact hb i (Nat.le_refl _) (by omega))
    refine ih (i + 1) _ _ (by omega) g1 (fun k hk hk2 => ?_)
    rw [g3, i32, pk_us, wrd_b hk2, im, if_neg (by omega)]
    exact hb k (by omega) hk2
theorem fg_sim (h : RelT nd S t) : RelT nd (c_forget S) (m_fg (c_nn S) t) := by
  have hU : ∀ (n i : Nat) (t : mS), RelU nd S t → RelU nd S (up (fun n t => m_s t 18 n 0) n i t) := by
    intro n
    induction n with
    | zero => intro i t h; exact h
    | succ n ih => intro i t h; exact ih _ _ (RelU_18 h _ _)
  have h18 : ∀ (n i : Nat) (t : mS), (∀ j, i ≤ j → j < i + n → up (fun n t => m_s t 18 n 0) n i t 18 j = 0) ∧ ∀ j, j < i → up (fun n t => m_s t 18 n 0) n i t 18 j = t 18 j := by
    intro n
    induction n with
    | zero => intro i t; exact ⟨fun j h1 h2 => by omega, fun _ _ => rfl⟩
    | succ n ih =>
      intro i t
      obtain ⟨a1, a2⟩ := ih (i + 1) (m_s t 18 i 0)
      refine ⟨fun j h1 h2 => ?_, fun j hj => (a2 j (by omega)).trans (m_s_off _ _ _ (by omega))⟩
      by_cases e : j = i
      · rw [e]; exact (a2 i (by omega)).trans (m_s_at _ _ _ _)
      · exact a1 j (by omega) (by omega)
  have hN : ∀ (n i : Nat) (S : cS), (∀ j, i ≤ j → j < i + n → c_N (up (fun j S => s_N S j (upd (c_N S j) 6 0)) n i S) j 6 = 0) ∧ (∀ j, j < i → c_N (up (fun j S => s_N S j (upd (c_N S j) 6 0)) n i S) j 6 = c_N S j 6) ∧ c_D (up (fun j S => s_N S j (upd (c_N S j) 6 0)) n i S) = c_D S := by
    intro n
    induction n with
    | zero => intro i S; exact ⟨fun j h1 h2 => by omega, fun _ _ => rfl, rfl⟩
    | succ n ih =>
      intro i S
      obtain ⟨a1, a2, a3⟩ := ih (i + 1) (s_N S i (upd (c_N S i) 6 0))
      refine ⟨fun j h1 h2 => ?_, fun j hj => (a2 j (by omega)).trans ?_, a3.trans rfl⟩
      · by_cases e : j = i
        · rw [e]
          refine (a2 i (by omega)).trans ?_
          show va_up (c_N S) i (upd (c_N S i) 6 0) i 6 = 0
          rw [va_up_self, pk_us]
        · exact a1 j (by omega) (by omega)
      · show va_up (c_N S) i (upd (c_N S i) 6 0) j 6 = _
        rw [va_up_ne _ _ (by omega)]
  have hf := fix_forget S
  refine ⟨RelU_N6 (hU _ _ _ h.1) hf.1 hf.2.1 (hN (c_nn S) 0 S).2.2 (forget_Z S) (fun j f h6 => hf.2.2.2 j f h6), fun j hj => ?_⟩
  have hj : j < c_nn S := by rw [← show c_nn (c_forget S) = c_nn S from congrArg Prod.snd hf.1]; exact hj
  exact ((h18 (c_nn S) 0 t).1 j (by omega) (by omega)).trans ((hN (c_nn S) 0 S).1 j (by omega) (by omega)).symm
theorem test_r (h : Rel S t) (hu : RU (c_nd S) t) {cb : Nat} (hcb : cb ≤ 16) : Rel (c_test cb (tot (m_cl t) (c_nd S)) S) (m_tst (c_nd S) (c_nn S) cb t) ∧ RU (c_nd S) (m_tst (c_nd S) (c_nn S) cb t) ∧ (c_test cb (tot (m_cl t) (c_nd S)) S).1 = S.1 ∧ c_faulty (c_test cb (tot (m_cl t) (c_nd S)) S) = m_cnt (c_nn S) (m_tst (c_nd S) (c_nn S) cb t) := by
  have h0 := RelT_go (RelT_of (Rel_s0 h 0) hu)
  obtain ⟨-, -, -, f, h4, h5, h6, h7⟩ := h
  unfold c_test m_tst
  have k0 := kp_go5 S
  have f0 := (fix_go5 S).1
  have q0 : kq t (m_go6 (c_nd S) (m_s t 0 0 0)) := kq_tr (b := m_s t 0 0 0) ⟨rfl, rfl⟩ (kq_tr (kq_tr (kq_tr (kq_tr (kq_tr (kq_tk _ 1 0 _) (kq_tk _ 1 0 _)) (kq_tk _ 1 0 _)) (kq_tk _ 1 0 _)) (kq_tk _ 1 0 _)) (kq_tk _ 0 0 _))
  have c0 : m_cl (m_go6 (c_nd S) (m_s t 0 0 0)) = m_cl t := by
    have e : ∀ b x t', m_tk (c_nd S) b x t' 4 = t' 4 := fun b x t' => (same_tick (c_nd S) b x t').1 4 (by decide)
    have e4 : m_go6 (c_nd S) (m_s t 0 0 0) 4 = t 4 := by
      unfold m_go6
      rw [e, e, e, e, e, e]; rfl
    unfold m_cl; rw [e4]
  obtain ⟨nd, hnd⟩ : ∃ nd, c_nd S = nd := ⟨_, rfl⟩
  obtain ⟨nn, hnn⟩ : ∃ nn, c_nn S = nn := ⟨_, rfl⟩
  rw [hnd] at h0 q0 c0 ⊢
  rw [hnn]
  generalize c_go5 S = S1 at h0 k0 f0 ⊢
  generalize m_go6 nd (m_s t 0 0 0) = t1 at h0 q0 c0 ⊢
  -- the instructions
  have g1 := RelT_in (RelT_0 (RelT_sZ h0 1 0 0 (by decide)) 1)
  have z1 : c_Z (c_in3 (c_stp (s_Z S1 1 0 0) 1 0)) 1 0 = 0 := by
    have e : c_Z (c_in3 (c_stp (s_Z S1 1 0 0) 1 0)) 1 = c_Z (s_Z S1 1 0 0) 1 := by
      unfold c_in3
      rw [(stp_Z _ 0 0).2.2.2.2.1, (stp_Z _ 0 0).2.2.2.2.1, (stp_Z _ 1 0).2.2.2.2.1, (stp_Z _ 1 0).2.2.2.2.1]
    rw [e]; rfl
  have g2 := RelT_lv (ext_loop hcb cb 0 _ _ (by omega) g1 (fun k _ _ => by rw [z1, b_0]))
  have hsc : c_scan 1 cb (s_Z S1 1 0 0) = c_lv2 (c_scl cb cb 0 (c_in3 (c_stp (s_Z S1 1 0 0) 1 0))) := by unfold c_scan; rw [if_neg (by decide)]
  rw [← hsc] at g2
  have k1 := kp_tr k0 (kp_tr (kp_sZ S1 1 0 0 (Or.inl rfl)) (kp_scan 1 cb _))
  have f1 : (c_scan 1 cb (s_Z S1 1 0 0)).1 = S.1 := (fix_scan 1 cb _).1.trans f0
  have exm : up (fun b t => m_tk nd (if b + 1 = cb then 1 else 0) 0 t) cb 0 (m_com nd (m_tk nd 1 0 t1)) = m_ex nd cb (m_com nd (m_tk nd 1 0 t1)) := rfl
  rw [exm] at g2
  have q1 : kq t (m_lv nd (m_ex nd cb (m_com nd (m_tk nd 1 0 t1)))) := kq_tr q0 (kq_tr (kq_tr (kq_tr (kq_tk nd 1 0 t1) (kq_tr (kq_tr (kq_tk nd 1 0 _) (kq_tk nd 0 0 _)) (kq_tk nd 0 0 _))) (kq_up (fun b t => kq_tk nd _ 0 t) _ _ _)) (kq_tr (kq_tk nd 1 0 _) (kq_tk nd 0 0 _)))
  have c1 : m_cl (m_lv nd (m_ex nd cb (m_com nd (m_tk nd 1 0 t1)))) = m_cl t := by
    have e : ∀ b x t', m_tk nd b x t' 4 = t' 4 := fun b x t' => (same_tick nd b x t').1 4 (by decide)
    have eu : ∀ (n i : Nat) (t : mS), up (fun b t => m_tk nd (if b + 1 = cb then 1 else 0) 0 t) n i t 4 = t 4 := by
      intro n
      induction n with
      | zero => intro i t; rfl
      | succ n ih => intro i t; exact (ih _ _).trans (e _ _ _)
    have e4 : m_lv nd (m_ex nd cb (m_com nd (m_tk nd 1 0 t1))) 4 = t1 4 := by
      unfold m_lv
      rw [e, e]
      refine (eu cb 0 _).trans ?_
      unfold m_com
      rw [e, e, e, e]
    rw [← c0]
    unfold m_cl; rw [e4]
  generalize c_scan 1 cb (s_Z S1 1 0 0) = S2 at g2 k1 f1 ⊢
  generalize m_lv nd (m_ex nd cb (m_com nd (m_tk nd 1 0 t1))) = t2 at g2 q1 c1 ⊢
  have n2 : c_nn S2 = nn := (congrArg Prod.snd f1).trans hnn
  -- nothing seen yet
  have g3 := fg_sim g2
  rw [n2] at g3
  have k2 := kp_tr k1 (kp_forget S2)
  have f2 : (c_forget S2).1 = S.1 := (fix_forget S2).1.trans f1
  have q2 : kq t (m_fg nn t2) := kq_tr q1 (kq_up (fun n t => kq_18 t n 0) _ _ _)
  have c2 : m_cl (m_fg nn t2) = m_cl t := by
    have eu : ∀ (n i : Nat) (t : mS), up (fun n t => m_s t 18 n 0) n i t 4 = t 4 := by
      intro n
      induction n with
      | zero => intro i t; rfl
      | succ n ih => intro i t; exact (ih _ _).trans (m_s_ne _ _ _ (by decide))
    rw [← c1]
    unfold m_cl m_fg
    rw [eu]
  generalize c_forget S2 = S3 at g3 k2 f2 ⊢
  generalize m_fg nn t2 = t3 at g3 q2 c2 ⊢
  obtain ⟨g4, f4⟩ := tl_sim (cl := m_cl t) (nn := nn) 4 0 S3 t3 (by omega) g3 c2 ((congrArg Prod.snd f2).trans hnn)
  have k3 := kp_tr k2 (kp_tl (tot (m_cl t) nd) 4 0 S3)
  have q3 := kq_tr q2 (kq_tl nd nn 4 0 t3)
  have f5 := f4.trans f2
  generalize c_tl (tot (m_cl t) nd) 4 0 S3 = S4 at g4 k3 f5 ⊢
  generalize m_tl nd nn 4 0 t3 = t4 at g4 q3 ⊢
  have n4 : c_nn S4 = nn := (congrArg Prod.snd f5).trans hnn
  refine ⟨⟨TR_sZ (TR_s0 g4.1.1 (by decide) (by decide) (by decide) (by decide) 1) 0 7 1 (Or.inr ⟨by decide, by decide⟩), g4.2, rfl, f, h4, ?_, ?_, fun k hk => ?_⟩, g4.1.2.2.1, f5, ?_⟩
  · show t4 0 21 = nI f
    rw [q3.1]; exact h5
  · show c_Z S4 0 6 = nI f
    rw [k3.2]; exact h6
  · show t4 22 (f - 1 - k) = c_Z S4 2 k
    rw [q3.2, k3.1]; exact h7 k hk
  · unfold c_faulty m_cnt
    show up _ (c_nn S4) 0 0 = _
    rw [n4]
    refine up_congr_lt (m := nn) (fun i a hi => ?_) nn 0 0 (by omega)
    have e := g4.2 i (by rw [n4]; exact hi)
    show (if c_N S4 i 6 = nI i + 1 then a else a + 1) = if t4 18 i = nI i + 1 then a else a + 1
    rw [e]
theorem sums (h : TR S t) : c_sumC S = nI (tot (m_cl t) (c_nd S)) ∧ c_sumB S = nI (tot (m_wd t) (c_nd S)) ∧ up (fun d a => a + t 2 d) (c_nd S) 0 0 = nI (tot (m_wd t) (c_nd S)) ∧ tot (m_wd t) (c_nd S) ≤ 16 ∧ (0 < c_nd S → 0 < tot (m_wd t) (c_nd S) ∧ 0 < tot (m_cl t) (c_nd S)) := by
  have h4 := h.1.1
  have hw : ∀ i, i < c_nd S → c_D S i 0 = nI (m_wd t i) ∧ t 2 i = nI (m_wd t i) ∧ 2 ≤ m_wd t i ∧ m_wd t i ≤ 4 := fun i hi => by
    have hr := TR_dev h hi
    exact ⟨hr.1.1.symm.trans hr.2.1.2.2, hr.2.1.2.2, hr.2.1.1, hr.2.1.2.1⟩
  refine ⟨sum_tot (fun i hi => TR_cl h i hi) _ (Nat.le_refl _), sum_tot (fun i hi => (hw i hi).1) _ (Nat.le_refl _), sum_tot (fun i hi => (hw i hi).2.1) _ (Nat.le_refl _), ?_, fun hn => ?_⟩
  · have key : ∀ n, n ≤ c_nd S → tot (m_wd t) n ≤ 4 * n := by
      intro n
      induction n with
      | zero => intro _; exact Nat.le_refl _
      | succ n ih =>
        intro hn
        have h1 := ih (by omega)
        have h2 := (hw n (by omega)).2.2.2
        show tot (m_wd t) n + m_wd t n ≤ 4 * (n + 1)
        omega
    have := key (c_nd S) (Nat.le_refl _)
    omega
  · have e1 : tot (m_wd t) 1 = 0 + m_wd t 0 := rfl
    have e2 : tot (m_cl t) 1 = 0 + m_cl t 0 := rfl
    have m1 := tot_mono (cl := m_wd t) (show 1 ≤ c_nd S by omega)
    have m2 := tot_mono (cl := m_cl t) (show 1 ≤ c_nd S by omega)
    have a1 := (hw 0 hn).2.2.1
    have a2 := (TR_c6 h 0 hn).1
    exact ⟨by omega, by omega⟩
end TST2
