/-! find on both sides -/
def RelU (nd : Nat) (S : cS) (t : mS) : Prop := TR S t ∧ t 0 23 = c_Z S 0 7 ∧ RU nd t ∧ c_nd S = nd
def RelT (nd : Nat) (S : cS) (t : mS) : Prop := RelU nd S t ∧ ∀ j, j < c_nn S → t 18 j = c_N S j 6
section FND
variable {S : cS} {t : mS} {nd : Nat}
theorem RelU_tick (h : RelU nd S t) (b : Int32) (q : Bool) : RelU nd (c_stp S b (b01 q)) (m_tk nd b (b01 q) t) ∧ ∃ a : Bool, c_ans S (b01 q) = b01 a ∧ (m_tick nd b (b01 q) t).1 = b01 a := by
  obtain ⟨h1, h2, h3, rfl⟩ := h
  obtain ⟨a1, a2⟩ := tick_sim h1 b q
  exact ⟨⟨a1, by rw [(stp_Z S b (b01 q)).2.2.2.1, ← h2]; exact (same_tick _ b (b01 q) t).2 23 (by decide) (by decide), tick_RU (TR_ok h1) h3 b _, congrArg Prod.fst (stp_keep S b (b01 q)).1⟩, a2⟩
theorem RelT_tick (h : RelT nd S t) (b : Int32) (q : Bool) : RelT nd (c_stp S b (b01 q)) (m_tk nd b (b01 q) t) ∧ ∃ a : Bool, c_ans S (b01 q) = b01 a ∧ (m_tick nd b (b01 q) t).1 = b01 a := by
  obtain ⟨h1, h2⟩ := h
  obtain ⟨a1, a2⟩ := RelU_tick h1 b q
  refine ⟨⟨a1, fun j hj => ?_⟩, a2⟩
  have hk := stp_keep S b (b01 q)
  have hj : j < c_nn S := by rw [← show c_nn (c_stp S b (b01 q)) = c_nn S from congrArg Prod.snd hk.1]; exact hj
  rw [hk.2.2, ← h2 j hj]
  exact congrFun ((same_tick nd b (b01 q) t).1 18 (by decide)) j
theorem RelT_0 (h : RelT nd S t) (b : Int32) : RelT nd (c_stp S b 0) (m_tk nd b 0 t) := (RelT_tick h b false).1
theorem RelU_0 (h : RelU nd S t) (b : Int32) : RelU nd (c_stp S b 0) (m_tk nd b 0 t) := (RelU_tick h b false).1
theorem RelT_go (h : RelT nd S t) : RelT nd (c_go5 S) (m_go6 nd t) := by
  have h5 := RelT_0 (RelT_0 (RelT_0 (RelT_0 (RelT_0 h 1) 1) 1) 1) 1
  have e : up (fun _ S => c_stp S 1 0) 5 0 S = c_stp (c_stp (c_stp (c_stp (c_stp S 1 0) 1 0) 1 0) 1 0) 1 0 := by simp only [up]
  unfold c_go5 m_go6
  rw [e]
  generalize c_stp (c_stp (c_stp (c_stp (c_stp S 1 0) 1 0) 1 0) 1 0) 1 0 = S5 at h5 ⊢
  exact RelT_0 h5 0
theorem RelT_in (h : RelT nd S t) : RelT nd (c_in3 S) (m_com nd t) := RelT_0 (RelT_0 (RelT_0 h 1) 0) 0
theorem RelT_lv (h : RelT nd S t) : RelT nd (c_lv2 S) (m_lv nd t) := RelT_0 (RelT_0 h 1) 0
theorem RelU_in (h : RelU nd S t) : RelU nd (c_in3 S) (m_com nd t) := RelU_0 (RelU_0 (RelU_0 h 1) 0) 0
theorem RelU_lv (h : RelU nd S t) : RelU nd (c_lv2 S) (m_lv nd t) := RelU_0 (RelU_0 h 1) 0
/-- the scan's row, the found names and the like are not clocks' business -/
theorem TR_sZ (h : TR S t) (i k : Nat) (x : Int32) (hi : i ≠ 0 ∨ (k ≠ 2 ∧ k ≠ 3)) : TR (s_Z S i k x) t := by
  have hz : c_Z (s_Z S i k x) 0 2 = c_Z S 0 2 ∧ c_Z (s_Z S i k x) 0 3 = c_Z S 0 3 := by
    by_cases e : i = 0
    · subst e
      have h2 := hi.resolve_left (fun z => z rfl)
      show va_up (c_Z S) 0 (upd (c_Z S 0) k x) 0 2 = _ ∧ va_up (c_Z S) 0 (upd (c_Z S 0) k x) 0 3 = _
      rw [va_up_self, pk_un (Ne.symm h2.1), pk_un (Ne.symm h2.2)]
      exact ⟨rfl, rfl⟩
    · show va_up (c_Z S) i (upd (c_Z S i) k x) 0 2 = _ ∧ va_up (c_Z S) i (upd (c_Z S i) k x) 0 3 = _
      rw [va_up_ne _ _ (Ne.symm e)]
      exact ⟨rfl, rfl⟩
  obtain ⟨g, ⟨k, hk, e1, e2, r⟩, e3⟩ := h
  exact ⟨g, ⟨k, hk, by rw [hz.1]; exact e1, e2, r⟩, by rw [hz.2]; exact e3⟩
theorem RelU_sZ (h : RelU nd S t) (i k : Nat) (x : Int32) (hi : i ≠ 0) : RelU nd (s_Z S i k x) t := by
  refine ⟨TR_sZ h.1 i k x (Or.inl hi), ?_, h.2.2.1, h.2.2.2⟩
  rw [h.2.1]
  show _ = va_up (c_Z S) i (upd (c_Z S i) k x) 0 7
  rw [va_up_ne _ _ (Ne.symm hi)]
theorem RelT_sZ (h : RelT nd S t) (i k : Nat) (x : Int32) (hi : i ≠ 0) : RelT nd (s_Z S i k x) t := ⟨RelU_sZ h.1 i k x hi, h.2⟩
theorem RelT_s0 (h : RelT nd S t) (x : Int32) : RelT nd S (m_s t 0 21 x) := ⟨⟨TR_s0 h.1.1 (by decide) (by decide) (by decide) (by decide) x, h.1.2.1, h.1.2.2.1, h.1.2.2.2⟩, h.2⟩
/-- a bit of a scan -/
theorem din_b {i : Nat} : c_din S i = b01 (bt (c_Z S 1 (i / 32)) (i % 32)) := by
  have hi : i % 32 < 32 := Nat.mod_lt _ (by decide)
  unfold c_din c_msk
  cases hb : bt (c_Z S 1 (i / 32)) (i % 32)
  · rw [if_pos ?_]; rfl
    apply b_ext
    intro k hk
    rw [b_and, b_1shl hi, b_0]
    by_cases e : k = i % 32
    · rw [e, hb, Bool.false_and]
    · rw [decide_eq_false e, Bool.and_false]
  · rw [if_neg ?_]; rfl
    intro z
    have := congrArg (fun y => bt y (i % 32)) z
    simp only [b_and, b_1shl hi, b_0, hb, decide_true, Bool.and_true] at this
    cases this
theorem wrd_b {z : Int32} {i : Nat} {a : Bool} {k : Nat} (hk : k < 32) : bt (c_wrd z (c_msk i) (b01 a)) k = if k = i % 32 then a else bt z k := by
  have hi : i % 32 < 32 := Nat.mod_lt _ (by decide)
  unfold c_wrd c_msk
  cases a
  · rw [if_pos (by decide), b_and, b_xn _ hk, b_1shl hi]
    by_cases e : k = i % 32
    · rw [if_pos e, decide_eq_true e]; simp
    · rw [if_neg e, decide_eq_false e]; simp
  · rw [if_neg (by decide), b_or, b_1shl hi]
    by_cases e : k = i % 32
    · rw [if_pos e, decide_eq_true e]; simp
    · rw [if_neg e, decide_eq_false e]; simp
theorem scb_Z (S : cS) (b : Int32) (i : Nat) : c_Z (c_scb S b i) 0 6 = c_Z S 0 6 ∧ c_Z (c_scb S b i) 2 = c_Z S 2 ∧ c_Z (c_scb S b i) 1 = upd (c_Z S 1) (i / 32) (c_wrd (c_Z S 1 (i / 32)) (c_msk i) (c_ans S (c_din S i))) := by
  have hz := stp_Z S b (c_din S i)
  unfold c_scb
  refine ⟨?_, ?_, ?_⟩
  · show c_Z (c_stp S b (c_din S i)) 0 6 = _; exact hz.2.2.1
  · show c_Z (c_stp S b (c_din S i)) 2 = _; exact hz.2.2.2.2.2.1
  · show va_up (c_Z (c_stp S b (c_din S i))) 1 (upd (c_Z (c_stp S b (c_din S i)) 1) (i / 32) _) 1 = _
    rw [va_up_self, hz.2.2.2.2.1]
theorem RelU_scb (h : RelU nd S t) (b : Int32) (i : Nat) {q : Bool} (hq : bt (c_Z S 1 (i / 32)) (i % 32) = q) : RelU nd (c_scb S b i) (m_tk nd b (b01 q) t) ∧ ∃ a : Bool, (m_tick nd b (b01 q) t).1 = b01 a ∧ c_Z (c_scb S b i) 1 = upd (c_Z S 1) (i / 32) (c_wrd (c_Z S 1 (i / 32)) (c_msk i) (b01 a)) := by
  have hd : c_din S i = b01 q := by rw [din_b, hq]
  obtain ⟨h1, a, h2, h3⟩ := RelU_tick h b q
  have hz := (scb_Z S b i).2.2
  rw [hd, h2] at hz
  refine ⟨?_, a, h3, hz⟩
  unfold c_scb
  rw [hd]
  exact RelU_sZ h1 1 _ _ (by decide)
theorem RelT_scb (h : RelT nd S t) (b : Int32) (i : Nat) {q : Bool} (hq : bt (c_Z S 1 (i / 32)) (i % 32) = q) : RelT nd (c_scb S b i) (m_tk nd b (b01 q) t) ∧ ∃ a : Bool, (m_tick nd b (b01 q) t).1 = b01 a ∧ c_Z (c_scb S b i) 1 = upd (c_Z S 1) (i / 32) (c_wrd (c_Z S 1 (i / 32)) (c_msk i) (b01 a)) := by
  have hd : c_din S i = b01 q := by rw [din_b, hq]
  obtain ⟨h1, a, h2, h3⟩ := RelT_tick h b q
  have hz := (scb_Z S b i).2.2
  rw [hd, h2] at hz
  refine ⟨?_, a, h3, hz⟩
  unfold c_scb
  rw [hd]
  exact RelT_sZ h1 1 _ _ (by decide)
/-- what the reference holds of the words that came -/
def FI (S : cS) (t : mS) (mo wd : Int32) (i : Nat) : Prop :=
  (∀ w k, w < 5 → k < 32 → i ≤ 32 * w + k → bt (c_Z S 1 w) k = true) ∧ (∀ k, k < i % 32 → bt wd k = bt (c_Z S 1 (i / 32)) k) ∧ (0 < i % 32 → ∀ k, i % 32 ≤ k → bt wd k = false) ∧ (mo = 0 ∨ mo = 1) ∧
  ∃ f, f ≤ 4 ∧ f ≤ i / 32 ∧ t 0 21 = nI f ∧ (∀ w, w < f → ¬ c_Z S 1 w = -1 ∧ t 22 w = c_Z S 1 w) ∧ (mo = 1 → f = i / 32 ∨ f = 4) ∧ (mo = 0 → f < i / 32 ∧ (f < 4 → c_Z S 1 f = -1))
theorem b_all {x : Int32} (h : ∀ k, k < 32 → bt x k = true) : x = -1 := b_ext (fun k hk => by rw [h k hk, b_m1 k hk])
theorem fnd_step (h : RelT nd S t) {mo wd : Int32} {i : Nat} (hi : i < 160) (hf : FI S t mo wd i) : RelT nd (c_scb S (if i + 1 = 160 then 1 else 0) i) (m_fs nd i (mo, wd, t)).2.2 ∧ FI (c_scb S (if i + 1 = 160 then 1 else 0) i) (m_fs nd i (mo, wd, t)).2.2 (m_fs nd i (mo, wd, t)).1 (m_fs nd i (mo, wd, t)).2.1 (i + 1) := by
  obtain ⟨f1, f2, f3, f4, f, f5, f6, f7, f8, f9, f10⟩ := hf
  have hw5 : i / 32 < 5 := by omega
  have hr : i % 32 < 32 := Nat.mod_lt _ (by decide)
  have hq : bt (c_Z S 1 (i / 32)) (i % 32) = true := f1 _ _ hw5 hr (by omega)
  have eb : (if i + 1 = 160 then (1 : Int32) else 0) = m_ft i := by
    unfold m_ft
    by_cases e : i = 159
    · rw [if_pos e, if_pos (by omega)]
    · rw [if_neg e, if_neg (by omega)]
  rw [eb]
  obtain ⟨h1, a, h2, h3⟩ := RelT_scb h (m_ft i) i hq
  obtain ⟨S1, hS1⟩ : ∃ S1, S1 = c_scb S (m_ft i) i := ⟨_, rfl⟩
  obtain ⟨t1, ht1⟩ : ∃ t1, t1 = m_tk nd (m_ft i) 1 t := ⟨_, rfl⟩
  have s21 : t1 0 21 = t 0 21 := by rw [ht1]; exact (same_tick nd _ _ t).2 21 (by decide) (by decide)
  have s22 : t1 22 = t 22 := by rw [ht1]; exact (same_tick nd _ _ t).1 22 (by decide)
  rw [← hS1] at h1 h3 ⊢
  have h1 : RelT nd S1 t1 := by rw [ht1]; exact h1
  have zo : ∀ w, w ≠ i / 32 → c_Z S1 1 w = c_Z S 1 w := fun w hw => by rw [h3, pk_un hw]
  have zb : ∀ k, k < 32 → bt (c_Z S1 1 (i / 32)) k = if k = i % 32 then a else bt (c_Z S 1 (i / 32)) k := fun k hk => by rw [h3, pk_us, wrd_b hk]
  obtain ⟨W, hW⟩ : ∃ W, W = m_fw i (b01 a) wd := ⟨_, rfl⟩
  have Wb : ∀ k, k < 32 → bt W k = if k = i % 32 then a else if k < i % 32 then bt (c_Z S1 1 (i / 32)) k else false := by
    intro k hk
    rw [hW]
    unfold m_fw
    by_cases e0 : i % 32 = 0
    · rw [if_pos e0, b_b01]
      by_cases e : k = i % 32
      · rw [if_pos e, decide_eq_true (by omega), Bool.and_true]
      · rw [if_neg e, decide_eq_false (by omega), Bool.and_false, if_neg (by omega)]
    · rw [if_neg e0, b_or, b_shl _ hr _ hk, b_b01]
      by_cases e : k = i % 32
      · rw [if_pos e, f3 (by omega) k (by omega), decide_eq_true (show i % 32 ≤ k by omega), decide_eq_true (show k - i % 32 = 0 by omega)]; simp
      · rw [if_neg e]
        by_cases e2 : k < i % 32
        · rw [if_pos e2, f2 k e2, zb k hk, if_neg e, decide_eq_false (show ¬ i % 32 ≤ k by omega)]; simp
        · rw [if_neg e2, f3 (by omega) k (by omega), decide_eq_false (show ¬ k - i % 32 = 0 by omega)]; simp
  have ones : ∀ w k, w < 5 → k < 32 → i + 1 ≤ 32 * w + k → bt (c_Z S1 1 w) k = true := by
    intro w k hw hk hik
    by_cases e : w = i / 32
    · rw [e, zb k hk, if_neg (by omega)]
      rw [e] at hw hik
      exact f1 _ k hw hk (by omega)
    · rw [zo w e]
      exact f1 w k hw hk (by omega)
  have hfs : m_fs nd i (mo, wd, t) = if i % 32 = 31 then (m_fm mo W, W, m_ff (m_fm mo W) W t1) else (mo, W, t1) := by
    unfold m_fs
    rw [hW, ht1, ← h2]
    rfl
  rw [hfs]
  by_cases h31 : i % 32 = 31
  · rw [if_pos h31]
    have d1 : (i + 1) / 32 = i / 32 + 1 := by omega
    have m1 : (i + 1) % 32 = 0 := by omega
    have hWz : W = c_Z S1 1 (i / 32) := b_ext (fun k hk => by
      by_cases e : k = i % 32
      · rw [Wb k hk, if_pos e, zb k hk, if_pos e]
      · rw [Wb k hk, if_neg e, if_pos (by omega)])
    have fi1 : ∀ k, k < (i + 1) % 32 → bt W k = bt (c_Z S1 1 ((i + 1) / 32)) k := fun k hk => by omega
    have fi2 : 0 < (i + 1) % 32 → ∀ k, (i + 1) % 32 ≤ k → bt W k = false := fun z => by omega
    have keepf : ∀ w, w < f → ¬ c_Z S1 1 w = -1 ∧ t1 22 w = c_Z S1 1 w := fun w hw => by
      rw [zo w (by omega), s22]; exact f8 w hw
    by_cases hm0 : mo = 0
    · have e1 : m_fm mo W = 0 := if_pos hm0
      have e2 : m_ff 0 W t1 = t1 := if_pos rfl
      rw [e1]
      show RelT nd S1 (m_ff 0 W t1) ∧ FI S1 (m_ff 0 W t1) 0 W (i + 1)
      rw [e2]
      obtain ⟨g1, g2⟩ := f10 hm0
      exact ⟨h1, ones, fi1, fi2, Or.inl rfl, f, f5, by omega, by rw [s21]; exact f7, keepf, fun z => absurd z (by decide), fun _ => ⟨by omega, fun h4 => by rw [zo f (by omega)]; exact g2 h4⟩⟩
    · have hm1 : mo = 1 := f4.resolve_left hm0
      by_cases hw1 : W = -1
      · have e1 : m_fm mo W = 0 := by unfold m_fm; rw [if_neg hm0, if_pos hw1]
        have e2 : m_ff 0 W t1 = t1 := if_pos rfl
        rw [e1]
        show RelT nd S1 (m_ff 0 W t1) ∧ FI S1 (m_ff 0 W t1) 0 W (i + 1)
        rw [e2]
        refine ⟨h1, ones, fi1, fi2, Or.inl rfl, f, f5, by omega, by rw [s21]; exact f7, keepf, fun z => absurd z (by decide), fun _ => ⟨by omega, fun h4 => ?_⟩⟩
        have : f = i / 32 := (f9 hm1).resolve_right (by omega)
        rw [this, ← hWz, hw1]
      · have e1 : m_fm mo W = 1 := by unfold m_fm; rw [if_neg hm0, if_neg hw1]
        rw [e1]
        show RelT nd S1 (m_ff 1 W t1) ∧ FI S1 (m_ff 1 W t1) 1 W (i + 1)
        by_cases hf4 : f < 4
        · have ef : f = i / 32 := (f9 hm1).resolve_right (by omega)
          have e2 : m_ff 1 W t1 = m_s (m_s t1 22 f W) 0 21 (nI (f + 1)) := by
            unfold m_ff
            rw [if_neg (by decide), s21, f7, if_pos (show nI f < 4 from nI_lt (b := 4) hf4 (by decide)), nI_clamp (by omega), nI_1]
          rw [e2]
          refine ⟨?_, ones, fi1, fi2, Or.inr rfl, f + 1, by omega, by omega, m_s_at _ _ _ _, fun w hw => ?_, fun _ => Or.inl (by omega), fun z => absurd z (by decide)⟩
          · refine ⟨⟨TR_s0 ?_ (by decide) (by decide) (by decide) (by decide) _, h1.1.2.1, fun x hx => h1.1.2.2.1 x hx, h1.1.2.2.2⟩, h1.2⟩
            obtain ⟨g, ⟨k, hk, q1, q2, r⟩, q3⟩ := h1.1.1
            refine ⟨RG_keep g (fun n hn => m_s_ne _ _ _ (fun e => by rw [e] at hn; exact absurd hn (by decide))) rfl rfl rfl rfl (fun _ _ _ => rfl), ⟨k, hk, q1, q2, fun d hd => ?_⟩, q3⟩
            exact rD_blk (blk_of (n := 22) (fun m hm => m_s_ne _ _ _ hm) (by decide) (fun e => absurd e (by decide)) (fun e => absurd e (by decide)) (fun e => absurd e (by decide)) (fun e => absurd e (by decide)) (fun e => absurd e (by decide))) (r d hd)
          · rw [m_s_ne _ _ _ (by decide)]
            by_cases e : w = f
            · rw [e, m_s_at, ef, ← hWz]
              exact ⟨hw1, rfl⟩
            · rw [m_s_off _ _ _ e]
              exact keepf w (by omega)
        · have e2 : m_ff 1 W t1 = t1 := by
            unfold m_ff
            rw [if_neg (by decide), s21, f7, if_neg (show ¬ nI f < 4 from nI_nlt (b := 4) (by omega) (by omega))]
          rw [e2]
          exact ⟨h1, ones, fi1, fi2, Or.inr rfl, f, f5, by omega, by rw [s21]; exact f7, keepf, fun _ => Or.inr (by omega), fun z => absurd z (by decide)⟩
  · rw [if_neg h31]
    have d1 : (i + 1) / 32 = i / 32 := by omega
    have m1 : (i + 1) % 32 = i % 32 + 1 := by omega
    refine ⟨h1, ones, fun k hk => ?_, fun _ k hk => ?_, f4, f, f5, by omega, by show t1 0 21 = _; rw [s21]; exact f7, fun w hw => ?_, fun z => by rw [d1]; exact f9 z, fun z => ?_⟩
    · show bt W k = _
      rw [d1, Wb k (by omega)]
      by_cases e : k = i % 32
      · rw [if_pos e, zb k (by omega), if_pos e]
      · rw [if_neg e, if_pos (by omega)]
    · show bt W k = false
      rcases Nat.lt_or_ge k 32 with h32 | h32
      · rw [Wb k h32, if_neg (by omega), if_neg (by omega)]
      · exact b_big h32
    · show ¬ c_Z S1 1 w = -1 ∧ t1 22 w = _
      rw [zo w (by omega), s22]; exact f8 w hw
    · obtain ⟨g1, g2⟩ := f10 z
      rw [d1]
      exact ⟨g1, fun h4 => by rw [zo f (by omega)]; exact g2 h4⟩
theorem fnd_loop : ∀ (n i : Nat) (S : cS) (t : mS) (mo wd : Int32), i + n = 160 → RelT nd S t → FI S t mo wd i → RelT nd (c_scl 160 n i S) (up (m_fs nd) n i (mo, wd, t)).2.2 ∧ ∃ mo' wd', FI (c_scl 160 n i S) (up (m_fs nd) n i (mo, wd, t)).2.2 mo' wd' 160 := by
  intro n
  induction n with
  | zero =>
    intro i S t mo wd hi h hf
    rw [show i = 160 by omega] at hf
    exact ⟨h, mo, wd, hf⟩
  | succ n ih =>
    intro i S t mo wd hi h hf
    obtain ⟨h1, h2⟩ := fnd_step h (by omega) hf
    exact ih (i + 1) _ _ _ _ (by omega) h1 h2
theorem words_eq {f : Nat} (hf4 : f ≤ 4) (h1 : ∀ w, w < f → ¬ c_Z S 1 w = -1) (h2 : f < 4 → c_Z S 1 f = -1) : ∀ (n i : Nat), i + n = 4 → i ≤ f → c_words S n i = f := by
  intro n
  induction n with
  | zero => intro i hi hf; show i = f; omega
  | succ n ih =>
    intro i hi hif
    unfold c_words
    by_cases e : i = f
    · rw [e, if_pos (h2 (by omega))]
    · rw [if_neg (h1 i (by omega))]
      exact ih (i + 1) (by omega) (by omega)
theorem cpy_Z (fc : Nat) : ∀ (n i : Nat) (S : cS), (∀ q, q ≠ 2 → c_Z (c_cpy fc n i S) q = c_Z S q) ∧ (∀ k, i ≤ k → k < i + n → c_Z (c_cpy fc n i S) 2 k = c_Z S 1 (fc - 1 - k)) ∧ (∀ k, k < i → c_Z (c_cpy fc n i S) 2 k = c_Z S 2 k) ∧ (c_cpy fc n i S).1 = S.1 ∧ c_D (c_cpy fc n i S) = c_D S ∧ c_N (c_cpy fc n i S) = c_N S ∧ c_R (c_cpy fc n i S) = c_R S := by
  intro n
  induction n with
  | zero => intro i S; exact ⟨fun _ _ => rfl, fun k h1 h2 => by omega, fun _ _ => rfl, rfl, rfl, rfl, rfl⟩
  | succ n ih =>
    intro i S
    obtain ⟨h1, h2, h3, h4⟩ := ih (i + 1) (s_Z S 2 i (c_Z S 1 (fc - 1 - i)))
    have zo : ∀ q, q ≠ 2 → c_Z (s_Z S 2 i (c_Z S 1 (fc - 1 - i))) q = c_Z S q := fun q hq => va_up_ne _ _ hq
    refine ⟨fun q hq => (h1 q hq).trans (zo q hq), fun k a b => ?_, fun k a => ?_, h4⟩
    · by_cases e : k = i
      · refine (h3 k (by omega)).trans ?_
        show va_up (c_Z S) 2 (upd (c_Z S 2) i (c_Z S 1 (fc - 1 - i))) 2 k = _
        rw [va_up_self, e, pk_us]
      · refine (h2 k (by omega) (by omega)).trans ?_
        rw [zo 1 (by decide)]
    · refine (h3 k (by omega)).trans ?_
      show va_up (c_Z S) 2 (upd (c_Z S 2) i (c_Z S 1 (fc - 1 - i))) 2 k = _
      rw [va_up_self, pk_un (by omega)]
theorem lv_Z (S : cS) : c_Z (c_lv2 S) 1 = c_Z S 1 := by
  unfold c_lv2
  rw [(stp_Z _ 0 0).2.2.2.2.1, (stp_Z S 1 0).2.2.2.2.1]
theorem RelT_of (h : Rel S t) (hu : RU (c_nd S) t) : RelT (c_nd S) S t := ⟨⟨h.1, h.2.2.1, hu, rfl⟩, h.2.1⟩
theorem find_tail {S3 : cS} {t3 : mS} {mo wd : Int32} (k1 : RelT nd S3 t3) (hf : FI S3 t3 mo wd 160) : Rel (c_cpy (c_words (c_lv2 S3) 4 0) (c_words (c_lv2 S3) 4 0) 0 (s_Z (c_lv2 S3) 0 6 (nI (c_words (c_lv2 S3) 4 0)))) (m_lv nd t3) ∧ RU nd (m_lv nd t3) ∧ m_lv nd t3 0 21 = nI (c_words (c_lv2 S3) 4 0) ∧ (c_cpy (c_words (c_lv2 S3) 4 0) (c_words (c_lv2 S3) 4 0) 0 (s_Z (c_lv2 S3) 0 6 (nI (c_words (c_lv2 S3) 4 0)))).1 = (c_lv2 S3).1 := by
  obtain ⟨-, -, -, z4, f, k2, k3, k4, k5, k6, k7⟩ := hf
  have l1 := RelT_lv k1
  have hw1 : ∀ w, w < f → ¬ c_Z (c_lv2 S3) 1 w = -1 := fun w hw => by rw [lv_Z]; exact (k5 w hw).1
  have hw2 : f < 4 → c_Z (c_lv2 S3) 1 f = -1 := fun h4 => by
    rw [lv_Z]
    rcases z4 with z | z
    · exact (k7 z).2 h4
    · rcases k6 z with y | y
      · omega
      · omega
  have hlz : c_Z (c_lv2 S3) 1 = c_Z S3 1 := lv_Z S3
  have hwd := words_eq k2 hw1 hw2 4 0 (by omega) (by omega)
  have s21 : m_lv nd t3 0 21 = nI f := by
    unfold m_lv
    refine ((same_tick nd 0 0 _).2 21 (by decide) (by decide)).trans ?_
    exact ((same_tick nd 1 0 t3).2 21 (by decide) (by decide)).trans k4
  have s22 : m_lv nd t3 22 = t3 22 := by
    unfold m_lv
    exact ((same_tick nd 0 0 _).1 22 (by decide)).trans ((same_tick nd 1 0 t3).1 22 (by decide))
  rw [hwd]
  generalize c_lv2 S3 = S4 at l1 hlz ⊢
  generalize m_lv nd t3 = t4 at l1 s21 s22 ⊢
  obtain ⟨p1, p2, -, p4, p5, p6, p7⟩ := cpy_Z f f 0 (s_Z S4 0 6 (nI f))
  obtain ⟨S5, hS5⟩ : ∃ S5, S5 = c_cpy f f 0 (s_Z S4 0 6 (nI f)) := ⟨_, rfl⟩
  rw [← hS5] at p1 p2 p4 p5 p6 p7 ⊢
  have hr := TR_sZ l1.1.1 0 6 (nI f) (Or.inr ⟨by decide, by decide⟩)
  have hTR : TR S5 t4 := by
    obtain ⟨g, ⟨k, hk, q1, q2, r⟩, q3⟩ := hr
    refine ⟨RG_keep g (fun _ _ => rfl) rfl rfl p4 p7 (fun j f _ => by rw [p6]), ⟨k, hk, by rw [p1 0 (by decide)]; exact q1, q2, fun d hd => ?_⟩, by rw [p1 0 (by decide)]; exact q3⟩
    rw [p5]
    exact r d (by rw [← show c_nd S5 = c_nd (s_Z S4 0 6 (nI f)) from congrArg Prod.fst p4]; exact hd)
  have hnn5 : c_nn S5 = c_nn S4 := congrArg Prod.snd p4
  refine ⟨⟨hTR, fun j hj => ?_, ?_, f, k2, s21, ?_, fun k hk => ?_⟩, l1.1.2.2.1, s21, p4⟩
  · rw [p6]
    exact l1.2 j (by rw [← hnn5]; exact hj)
  · rw [p1 0 (by decide)]; exact l1.1.2.1
  · rw [p1 0 (by decide)]; rfl
  · rw [p2 k (by omega) (by omega), s22, (k5 (f - 1 - k) (by omega)).2]
    show _ = c_Z S4 1 (f - 1 - k)
    rw [hlz]
theorem fill_T : ∀ (n i : Nat) (S : cS) (t : mS), i + n = 5 → RelT nd S t → (∀ w, w < i → c_Z S 1 w = -1) → RelT nd (up (fun i S => s_Z S 1 i (-1)) n i S) t ∧ (∀ w, w < 5 → c_Z (up (fun i S => s_Z S 1 i (-1)) n i S) 1 w = -1) ∧ (up (fun i S => s_Z S 1 i (-1)) n i S).1 = S.1 := by
  intro n
  induction n with
  | zero => intro i S t hi h hw; exact ⟨h, fun w hw5 => hw w (by omega), rfl⟩
  | succ n ih =>
    intro i S t hi h hw
    refine ih (i + 1) (s_Z S 1 i (-1)) t (by omega) (RelT_sZ h 1 i (-1) (by decide)) (fun w hw2 => ?_)
    show va_up (c_Z S) 1 (upd (c_Z S 1) i (-1)) 1 w = -1
    rw [va_up_self]
    by_cases e : w = i
    · rw [e, pk_us]
    · rw [pk_un e]; exact hw w (by omega)
theorem find_mid {S1 : cS} {t1 : mS} (h0 : RelT nd S1 t1) : RelT nd (c_scl 160 160 0 (c_in3 (c_fill S1))) (up (m_fs nd) 160 0 (1, 0, m_s (m_com nd t1) 0 21 0)).2.2 ∧ ∃ mo wd, FI (c_scl 160 160 0 (c_in3 (c_fill S1))) (up (m_fs nd) 160 0 (1, 0, m_s (m_com nd t1) 0 21 0)).2.2 mo wd 160 := by
  obtain ⟨g1, g2, g3⟩ := fill_T 5 0 S1 _ (by omega) h0 (fun w hw => by omega)
  have hfl : up (fun i S => s_Z S 1 i (-1)) 5 0 S1 = c_fill S1 := rfl
  rw [hfl] at g1 g2 g3
  have g4 := RelT_in g1
  have hz4 : c_Z (c_in3 (c_fill S1)) 1 = c_Z (c_fill S1) 1 := by
    unfold c_in3
    rw [(stp_Z _ 0 0).2.2.2.2.1, (stp_Z _ 0 0).2.2.2.2.1, (stp_Z _ 1 0).2.2.2.2.1]
  have hz5 : ∀ w, w < 5 → c_Z (c_in3 (c_fill S1)) 1 w = -1 := fun w hw => by rw [hz4]; exact g2 w hw
  generalize c_in3 (c_fill S1) = S2 at g4 hz5 ⊢
  have g5 := RelT_s0 g4 0
  have e21 : m_s (m_com nd t1) 0 21 0 0 21 = nI 0 := m_s_at _ _ _ _
  generalize m_s (m_com nd t1) 0 21 0 = t2 at g5 e21 ⊢
  refine fnd_loop 160 0 S2 t2 1 0 (by omega) g5 ⟨fun w k hw hk _ => ?_, fun k hk => by omega, fun z => by omega, Or.inr rfl, 0, by omega, by omega, e21, fun w hw => by omega, fun _ => Or.inl rfl, fun z => absurd z (by decide)⟩
  rw [hz5 w hw]; exact b_m1 k hk
theorem find_r (h : Rel S t) (hu : RU (c_nd S) t) : Rel (c_find S) (m_fnd (c_nd S) t) ∧ RU (c_nd S) (m_fnd (c_nd S) t) ∧ m_fnd (c_nd S) t 0 21 = nI (c_words (c_fsc S) 4 0) ∧ (c_find S).1 = S.1 := by
  have h0 := RelT_go (RelT_of (Rel_s0 h 0) hu)
  have hk1 := (fix_go5 S).1
  obtain ⟨g1, mo, wd, g2⟩ := find_mid h0
  have g3 := find_tail g1 g2
  have hsc : c_fsc S = c_lv2 (c_scl 160 160 0 (c_in3 (c_fill (c_go5 S)))) := by unfold c_fsc c_scan; rw [if_pos rfl]
  have hk2 : (c_fsc S).1 = S.1 := by
    unfold c_fsc
    rw [(fix_scan 0 160 _).1]
    unfold c_fill
    rw [(fill_T (nd := c_nd S) 5 0 (c_go5 S) _ (by omega) h0 (fun w hw => by omega)).2.2, hk1]
  rw [← hsc] at g3
  unfold c_find m_fnd
  exact ⟨g3.1, g3.2.1, g3.2.2.1, g3.2.2.2.trans hk2⟩
end FND
