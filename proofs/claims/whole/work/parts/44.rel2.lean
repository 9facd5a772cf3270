/-! THE RELATION, whole; what follows at once -/
def Rel (S : cS) (t : mS) : Prop := TR S t ∧ (∀ j, j < c_nn S → t 18 j = c_N S j 6) ∧ t 0 23 = c_Z S 0 7 ∧ ∃ f, f ≤ 4 ∧ t 0 21 = nI f ∧ c_Z S 0 6 = nI f ∧ ∀ k, k < f → t 22 (f - 1 - k) = c_Z S 2 k
section REL2
variable {S : cS} {t : mS}
theorem TR_s0 (h : TR S t) {f : Nat} (h1 : f ≠ 1) (h14 : f ≠ 14) (h19 : f ≠ 19) (h20 : f ≠ 20) (x : Int32) : TR S (m_s t 0 f x) := by
  obtain ⟨g, ⟨k, hk, e1, e2, r⟩, e3⟩ := h
  exact ⟨RG_keep g (fun n hn => m_s_ne _ _ _ (fun e => by rw [e] at hn; exact absurd hn (by decide))) (m_s_off _ _ _ (Ne.symm h1)) (m_s_off _ _ _ (Ne.symm h14)) rfl rfl (fun _ _ _ => rfl), ⟨k, hk, e1, (m_s_off _ _ _ (Ne.symm h19)).trans e2, RD_s0 r f x⟩, (m_s_off _ _ _ (Ne.symm h20)).trans e3⟩
theorem Rel_s0 (h : Rel S t) (x : Int32) : Rel S (m_s t 0 0 x) := by
  obtain ⟨h1, h2, h3, f, h4, h5, h6, h7⟩ := h
  exact ⟨TR_s0 h1 (by decide) (by decide) (by decide) (by decide) x, h2, h3, f, h4, h5, h6, h7⟩
theorem TR_ok (h : TR S t) : m_ok (c_nd S) (c_nn S) t := by
  obtain ⟨g, ⟨k, hk, e1, e2, r⟩, e3⟩ := h
  have h4 := g.1
  have h8 := g.2.1
  refine ⟨g.1, g.2.1, g.2.2.1, g.2.2.2.1, fun d hd => (r d hd).2.2.1, fun d hd => (r d hd).2.1, fun j hj => ?_, fun j hj => ?_, fun d k hd hk => ?_⟩
  · obtain ⟨a, b, ha, hb, hf, ht, -, -, e15, -⟩ := (g.2.2.2.2.1 j hj).1
    have h6 := (r _ hf).2.2.1.2.1
    have e : m_dr t j = 6 * (c_R S j).1 + a := by unfold m_dr; rw [e15]; exact nI_clamp (by omega)
    rw [e]
    exact ⟨by omega, e15⟩
  · obtain ⟨e16, hq⟩ := (g.2.2.2.2.1 j hj).2
    rcases hq with ⟨-, e17, hkd⟩ | ⟨k, hk8, -, e17, hkd, -⟩
    · refine ⟨fun z => absurd ?_ z, fun z => absurd ?_ z⟩
      · rw [e16]; rcases hkd with e | e | e <;> rw [e] <;> decide
      · rw [e17]; decide
    · have ep : m_pt t j = k := by unfold m_pt; rw [e17]; exact nI_clamp (by omega)
      refine ⟨fun _ => ?_, fun _ => ?_⟩
      · rw [e17]; exact nI_pos (by omega)
      · rw [ep]; exact ⟨hk8, e17⟩
  · intro hn
    rcases g.2.2.2.2.2 d k hd hk with e | ⟨j, hj, e, -⟩
    · rw [e] at hn; exact absurd (by decide) hn
    · have en : m_no t (6 * d + k) = j := by unfold m_no; rw [e]; exact nI_clamp (by omega)
      rw [en]
      exact ⟨hj, e⟩
theorem TR_good (h : TR S t) : m_good (c_nd S) (c_nn S) t := by
  refine ⟨TR_ok h, ?_⟩
  obtain ⟨g, ⟨k, hk, e1, e2, r⟩, e3⟩ := h
  exact ⟨k, hk, e2⟩
theorem TR_ps (h : TR S t) : c_ps S := by
  obtain ⟨g, ⟨k, hk, e1, e2, r⟩, e3⟩ := h
  exact ⟨k, hk, e1⟩
theorem TR_dev (h : TR S t) {d : Nat} (hd : d < c_nd S) : rD False (c_D S d) t d := by
  obtain ⟨g, ⟨k, hk, e1, e2, r⟩, e3⟩ := h
  exact rD_wk (fun z => absurd z id) (r d hd)
theorem isC_iff (h : TR S t) (x y : Int32) : isC S x y ↔ ∃ d, d < c_nd S ∧ x = nI d ∧ inR y (m_cl t d) := by
  have h4 := h.1.1
  unfold isC
  constructor
  · rintro ⟨h1, h2⟩
    obtain ⟨d, hd, rfl⟩ := (inR_iff (by omega)).mp h1
    have hr := TR_dev h hd
    rw [nI_clamp (by omega), hr.1.2.2.1.symm.trans hr.2.2.1.2.2] at h2
    exact ⟨d, hd, rfl, h2⟩
  · rintro ⟨d, hd, rfl, h2⟩
    have hr := TR_dev h hd
    refine ⟨(inR_iff (by omega)).mpr ⟨d, hd, rfl⟩, ?_⟩
    rw [nI_clamp (by omega), hr.1.2.2.1.symm.trans hr.2.2.1.2.2]
    exact h2
theorem drv_iff (h : TR S t) {d k : Nat} (hd : d < c_nd S) (hk : k < m_cl t d) : c_drv S d (nI k) ↔ ¬ t 10 (6 * d + k) = 0 := by
  have hr := TR_dev h hd
  have h6 := hr.2.2.1.2.1
  unfold c_drv
  rw [mu_and1 (by omega), b01_1, show t 10 (6 * d + k) = b01 (bt (c_D S d 3) k) from hr.2.2.2.1.1 k hk, b01_0]
  cases bt (c_D S d 3) k <;> simp
theorem wrd_iff (h : TR S t) {d k : Nat} (hd : d < c_nd S) (hk : k < m_cl t d) : c_wrd4 S d (nI k) ↔ ¬ t 13 (6 * d + k) < 0 := by
  have hr := TR_dev h hd
  have h6 := hr.2.2.1.2.1
  unfold c_wrd4
  rw [mu_and1 (by omega), b01_1]
  exact hr.2.2.2.2.1 k hk
/-- a clock keeps all of it -/
theorem Rel_tick (h : Rel S t) (b : Int32) (q : Bool) : Rel (c_stp S b (b01 q)) (m_tk (c_nd S) b (b01 q) t) := by
  obtain ⟨h1, h2, h3, f, h4, h5, h6, h7⟩ := h
  have hk := stp_keep S b (b01 q)
  have hz := stp_Z S b (b01 q)
  have hs := same_tick (c_nd S) b (b01 q) t
  refine ⟨(tick_sim h1 b q).1, fun j hj => ?_, ?_, f, h4, ?_, ?_, fun k hk2 => ?_⟩
  · have hj : j < c_nn S := by rw [← show c_nn (c_stp S b (b01 q)) = c_nn S from congrArg Prod.snd hk.1]; exact hj
    rw [hk.2.2, ← h2 j hj]
    exact congrFun (hs.1 18 (by decide)) j
  · rw [hz.2.2.2.1, ← h3]; exact hs.2 23 (by decide) (by decide)
  · rw [← h5]; exact hs.2 21 (by decide) (by decide)
  · rw [hz.2.2.1]; exact h6
  · rw [hz.2.2.2.2.2.1, ← h7 k hk2]
    exact congrFun (hs.1 22 (by decide)) _
theorem look_1 (h : TR S t) {d : Nat} (hd : d < c_nd S) : m_num t d = c_D S d 8 := by
  have hr := TR_dev h hd
  have := hr.2.1
  exact dwn_reg (by omega) hr.2.2.2.2.2.1
theorem look_2 (h : TR S t) {d : Nat} (hd : d < c_nd S) : dwn (fun c v => 2 * v + t 11 (6 * d + c)) (m_cl t d) 0 = c_D S d 5 := by
  have hr := TR_dev h hd
  have := hr.2.2.1
  exact dwn_reg (by omega) hr.2.2.2.2.2.2.1
theorem look_3 (h : TR S t) {d : Nat} (hd : d < c_nd S) : dwn (fun c v => 2 * v + m_sg t (6 * d + c)) (m_cl t d) 0 = c_sig S d := by
  have hr := TR_dev h hd
  have := hr.2.2.1
  obtain ⟨g, ⟨k, hk, e1, e2, r⟩, e3⟩ := h
  exact dwn_reg (by omega) (sig_reg g r hd)
theorem value_r (h : TR S t) {j : Nat} (hj : j < c_nn S) : (if m_val t j = 1 then (1 : Int32) else 0) = c_car S j := by
  obtain ⟨g, ⟨k, hk, e1, e2, r⟩, e3⟩ := h
  obtain ⟨b, h1, h2⟩ := val_car g r hj
  rw [h1, h2, b01_if]
/-- core -/
theorem core_r (h : Rel S t) {d k : Nat} (hd : d < c_nd S) (hk : k < m_cl t d) (hz : c_drv S d (nI k)) (one : Int32) : Rel (s_D S d (upd (c_D S d) 6 (if one = 0 then c_D S d 6 &&& (1 <<< (nI k &&& 31) ^^^ -1) else c_D S d 6 ||| 1 <<< (nI k &&& 31)))) (m_s (m_s t 0 0 0) 12 (6 * d + k) (if one = 0 then 0 else 1)) := by
  have h := Rel_s0 h 0
  have hcl : m_cl (m_s t 0 0 0) d = m_cl t d := rfl
  generalize m_s t 0 0 0 = t at h hcl ⊢
  rw [← hcl] at hk
  obtain ⟨⟨g, ⟨p, hp, e1, e2, r⟩, e3⟩, h2, h3, f, h4, h5, h6, h7⟩ := h
  have hr := r d hd
  have c6 := hr.2.2.1.2.1
  refine ⟨⟨RG_keep g (fun n hn => m_s_ne _ _ _ (fun e => by rw [e] at hn; exact absurd hn (by decide))) rfl rfl rfl rfl (fun _ _ _ => rfl), ⟨p, hp, e1, e2, ?_⟩, e3⟩, h2, h3, f, h4, h5, h6, h7⟩
  have hd3 : bt (c_D S d 3) k = true := by
    unfold c_drv at hz
    rw [mu_and1 (by omega), b01_1] at hz
    exact hz
  obtain ⟨x, hx⟩ : ∃ x, x = (if one = 0 then c_D S d 6 &&& (1 <<< (nI k &&& 31) ^^^ -1) else c_D S d 6 ||| 1 <<< (nI k &&& 31)) := ⟨_, rfl⟩
  have hb : ∀ i, i < 32 → bt x i = if i = k then decide (¬ one = 0) else bt (c_D S d 6) i := by
    intro i hi
    rw [hx]
    by_cases ho : one = 0
    · rw [if_pos ho, b_and, b_xn _ hi, b_1shl (by omega)]
      by_cases e : i = k
      · rw [if_pos e, decide_eq_true e, decide_eq_false (fun z => z ho)]; simp
      · rw [if_neg e, decide_eq_false e]; simp
    · rw [if_neg ho, b_or, b_1shl (by omega)]
      by_cases e : i = k
      · rw [if_pos e, decide_eq_true e, decide_eq_true ho]; simp
      · rw [if_neg e, decide_eq_false e]; simp
  rw [← hx]
  refine RD_set r ?_ (fun d2 hd2 => blk_of (n := 12) (fun m hm => m_s_ne _ _ _ hm) (by decide) (fun e => absurd e (by decide)) (fun e => absurd e (by decide)) (fun e => absurd e (by decide)) (fun e => absurd e (by decide)) (fun _ k2 hk2 => m_s_off _ _ _ (by omega))) (fun _ _ h => h)
  have ht : ∀ m, m ≠ 12 → m_s t 12 (6 * d + k) (if one = 0 then 0 else 1) m = t m := fun m hm => m_s_ne _ _ _ hm
  have hD : ∀ f, f ≠ 6 → upd (c_D S d) 6 x f = c_D S d f := fun f hf => pk_un hf
  refine ⟨?_, ?_, ?_, ?_, ?_, ?_, ?_, ?_, ?_, ?_, fun p => dat_eq (hD 7 (by decide)) (hD 9 (by decide)) (ht 4 (by decide)) (ht 7 (by decide)) (ht 8 (by decide)) (ht 9 (by decide)) (hr.2.2.2.2.2.2.2.2.2.2 p)⟩
  all_goals unfold rD m_wd m_cl at *
  · rw [hD 0 (by decide), hD 1 (by decide), hD 2 (by decide), hD 7 (by decide), ht 2 (by decide), ht 3 (by decide), ht 4 (by decide), ht 5 (by decide)]; exact hr.1
  · rw [ht 2 (by decide)]; exact hr.2.1
  · rw [ht 4 (by decide)]; exact hr.2.2.1
  · rw [hD 3 (by decide), ht 4 (by decide), ht 10 (by decide)]; exact hr.2.2.2.1
  · rw [hD 4 (by decide), ht 4 (by decide), ht 13 (by decide)]; exact hr.2.2.2.2.1
  · rw [hD 8 (by decide), ht 2 (by decide), ht 6 (by decide)]; exact hr.2.2.2.2.2.1
  · rw [hD 5 (by decide), ht 4 (by decide), ht 11 (by decide)]; exact hr.2.2.2.2.2.2.1
  · rw [hD 5 (by decide), hD 3 (by decide)]; exact hr.2.2.2.2.2.2.2.1
  · rw [pk_us, ht 4 (by decide)]
    have h12 := hr.2.2.2.2.2.2.2.2.1
    refine ⟨fun i hi => ?_, fun i hi => ?_⟩
    · show m_s t 12 (6 * d + k) _ 12 (6 * d + i) = _
      rw [hb i (by omega)]
      by_cases e : i = k
      · rw [e, m_s_at, if_pos rfl]
        by_cases ho : one = 0
        · rw [if_pos ho, decide_eq_false (fun z => z ho)]; rfl
        · rw [if_neg ho, decide_eq_true ho]; rfl
      · rw [m_s_off _ _ _ (by omega), if_neg e]; exact h12.1 i hi
    · rcases Nat.lt_or_ge i 32 with h32 | h32
      · rw [hb i h32, if_neg (by omega)]; exact h12.2 i hi
      · exact b_big h32
  · rw [pk_us, hD 3 (by decide)]
    intro i hi
    rcases Nat.lt_or_ge i 32 with h32 | h32
    · rw [hb i h32] at hi
      by_cases e : i = k
      · rw [e]; exact hd3
      · rw [if_neg e] at hi; exact hr.2.2.2.2.2.2.2.2.2.1 i hi
    · rw [b_big h32] at hi; cases hi
end REL2
