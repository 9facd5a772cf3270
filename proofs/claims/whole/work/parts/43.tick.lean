/-! a clock on both sides, all of it -/
def Pd (k : Nat) : Nat → Prop := fun _ => 4 ≤ k ∧ k ≤ 8
/-- the two are alike in all that clocks touch -/
def TR (S : cS) (t : mS) : Prop := RG S t ∧ (∃ k, k < 16 ∧ c_Z S 0 2 = nI k ∧ t 0 19 = nI k ∧ RD (Pd k) S t) ∧ t 0 20 = c_Z S 0 3
theorem RD_wk {P P' : Nat → Prop} {S : cS} {t : mS} (h : ∀ d, P' d → P d) (r : RD P S t) : RD P' S t := fun d hd => rD_wk (h d) (r d hd)
theorem RD_s0 {P : Nat → Prop} {S : cS} {t : mS} (r : RD P S t) (f : Nat) (x : Int32) : RD P S (m_s t 0 f x) := fun d hd => rD_blk (blk_of (n := 0) (fun m hm => m_s_ne _ _ _ hm) (by decide) (fun e => absurd e (by decide)) (fun e => absurd e (by decide)) (fun e => absurd e (by decide)) (fun e => absurd e (by decide)) (fun e => absurd e (by decide))) (r d hd)
theorem same_RG {S S' : cS} {t t' : mS} (g : RG S t) (hs : m_same t t') (h1 : S'.1 = S.1) (hR : c_R S' = c_R S) (hN : ∀ j f, f ≠ 6 → c_N S' j f = c_N S j f) : RG S' t' :=
  RG_keep g (fun n hn => hs.1 n (fun h => by
    simp only [List.mem_cons, List.not_mem_nil, or_false] at hn h
    omega)) (hs.2 1 (by decide) (by decide)) (hs.2 14 (by decide) (by decide)) h1 hR hN
theorem dsb_4 (i : Nat) (q : Int32) (S : cS) : c_dsb (nI 4) i (q, S) = (if (c_D S i 9 &&& 1) = 1 then 1 else 0, s_D S i (upd (c_D S i) 9 (dv_sd (c_D S i 9) (dv_len (c_D S i)) q))) := by unfold c_dsb; rw [if_neg (by decide), if_pos (by decide)]
theorem dsb_11 (i : Nat) (q : Int32) (S : cS) : c_dsb (nI 11) i (q, S) = (if (c_D S i 8 &&& 1) = 1 then 1 else 0, s_D S i (upd (c_D S i) 8 (dv_sd (c_D S i 8) (c_D S i 0) q))) := by unfold c_dsb; rw [if_neg (by decide), if_neg (by decide), if_neg (by decide), if_neg (by decide), if_pos (by decide)]
theorem run_4 : ∀ (n i : Nat) (q : Bool) (S : cS) (t : mS), i + n = c_nd S → RD (fun _ => True) S t → RD (fun _ => True) (up (c_dsb (nI 4)) n i (b01 q, S)).2 (up (m_sh1 1) n i (b01 q, t)).2 ∧ ∃ a : Bool, (up (c_dsb (nI 4)) n i (b01 q, S)).1 = b01 a ∧ (up (m_sh1 1) n i (b01 q, t)).1 = b01 a := by
  intro n
  induction n with
  | zero => intro i q S t _ r; exact ⟨r, q, rfl, rfl⟩
  | succ n ih =>
    intro i q S t hi r
    obtain ⟨h1, a, h2, h3⟩ := step_4 r (i := i) (by omega) q
    show RD _ (up (c_dsb (nI 4)) n (i + 1) (c_dsb (nI 4) i (b01 q, S))).2 (up (m_sh1 1) n (i + 1) (m_sh1 1 i (b01 q, t))).2 ∧ ∃ a : Bool, (up (c_dsb (nI 4)) n (i + 1) (c_dsb (nI 4) i (b01 q, S))).1 = b01 a ∧ (up (m_sh1 1) n (i + 1) (m_sh1 1 i (b01 q, t))).1 = b01 a
    rw [dsb_4, h2, show m_sh1 1 i (b01 q, t) = (b01 a, (m_sh1 1 i (b01 q, t)).2) from Prod.ext h3 rfl]
    exact ih (i + 1) a _ _ (by show i + 1 + n = c_nd S; omega) h1
theorem run_11 {P : Nat → Prop} : ∀ (n i : Nat) (q : Bool) (S : cS) (t : mS), i + n = c_nd S → RD P S t → RD P (up (c_dsb (nI 11)) n i (b01 q, S)).2 (up (m_sh1 0) n i (b01 q, t)).2 ∧ ∃ a : Bool, (up (c_dsb (nI 11)) n i (b01 q, S)).1 = b01 a ∧ (up (m_sh1 0) n i (b01 q, t)).1 = b01 a := by
  intro n
  induction n with
  | zero => intro i q S t _ r; exact ⟨r, q, rfl, rfl⟩
  | succ n ih =>
    intro i q S t hi r
    obtain ⟨h1, a, h2, h3⟩ := step_11 r (i := i) (by omega) q
    show RD _ (up (c_dsb (nI 11)) n (i + 1) (c_dsb (nI 11) i (b01 q, S))).2 (up (m_sh1 0) n (i + 1) (m_sh1 0 i (b01 q, t))).2 ∧ ∃ a : Bool, (up (c_dsb (nI 11)) n (i + 1) (c_dsb (nI 11) i (b01 q, S))).1 = b01 a ∧ (up (m_sh1 0) n (i + 1) (m_sh1 0 i (b01 q, t))).1 = b01 a
    rw [dsb_11, h2, show m_sh1 0 i (b01 q, t) = (b01 a, (m_sh1 0 i (b01 q, t)).2) from Prod.ext h3 rfl]
    exact ih (i + 1) a _ _ (by show i + 1 + n = c_nd S; omega) h1
/-- a loop over the devices, both sides in step -/
theorem run_g {p : Int32} (PP : Nat → Nat → Prop) {Ds : cS → Nat → Nat → Int32} (hc : ∀ i q S, c_dsb p i (q, S) = (q, s_D S i (Ds S i))) (hst : ∀ i S t, i < c_nd S → RG S t → RD (PP i) S t → RD (PP (i + 1)) (s_D S i (Ds S i)) (m_tk1 p i t)) : ∀ (n i : Nat) (q : Int32) (S : cS) (t : mS), i + n = c_nd S → RG S t → RD (PP i) S t → RD (PP (i + n)) (up (c_dsb p) n i (q, S)).2 (up (m_tk1 p) n i t) ∧ (up (c_dsb p) n i (q, S)).1 = q := by
  intro n
  induction n with
  | zero => intro i q S t _ g r; exact ⟨r, rfl⟩
  | succ n ih =>
    intro i q S t hi g r
    have h1 := hst i S t (by omega) g r
    show RD _ (up (c_dsb p) n (i + 1) (c_dsb p i (q, S))).2 (up (m_tk1 p) n (i + 1) (m_tk1 p i t)) ∧ (up (c_dsb p) n (i + 1) (c_dsb p i (q, S))).1 = q
    rw [hc, show i + (n + 1) = i + 1 + n by omega]
    exact ih (i + 1) q _ _ (by show i + 1 + n = c_nd S; omega) (same_RG g (same_tk1 p i t) rfl rfl (fun _ _ _ => rfl)) h1
theorem up_id {α : Type} {f : Nat → α → α} (hf : ∀ i a, f i a = a) : ∀ (n i : Nat) (a : α), up f n i a = a := by
  intro n
  induction n with
  | zero => intro i a; rfl
  | succ n ih => intro i a; show up f n (i + 1) (f i a) = a; rw [hf]; exact ih _ _
section SIM2
variable {S : cS} {t : mS}
theorem run_sim {k : Nat} (hk : k < 16) (g : RG S t) (r : RD (Pd k) S t) (hz : c_Z S 0 2 = nI k) (q : Bool) : RD (fun _ => 3 ≤ k ∧ k ≤ 8) (c_run S (b01 q)).2 (up (m_tk1 (nI k)) (c_nd S) 0 (m_shf (c_nd S) k (b01 q) t).2) ∧ ∃ a : Bool, c_dout (nI k) (c_run S (b01 q)).1 = b01 a ∧ (m_shf (c_nd S) k (b01 q) t).1 = b01 a := by
  unfold c_run
  rw [hz]
  have nosh : ∀ k, k ≠ 4 → k ≠ 11 → m_shf (c_nd S) k (b01 q) t = (0, t) := fun k h1 h2 => by unfold m_shf; rw [if_neg h1, if_neg h2]
  have dz : ∀ p a : Int32, ¬ p = 4 → ¬ p = 11 → c_dout p a = b01 false := fun p a h1 h2 => by
    unfold c_dout
    rw [if_neg h1, if_neg h2]
    split <;> rfl
  by_cases h4 : k = 4
  · subst h4
    have e : m_shf (c_nd S) 4 (b01 q) t = up (m_sh1 1) (c_nd S) 0 (b01 q, t) := if_pos rfl
    have eid : ∀ t, up (m_tk1 (nI 4)) (c_nd S) 0 t = t := up_id (fun i a => by unfold m_tk1; rw [if_neg (by decide), if_neg (by decide), if_neg (by decide), if_neg (by decide)]) _ _
    rw [e, eid]
    obtain ⟨h1, a, h2, h3⟩ := run_4 (c_nd S) 0 q S t (by omega) (RD_wk (fun _ _ => ⟨by omega, by omega⟩) r)
    refine ⟨RD_wk (fun _ _ => trivial) h1, a, ?_, h3⟩
    rw [h2]
    cases a <;> decide
  · by_cases h11 : k = 11
    · subst h11
      have e : m_shf (c_nd S) 11 (b01 q) t = up (m_sh1 0) (c_nd S) 0 (b01 q, t) := by unfold m_shf; rw [if_neg (by decide), if_pos rfl]
      have eid : ∀ t, up (m_tk1 (nI 11)) (c_nd S) 0 t = t := up_id (fun i a => by unfold m_tk1; rw [if_neg (by decide), if_neg (by decide), if_neg (by decide), if_neg (by decide)]) _ _
      rw [e, eid]
      obtain ⟨h1, a, h2, h3⟩ := run_11 (P := Pd 11) (c_nd S) 0 q S t (by omega) r
      refine ⟨RD_wk (fun _ h => ⟨by omega, h.2⟩) h1, a, ?_, h3⟩
      rw [h2]
      cases a <;> decide
    · rw [nosh k h4 h11]
      have hp4 : ¬ nI k = 4 := fun z => h4 ((nI_eq (b := 4) (by omega) (by decide)).mp z)
      have hp11 : ¬ nI k = 11 := fun z => h11 ((nI_eq (b := 11) (by omega) (by decide)).mp z)
      refine ⟨?_, false, dz _ _ hp4 hp11, rfl⟩
      by_cases h3 : k = 3
      · subst h3
        have h9 := (run_g (p := nI 3) (fun i d => d < i) (Ds := fun S i => upd (c_D S i) 9 (dv_cap (c_D S i) (c_sig S i))) (fun i q S => by unfold c_dsb; rw [if_pos (by decide)]) (fun i S t hi g r => by
          have e : m_tk1 (nI 3) i t = m_cap i t := by unfold m_tk1; rw [if_pos (by decide)]
          rw [e]; exact step_3 g r hi) (c_nd S) 0 (b01 q) S t (by omega) g (RD_wk (fun d h => by omega) r)).1
        intro d hd
        have hd2 : d < c_nd S := by
          have e := (run_keep (nI 3) (c_nd S) 0 (b01 q, S)).1.1
          have : c_nd (up (c_dsb (nI 3)) (c_nd S) 0 (b01 q, S)).2 = c_nd S := congrArg Prod.fst e
          omega
        exact rD_wk (fun _ => by omega) (h9 d hd)
      · by_cases h8 : k = 8
        · subst h8
          have h9 := (run_g (p := nI 8) (fun _ _ => True) (Ds := fun S i => upd (c_D S i) 5 (if c_D S i 7 = 0 ∨ c_D S i 7 = 2 then c_D S i 9 &&& c_D S i 3 else c_D S i 5)) (fun i q S => by unfold c_dsb; rw [if_neg (by decide), if_neg (by decide), if_pos (by decide)]) (fun i S t hi g r => by
            have e : m_tk1 (nI 8) i t = m_upd i t := by unfold m_tk1; rw [if_neg (by decide), if_pos (by decide)]
            rw [e]; exact step_8 r hi) (c_nd S) 0 (b01 q) S t (by omega) g (RD_wk (fun d _ => ⟨by omega, by omega⟩) r)).1
          exact RD_wk (fun _ _ => trivial) h9
        · by_cases h10 : k = 10
          · subst h10
            have h9 := (run_g (p := nI 10) (fun _ => Pd 10) (Ds := fun S i => upd (c_D S i) 8 1) (fun i q S => by unfold c_dsb; rw [if_neg (by decide), if_neg (by decide), if_neg (by decide), if_pos (by decide)]) (fun i S t hi g r => by
              have e : m_tk1 (nI 10) i t = m_one i t := by unfold m_tk1; rw [if_neg (by decide), if_neg (by decide), if_neg (by decide), if_pos (by decide)]
              rw [e]; exact step_10 r hi) (c_nd S) 0 (b01 q) S t (by omega) g r).1
            exact RD_wk (fun _ h => by omega) h9
          · by_cases h15 : k = 15
            · subst h15
              have h9 := (run_g (p := nI 15) (fun _ _ => False) (Ds := fun S i => upd (c_D S i) 7 (c_D S i 8)) (fun i q S => by unfold c_dsb; rw [if_neg (by decide), if_neg (by decide), if_neg (by decide), if_neg (by decide), if_neg (by decide), if_pos (by decide)]) (fun i S t hi g r => by
                have e : m_tk1 (nI 15) i t = m_s t 5 i (m_num t i) := by unfold m_tk1; rw [if_neg (by decide), if_neg (by decide), if_pos (by decide)]
                rw [e]; exact step_15 r hi) (c_nd S) 0 (b01 q) S t (by omega) g (RD_wk (fun d h => absurd h id) r)).1
              exact RD_wk (fun _ h => by omega) h9
            · have n3 : ¬ nI k = 3 := fun z => h3 ((nI_eq (b := 3) (by omega) (by decide)).mp z)
              have n8 : ¬ nI k = 8 := fun z => h8 ((nI_eq (b := 8) (by omega) (by decide)).mp z)
              have n10 : ¬ nI k = 10 := fun z => h10 ((nI_eq (b := 10) (by omega) (by decide)).mp z)
              have n15 : ¬ nI k = 15 := fun z => h15 ((nI_eq (b := 15) (by omega) (by decide)).mp z)
              rw [up_id (fun i a => by unfold c_dsb; rw [if_neg n3, if_neg hp4, if_neg n8, if_neg n10, if_neg hp11, if_neg n15]), up_id (fun i a => by unfold m_tk1; rw [if_neg n3, if_neg n8, if_neg n15, if_neg n10])]
              exact RD_wk (fun _ h => ⟨by omega, h.2⟩) r
theorem rst_sim : ∀ (n i : Nat) (S : cS) (t : mS), i + n = c_nd S → RD (fun _ => False) S t → RD (fun _ => False) (up (fun i S => s_D S i (upd (c_D S i) 7 1)) n i S) (up (fun d t => m_s t 5 d 1) n i t) := by
  intro n
  induction n with
  | zero => intro i S t _ r; exact r
  | succ n ih =>
    intro i S t hi r
    refine ih (i + 1) (s_D S i (upd (c_D S i) 7 1)) (m_s t 5 i 1) (by show i + 1 + n = c_nd S; omega) ?_
    exact RD_set r (rD_7 (upd_ne _ _ _) (fun m hm => m_s_ne _ _ _ hm) (r i (by omega)) (by rw [m_s_at, pk_us]) (fun h => h)) (fun d hd => blk_5 (fun m hm => m_s_ne _ _ _ hm) (fun x hx => m_s_off _ _ _ hx) hd) (fun _ _ h => h)
theorem aft_P {k j : Nat} (hk : k < 16) (hj : j < 16) (b : Int32) (e : m_aft k b = nI j) (h : 4 ≤ j ∧ j ≤ 8) : 3 ≤ k ∧ k ≤ 8 := by
  have key0 : ∀ k, k < 16 → ∀ j, j < 16 → (3 ≤ k ∧ k ≤ 8) ∨ ¬ mm_t0.getD k 0 = nI j ∨ ¬ (4 ≤ j ∧ j ≤ 8) := by decide +kernel
  have key1 : ∀ k, k < 16 → ∀ j, j < 16 → (3 ≤ k ∧ k ≤ 8) ∨ ¬ mm_t1.getD k 0 = nI j ∨ ¬ (4 ≤ j ∧ j ≤ 8) := by decide +kernel
  unfold m_aft at e
  split at e
  · rcases key0 k hk j hj with z | z | z
    · exact z
    · exact absurd e z
    · exact absurd h z
  · rcases key1 k hk j hj with z | z | z
    · exact z
    · exact absurd e z
    · exact absurd h z
theorem fin_20 (nd k : Nat) (b : Int32) (t : mS) : m_fin nd k b t 0 20 = t 0 20 + 1 := by
  unfold m_fin
  split
  · rw [m_s_at, rst_0, m_s_off _ _ _ (by decide)]
  · rw [m_s_at, m_s_off _ _ _ (by decide)]
/-- THE CLOCK -/
theorem tick_sim (h : TR S t) (b : Int32) (q : Bool) : TR (c_stp S b (b01 q)) (m_tk (c_nd S) b (b01 q) t) ∧ ∃ a : Bool, c_ans S (b01 q) = b01 a ∧ (m_tick (c_nd S) b (b01 q) t).1 = b01 a := by
  obtain ⟨g, ⟨k, hk, hz, h19, r⟩, h20⟩ := h
  have hps : m_ps t = k := by unfold m_ps; rw [h19]; exact nI_clamp (by omega)
  obtain ⟨h1, a, h2, h3⟩ := run_sim hk g r hz q
  have hnx : c_nx S b = m_aft k b := by unfold c_nx m_aft; rw [hz, nI_clamp (by omega)]
  obtain ⟨j, hj, ej⟩ := aft_in hk b
  have hans : c_ans S (b01 q) = b01 a := by unfold c_ans; rw [hz]; exact h2
  have hgo : (m_tick (c_nd S) b (b01 q) t).1 = b01 a := by unfold m_tick; rw [hps]; exact h3
  refine ⟨⟨?_, ⟨j, hj, ?_, ?_, ?_⟩, ?_⟩, a, hans, hgo⟩
  · exact same_RG g (same_tick (c_nd S) b (b01 q) t) (stp_keep S b (b01 q)).1 (stp_keep S b (b01 q)).2.1 (fun j f _ => by rw [(stp_keep S b (b01 q)).2.2])
  · rw [(stp_Z S b (b01 q)).1, hnx, ej]
  · show m_fin (c_nd S) (m_ps t) b _ 0 19 = nI j
    rw [fin_19, hps, ej]
  · show RD (Pd j) (s_Z (c_ent (c_run S (b01 q)).2 (c_nx S b)) 0 3 _) (m_fin (c_nd S) (m_ps t) b (up (m_tk1 (nI (m_ps t))) (c_nd S) 0 (m_shf (c_nd S) (m_ps t) (b01 q) t).2))
    rw [hps, hnx]
    have hnd : c_nd (c_run S (b01 q)).2 = c_nd S := congrArg Prod.fst (run_keep (c_Z S 0 2) (c_nd S) 0 (b01 q, S)).1.1
    generalize (c_run S (b01 q)).2 = S1 at h1 hnd ⊢
    generalize up (m_tk1 (nI k)) (c_nd S) 0 (m_shf (c_nd S) k (b01 q) t).2 = T1 at h1 ⊢
    unfold c_ent m_fin m_rst
    by_cases e : m_aft k b = 0
    · rw [if_pos e, if_pos e, hnd]
      have hj0 : j = 0 := by
        rw [e] at ej
        exact ((nI_eq (a := 0) (by decide) (by omega)).mp ej).symm
      refine RD_wk (fun d h => ?_) (RD_s0 (rst_sim (c_nd S) 0 (s_Z S1 0 2 (m_aft k b)) (m_s T1 0 19 (m_aft k b)) (by show 0 + c_nd S = c_nd S1; omega) (RD_wk (fun d h => absurd h id) (RD_s0 (S := s_Z S1 0 2 (m_aft k b)) h1 19 (m_aft k b)))) 20 _)
      have : 4 ≤ j := h.1
      omega
    · rw [if_neg e, if_neg e]
      exact RD_wk (fun d h => aft_P hk hj b ej h) (RD_s0 (RD_s0 (S := s_Z S1 0 2 (m_aft k b)) h1 19 _) 20 _)
  · show m_fin (c_nd S) (m_ps t) b _ 0 20 = _
    rw [fin_20, (stp_Z S b (b01 q)).2.1, up_0 (fun i t => tk1_0 _ i t)]
    have hs0 : (m_shf (c_nd S) (m_ps t) (b01 q) t).2 0 = t 0 := by
      unfold m_shf
      repeat' split
      · exact sh_0 1 _ 0 (b01 q, t)
      · exact sh_0 0 _ 0 (b01 q, t)
      · rfl
    rw [hs0, h20]
end SIM2
