/-! the class: a clock -/
def c_dsb (p : Int32) (i : Nat) (x : Int32 × cS) : Int32 × cS :=
  if p = 3 then (x.1, s_D x.2 i (upd (c_D x.2 i) 9 (dv_cap (c_D x.2 i) (c_sig x.2 i))))
  else if p = 4 then (if (c_D x.2 i 9 &&& 1) = 1 then 1 else 0, s_D x.2 i (upd (c_D x.2 i) 9 (dv_sd (c_D x.2 i 9) (dv_len (c_D x.2 i)) x.1)))
  else if p = 8 then (x.1, s_D x.2 i (upd (c_D x.2 i) 5 (if c_D x.2 i 7 = 0 ∨ c_D x.2 i 7 = 2 then c_D x.2 i 9 &&& c_D x.2 i 3 else c_D x.2 i 5)))
  else if p = 10 then (x.1, s_D x.2 i (upd (c_D x.2 i) 8 1))
  else if p = 11 then (if (c_D x.2 i 8 &&& 1) = 1 then 1 else 0, s_D x.2 i (upd (c_D x.2 i) 8 (dv_sd (c_D x.2 i 8) (c_D x.2 i 0) x.1)))
  else if p = 15 then (x.1, s_D x.2 i (upd (c_D x.2 i) 7 (c_D x.2 i 8)))
  else x
def c_dout (p q : Int32) : Int32 := if q = 0 then 0 else if p = 4 then 1 else if p = 11 then 1 else 0
def c_run (S : cS) (tdi : Int32) : Int32 × cS := up (c_dsb (c_Z S 0 2)) (c_nd S) 0 (tdi, S)
def c_nx (S : cS) (tms : Int32) : Int32 := if tms = 0 then mm_t0.getD (c_Z S 0 2).toNatClampNeg 0 else mm_t1.getD (c_Z S 0 2).toNatClampNeg 0
/-- a clock: the state behind it -/
def c_stp (S : cS) (tms tdi : Int32) : cS := s_Z (c_ent (c_run S tdi).2 (c_nx S tms)) 0 3 (c_Z (c_ent (c_run S tdi).2 (c_nx S tms)) 0 3 + 1)
def c_ans (S : cS) (tdi : Int32) : Int32 := c_dout (c_Z S 0 2) (c_run S tdi).1
/-- the ports' state is one of the sixteen -/
def c_ps (S : cS) : Prop := ∃ k, k < 16 ∧ c_Z S 0 2 = nI k
/-- what a clock leaves alone -/
def c_same (S S' : cS) : Prop := S'.1 = S.1 ∧ c_R S' = c_R S ∧ c_N S' = c_N S
theorem c_wf_same {G : mm_G} {K : Nat → Nat} {S S' : cS} (w : c_wf G K S) (h1 : S'.1 = S.1) (h2 : c_R S' = c_R S) : c_wf G K S' := by
  unfold c_wf at *
  rw [show c_nd S' = c_nd S from congrArg Prod.fst h1, show c_nn S' = c_nn S from congrArg Prod.snd h1, h2]
  exact w
section CB3
variable {G : mm_G} {K : Nat → Nat} {S : cS} {h : mm_Hp}
theorem dsb_keep (p : Int32) (i : Nat) (x : Int32 × cS) : c_same x.2 (c_dsb p i x).2 ∧ c_Z (c_dsb p i x).2 = c_Z x.2 := by
  unfold c_dsb
  repeat' split
  all_goals exact ⟨⟨rfl, rfl, rfl⟩, rfl⟩
theorem run_keep (p : Int32) : ∀ (n i : Nat) (x : Int32 × cS), c_same x.2 (up (c_dsb p) n i x).2 ∧ c_Z (up (c_dsb p) n i x).2 = c_Z x.2 := by
  intro n
  induction n with
  | zero => intro i x; exact ⟨⟨rfl, rfl, rfl⟩, rfl⟩
  | succ n ih =>
    intro i x
    obtain ⟨⟨a1, a2, a3⟩, a4⟩ := ih (i + 1) (c_dsb p i x)
    obtain ⟨⟨b1, b2, b3⟩, b4⟩ := dsb_keep p i x
    exact ⟨⟨a1.trans b1, a2.trans b2, a3.trans b3⟩, a4.trans b4⟩
theorem ent_keep (S : cS) (x : Int32) : c_same S (c_ent S x) ∧ c_Z (c_ent S x) = c_Z (s_Z S 0 2 x) := by
  have key : ∀ (n i : Nat) (S : cS), c_same S (up (fun i S => s_D S i (upd (c_D S i) 7 1)) n i S) ∧ c_Z (up (fun i S => s_D S i (upd (c_D S i) 7 1)) n i S) = c_Z S := by
    intro n
    induction n with
    | zero => intro i S; exact ⟨⟨rfl, rfl, rfl⟩, rfl⟩
    | succ n ih =>
      intro i S
      obtain ⟨⟨a1, a2, a3⟩, a4⟩ := ih (i + 1) (s_D S i (upd (c_D S i) 7 1))
      exact ⟨⟨a1, a2, a3⟩, a4⟩
  unfold c_ent
  split
  · obtain ⟨⟨a1, a2, a3⟩, a4⟩ := key (c_nd S) 0 (s_Z S 0 2 x)
    exact ⟨⟨a1, a2, a3⟩, a4⟩
  · exact ⟨⟨rfl, rfl, rfl⟩, rfl⟩
theorem stp_keep (S : cS) (tms tdi : Int32) : c_same S (c_stp S tms tdi) := by
  obtain ⟨⟨a1, a2, a3⟩, -⟩ := ent_keep (c_run S tdi).2 (c_nx S tms)
  obtain ⟨⟨b1, b2, b3⟩, -⟩ := run_keep (c_Z S 0 2) (c_nd S) 0 (tdi, S)
  exact ⟨a1.trans b1, a2.trans b2, a3.trans b3⟩
theorem stp_Z (S : cS) (tms tdi : Int32) : c_Z (c_stp S tms tdi) 0 2 = c_nx S tms ∧ c_Z (c_stp S tms tdi) 0 3 = c_Z S 0 3 + 1 ∧ c_Z (c_stp S tms tdi) 0 6 = c_Z S 0 6 ∧ c_Z (c_stp S tms tdi) 0 7 = c_Z S 0 7 ∧ c_Z (c_stp S tms tdi) 1 = c_Z S 1 ∧ c_Z (c_stp S tms tdi) 2 = c_Z S 2 ∧ c_Z (c_stp S tms tdi) 3 = c_Z S 3 := by
  obtain ⟨-, a4⟩ := ent_keep (c_run S tdi).2 (c_nx S tms)
  obtain ⟨-, b4⟩ := run_keep (c_Z S 0 2) (c_nd S) 0 (tdi, S)
  have b5 : c_Z (c_run S tdi).2 = c_Z S := b4
  have key : c_Z (c_stp S tms tdi) = va_up (c_Z (c_ent (c_run S tdi).2 (c_nx S tms))) 0 (upd (c_Z (c_ent (c_run S tdi).2 (c_nx S tms)) 0) 3 (c_Z (c_ent (c_run S tdi).2 (c_nx S tms)) 0 3 + 1)) := rfl
  have key2 : c_Z (c_ent (c_run S tdi).2 (c_nx S tms)) = va_up (c_Z S) 0 (upd (c_Z S 0) 2 (c_nx S tms)) := by
    rw [a4]
    show va_up (c_Z (c_run S tdi).2) 0 (upd (c_Z (c_run S tdi).2 0) 2 (c_nx S tms)) = _
    rw [b5]
  rw [key, key2]
  refine ⟨rfl, rfl, rfl, rfl, rfl, rfl, rfl⟩
theorem nx_ps (hp : c_ps S) (tms : Int32) : ∃ k, k < 16 ∧ c_nx S tms = nI k := by
  obtain ⟨k, hk, e⟩ := hp
  have key : ∀ k, k < 16 → (∃ j, j < 16 ∧ mm_t0.getD k 0 = nI j) ∧ ∃ j, j < 16 ∧ mm_t1.getD k 0 = nI j := by decide +kernel
  unfold c_nx
  rw [e, nI_clamp (by omega)]
  split
  · exact (key k hk).1
  · exact (key k hk).2
theorem stp_ps (hp : c_ps S) (tms tdi : Int32) : c_ps (c_stp S tms tdi) := by
  obtain ⟨k, hk, e⟩ := nx_ps hp tms
  exact ⟨k, hk, by rw [(stp_Z S tms tdi).1]; exact e⟩
theorem stp_wf (w : c_wf G K S) (tms tdi : Int32) : c_wf G K (c_stp S tms tdi) := c_wf_same w (stp_keep S tms tdi).1 (stp_keep S tms tdi).2.1

set_option maxHeartbeats 4000000 in
theorem l_Cb_doState {tdi : Int32} {k : Nat} (hk : k < 16) : ∀ (n i : Nat) (q : Int32) (S : cS), c_wf G K S → c_Z S 0 2 = nI k → i + n = c_nd S → mm_V G M_Cb_doState 4 [(0, .ref (K 0)), (1, .int tdi), (2, .int q), (3, .int (nI i))] [] (CP K S h) 0 0 (mm_E (some (.int (c_dout (nI k) (up (c_dsb (nI k)) n i (q, S)).1))) (CP K (up (c_dsb (nI k)) n i (q, S)).2 h)) := by
  intro n
  induction n with
  | zero =>
    intro i q S w hp hi
    refine mm_blk (pc' := 6) ok_Cb_doState 2 _ _ _ rfl ?_
    refine mm_getf ok_Cb_doState (cp_0 w) rfl f_Cb_12 rfl ?_
    refine mm_cVE ok_Cb_doState (As := []) rfl k_Cb_doState_33 (cp_1 w) rfl rfl rfl (Nat.le_of_ble_eq_true rfl) (c_Al_size (cp_1 w)) ?_
    refine mm_ic_ge ok_Cb_doState 170 rfl (by decide) (fun c => ?_) (fun c => ?_)
    rotate_left
    · exact absurd (nI_le (by omega) (by have := w.1; omega)) c
    refine mm_blk (pc' := 171) ok_Cb_doState 1 _ _ _ rfl ?_
    refine mm_if_eq ok_Cb_doState 195 rfl (by decide) (fun c1 => ?_) (fun c1 => ?_)
    · -- 195 t
      refine mm_blk (pc' := 196) ok_Cb_doState 1 _ _ _ rfl ?_
      exact mm_zret ok_Cb_doState rfl rfl rfl ⟨by rw [← hp]; show Sum.inl (some (Value.int _)) = Sum.inl (some (Value.int (c_dout (c_Z S 0 2) q))); unfold c_dout; first | rw [if_pos c1] | (rw [if_neg c1]; first | rw [if_pos c2] | (rw [if_neg c2]; first | rw [if_pos c3] | rw [if_neg c3])), rfl⟩
    · -- 174 f
      refine mm_blk (pc' := 175) ok_Cb_doState 1 _ _ _ rfl ?_
      refine mm_getf ok_Cb_doState (cp_0 w) rfl f_Cb_19 rfl ?_
      refine mm_blk (pc' := 179) ok_Cb_doState 1 _ _ _ rfl ?_
      refine mm_ic_eq ok_Cb_doState 191 rfl (by decide) (fun c2 => ?_) (fun c2 => ?_)
      · -- 191 t
        refine mm_blk (pc' := 196) ok_Cb_doState 2 _ _ _ rfl ?_
        exact mm_zret ok_Cb_doState rfl rfl rfl ⟨by rw [← hp]; show Sum.inl (some (Value.int _)) = Sum.inl (some (Value.int (c_dout (c_Z S 0 2) q))); unfold c_dout; first | rw [if_pos c1] | (rw [if_neg c1]; first | rw [if_pos c2] | (rw [if_neg c2]; first | rw [if_pos c3] | rw [if_neg c3])), rfl⟩
      · -- 182 f
        refine mm_blk (pc' := 183) ok_Cb_doState 1 _ _ _ rfl ?_
        refine mm_getf ok_Cb_doState (cp_0 w) rfl f_Cb_19 rfl ?_
        refine mm_blk (pc' := 188) ok_Cb_doState 1 _ _ _ rfl ?_
        refine mm_ic_ne ok_Cb_doState 195 rfl (by decide) (fun c3 => ?_) (fun c3 => ?_)
        · -- 195 t
          refine mm_blk (pc' := 196) ok_Cb_doState 1 _ _ _ rfl ?_
          exact mm_zret ok_Cb_doState rfl rfl rfl ⟨by rw [← hp]; show Sum.inl (some (Value.int _)) = Sum.inl (some (Value.int (c_dout (c_Z S 0 2) q))); unfold c_dout; first | rw [if_pos c1] | (rw [if_neg c1]; first | rw [if_pos c2] | (rw [if_neg c2]; first | rw [if_pos c3] | rw [if_neg c3])), rfl⟩
        · -- 191 f
          refine mm_blk (pc' := 196) ok_Cb_doState 2 _ _ _ rfl ?_
          exact mm_zret ok_Cb_doState rfl rfl rfl ⟨by rw [← hp]; show Sum.inl (some (Value.int _)) = Sum.inl (some (Value.int (c_dout (c_Z S 0 2) q))); unfold c_dout; first | rw [if_pos c1] | (rw [if_neg c1]; first | rw [if_pos c2] | (rw [if_neg c2]; first | rw [if_pos c3] | rw [if_neg c3])), rfl⟩
  | succ n ih =>
    intro i q S w hp hi
    have hlt : i < c_nd S := by omega
    refine mm_blk (pc' := 6) ok_Cb_doState 2 _ _ _ rfl ?_
    refine mm_getf ok_Cb_doState (cp_0 w) rfl f_Cb_12 rfl ?_
    refine mm_cVE ok_Cb_doState (As := []) rfl k_Cb_doState_33 (cp_1 w) rfl rfl rfl (Nat.le_of_ble_eq_true rfl) (c_Al_size (cp_1 w)) ?_
    refine mm_ic_ge ok_Cb_doState 170 rfl (by decide) (fun c => ?_) (fun c => ?_)
    · exact absurd c (nI_ge (by omega) (by have := w.1; omega))
    refine mm_blk (pc' := 16) ok_Cb_doState 1 _ _ _ rfl ?_
    refine mm_getf ok_Cb_doState (cp_0 w) rfl f_Cb_12 rfl ?_
    refine mm_blk (pc' := 20) ok_Cb_doState 1 _ _ _ rfl ?_
    refine mm_cVE ok_Cb_doState (As := [.int (nI i)]) rfl k_Cb_doState_56 (cp_1 w) rfl rfl rfl (Nat.le_of_ble_eq_true rfl) (c_getD w hlt) ?_
    refine mm_cast ok_Cb_doState (cp_dev w hlt) cc_Cb_40 rfl ?_
    refine mm_blk (pc' := 29) ok_Cb_doState 2 _ _ _ rfl ?_
    refine mm_getf ok_Cb_doState (cp_0 w) rfl f_Cb_19 rfl ?_
    rcases (show k = 0 ∨ k = 1 ∨ k = 2 ∨ k = 3 ∨ k = 4 ∨ k = 5 ∨ k = 6 ∨ k = 7 ∨ k = 8 ∨ k = 9 ∨ k = 10 ∨ k = 11 ∨ k = 12 ∨ k = 13 ∨ k = 14 ∨ k = 15 by omega) with rfl | rfl | rfl | rfl | rfl | rfl | rfl | rfl | rfl | rfl | rfl | rfl | rfl | rfl | rfl | rfl
    · refine mm_tabOut ok_Cb_doState 164 rfl (by rw [hp]; decide) (by decide) ?_
      refine mm_blk (pc' := 4) ok_Cb_doState 2 _ _ _ rfl ?_
      rw [nI_1]
      refine mm_V_pick [0, 1, 2, 3] rfl ?_
      have e : c_dsb (nI 0) i (q, S) = (q, S) := by unfold c_dsb; rw [if_neg (by decide), if_neg (by decide), if_neg (by decide), if_neg (by decide), if_neg (by decide), if_neg (by decide)]
      show mm_V _ _ _ _ _ _ _ _ (mm_E (some (.int (c_dout (nI 0) (up (c_dsb (nI 0)) n (i + 1) (c_dsb (nI 0) i (q, S))).1))) (CP K (up (c_dsb (nI 0)) n (i + 1) (c_dsb (nI 0) i (q, S))).2 h))
      rw [e]
      exact ih (i + 1) _ S w hp (by omega)
    · refine mm_tabOut ok_Cb_doState 164 rfl (by rw [hp]; decide) (by decide) ?_
      refine mm_blk (pc' := 4) ok_Cb_doState 2 _ _ _ rfl ?_
      rw [nI_1]
      refine mm_V_pick [0, 1, 2, 3] rfl ?_
      have e : c_dsb (nI 1) i (q, S) = (q, S) := by unfold c_dsb; rw [if_neg (by decide), if_neg (by decide), if_neg (by decide), if_neg (by decide), if_neg (by decide), if_neg (by decide)]
      show mm_V _ _ _ _ _ _ _ _ (mm_E (some (.int (c_dout (nI 1) (up (c_dsb (nI 1)) n (i + 1) (c_dsb (nI 1) i (q, S))).1))) (CP K (up (c_dsb (nI 1)) n (i + 1) (c_dsb (nI 1) i (q, S))).2 h))
      rw [e]
      exact ih (i + 1) _ S w hp (by omega)
    · refine mm_tabOut ok_Cb_doState 164 rfl (by rw [hp]; decide) (by decide) ?_
      refine mm_blk (pc' := 4) ok_Cb_doState 2 _ _ _ rfl ?_
      rw [nI_1]
      refine mm_V_pick [0, 1, 2, 3] rfl ?_
      have e : c_dsb (nI 2) i (q, S) = (q, S) := by unfold c_dsb; rw [if_neg (by decide), if_neg (by decide), if_neg (by decide), if_neg (by decide), if_neg (by decide), if_neg (by decide)]
      show mm_V _ _ _ _ _ _ _ _ (mm_E (some (.int (c_dout (nI 2) (up (c_dsb (nI 2)) n (i + 1) (c_dsb (nI 2) i (q, S))).1))) (CP K (up (c_dsb (nI 2)) n (i + 1) (c_dsb (nI 2) i (q, S))).2 h))
      rw [e]
      exact ih (i + 1) _ S w hp (by omega)
    · refine mm_tabIn (off := 68) ok_Cb_doState 100 rfl (by rw [hp]; decide) (by rw [hp]; decide) (by rw [hp]; rfl) (by decide) ?_
      refine mm_blk (pc' := 105) ok_Cb_doState 3 _ _ _ rfl ?_
      refine mm_cVE ok_Cb_doState (As := [.ref (K (10 + i))]) rfl k_Cb_doState_114 (cp_0 w) rfl rfl rfl (Nat.le_of_ble_eq_true rfl) (c_Cb_signalsOf w hlt) ?_
      refine mm_cVE ok_Cb_doState (As := [.int (c_sig S i)]) rfl k_Cb_doState_182 (cp_dev w hlt) rfl rfl rfl (Nat.le_of_ble_eq_true rfl) (c_Dv_captureData (cp_dev w hlt) _) ?_
      refine mm_blk (pc' := 4) ok_Cb_doState 3 _ _ _ rfl ?_
      rw [nI_1]
      refine mm_V_pick [0, 1, 2, 3] rfl ?_
      have e : c_dsb (nI 3) i (q, S) = (q, s_D S i (upd (c_D S i) 9 (dv_cap (c_D S i) (c_sig S i)))) := by unfold c_dsb; rw [if_pos (by decide)]
      show mm_V _ _ _ _ _ _ _ _ (mm_E (some (.int (c_dout (nI 3) (up (c_dsb (nI 3)) n (i + 1) (c_dsb (nI 3) i (q, S))).1))) (CP K (up (c_dsb (nI 3)) n (i + 1) (c_dsb (nI 3) i (q, S))).2 h))
      rw [e]
      refine mm_V_heap (cu_dev w hlt _) ?_
      exact ih (i + 1) _ (s_D S i _) w hp (by show i + 1 + n = c_nd S; omega)
    · refine mm_tabIn (off := 82) ok_Cb_doState 114 rfl (by rw [hp]; decide) (by rw [hp]; decide) (by rw [hp]; rfl) (by decide) ?_
      refine mm_blk (pc' := 117) ok_Cb_doState 2 _ _ _ rfl ?_
      refine mm_cVE ok_Cb_doState (As := [.int q]) rfl k_Cb_doState_185 (cp_dev w hlt) rfl rfl rfl (Nat.le_of_ble_eq_true rfl) (c_Dv_shiftData (cp_dev w hlt) _) ?_
      refine mm_blk (pc' := 4) ok_Cb_doState 4 _ _ _ rfl ?_
      rw [nI_1]
      refine mm_V_pick [0, 1, 2, 3] rfl ?_
      have e : c_dsb (nI 4) i (q, S) = (if (c_D S i 9 &&& 1) = 1 then 1 else 0, s_D S i (upd (c_D S i) 9 (dv_sd (c_D S i 9) (dv_len (c_D S i)) q))) := by unfold c_dsb; rw [if_neg (by decide), if_pos (by decide)]
      show mm_V _ _ _ _ _ _ _ _ (mm_E (some (.int (c_dout (nI 4) (up (c_dsb (nI 4)) n (i + 1) (c_dsb (nI 4) i (q, S))).1))) (CP K (up (c_dsb (nI 4)) n (i + 1) (c_dsb (nI 4) i (q, S))).2 h))
      rw [e]
      refine mm_V_heap (cu_dev w hlt _) ?_
      exact ih (i + 1) _ (s_D S i _) w hp (by show i + 1 + n = c_nd S; omega)
    · refine mm_tabIn (off := 132) ok_Cb_doState 164 rfl (by rw [hp]; decide) (by rw [hp]; decide) (by rw [hp]; rfl) (by decide) ?_
      refine mm_blk (pc' := 4) ok_Cb_doState 2 _ _ _ rfl ?_
      rw [nI_1]
      refine mm_V_pick [0, 1, 2, 3] rfl ?_
      have e : c_dsb (nI 5) i (q, S) = (q, S) := by unfold c_dsb; rw [if_neg (by decide), if_neg (by decide), if_neg (by decide), if_neg (by decide), if_neg (by decide), if_neg (by decide)]
      show mm_V _ _ _ _ _ _ _ _ (mm_E (some (.int (c_dout (nI 5) (up (c_dsb (nI 5)) n (i + 1) (c_dsb (nI 5) i (q, S))).1))) (CP K (up (c_dsb (nI 5)) n (i + 1) (c_dsb (nI 5) i (q, S))).2 h))
      rw [e]
      exact ih (i + 1) _ S w hp (by omega)
    · refine mm_tabIn (off := 132) ok_Cb_doState 164 rfl (by rw [hp]; decide) (by rw [hp]; decide) (by rw [hp]; rfl) (by decide) ?_
      refine mm_blk (pc' := 4) ok_Cb_doState 2 _ _ _ rfl ?_
      rw [nI_1]
      refine mm_V_pick [0, 1, 2, 3] rfl ?_
      have e : c_dsb (nI 6) i (q, S) = (q, S) := by unfold c_dsb; rw [if_neg (by decide), if_neg (by decide), if_neg (by decide), if_neg (by decide), if_neg (by decide), if_neg (by decide)]
      show mm_V _ _ _ _ _ _ _ _ (mm_E (some (.int (c_dout (nI 6) (up (c_dsb (nI 6)) n (i + 1) (c_dsb (nI 6) i (q, S))).1))) (CP K (up (c_dsb (nI 6)) n (i + 1) (c_dsb (nI 6) i (q, S))).2 h))
      rw [e]
      exact ih (i + 1) _ S w hp (by omega)
    · refine mm_tabIn (off := 132) ok_Cb_doState 164 rfl (by rw [hp]; decide) (by rw [hp]; decide) (by rw [hp]; rfl) (by decide) ?_
      refine mm_blk (pc' := 4) ok_Cb_doState 2 _ _ _ rfl ?_
      rw [nI_1]
      refine mm_V_pick [0, 1, 2, 3] rfl ?_
      have e : c_dsb (nI 7) i (q, S) = (q, S) := by unfold c_dsb; rw [if_neg (by decide), if_neg (by decide), if_neg (by decide), if_neg (by decide), if_neg (by decide), if_neg (by decide)]
      show mm_V _ _ _ _ _ _ _ _ (mm_E (some (.int (c_dout (nI 7) (up (c_dsb (nI 7)) n (i + 1) (c_dsb (nI 7) i (q, S))).1))) (CP K (up (c_dsb (nI 7)) n (i + 1) (c_dsb (nI 7) i (q, S))).2 h))
      rw [e]
      exact ih (i + 1) _ S w hp (by omega)
    · refine mm_tabIn (off := 92) ok_Cb_doState 124 rfl (by rw [hp]; decide) (by rw [hp]; decide) (by rw [hp]; rfl) (by decide) ?_
      refine mm_blk (pc' := 126) ok_Cb_doState 1 _ _ _ rfl ?_
      refine mm_cVE ok_Cb_doState (As := []) rfl k_Cb_doState_188 (cp_dev w hlt) rfl rfl rfl (Nat.le_of_ble_eq_true rfl) (c_Dv_updateData (cp_dev w hlt)) ?_
      refine mm_blk (pc' := 4) ok_Cb_doState 3 _ _ _ rfl ?_
      rw [nI_1]
      refine mm_V_pick [0, 1, 2, 3] rfl ?_
      have e : c_dsb (nI 8) i (q, S) = (q, s_D S i (upd (c_D S i) 5 (if c_D S i 7 = 0 ∨ c_D S i 7 = 2 then c_D S i 9 &&& c_D S i 3 else c_D S i 5))) := by unfold c_dsb; rw [if_neg (by decide), if_neg (by decide), if_pos (by decide)]
      show mm_V _ _ _ _ _ _ _ _ (mm_E (some (.int (c_dout (nI 8) (up (c_dsb (nI 8)) n (i + 1) (c_dsb (nI 8) i (q, S))).1))) (CP K (up (c_dsb (nI 8)) n (i + 1) (c_dsb (nI 8) i (q, S))).2 h))
      rw [e]
      refine mm_V_heap (cu_dev w hlt _) ?_
      exact ih (i + 1) _ (s_D S i _) w hp (by show i + 1 + n = c_nd S; omega)
    · refine mm_tabIn (off := 132) ok_Cb_doState 164 rfl (by rw [hp]; decide) (by rw [hp]; decide) (by rw [hp]; rfl) (by decide) ?_
      refine mm_blk (pc' := 4) ok_Cb_doState 2 _ _ _ rfl ?_
      rw [nI_1]
      refine mm_V_pick [0, 1, 2, 3] rfl ?_
      have e : c_dsb (nI 9) i (q, S) = (q, S) := by unfold c_dsb; rw [if_neg (by decide), if_neg (by decide), if_neg (by decide), if_neg (by decide), if_neg (by decide), if_neg (by decide)]
      show mm_V _ _ _ _ _ _ _ _ (mm_E (some (.int (c_dout (nI 9) (up (c_dsb (nI 9)) n (i + 1) (c_dsb (nI 9) i (q, S))).1))) (CP K (up (c_dsb (nI 9)) n (i + 1) (c_dsb (nI 9) i (q, S))).2 h))
      rw [e]
      exact ih (i + 1) _ S w hp (by omega)
    · refine mm_tabIn (off := 100) ok_Cb_doState 132 rfl (by rw [hp]; decide) (by rw [hp]; decide) (by rw [hp]; rfl) (by decide) ?_
      refine mm_blk (pc' := 135) ok_Cb_doState 2 _ _ _ rfl ?_
      refine mm_putf ok_Cb_doState (cp_dev w hlt) rfl f_Cb_108 (Or.inl rfl) (mm_fit_I _) ?_
      refine mm_blk (pc' := 4) ok_Cb_doState 3 _ _ _ rfl ?_
      rw [nI_1]
      refine mm_V_pick [0, 1, 2, 3] rfl ?_
      have e : c_dsb (nI 10) i (q, S) = (q, s_D S i (upd (c_D S i) 8 1)) := by unfold c_dsb; rw [if_neg (by decide), if_neg (by decide), if_neg (by decide), if_pos (by decide)]
      show mm_V _ _ _ _ _ _ _ _ (mm_E (some (.int (c_dout (nI 10) (up (c_dsb (nI 10)) n (i + 1) (c_dsb (nI 10) i (q, S))).1))) (CP K (up (c_dsb (nI 10)) n (i + 1) (c_dsb (nI 10) i (q, S))).2 h))
      rw [e]
      refine mm_V_heap (cu_dev w hlt (upd (c_D S i) 8 1)) ?_
      exact ih (i + 1) _ (s_D S i _) w hp (by show i + 1 + n = c_nd S; omega)
    · refine mm_tabIn (off := 109) ok_Cb_doState 141 rfl (by rw [hp]; decide) (by rw [hp]; decide) (by rw [hp]; rfl) (by decide) ?_
      refine mm_blk (pc' := 144) ok_Cb_doState 2 _ _ _ rfl ?_
      refine mm_cVE ok_Cb_doState (As := [.int q]) rfl k_Cb_doState_191 (cp_dev w hlt) rfl rfl rfl (Nat.le_of_ble_eq_true rfl) (c_Dv_shiftInstruction (cp_dev w hlt) _) ?_
      refine mm_blk (pc' := 4) ok_Cb_doState 4 _ _ _ rfl ?_
      rw [nI_1]
      refine mm_V_pick [0, 1, 2, 3] rfl ?_
      have e : c_dsb (nI 11) i (q, S) = (if (c_D S i 8 &&& 1) = 1 then 1 else 0, s_D S i (upd (c_D S i) 8 (dv_sd (c_D S i 8) (c_D S i 0) q))) := by unfold c_dsb; rw [if_neg (by decide), if_neg (by decide), if_neg (by decide), if_neg (by decide), if_pos (by decide)]
      show mm_V _ _ _ _ _ _ _ _ (mm_E (some (.int (c_dout (nI 11) (up (c_dsb (nI 11)) n (i + 1) (c_dsb (nI 11) i (q, S))).1))) (CP K (up (c_dsb (nI 11)) n (i + 1) (c_dsb (nI 11) i (q, S))).2 h))
      rw [e]
      refine mm_V_heap (cu_dev w hlt _) ?_
      exact ih (i + 1) _ (s_D S i _) w hp (by show i + 1 + n = c_nd S; omega)
    · refine mm_tabIn (off := 132) ok_Cb_doState 164 rfl (by rw [hp]; decide) (by rw [hp]; decide) (by rw [hp]; rfl) (by decide) ?_
      refine mm_blk (pc' := 4) ok_Cb_doState 2 _ _ _ rfl ?_
      rw [nI_1]
      refine mm_V_pick [0, 1, 2, 3] rfl ?_
      have e : c_dsb (nI 12) i (q, S) = (q, S) := by unfold c_dsb; rw [if_neg (by decide), if_neg (by decide), if_neg (by decide), if_neg (by decide), if_neg (by decide), if_neg (by decide)]
      show mm_V _ _ _ _ _ _ _ _ (mm_E (some (.int (c_dout (nI 12) (up (c_dsb (nI 12)) n (i + 1) (c_dsb (nI 12) i (q, S))).1))) (CP K (up (c_dsb (nI 12)) n (i + 1) (c_dsb (nI 12) i (q, S))).2 h))
      rw [e]
      exact ih (i + 1) _ S w hp (by omega)
    · refine mm_tabIn (off := 132) ok_Cb_doState 164 rfl (by rw [hp]; decide) (by rw [hp]; decide) (by rw [hp]; rfl) (by decide) ?_
      refine mm_blk (pc' := 4) ok_Cb_doState 2 _ _ _ rfl ?_
      rw [nI_1]
      refine mm_V_pick [0, 1, 2, 3] rfl ?_
      have e : c_dsb (nI 13) i (q, S) = (q, S) := by unfold c_dsb; rw [if_neg (by decide), if_neg (by decide), if_neg (by decide), if_neg (by decide), if_neg (by decide), if_neg (by decide)]
      show mm_V _ _ _ _ _ _ _ _ (mm_E (some (.int (c_dout (nI 13) (up (c_dsb (nI 13)) n (i + 1) (c_dsb (nI 13) i (q, S))).1))) (CP K (up (c_dsb (nI 13)) n (i + 1) (c_dsb (nI 13) i (q, S))).2 h))
      rw [e]
      exact ih (i + 1) _ S w hp (by omega)
    · refine mm_tabIn (off := 132) ok_Cb_doState 164 rfl (by rw [hp]; decide) (by rw [hp]; decide) (by rw [hp]; rfl) (by decide) ?_
      refine mm_blk (pc' := 4) ok_Cb_doState 2 _ _ _ rfl ?_
      rw [nI_1]
      refine mm_V_pick [0, 1, 2, 3] rfl ?_
      have e : c_dsb (nI 14) i (q, S) = (q, S) := by unfold c_dsb; rw [if_neg (by decide), if_neg (by decide), if_neg (by decide), if_neg (by decide), if_neg (by decide), if_neg (by decide)]
      show mm_V _ _ _ _ _ _ _ _ (mm_E (some (.int (c_dout (nI 14) (up (c_dsb (nI 14)) n (i + 1) (c_dsb (nI 14) i (q, S))).1))) (CP K (up (c_dsb (nI 14)) n (i + 1) (c_dsb (nI 14) i (q, S))).2 h))
      rw [e]
      exact ih (i + 1) _ S w hp (by omega)
    · refine mm_tabIn (off := 119) ok_Cb_doState 151 rfl (by rw [hp]; decide) (by rw [hp]; decide) (by rw [hp]; rfl) (by decide) ?_
      refine mm_blk (pc' := 155) ok_Cb_doState 2 _ _ _ rfl ?_
      refine mm_getf ok_Cb_doState (cp_dev w hlt) rfl f_Cb_108 rfl ?_
      refine mm_putf ok_Cb_doState (cp_dev w hlt) rfl f_Cb_105 (Or.inl rfl) (mm_fit_I _) ?_
      refine mm_blk (pc' := 4) ok_Cb_doState 3 _ _ _ rfl ?_
      rw [nI_1]
      refine mm_V_pick [0, 1, 2, 3] rfl ?_
      have e : c_dsb (nI 15) i (q, S) = (q, s_D S i (upd (c_D S i) 7 (c_D S i 8))) := by unfold c_dsb; rw [if_neg (by decide), if_neg (by decide), if_neg (by decide), if_neg (by decide), if_neg (by decide), if_pos (by decide)]
      show mm_V _ _ _ _ _ _ _ _ (mm_E (some (.int (c_dout (nI 15) (up (c_dsb (nI 15)) n (i + 1) (c_dsb (nI 15) i (q, S))).1))) (CP K (up (c_dsb (nI 15)) n (i + 1) (c_dsb (nI 15) i (q, S))).2 h))
      rw [e]
      refine mm_V_heap (cu_dev w hlt (upd (c_D S i) 7 (c_D S i 8))) ?_
      exact ih (i + 1) _ (s_D S i _) w hp (by show i + 1 + n = c_nd S; omega)
set_option maxHeartbeats 1000000 in
theorem c_Cb_doState (w : c_wf G K S) (hp : c_ps S) (tdi : Int32) : mm_C G M_Cb_doState [.ref (K 0), .int tdi] (CP K S h) 0 0 (mm_E (some (.int (c_ans S tdi))) (CP K (c_run S tdi).2 h)) := by
  obtain ⟨k, hk, hp⟩ := hp
  unfold c_ans c_run
  rw [hp]
  refine mm_C_of (by decide +kernel) rfl (Nat.le_of_ble_eq_true rfl) rfl ?_
  refine mm_blk (pc' := 4) ok_Cb_doState 4 _ _ _ rfl ?_
  exact l_Cb_doState hk (c_nd S) 0 tdi S w hp (by omega)
end CB3
