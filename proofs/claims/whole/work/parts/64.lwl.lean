/-! the law's loop and its start -/
theorem lw_gt {N i : Nat} (hN : N < 1000000) (hi : i < 3000000) : nI N - 5 < nI i ↔ N < i + 5 := by
  rw [Int32.lt_iff_toInt_lt, Int32.toInt_sub, nI_toInt (by omega), nI_toInt (by omega), show (5 : Int32).toInt = 5 by decide]
  simp only [Int.bmod_def]
  omega
theorem and15 (x : Int32) : ∃ n, n < 16 ∧ x &&& 15 = nI n := by
  refine ⟨(x &&& 15).toBitVec.toNat, ?_, nI_bv _⟩
  rw [Int32.toBitVec_and, BitVec.toNat_and]
  exact Nat.lt_of_le_of_lt Nat.and_le_right (by decide)
theorem lw_i5 (i : Nat) : nI i + 5 = nI (i + 5) := by rw [show (5 : Int32) = nI 5 from rfl, nI_add]
/-- the law answers 1 -/
def lwq_1 : mm_O → mm_Hp → Prop := fun o _ => o = .inl (some (.int 1))
section LWL
variable {G : mm_G} {K Km : Nat → Nat} {S : cS} {t : mS} {o i kc ks : Nat} {x : Int64} {h : mm_Hp} {Q : mm_O → mm_Hp → Prop}
set_option maxHeartbeats 2000000 in
theorem lw_turn (I : LI G K S Km t o) (hN : i + 5 ≤ G.2.2.2.1) (hN2 : G.2.2.2.1 < 1000000) (hk : LK G K Km o i kc ks h Q) : mm_V G M_Lw_law 32 (LL G (K 0) (Km 0) o i) [] (LH K S Km t o x h) (2 + kc) (20 + ks) Q := by
  have main : mm_V G M_Lw_law 39 (LL G (K 0) (Km 0) o i) [.int (G.2.2.2.2 i &&& 15)] (LH K S Km t o x h) (2 + kc) (20 + ks) Q := by
    obtain ⟨n, hn, e⟩ := and15 (G.2.2.2.2 i)
    rw [e]
    rcases (show n = 0 ∨ n = 1 ∨ n = 2 ∨ n = 3 ∨ n = 4 ∨ n = 5 ∨ n = 6 ∨ n = 7 ∨ n = 8 ∨ n = 9 ∨ n = 10 ∨ n = 11 ∨ n = 12 ∨ n = 13 ∨ n = 14 ∨ n = 15 by omega) with rfl | rfl | rfl | rfl | rfl | rfl | rfl | rfl | rfl | rfl | rfl | rfl | rfl | rfl | rfl | rfl
    · exact mm_tabIn ok_Lw_law_0 104 rfl (by decide) (by decide) rfl (by decide) (st_device I hN hN2 hk)
    · exact mm_tabIn ok_Lw_law_0 196 rfl (by decide) (by decide) rfl (by decide) (st_net I hN hN2 hk)
    · exact mm_tabIn ok_Lw_law_0 288 rfl (by decide) (by decide) rfl (by decide) (st_fault I hN hN2 hk)
    · exact mm_tabIn ok_Lw_law_0 348 rfl (by decide) (by decide) rfl (by decide) (st_core I hN hN2 hk)
    · exact mm_tabIn ok_Lw_law_0 424 rfl (by decide) (by decide) rfl (by decide) (st_clock I hN hN2 hk)
    · exact mm_tabIn ok_Lw_law_0 531 rfl (by decide) (by decide) rfl (by decide) (st_state I hN hN2 hk)
    · exact mm_tabIn ok_Lw_law_0 544 rfl (by decide) (by decide) rfl (by decide) (st_look I hN hN2 hk)
    · exact mm_tabIn ok_Lw_law_0 612 rfl (by decide) (by decide) rfl (by decide) (st_value I hN hN2 hk)
    · exact mm_tabIn ok_Lw_law_0 675 rfl (by decide) (by decide) rfl (by decide) (st_find I hN hN2 hk)
    · exact mm_tabIn ok_Lw_law_0 719 rfl (by decide) (by decide) rfl (by decide) (st_found I hN hN2 hk)
    · exact mm_tabIn ok_Lw_law_0 775 rfl (by decide) (by decide) rfl (by decide) (st_test I hN hN2 hk)
    · exact mm_tabIn ok_Lw_law_0 819 rfl (by decide) (by decide) rfl (by decide) (st_saw I hN hN2 hk)
    · exact mm_tabIn ok_Lw_law_0 875 rfl (by decide) (by decide) rfl (by decide) (st_clocks I hN hN2 hk)
    · exact mm_tabOut ok_Lw_law_0 888 rfl (by decide) (by decide) (mm_V_wid (by omega) (by omega) (hk K S t x rfl I))
    · exact mm_tabOut ok_Lw_law_0 888 rfl (by decide) (by decide) (mm_V_wid (by omega) (by omega) (hk K S t x rfl I))
    · exact mm_tabOut ok_Lw_law_0 888 rfl (by decide) (by decide) (mm_V_wid (by omega) (by omega) (hk K S t x rfl I))
  unfold LL at main ⊢
  refine mm_blk (pc' := 35) ok_Lw_law_0 2 _ _ _ rfl ?_
  refine mm_sald (j := i) ok_Lw_law_0 rfl rfl (by omega) (by omega) ?_
  exact mm_blk (pc' := 39) ok_Lw_law_0 2 _ _ _ rfl main
set_option maxHeartbeats 2000000 in
theorem lw_loop (hN2 : G.2.2.2.1 < 1000000) : ∀ (n i : Nat) (K : Nat → Nat) (S : cS) (t : mS) (x : Int64), G.2.2.2.1 < i + 5 * n + 5 → i < 2000000 → LI G K S Km t o → mm_V G M_Lw_law 23 (LL G (K 0) (Km 0) o i) [] (LH K S Km t o x h) (2 * n) (20 * n) lwq_1 := by
  intro n
  induction n with
  | zero =>
    intro i K S t x hn hi I
    unfold LL
    refine mm_blk (pc' := 26) ok_Lw_law_0 2 _ _ _ rfl ?_
    refine mm_slen ok_Lw_law_0 rfl ?_
    refine mm_blk (pc' := 29) ok_Lw_law_0 2 _ _ _ rfl ?_
    refine mm_ic_gt ok_Lw_law_0 894 rfl (by decide) (fun c => ?_) (fun c => absurd ((lw_gt hN2 (by omega)).mpr (by omega)) c)
    refine mm_blk (pc' := 895) ok_Lw_law_888 1 _ _ _ rfl ?_
    first | exact mm_iret ok_Lw_law_888 rfl rfl rfl | exact mm_zret ok_Lw_law_888 rfl rfl rfl rfl
  | succ n ih =>
    intro i K S t x hn hi I
    have go : i + 5 ≤ G.2.2.2.1 → mm_V G M_Lw_law 32 (LL G (K 0) (Km 0) o i) [] (LH K S Km t o x h) (2 * (n + 1)) (20 * (n + 1)) lwq_1 := by
      intro hN
      rw [show 2 * (n + 1) = 2 + 2 * n by omega, show 20 * (n + 1) = 20 + 20 * n by omega]
      refine lw_turn I hN hN2 (fun K1 S1 t1 x1 e1 I1 => ?_)
      unfold LL
      refine mm_blk (pc' := 23) ok_Lw_law_888 2 _ _ _ rfl ?_
      rw [lw_i5 i, ← e1]
      exact ih (i + 5) K1 S1 t1 x1 (by omega) (by omega) I1
    unfold LL at go ⊢
    refine mm_blk (pc' := 26) ok_Lw_law_0 2 _ _ _ rfl ?_
    refine mm_slen ok_Lw_law_0 rfl ?_
    refine mm_blk (pc' := 29) ok_Lw_law_0 2 _ _ _ rfl ?_
    refine mm_ic_gt ok_Lw_law_0 894 rfl (by decide) (fun c => ?_) (fun c => go ?_)
    · refine mm_blk (pc' := 895) ok_Lw_law_888 1 _ _ _ rfl ?_
      first | exact mm_iret ok_Lw_law_888 rfl rfl rfl | exact mm_zret ok_Lw_law_888 rfl rfl rfl rfl
    · exact Nat.le_of_not_lt (fun z => c ((lw_gt hN2 (by omega)).mpr z))
/-- the first state of both -/
theorem lw_LI0 {h1 : mm_Hp} {K Km : Nat → Nat} {q2 q3 : Nat} {ob : mm_Ob} (w : c_wf G K c_new) (f2 : CP K c_new h1 q2 = none) (w2 : mm_inj mdom Km) (e2 : Km 0 = q2) (n2 : ∀ n ∈ mdom, n ≠ 0 → mm_up (CP K c_new h1) q2 ob (Km n) = none) (f3 : MP Km m_new (mm_up (CP K c_new h1) q2 ob) q3 = none) :
    LI G K c_new Km m_new q3 ∧ mm_up (MP Km m_new (mm_up (CP K c_new h1) q2 ob)) q3 (12, [.long 0]) = LH K c_new Km m_new q3 0 (mm_up h1 q2 ob) := by
  have kat : ∀ m ∈ cdom (c_nd c_new) (c_nn c_new), CP K c_new h1 (K m) = some (cob K c_new m) := fun m hm => mm_pl_at w.2.2.1 hm
  have a1 : ∀ m ∈ cdom (c_nd c_new) (c_nn c_new), K m ≠ q2 := fun m hm e => by
    have := kat m hm
    rw [e, f2] at this
    cases this
  have a2 : ∀ m ∈ cdom (c_nd c_new) (c_nn c_new), mm_up (CP K c_new h1) q2 ob (K m) = some (cob K c_new m) := fun m hm => by rw [mm_up_ne _ _ (a1 m hm)]; exact kat m hm
  have a3 : ∀ m ∈ cdom (c_nd c_new) (c_nn c_new), ∀ n ∈ mdom, K m ≠ Km n := fun m hm n hn e => by
    by_cases h0 : n = 0
    · rw [h0, e2] at e; exact a1 m hm e
    · have := a2 m hm
      rw [e, n2 n hn h0] at this
      cases this
  have a4 : ∀ m ∈ cdom (c_nd c_new) (c_nn c_new), K m ≠ q3 := fun m hm e => by
    have h5 := a2 m hm
    rw [e, pl_none f3] at h5
    cases h5
  have a5 : ∀ n ∈ mdom, Km n ≠ q3 := fun n hn e => by
    have h5 : MP Km m_new (mm_up (CP K c_new h1) q2 ob) (Km n) = _ := mm_pl_at w2 hn
    rw [e, f3] at h5
    cases h5
  refine ⟨⟨⟨w, w2, a3, a4, a5⟩, Rel_new.1, Rel_new.2⟩, ?_⟩
  rw [show LH K c_new Km m_new q3 0 (mm_up h1 q2 ob) = MP Km m_new (CP K c_new (mm_up (mm_up h1 q2 ob) q3 (12, [.long 0]))) from LH_md ⟨w, w2, a3, a4, a5⟩]
  unfold MP CP
  rw [mm_pl_out a5, mm_pl_out a1, mm_pl_out a4]
set_option maxHeartbeats 2000000 in
theorem lw_start (hN : G.2.2.2.1 < 5 * 512 + 5) : mm_V G M_Lw_law 0 [(0, .ref (G.2.2.1 3))] [] h (1 + (4 + (1 + (17 + (1 + 2 * 512))))) (8 + (15 + (24 + (320 + (1 + 20 * 512))))) lwq_1 := by
  refine mm_new (ci := 3) ok_Lw_law_0 n_Lw_8 rfl (fun q hq => ?_)
  refine mm_blk (pc' := 4) ok_Lw_law_0 1 _ _ _ rfl ?_
  refine mm_callI (b := q) (As := []) (st := [.ref q]) ok_Lw_law_0 rfl k_Lw_law_56 rfl (Nat.le_of_ble_eq_true rfl) (c_Cb_init (mm_up_self _ _ _)) (fun E h' z => by obtain ⟨_, _, _, _, _, _, _, z, _⟩ := z; cases z) (fun v h' z => ?_)
  obtain ⟨K, w, eK, -, -, -, -, z1, rfl⟩ := z
  cases z1
  refine mm_blk (pc' := 8) ok_Lw_law_0 1 _ _ _ rfl ?_
  refine mm_new (ci := 4) ok_Lw_law_0 n_Lw_57 rfl (fun q2 hq2 => ?_)
  refine mm_blk (pc' := 12) ok_Lw_law_0 1 _ _ _ rfl ?_
  refine mm_callI (b := q2) (As := []) (st := [.ref q2]) ok_Lw_law_0 rfl k_Lw_law_59 rfl (Nat.le_of_ble_eq_true rfl) (c_Md_init (mm_up_self _ _ _)) (fun E h' z => by obtain ⟨_, _, _, _, z, _⟩ := z; cases z) (fun v h' z => ?_)
  obtain ⟨Km, w2, eM, n2, z1, rfl⟩ := z
  cases z1
  refine mm_blk (pc' := 17) ok_Lw_law_0 2 _ _ _ rfl ?_
  refine mm_newJ (N := 1) ok_Lw_law_0 ac_J rfl rfl (by decide) (fun q3 hq3 => ?_)
  obtain ⟨I, e⟩ := lw_LI0 w hq2 w2 eM n2 hq3
  refine mm_blk (pc' := 23) ok_Lw_law_0 3 _ _ _ rfl ?_
  refine mm_V_heap e ?_
  have := lw_loop (G := G) (h := mm_up (mm_up h q (3, mm_df 3)) q2 (4, mm_df 4)) (by omega) 512 0 K c_new m_new 0 (by omega) (by omega) I
  unfold LL at this
  rw [eK, eM] at this
  exact this
end LWL
