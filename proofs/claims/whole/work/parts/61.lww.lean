/-! the law's walks: one call's turn -/
section LWW
theorem lw_i1 (i : Nat) : nI i + 1 = nI (i + 1) := by rw [show (1 : Int32) = nI 1 from rfl, nI_add]
theorem lw_i2 (i : Nat) : nI i + 2 = nI (i + 2) := by rw [show (2 : Int32) = nI 2 from rfl, nI_add]
theorem lw_i3 (i : Nat) : nI i + 3 = nI (i + 3) := by rw [show (3 : Int32) = nI 3 from rfl, nI_add]
theorem lw_i4 (i : Nat) : nI i + 4 = nI (i + 4) := by rw [show (4 : Int32) = nI 4 from rfl, nI_add]
def LL (G : mm_G) (b m o i : Nat) : List (Nat × Value) := [(0, .ref (G.2.2.1 3)), (1, .ref b), (2, .ref m), (3, .ref o), (4, .int (nI i))]
variable {G : mm_G} {b m o i kc ks mc ms : Nat} {h : mm_Hp} {Q Qm : mm_O → mm_Hp → Prop}

set_option maxHeartbeats 2000000 in
theorem lw_device (hN : i + 5 ≤ G.2.2.2.1) (hN2 : G.2.2.2.1 < 1000000) (hH : mm_CH G M_Lw_device [.ref b, .int (G.2.2.2.2 (i + 1)), .int (G.2.2.2.2 (i + 2)), .int (G.2.2.2.2 (i + 3)), .int (G.2.2.2.2 (i + 4)), .ref o] h mc ms Qm) (hx : ∀ E h1, ¬ Qm (.inr E) h1) (hq : ∀ v h1, Qm (.inl v) h1 → ∃ k, v = some (.int k) ∧ ∃ fs1, h1 m = some (4, fs1) ∧ ∃ bv h2, mm_C G M_Md_device [.ref m, .int (G.2.2.2.2 (i + 1)), .int (G.2.2.2.2 (i + 2)), .int (G.2.2.2.2 (i + 3)), .int (G.2.2.2.2 (i + 4))] h1 0 0 (mm_E (some (.int bv)) h2) ∧ ∃ fs2, h2 m = some (4, fs2) ∧ mm_C G M_Md_thrown [.ref m] h2 0 0 (mm_E (some (.int k)) h2) ∧ (k = 0 → h2 o = some (12, [.long bv.toInt64])) ∧ mm_V G M_Lw_law 888 (LL G b m o i) [] h2 kc ks Q) : mm_V G M_Lw_law 104 (LL G b m o i) [] h (mc + kc) (ms + ks) Q := by
  unfold LL at hq ⊢
  refine mm_blk (pc' := 110) ok_Lw_law_104 5 _ _ _ rfl ?_
  refine mm_sald (j := i + 1) ok_Lw_law_104 rfl (lw_i1 i) (by omega) (by omega) ?_
  refine mm_blk (pc' := 116) ok_Lw_law_104 4 _ _ _ rfl ?_
  refine mm_sald (j := i + 2) ok_Lw_law_104 rfl (lw_i2 i) (by omega) (by omega) ?_
  refine mm_blk (pc' := 122) ok_Lw_law_104 4 _ _ _ rfl ?_
  refine mm_sald (j := i + 3) ok_Lw_law_104 rfl (lw_i3 i) (by omega) (by omega) ?_
  refine mm_blk (pc' := 128) ok_Lw_law_104 4 _ _ _ rfl ?_
  refine mm_sald (j := i + 4) ok_Lw_law_104 rfl (lw_i4 i) (by omega) (by omega) ?_
  refine mm_blk (pc' := 130) ok_Lw_law_104 1 _ _ _ rfl ?_
  refine mm_callH (kc := kc) (ks := ks) (As := [.ref b, .int (G.2.2.2.2 (i + 1)), .int (G.2.2.2.2 (i + 2)), .int (G.2.2.2.2 (i + 3)), .int (G.2.2.2.2 (i + 4)), .ref o]) (st := []) ok_Lw_law_104 rfl k_Lw_law_60 rfl (Nat.le_of_ble_eq_true rfl) hH hx (fun v h1 q => ?_)
  obtain ⟨k, rfl, fs1, hm1, bv, h2, hM, fs2, hm2, hT, hv, hk⟩ := hq v h1 q
  refine mm_blk (pc' := 141) ok_Lw_law_104 6 _ _ _ rfl ?_
  refine mm_sald (j := i + 1) ok_Lw_law_104 rfl (lw_i1 i) (by omega) (by omega) ?_
  refine mm_blk (pc' := 147) ok_Lw_law_104 4 _ _ _ rfl ?_
  refine mm_sald (j := i + 2) ok_Lw_law_104 rfl (lw_i2 i) (by omega) (by omega) ?_
  refine mm_blk (pc' := 153) ok_Lw_law_104 4 _ _ _ rfl ?_
  refine mm_sald (j := i + 3) ok_Lw_law_104 rfl (lw_i3 i) (by omega) (by omega) ?_
  refine mm_blk (pc' := 159) ok_Lw_law_104 4 _ _ _ rfl ?_
  refine mm_sald (j := i + 4) ok_Lw_law_104 rfl (lw_i4 i) (by omega) (by omega) ?_
  refine mm_cVE ok_Lw_law_104 (As := [.int (G.2.2.2.2 (i + 1)), .int (G.2.2.2.2 (i + 2)), .int (G.2.2.2.2 (i + 3)), .int (G.2.2.2.2 (i + 4))]) rfl k_Lw_law_65 hm1 rfl rfl rfl (Nat.le_of_ble_eq_true rfl) (hM) ?_
  refine mm_blk (pc' := 166) ok_Lw_law_104 2 _ _ _ rfl ?_
  refine mm_cVE ok_Lw_law_104 (As := []) rfl k_Lw_law_66 hm2 rfl rfl rfl (Nat.le_of_ble_eq_true rfl) (hT) ?_
  refine mm_blk (pc' := 171) ok_Lw_law_104 1 _ _ _ rfl ?_
  refine mm_ic_eq ok_Lw_law_104 176 rfl (by decide) (fun c => ?_) (fun c => ?_)
  rotate_left
  · exact absurd rfl c
  refine mm_blk (pc' := 178) ok_Lw_law_104 1 _ _ _ rfl ?_
  refine mm_if_ne ok_Lw_law_104 193 rfl (by decide) (fun c178 => ?_) (fun c178 => ?_)
  · -- 193 t
    refine mm_blk (pc' := 888) ok_Lw_law_104 1 _ _ _ rfl ?_
    exact mm_V_pick [0, 1, 2, 3, 4] rfl hk
  · -- 181 f
    refine mm_blk (pc' := 183) ok_Lw_law_104 2 _ _ _ rfl ?_
    refine mm_lald (j := 0) ok_Lw_law_104 (hv c178) rfl rfl (by decide) rfl ?_
    refine mm_blk (pc' := 188) ok_Lw_law_104 3 _ _ _ rfl ?_
    refine mm_if_eq ok_Lw_law_104 193 rfl (by decide) (fun c => ?_) (fun c => ?_)
    rotate_left
    · exact absurd ((lg_cmp_eq _ _).mpr rfl) c
    refine mm_blk (pc' := 888) ok_Lw_law_104 1 _ _ _ rfl ?_
    exact mm_V_pick [0, 1, 2, 3, 4] rfl hk
set_option maxHeartbeats 2000000 in
theorem lw_net (hN : i + 5 ≤ G.2.2.2.1) (hN2 : G.2.2.2.1 < 1000000) (hH : mm_CH G M_Lw_net [.ref b, .int (G.2.2.2.2 (i + 1)), .int (G.2.2.2.2 (i + 2)), .int (G.2.2.2.2 (i + 3)), .int (G.2.2.2.2 (i + 4)), .ref o] h mc ms Qm) (hx : ∀ E h1, ¬ Qm (.inr E) h1) (hq : ∀ v h1, Qm (.inl v) h1 → ∃ k, v = some (.int k) ∧ ∃ fs1, h1 m = some (4, fs1) ∧ ∃ bv h2, mm_C G M_Md_net [.ref m, .int (G.2.2.2.2 (i + 1)), .int (G.2.2.2.2 (i + 2)), .int (G.2.2.2.2 (i + 3)), .int (G.2.2.2.2 (i + 4))] h1 0 0 (mm_E (some (.int bv)) h2) ∧ ∃ fs2, h2 m = some (4, fs2) ∧ mm_C G M_Md_thrown [.ref m] h2 0 0 (mm_E (some (.int k)) h2) ∧ (k = 0 → h2 o = some (12, [.long bv.toInt64])) ∧ mm_V G M_Lw_law 888 (LL G b m o i) [] h2 kc ks Q) : mm_V G M_Lw_law 196 (LL G b m o i) [] h (mc + kc) (ms + ks) Q := by
  unfold LL at hq ⊢
  refine mm_blk (pc' := 202) ok_Lw_law_196 5 _ _ _ rfl ?_
  refine mm_sald (j := i + 1) ok_Lw_law_196 rfl (lw_i1 i) (by omega) (by omega) ?_
  refine mm_blk (pc' := 208) ok_Lw_law_196 4 _ _ _ rfl ?_
  refine mm_sald (j := i + 2) ok_Lw_law_196 rfl (lw_i2 i) (by omega) (by omega) ?_
  refine mm_blk (pc' := 214) ok_Lw_law_196 4 _ _ _ rfl ?_
  refine mm_sald (j := i + 3) ok_Lw_law_196 rfl (lw_i3 i) (by omega) (by omega) ?_
  refine mm_blk (pc' := 220) ok_Lw_law_196 4 _ _ _ rfl ?_
  refine mm_sald (j := i + 4) ok_Lw_law_196 rfl (lw_i4 i) (by omega) (by omega) ?_
  refine mm_blk (pc' := 222) ok_Lw_law_196 1 _ _ _ rfl ?_
  refine mm_callH (kc := kc) (ks := ks) (As := [.ref b, .int (G.2.2.2.2 (i + 1)), .int (G.2.2.2.2 (i + 2)), .int (G.2.2.2.2 (i + 3)), .int (G.2.2.2.2 (i + 4)), .ref o]) (st := []) ok_Lw_law_196 rfl k_Lw_law_69 rfl (Nat.le_of_ble_eq_true rfl) hH hx (fun v h1 q => ?_)
  obtain ⟨k, rfl, fs1, hm1, bv, h2, hM, fs2, hm2, hT, hv, hk⟩ := hq v h1 q
  refine mm_blk (pc' := 233) ok_Lw_law_196 6 _ _ _ rfl ?_
  refine mm_sald (j := i + 1) ok_Lw_law_196 rfl (lw_i1 i) (by omega) (by omega) ?_
  refine mm_blk (pc' := 239) ok_Lw_law_196 4 _ _ _ rfl ?_
  refine mm_sald (j := i + 2) ok_Lw_law_196 rfl (lw_i2 i) (by omega) (by omega) ?_
  refine mm_blk (pc' := 245) ok_Lw_law_196 4 _ _ _ rfl ?_
  refine mm_sald (j := i + 3) ok_Lw_law_196 rfl (lw_i3 i) (by omega) (by omega) ?_
  refine mm_blk (pc' := 251) ok_Lw_law_196 4 _ _ _ rfl ?_
  refine mm_sald (j := i + 4) ok_Lw_law_196 rfl (lw_i4 i) (by omega) (by omega) ?_
  refine mm_cVE ok_Lw_law_196 (As := [.int (G.2.2.2.2 (i + 1)), .int (G.2.2.2.2 (i + 2)), .int (G.2.2.2.2 (i + 3)), .int (G.2.2.2.2 (i + 4))]) rfl k_Lw_law_71 hm1 rfl rfl rfl (Nat.le_of_ble_eq_true rfl) (hM) ?_
  refine mm_blk (pc' := 258) ok_Lw_law_196 2 _ _ _ rfl ?_
  refine mm_cVE ok_Lw_law_196 (As := []) rfl k_Lw_law_66 hm2 rfl rfl rfl (Nat.le_of_ble_eq_true rfl) (hT) ?_
  refine mm_blk (pc' := 263) ok_Lw_law_196 1 _ _ _ rfl ?_
  refine mm_ic_eq ok_Lw_law_196 268 rfl (by decide) (fun c => ?_) (fun c => ?_)
  rotate_left
  · exact absurd rfl c
  refine mm_blk (pc' := 270) ok_Lw_law_196 1 _ _ _ rfl ?_
  refine mm_if_ne ok_Lw_law_196 285 rfl (by decide) (fun c270 => ?_) (fun c270 => ?_)
  · -- 285 t
    refine mm_blk (pc' := 888) ok_Lw_law_196 1 _ _ _ rfl ?_
    exact mm_V_pick [0, 1, 2, 3, 4] rfl hk
  · -- 273 f
    refine mm_blk (pc' := 275) ok_Lw_law_196 2 _ _ _ rfl ?_
    refine mm_lald (j := 0) ok_Lw_law_196 (hv c270) rfl rfl (by decide) rfl ?_
    refine mm_blk (pc' := 280) ok_Lw_law_196 3 _ _ _ rfl ?_
    refine mm_if_eq ok_Lw_law_196 285 rfl (by decide) (fun c => ?_) (fun c => ?_)
    rotate_left
    · exact absurd ((lg_cmp_eq _ _).mpr rfl) c
    refine mm_blk (pc' := 888) ok_Lw_law_196 1 _ _ _ rfl ?_
    exact mm_V_pick [0, 1, 2, 3, 4] rfl hk
set_option maxHeartbeats 2000000 in
theorem lw_fault (hN : i + 5 ≤ G.2.2.2.1) (hN2 : G.2.2.2.1 < 1000000) (hH : mm_CH G M_Lw_fault [.ref b, .int (G.2.2.2.2 (i + 1)), .int (G.2.2.2.2 (i + 2)), .int (G.2.2.2.2 (i + 3))] h mc ms Qm) (hx : ∀ E h1, ¬ Qm (.inr E) h1) (hq : ∀ v h1, Qm (.inl v) h1 → ∃ k, v = some (.int k) ∧ ∃ fs1, h1 m = some (4, fs1) ∧ ∃ h2, mm_C G M_Md_fault [.ref m, .int (G.2.2.2.2 (i + 1)), .int (G.2.2.2.2 (i + 2)), .int (G.2.2.2.2 (i + 3))] h1 0 0 (mm_E none h2) ∧ ∃ fs2, h2 m = some (4, fs2) ∧ mm_C G M_Md_thrown [.ref m] h2 0 0 (mm_E (some (.int k)) h2) ∧ mm_V G M_Lw_law 888 (LL G b m o i) [] h2 kc ks Q) : mm_V G M_Lw_law 288 (LL G b m o i) [] h (mc + kc) (ms + ks) Q := by
  unfold LL at hq ⊢
  refine mm_blk (pc' := 294) ok_Lw_law_288 5 _ _ _ rfl ?_
  refine mm_sald (j := i + 1) ok_Lw_law_288 rfl (lw_i1 i) (by omega) (by omega) ?_
  refine mm_blk (pc' := 300) ok_Lw_law_288 4 _ _ _ rfl ?_
  refine mm_sald (j := i + 2) ok_Lw_law_288 rfl (lw_i2 i) (by omega) (by omega) ?_
  refine mm_blk (pc' := 306) ok_Lw_law_288 4 _ _ _ rfl ?_
  refine mm_sald (j := i + 3) ok_Lw_law_288 rfl (lw_i3 i) (by omega) (by omega) ?_
  refine mm_callH (kc := kc) (ks := ks) (As := [.ref b, .int (G.2.2.2.2 (i + 1)), .int (G.2.2.2.2 (i + 2)), .int (G.2.2.2.2 (i + 3))]) (st := []) ok_Lw_law_288 rfl k_Lw_law_72 rfl (Nat.le_of_ble_eq_true rfl) hH hx (fun v h1 q => ?_)
  obtain ⟨k, rfl, fs1, hm1, h2, hM, fs2, hm2, hT, hk⟩ := hq v h1 q
  refine mm_blk (pc' := 318) ok_Lw_law_288 6 _ _ _ rfl ?_
  refine mm_sald (j := i + 1) ok_Lw_law_288 rfl (lw_i1 i) (by omega) (by omega) ?_
  refine mm_blk (pc' := 324) ok_Lw_law_288 4 _ _ _ rfl ?_
  refine mm_sald (j := i + 2) ok_Lw_law_288 rfl (lw_i2 i) (by omega) (by omega) ?_
  refine mm_blk (pc' := 330) ok_Lw_law_288 4 _ _ _ rfl ?_
  refine mm_sald (j := i + 3) ok_Lw_law_288 rfl (lw_i3 i) (by omega) (by omega) ?_
  refine mm_cVE ok_Lw_law_288 (As := [.int (G.2.2.2.2 (i + 1)), .int (G.2.2.2.2 (i + 2)), .int (G.2.2.2.2 (i + 3))]) rfl k_Lw_law_75 hm1 rfl rfl rfl (Nat.le_of_ble_eq_true rfl) (hM) ?_
  refine mm_blk (pc' := 335) ok_Lw_law_288 1 _ _ _ rfl ?_
  refine mm_cVE ok_Lw_law_288 (As := []) rfl k_Lw_law_66 hm2 rfl rfl rfl (Nat.le_of_ble_eq_true rfl) (hT) ?_
  refine mm_blk (pc' := 340) ok_Lw_law_288 1 _ _ _ rfl ?_
  refine mm_ic_eq ok_Lw_law_288 345 rfl (by decide) (fun c => ?_) (fun c => ?_)
  rotate_left
  · exact absurd rfl c
  refine mm_blk (pc' := 888) ok_Lw_law_288 1 _ _ _ rfl ?_
  exact mm_V_pick [0, 1, 2, 3, 4] rfl hk
set_option maxHeartbeats 2000000 in
theorem lw_core (hN : i + 5 ≤ G.2.2.2.1) (hN2 : G.2.2.2.1 < 1000000) (hH : mm_CH G M_Lw_core [.ref b, .int (G.2.2.2.2 (i + 1)), .int (G.2.2.2.2 (i + 2)), .int (if G.2.2.2.2 (i + 3) = 0 then 0 else 1)] h mc ms Qm) (hx : ∀ E h1, ¬ Qm (.inr E) h1) (hq : ∀ v h1, Qm (.inl v) h1 → ∃ k, v = some (.int k) ∧ ∃ fs1, h1 m = some (4, fs1) ∧ ∃ h2, mm_C G M_Md_core [.ref m, .int (G.2.2.2.2 (i + 1)), .int (G.2.2.2.2 (i + 2)), .int (if G.2.2.2.2 (i + 3) = 0 then 0 else 1)] h1 0 0 (mm_E none h2) ∧ ∃ fs2, h2 m = some (4, fs2) ∧ mm_C G M_Md_thrown [.ref m] h2 0 0 (mm_E (some (.int k)) h2) ∧ mm_V G M_Lw_law 888 (LL G b m o i) [] h2 kc ks Q) : mm_V G M_Lw_law 348 (LL G b m o i) [] h (mc + kc) (ms + ks) Q := by
  unfold LL at hq ⊢
  refine mm_blk (pc' := 354) ok_Lw_law_348 5 _ _ _ rfl ?_
  refine mm_sald (j := i + 1) ok_Lw_law_348 rfl (lw_i1 i) (by omega) (by omega) ?_
  refine mm_blk (pc' := 360) ok_Lw_law_348 4 _ _ _ rfl ?_
  refine mm_sald (j := i + 2) ok_Lw_law_348 rfl (lw_i2 i) (by omega) (by omega) ?_
  refine mm_blk (pc' := 366) ok_Lw_law_348 4 _ _ _ rfl ?_
  refine mm_sald (j := i + 3) ok_Lw_law_348 rfl (lw_i3 i) (by omega) (by omega) ?_
  refine mm_ti_eq ok_Lw_law_348 374 rfl (by decide) rfl rfl rfl (by decide) ?_
  refine mm_callH (kc := kc) (ks := ks) (As := [.ref b, .int (G.2.2.2.2 (i + 1)), .int (G.2.2.2.2 (i + 2)), .int (if G.2.2.2.2 (i + 3) = 0 then 0 else 1)]) (st := []) ok_Lw_law_348 rfl k_Lw_law_76 rfl (Nat.le_of_ble_eq_true rfl) hH hx (fun v h1 q => ?_)
  obtain ⟨k, rfl, fs1, hm1, h2, hM, fs2, hm2, hT, hk⟩ := hq v h1 q
  refine mm_blk (pc' := 386) ok_Lw_law_348 6 _ _ _ rfl ?_
  refine mm_sald (j := i + 1) ok_Lw_law_348 rfl (lw_i1 i) (by omega) (by omega) ?_
  refine mm_blk (pc' := 392) ok_Lw_law_348 4 _ _ _ rfl ?_
  refine mm_sald (j := i + 2) ok_Lw_law_348 rfl (lw_i2 i) (by omega) (by omega) ?_
  refine mm_blk (pc' := 398) ok_Lw_law_348 4 _ _ _ rfl ?_
  refine mm_sald (j := i + 3) ok_Lw_law_348 rfl (lw_i3 i) (by omega) (by omega) ?_
  refine mm_ti_eq ok_Lw_law_348 406 rfl (by decide) rfl rfl rfl (by decide) ?_
  refine mm_cVE ok_Lw_law_348 (As := [.int (G.2.2.2.2 (i + 1)), .int (G.2.2.2.2 (i + 2)), .int (if G.2.2.2.2 (i + 3) = 0 then 0 else 1)]) rfl k_Lw_law_79 hm1 rfl rfl rfl (Nat.le_of_ble_eq_true rfl) (hM) ?_
  refine mm_blk (pc' := 411) ok_Lw_law_348 1 _ _ _ rfl ?_
  refine mm_cVE ok_Lw_law_348 (As := []) rfl k_Lw_law_66 hm2 rfl rfl rfl (Nat.le_of_ble_eq_true rfl) (hT) ?_
  refine mm_blk (pc' := 416) ok_Lw_law_348 1 _ _ _ rfl ?_
  refine mm_ic_eq ok_Lw_law_348 421 rfl (by decide) (fun c => ?_) (fun c => ?_)
  rotate_left
  · exact absurd rfl c
  refine mm_blk (pc' := 888) ok_Lw_law_348 1 _ _ _ rfl ?_
  exact mm_V_pick [0, 1, 2, 3, 4] rfl hk
set_option maxHeartbeats 2000000 in
theorem lw_clock (hN : i + 5 ≤ G.2.2.2.1) (hN2 : G.2.2.2.1 < 1000000) (hH : mm_CH G M_Lw_clock [.ref b, .int (if G.2.2.2.2 (i + 1) = 0 then 0 else 1), .int (if G.2.2.2.2 (i + 2) = 0 then 0 else 1), .ref o] h mc ms Qm) (hx : ∀ E h1, ¬ Qm (.inr E) h1) (hq : ∀ v h1, Qm (.inl v) h1 → ∃ k, v = some (.int k) ∧ ∃ fs1, h1 m = some (4, fs1) ∧ ∃ bv h2, mm_C G M_Md_clock [.ref m, .int (if G.2.2.2.2 (i + 1) = 0 then 0 else 1), .int (if G.2.2.2.2 (i + 2) = 0 then 0 else 1)] h1 0 0 (mm_E (some (.int bv)) h2) ∧ ∃ fs2, h2 m = some (4, fs2) ∧ mm_C G M_Md_thrown [.ref m] h2 0 0 (mm_E (some (.int k)) h2) ∧ (k = 0 → h2 o = some (12, [.long (if bv = 0 then 0 else 1)])) ∧ mm_V G M_Lw_law 888 (LL G b m o i) [] h2 kc ks Q) : mm_V G M_Lw_law 424 (LL G b m o i) [] h (mc + kc) (ms + ks) Q := by
  unfold LL at hq ⊢
  refine mm_blk (pc' := 430) ok_Lw_law_424 5 _ _ _ rfl ?_
  refine mm_sald (j := i + 1) ok_Lw_law_424 rfl (lw_i1 i) (by omega) (by omega) ?_
  refine mm_ti_eq ok_Lw_law_424 438 rfl (by decide) rfl rfl rfl (by decide) ?_
  refine mm_blk (pc' := 444) ok_Lw_law_424 4 _ _ _ rfl ?_
  refine mm_sald (j := i + 2) ok_Lw_law_424 rfl (lw_i2 i) (by omega) (by omega) ?_
  refine mm_ti_eq ok_Lw_law_424 452 rfl (by decide) rfl rfl rfl (by decide) ?_
  refine mm_blk (pc' := 454) ok_Lw_law_424 1 _ _ _ rfl ?_
  refine mm_callH (kc := kc) (ks := ks) (As := [.ref b, .int (if G.2.2.2.2 (i + 1) = 0 then 0 else 1), .int (if G.2.2.2.2 (i + 2) = 0 then 0 else 1), .ref o]) (st := []) ok_Lw_law_424 rfl k_Lw_law_80 rfl (Nat.le_of_ble_eq_true rfl) hH hx (fun v h1 q => ?_)
  obtain ⟨k, rfl, fs1, hm1, bv, h2, hM, fs2, hm2, hT, hv, hk⟩ := hq v h1 q
  refine mm_blk (pc' := 465) ok_Lw_law_424 6 _ _ _ rfl ?_
  refine mm_sald (j := i + 1) ok_Lw_law_424 rfl (lw_i1 i) (by omega) (by omega) ?_
  refine mm_ti_eq ok_Lw_law_424 473 rfl (by decide) rfl rfl rfl (by decide) ?_
  refine mm_blk (pc' := 479) ok_Lw_law_424 4 _ _ _ rfl ?_
  refine mm_sald (j := i + 2) ok_Lw_law_424 rfl (lw_i2 i) (by omega) (by omega) ?_
  refine mm_ti_eq ok_Lw_law_424 487 rfl (by decide) rfl rfl rfl (by decide) ?_
  refine mm_cVE ok_Lw_law_424 (As := [.int (if G.2.2.2.2 (i + 1) = 0 then 0 else 1), .int (if G.2.2.2.2 (i + 2) = 0 then 0 else 1)]) rfl k_Lw_law_83 hm1 rfl rfl rfl (Nat.le_of_ble_eq_true rfl) (hM) ?_
  refine mm_blk (pc' := 494) ok_Lw_law_424 2 _ _ _ rfl ?_
  refine mm_cVE ok_Lw_law_424 (As := []) rfl k_Lw_law_66 hm2 rfl rfl rfl (Nat.le_of_ble_eq_true rfl) (hT) ?_
  refine mm_blk (pc' := 499) ok_Lw_law_424 1 _ _ _ rfl ?_
  refine mm_ic_eq ok_Lw_law_424 504 rfl (by decide) (fun c => ?_) (fun c => ?_)
  rotate_left
  · exact absurd rfl c
  refine mm_blk (pc' := 506) ok_Lw_law_424 1 _ _ _ rfl ?_
  refine mm_if_ne ok_Lw_law_424 528 rfl (by decide) (fun c506 => ?_) (fun c506 => ?_)
  · -- 528 t
    refine mm_blk (pc' := 888) ok_Lw_law_424 1 _ _ _ rfl ?_
    exact mm_V_pick [0, 1, 2, 3, 4] rfl hk
  · -- 509 f
    refine mm_blk (pc' := 511) ok_Lw_law_424 2 _ _ _ rfl ?_
    refine mm_lald (j := 0) ok_Lw_law_424 (hv c506) rfl rfl (by decide) rfl ?_
    refine mm_blk (pc' := 514) ok_Lw_law_424 1 _ _ _ rfl ?_
    refine mm_if_eq ok_Lw_law_424 521 rfl (by decide) (fun cz => ?_) (fun cz => ?_)
    · -- 521 t
      refine mm_blk (pc' := 523) ok_Lw_law_424 2 _ _ _ rfl ?_
      refine mm_if_eq ok_Lw_law_424 528 rfl (by decide) (fun c => ?_) (fun c => ?_)
      rotate_left
      · exact absurd ((lg_cmp_eq _ _).mpr (by first | (rw [if_pos cz]; rfl) | (rw [if_neg cz]; rfl))) c
      refine mm_blk (pc' := 888) ok_Lw_law_424 1 _ _ _ rfl ?_
      exact mm_V_pick [0, 1, 2, 3, 4] rfl hk
    · -- 517 f
      refine mm_blk (pc' := 523) ok_Lw_law_424 3 _ _ _ rfl ?_
      refine mm_if_eq ok_Lw_law_424 528 rfl (by decide) (fun c => ?_) (fun c => ?_)
      rotate_left
      · exact absurd ((lg_cmp_eq _ _).mpr (by first | (rw [if_pos cz]; rfl) | (rw [if_neg cz]; rfl))) c
      refine mm_blk (pc' := 888) ok_Lw_law_424 1 _ _ _ rfl ?_
      exact mm_V_pick [0, 1, 2, 3, 4] rfl hk
set_option maxHeartbeats 2000000 in
theorem lw_look (hN : i + 5 ≤ G.2.2.2.1) (hN2 : G.2.2.2.1 < 1000000) (hH : mm_CH G M_Lw_look [.ref b, .int (G.2.2.2.2 (i + 1)), .int (G.2.2.2.2 (i + 2)), .ref o] h mc ms Qm) (hx : ∀ E h1, ¬ Qm (.inr E) h1) (hq : ∀ v h1, Qm (.inl v) h1 → ∃ k, v = some (.int k) ∧ ∃ fs1, h1 m = some (4, fs1) ∧ ∃ bv h2, mm_C G M_Md_look [.ref m, .int (G.2.2.2.2 (i + 1)), .int (G.2.2.2.2 (i + 2))] h1 0 0 (mm_E (some (.int bv)) h2) ∧ ∃ fs2, h2 m = some (4, fs2) ∧ mm_C G M_Md_thrown [.ref m] h2 0 0 (mm_E (some (.int k)) h2) ∧ (k = 0 → h2 o = some (12, [.long bv.toInt64])) ∧ mm_V G M_Lw_law 888 (LL G b m o i) [] h2 kc ks Q) : mm_V G M_Lw_law 544 (LL G b m o i) [] h (mc + kc) (ms + ks) Q := by
  unfold LL at hq ⊢
  refine mm_blk (pc' := 550) ok_Lw_law_544 5 _ _ _ rfl ?_
  refine mm_sald (j := i + 1) ok_Lw_law_544 rfl (lw_i1 i) (by omega) (by omega) ?_
  refine mm_blk (pc' := 556) ok_Lw_law_544 4 _ _ _ rfl ?_
  refine mm_sald (j := i + 2) ok_Lw_law_544 rfl (lw_i2 i) (by omega) (by omega) ?_
  refine mm_blk (pc' := 558) ok_Lw_law_544 1 _ _ _ rfl ?_
  refine mm_callH (kc := kc) (ks := ks) (As := [.ref b, .int (G.2.2.2.2 (i + 1)), .int (G.2.2.2.2 (i + 2)), .ref o]) (st := []) ok_Lw_law_544 rfl k_Lw_law_88 rfl (Nat.le_of_ble_eq_true rfl) hH hx (fun v h1 q => ?_)
  obtain ⟨k, rfl, fs1, hm1, bv, h2, hM, fs2, hm2, hT, hv, hk⟩ := hq v h1 q
  refine mm_blk (pc' := 569) ok_Lw_law_544 6 _ _ _ rfl ?_
  refine mm_sald (j := i + 1) ok_Lw_law_544 rfl (lw_i1 i) (by omega) (by omega) ?_
  refine mm_blk (pc' := 575) ok_Lw_law_544 4 _ _ _ rfl ?_
  refine mm_sald (j := i + 2) ok_Lw_law_544 rfl (lw_i2 i) (by omega) (by omega) ?_
  refine mm_cVE ok_Lw_law_544 (As := [.int (G.2.2.2.2 (i + 1)), .int (G.2.2.2.2 (i + 2))]) rfl k_Lw_law_91 hm1 rfl rfl rfl (Nat.le_of_ble_eq_true rfl) (hM) ?_
  refine mm_blk (pc' := 582) ok_Lw_law_544 2 _ _ _ rfl ?_
  refine mm_cVE ok_Lw_law_544 (As := []) rfl k_Lw_law_66 hm2 rfl rfl rfl (Nat.le_of_ble_eq_true rfl) (hT) ?_
  refine mm_blk (pc' := 587) ok_Lw_law_544 1 _ _ _ rfl ?_
  refine mm_ic_eq ok_Lw_law_544 592 rfl (by decide) (fun c => ?_) (fun c => ?_)
  rotate_left
  · exact absurd rfl c
  refine mm_blk (pc' := 594) ok_Lw_law_544 1 _ _ _ rfl ?_
  refine mm_if_ne ok_Lw_law_544 609 rfl (by decide) (fun c594 => ?_) (fun c594 => ?_)
  · -- 609 t
    refine mm_blk (pc' := 888) ok_Lw_law_544 1 _ _ _ rfl ?_
    exact mm_V_pick [0, 1, 2, 3, 4] rfl hk
  · -- 597 f
    refine mm_blk (pc' := 599) ok_Lw_law_544 2 _ _ _ rfl ?_
    refine mm_lald (j := 0) ok_Lw_law_544 (hv c594) rfl rfl (by decide) rfl ?_
    refine mm_blk (pc' := 604) ok_Lw_law_544 3 _ _ _ rfl ?_
    refine mm_if_eq ok_Lw_law_544 609 rfl (by decide) (fun c => ?_) (fun c => ?_)
    rotate_left
    · exact absurd ((lg_cmp_eq _ _).mpr rfl) c
    refine mm_blk (pc' := 888) ok_Lw_law_544 1 _ _ _ rfl ?_
    exact mm_V_pick [0, 1, 2, 3, 4] rfl hk
set_option maxHeartbeats 2000000 in
theorem lw_value (hN : i + 5 ≤ G.2.2.2.1) (hN2 : G.2.2.2.1 < 1000000) (hH : mm_CH G M_Lw_value [.ref b, .int (G.2.2.2.2 (i + 1)), .ref o] h mc ms Qm) (hx : ∀ E h1, ¬ Qm (.inr E) h1) (hq : ∀ v h1, Qm (.inl v) h1 → ∃ k, v = some (.int k) ∧ ∃ fs1, h1 m = some (4, fs1) ∧ ∃ bv h2, mm_C G M_Md_value [.ref m, .int (G.2.2.2.2 (i + 1))] h1 0 0 (mm_E (some (.int bv)) h2) ∧ ∃ fs2, h2 m = some (4, fs2) ∧ mm_C G M_Md_thrown [.ref m] h2 0 0 (mm_E (some (.int k)) h2) ∧ (k = 0 → h2 o = some (12, [.long (if bv = 0 then 0 else 1)])) ∧ mm_V G M_Lw_law 888 (LL G b m o i) [] h2 kc ks Q) : mm_V G M_Lw_law 612 (LL G b m o i) [] h (mc + kc) (ms + ks) Q := by
  unfold LL at hq ⊢
  refine mm_blk (pc' := 618) ok_Lw_law_612 5 _ _ _ rfl ?_
  refine mm_sald (j := i + 1) ok_Lw_law_612 rfl (lw_i1 i) (by omega) (by omega) ?_
  refine mm_blk (pc' := 620) ok_Lw_law_612 1 _ _ _ rfl ?_
  refine mm_callH (kc := kc) (ks := ks) (As := [.ref b, .int (G.2.2.2.2 (i + 1)), .ref o]) (st := []) ok_Lw_law_612 rfl k_Lw_law_92 rfl (Nat.le_of_ble_eq_true rfl) hH hx (fun v h1 q => ?_)
  obtain ⟨k, rfl, fs1, hm1, bv, h2, hM, fs2, hm2, hT, hv, hk⟩ := hq v h1 q
  refine mm_blk (pc' := 631) ok_Lw_law_612 6 _ _ _ rfl ?_
  refine mm_sald (j := i + 1) ok_Lw_law_612 rfl (lw_i1 i) (by omega) (by omega) ?_
  refine mm_cVE ok_Lw_law_612 (As := [.int (G.2.2.2.2 (i + 1))]) rfl k_Lw_law_95 hm1 rfl rfl rfl (Nat.le_of_ble_eq_true rfl) (hM) ?_
  refine mm_blk (pc' := 638) ok_Lw_law_612 2 _ _ _ rfl ?_
  refine mm_cVE ok_Lw_law_612 (As := []) rfl k_Lw_law_66 hm2 rfl rfl rfl (Nat.le_of_ble_eq_true rfl) (hT) ?_
  refine mm_blk (pc' := 643) ok_Lw_law_612 1 _ _ _ rfl ?_
  refine mm_ic_eq ok_Lw_law_612 648 rfl (by decide) (fun c => ?_) (fun c => ?_)
  rotate_left
  · exact absurd rfl c
  refine mm_blk (pc' := 650) ok_Lw_law_612 1 _ _ _ rfl ?_
  refine mm_if_ne ok_Lw_law_612 672 rfl (by decide) (fun c650 => ?_) (fun c650 => ?_)
  · -- 672 t
    refine mm_blk (pc' := 888) ok_Lw_law_612 1 _ _ _ rfl ?_
    exact mm_V_pick [0, 1, 2, 3, 4] rfl hk
  · -- 653 f
    refine mm_blk (pc' := 655) ok_Lw_law_612 2 _ _ _ rfl ?_
    refine mm_lald (j := 0) ok_Lw_law_612 (hv c650) rfl rfl (by decide) rfl ?_
    refine mm_blk (pc' := 658) ok_Lw_law_612 1 _ _ _ rfl ?_
    refine mm_if_eq ok_Lw_law_612 665 rfl (by decide) (fun cz => ?_) (fun cz => ?_)
    · -- 665 t
      refine mm_blk (pc' := 667) ok_Lw_law_612 2 _ _ _ rfl ?_
      refine mm_if_eq ok_Lw_law_612 672 rfl (by decide) (fun c => ?_) (fun c => ?_)
      rotate_left
      · exact absurd ((lg_cmp_eq _ _).mpr (by first | (rw [if_pos cz]; rfl) | (rw [if_neg cz]; rfl))) c
      refine mm_blk (pc' := 888) ok_Lw_law_612 1 _ _ _ rfl ?_
      exact mm_V_pick [0, 1, 2, 3, 4] rfl hk
    · -- 661 f
      refine mm_blk (pc' := 667) ok_Lw_law_612 3 _ _ _ rfl ?_
      refine mm_if_eq ok_Lw_law_612 672 rfl (by decide) (fun c => ?_) (fun c => ?_)
      rotate_left
      · exact absurd ((lg_cmp_eq _ _).mpr (by first | (rw [if_pos cz]; rfl) | (rw [if_neg cz]; rfl))) c
      refine mm_blk (pc' := 888) ok_Lw_law_612 1 _ _ _ rfl ?_
      exact mm_V_pick [0, 1, 2, 3, 4] rfl hk
set_option maxHeartbeats 2000000 in
theorem lw_find (hN : i + 5 ≤ G.2.2.2.1) (hN2 : G.2.2.2.1 < 1000000) (hH : mm_CH G M_Lw_find [.ref b, .ref o] h mc ms Qm) (hx : ∀ E h1, ¬ Qm (.inr E) h1) (hq : ∀ v h1, Qm (.inl v) h1 → ∃ k, v = some (.int k) ∧ ∃ fs1, h1 m = some (4, fs1) ∧ ∃ bv h2, mm_C G M_Md_find [.ref m] h1 0 0 (mm_E (some (.int bv)) h2) ∧ ∃ fs2, h2 m = some (4, fs2) ∧ mm_C G M_Md_thrown [.ref m] h2 0 0 (mm_E (some (.int k)) h2) ∧ (k = 0 → h2 o = some (12, [.long bv.toInt64])) ∧ mm_V G M_Lw_law 888 (LL G b m o i) [] h2 kc ks Q) : mm_V G M_Lw_law 675 (LL G b m o i) [] h (mc + kc) (ms + ks) Q := by
  unfold LL at hq ⊢
  refine mm_blk (pc' := 677) ok_Lw_law_675 2 _ _ _ rfl ?_
  refine mm_callH (kc := kc) (ks := ks) (As := [.ref b, .ref o]) (st := []) ok_Lw_law_675 rfl k_Lw_law_96 rfl (Nat.le_of_ble_eq_true rfl) hH hx (fun v h1 q => ?_)
  obtain ⟨k, rfl, fs1, hm1, bv, h2, hM, fs2, hm2, hT, hv, hk⟩ := hq v h1 q
  refine mm_blk (pc' := 683) ok_Lw_law_675 2 _ _ _ rfl ?_
  refine mm_cVE ok_Lw_law_675 (As := []) rfl k_Lw_law_99 hm1 rfl rfl rfl (Nat.le_of_ble_eq_true rfl) (hM) ?_
  refine mm_blk (pc' := 689) ok_Lw_law_675 2 _ _ _ rfl ?_
  refine mm_cVE ok_Lw_law_675 (As := []) rfl k_Lw_law_66 hm2 rfl rfl rfl (Nat.le_of_ble_eq_true rfl) (hT) ?_
  refine mm_blk (pc' := 694) ok_Lw_law_675 1 _ _ _ rfl ?_
  refine mm_ic_eq ok_Lw_law_675 699 rfl (by decide) (fun c => ?_) (fun c => ?_)
  rotate_left
  · exact absurd rfl c
  refine mm_blk (pc' := 701) ok_Lw_law_675 1 _ _ _ rfl ?_
  refine mm_if_ne ok_Lw_law_675 716 rfl (by decide) (fun c701 => ?_) (fun c701 => ?_)
  · -- 716 t
    refine mm_blk (pc' := 888) ok_Lw_law_675 1 _ _ _ rfl ?_
    exact mm_V_pick [0, 1, 2, 3, 4] rfl hk
  · -- 704 f
    refine mm_blk (pc' := 706) ok_Lw_law_675 2 _ _ _ rfl ?_
    refine mm_lald (j := 0) ok_Lw_law_675 (hv c701) rfl rfl (by decide) rfl ?_
    refine mm_blk (pc' := 711) ok_Lw_law_675 3 _ _ _ rfl ?_
    refine mm_if_eq ok_Lw_law_675 716 rfl (by decide) (fun c => ?_) (fun c => ?_)
    rotate_left
    · exact absurd ((lg_cmp_eq _ _).mpr rfl) c
    refine mm_blk (pc' := 888) ok_Lw_law_675 1 _ _ _ rfl ?_
    exact mm_V_pick [0, 1, 2, 3, 4] rfl hk
set_option maxHeartbeats 2000000 in
theorem lw_found (hN : i + 5 ≤ G.2.2.2.1) (hN2 : G.2.2.2.1 < 1000000) (hH : mm_CH G M_Lw_found [.ref b, .int (G.2.2.2.2 (i + 1)), .ref o] h mc ms Qm) (hx : ∀ E h1, ¬ Qm (.inr E) h1) (hq : ∀ v h1, Qm (.inl v) h1 → ∃ k, v = some (.int k) ∧ ∃ fs1, h1 m = some (4, fs1) ∧ ∃ bv h2, mm_C G M_Md_found [.ref m, .int (G.2.2.2.2 (i + 1))] h1 0 0 (mm_E (some (.int bv)) h2) ∧ ∃ fs2, h2 m = some (4, fs2) ∧ mm_C G M_Md_thrown [.ref m] h2 0 0 (mm_E (some (.int k)) h2) ∧ (k = 0 → h2 o = some (12, [.long bv.toInt64])) ∧ mm_V G M_Lw_law 888 (LL G b m o i) [] h2 kc ks Q) : mm_V G M_Lw_law 719 (LL G b m o i) [] h (mc + kc) (ms + ks) Q := by
  unfold LL at hq ⊢
  refine mm_blk (pc' := 725) ok_Lw_law_719 5 _ _ _ rfl ?_
  refine mm_sald (j := i + 1) ok_Lw_law_719 rfl (lw_i1 i) (by omega) (by omega) ?_
  refine mm_blk (pc' := 727) ok_Lw_law_719 1 _ _ _ rfl ?_
  refine mm_callH (kc := kc) (ks := ks) (As := [.ref b, .int (G.2.2.2.2 (i + 1)), .ref o]) (st := []) ok_Lw_law_719 rfl k_Lw_law_100 rfl (Nat.le_of_ble_eq_true rfl) hH hx (fun v h1 q => ?_)
  obtain ⟨k, rfl, fs1, hm1, bv, h2, hM, fs2, hm2, hT, hv, hk⟩ := hq v h1 q
  refine mm_blk (pc' := 738) ok_Lw_law_719 6 _ _ _ rfl ?_
  refine mm_sald (j := i + 1) ok_Lw_law_719 rfl (lw_i1 i) (by omega) (by omega) ?_
  refine mm_cVE ok_Lw_law_719 (As := [.int (G.2.2.2.2 (i + 1))]) rfl k_Lw_law_102 hm1 rfl rfl rfl (Nat.le_of_ble_eq_true rfl) (hM) ?_
  refine mm_blk (pc' := 745) ok_Lw_law_719 2 _ _ _ rfl ?_
  refine mm_cVE ok_Lw_law_719 (As := []) rfl k_Lw_law_66 hm2 rfl rfl rfl (Nat.le_of_ble_eq_true rfl) (hT) ?_
  refine mm_blk (pc' := 750) ok_Lw_law_719 1 _ _ _ rfl ?_
  refine mm_ic_eq ok_Lw_law_719 755 rfl (by decide) (fun c => ?_) (fun c => ?_)
  rotate_left
  · exact absurd rfl c
  refine mm_blk (pc' := 757) ok_Lw_law_719 1 _ _ _ rfl ?_
  refine mm_if_ne ok_Lw_law_719 772 rfl (by decide) (fun c757 => ?_) (fun c757 => ?_)
  · -- 772 t
    refine mm_blk (pc' := 888) ok_Lw_law_719 1 _ _ _ rfl ?_
    exact mm_V_pick [0, 1, 2, 3, 4] rfl hk
  · -- 760 f
    refine mm_blk (pc' := 762) ok_Lw_law_719 2 _ _ _ rfl ?_
    refine mm_lald (j := 0) ok_Lw_law_719 (hv c757) rfl rfl (by decide) rfl ?_
    refine mm_blk (pc' := 767) ok_Lw_law_719 3 _ _ _ rfl ?_
    refine mm_if_eq ok_Lw_law_719 772 rfl (by decide) (fun c => ?_) (fun c => ?_)
    rotate_left
    · exact absurd ((lg_cmp_eq _ _).mpr rfl) c
    refine mm_blk (pc' := 888) ok_Lw_law_719 1 _ _ _ rfl ?_
    exact mm_V_pick [0, 1, 2, 3, 4] rfl hk
set_option maxHeartbeats 2000000 in
theorem lw_test (hN : i + 5 ≤ G.2.2.2.1) (hN2 : G.2.2.2.1 < 1000000) (hH : mm_CH G M_Lw_test [.ref b, .ref o] h mc ms Qm) (hx : ∀ E h1, ¬ Qm (.inr E) h1) (hq : ∀ v h1, Qm (.inl v) h1 → ∃ k, v = some (.int k) ∧ ∃ fs1, h1 m = some (4, fs1) ∧ ∃ bv h2, mm_C G M_Md_test [.ref m] h1 0 0 (mm_E (some (.int bv)) h2) ∧ ∃ fs2, h2 m = some (4, fs2) ∧ mm_C G M_Md_thrown [.ref m] h2 0 0 (mm_E (some (.int k)) h2) ∧ (k = 0 → h2 o = some (12, [.long bv.toInt64])) ∧ mm_V G M_Lw_law 888 (LL G b m o i) [] h2 kc ks Q) : mm_V G M_Lw_law 775 (LL G b m o i) [] h (mc + kc) (ms + ks) Q := by
  unfold LL at hq ⊢
  refine mm_blk (pc' := 777) ok_Lw_law_775 2 _ _ _ rfl ?_
  refine mm_callH (kc := kc) (ks := ks) (As := [.ref b, .ref o]) (st := []) ok_Lw_law_775 rfl k_Lw_law_103 rfl (Nat.le_of_ble_eq_true rfl) hH hx (fun v h1 q => ?_)
  obtain ⟨k, rfl, fs1, hm1, bv, h2, hM, fs2, hm2, hT, hv, hk⟩ := hq v h1 q
  refine mm_blk (pc' := 783) ok_Lw_law_775 2 _ _ _ rfl ?_
  refine mm_cVE ok_Lw_law_775 (As := []) rfl k_Lw_law_105 hm1 rfl rfl rfl (Nat.le_of_ble_eq_true rfl) (hM) ?_
  refine mm_blk (pc' := 789) ok_Lw_law_775 2 _ _ _ rfl ?_
  refine mm_cVE ok_Lw_law_775 (As := []) rfl k_Lw_law_66 hm2 rfl rfl rfl (Nat.le_of_ble_eq_true rfl) (hT) ?_
  refine mm_blk (pc' := 794) ok_Lw_law_775 1 _ _ _ rfl ?_
  refine mm_ic_eq ok_Lw_law_775 799 rfl (by decide) (fun c => ?_) (fun c => ?_)
  rotate_left
  · exact absurd rfl c
  refine mm_blk (pc' := 801) ok_Lw_law_775 1 _ _ _ rfl ?_
  refine mm_if_ne ok_Lw_law_775 816 rfl (by decide) (fun c801 => ?_) (fun c801 => ?_)
  · -- 816 t
    refine mm_blk (pc' := 888) ok_Lw_law_775 1 _ _ _ rfl ?_
    exact mm_V_pick [0, 1, 2, 3, 4] rfl hk
  · -- 804 f
    refine mm_blk (pc' := 806) ok_Lw_law_775 2 _ _ _ rfl ?_
    refine mm_lald (j := 0) ok_Lw_law_775 (hv c801) rfl rfl (by decide) rfl ?_
    refine mm_blk (pc' := 811) ok_Lw_law_775 3 _ _ _ rfl ?_
    refine mm_if_eq ok_Lw_law_775 816 rfl (by decide) (fun c => ?_) (fun c => ?_)
    rotate_left
    · exact absurd ((lg_cmp_eq _ _).mpr rfl) c
    refine mm_blk (pc' := 888) ok_Lw_law_775 1 _ _ _ rfl ?_
    exact mm_V_pick [0, 1, 2, 3, 4] rfl hk
set_option maxHeartbeats 2000000 in
theorem lw_saw (hN : i + 5 ≤ G.2.2.2.1) (hN2 : G.2.2.2.1 < 1000000) (hH : mm_CH G M_Lw_saw [.ref b, .int (G.2.2.2.2 (i + 1)), .ref o] h mc ms Qm) (hx : ∀ E h1, ¬ Qm (.inr E) h1) (hq : ∀ v h1, Qm (.inl v) h1 → ∃ k, v = some (.int k) ∧ ∃ fs1, h1 m = some (4, fs1) ∧ ∃ bv h2, mm_C G M_Md_saw [.ref m, .int (G.2.2.2.2 (i + 1))] h1 0 0 (mm_E (some (.int bv)) h2) ∧ ∃ fs2, h2 m = some (4, fs2) ∧ mm_C G M_Md_thrown [.ref m] h2 0 0 (mm_E (some (.int k)) h2) ∧ (k = 0 → h2 o = some (12, [.long bv.toInt64])) ∧ mm_V G M_Lw_law 888 (LL G b m o i) [] h2 kc ks Q) : mm_V G M_Lw_law 819 (LL G b m o i) [] h (mc + kc) (ms + ks) Q := by
  unfold LL at hq ⊢
  refine mm_blk (pc' := 825) ok_Lw_law_819 5 _ _ _ rfl ?_
  refine mm_sald (j := i + 1) ok_Lw_law_819 rfl (lw_i1 i) (by omega) (by omega) ?_
  refine mm_blk (pc' := 827) ok_Lw_law_819 1 _ _ _ rfl ?_
  refine mm_callH (kc := kc) (ks := ks) (As := [.ref b, .int (G.2.2.2.2 (i + 1)), .ref o]) (st := []) ok_Lw_law_819 rfl k_Lw_law_106 rfl (Nat.le_of_ble_eq_true rfl) hH hx (fun v h1 q => ?_)
  obtain ⟨k, rfl, fs1, hm1, bv, h2, hM, fs2, hm2, hT, hv, hk⟩ := hq v h1 q
  refine mm_blk (pc' := 838) ok_Lw_law_819 6 _ _ _ rfl ?_
  refine mm_sald (j := i + 1) ok_Lw_law_819 rfl (lw_i1 i) (by omega) (by omega) ?_
  refine mm_cVE ok_Lw_law_819 (As := [.int (G.2.2.2.2 (i + 1))]) rfl k_Lw_law_108 hm1 rfl rfl rfl (Nat.le_of_ble_eq_true rfl) (hM) ?_
  refine mm_blk (pc' := 845) ok_Lw_law_819 2 _ _ _ rfl ?_
  refine mm_cVE ok_Lw_law_819 (As := []) rfl k_Lw_law_66 hm2 rfl rfl rfl (Nat.le_of_ble_eq_true rfl) (hT) ?_
  refine mm_blk (pc' := 850) ok_Lw_law_819 1 _ _ _ rfl ?_
  refine mm_ic_eq ok_Lw_law_819 855 rfl (by decide) (fun c => ?_) (fun c => ?_)
  rotate_left
  · exact absurd rfl c
  refine mm_blk (pc' := 857) ok_Lw_law_819 1 _ _ _ rfl ?_
  refine mm_if_ne ok_Lw_law_819 872 rfl (by decide) (fun c857 => ?_) (fun c857 => ?_)
  · -- 872 t
    refine mm_blk (pc' := 888) ok_Lw_law_819 1 _ _ _ rfl ?_
    exact mm_V_pick [0, 1, 2, 3, 4] rfl hk
  · -- 860 f
    refine mm_blk (pc' := 862) ok_Lw_law_819 2 _ _ _ rfl ?_
    refine mm_lald (j := 0) ok_Lw_law_819 (hv c857) rfl rfl (by decide) rfl ?_
    refine mm_blk (pc' := 867) ok_Lw_law_819 3 _ _ _ rfl ?_
    refine mm_if_eq ok_Lw_law_819 872 rfl (by decide) (fun c => ?_) (fun c => ?_)
    rotate_left
    · exact absurd ((lg_cmp_eq _ _).mpr rfl) c
    refine mm_blk (pc' := 888) ok_Lw_law_819 1 _ _ _ rfl ?_
    exact mm_V_pick [0, 1, 2, 3, 4] rfl hk
set_option maxHeartbeats 2000000 in
theorem lw_state {fs fs1 : List Value} {v : Int32} {h1 h2 : mm_Hp} (hb : h b = some (3, fs)) (hC : mm_C G M_Cb_state [.ref b] h 0 0 (mm_E (some (.int v)) h1)) (hm : h1 m = some (4, fs1)) (hM : mm_C G M_Md_state [.ref m] h1 0 0 (mm_E (some (.int v)) h2)) (hk : mm_V G M_Lw_law 888 (LL G b m o i) [] h2 kc ks Q) : mm_V G M_Lw_law 531 (LL G b m o i) [] h kc ks Q := by
  unfold LL at hk ⊢
  refine mm_blk (pc' := 532) ok_Lw_law_531 1 _ _ _ rfl ?_
  refine mm_cVE ok_Lw_law_531 (As := []) rfl k_Lw_law_84 hb rfl rfl rfl (Nat.le_of_ble_eq_true rfl) (hC) ?_
  refine mm_blk (pc' := 536) ok_Lw_law_531 1 _ _ _ rfl ?_
  refine mm_cVE ok_Lw_law_531 (As := []) rfl k_Lw_law_87 hm rfl rfl rfl (Nat.le_of_ble_eq_true rfl) (hM) ?_
  refine mm_ic_eq ok_Lw_law_531 888 rfl (by decide) (fun c => ?_) (fun c => ?_)
  rotate_left
  · exact absurd rfl c
  exact hk
set_option maxHeartbeats 2000000 in
theorem lw_clocks {fs fs1 : List Value} {v : Int32} {h1 h2 : mm_Hp} (hb : h b = some (3, fs)) (hC : mm_C G M_Cb_clocks [.ref b] h 0 0 (mm_E (some (.int v)) h1)) (hm : h1 m = some (4, fs1)) (hM : mm_C G M_Md_clocks [.ref m] h1 0 0 (mm_E (some (.int v)) h2)) (hk : mm_V G M_Lw_law 888 (LL G b m o i) [] h2 kc ks Q) : mm_V G M_Lw_law 875 (LL G b m o i) [] h kc ks Q := by
  unfold LL at hk ⊢
  refine mm_blk (pc' := 876) ok_Lw_law_875 1 _ _ _ rfl ?_
  refine mm_cVE ok_Lw_law_875 (As := []) rfl k_Lw_law_109 hb rfl rfl rfl (Nat.le_of_ble_eq_true rfl) (hC) ?_
  refine mm_blk (pc' := 880) ok_Lw_law_875 1 _ _ _ rfl ?_
  refine mm_cVE ok_Lw_law_875 (As := []) rfl k_Lw_law_112 hm rfl rfl rfl (Nat.le_of_ble_eq_true rfl) (hM) ?_
  refine mm_ic_eq ok_Lw_law_875 888 rfl (by decide) (fun c => ?_) (fun c => ?_)
  rotate_left
  · exact absurd rfl c
  exact hk
end LWW
