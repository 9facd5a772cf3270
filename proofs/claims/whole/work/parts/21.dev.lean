/-! the class: device, net, a new bench -/
def c_badD (b id cl : Int32) : Prop := b < 2 ∨ 4 < b ∨ cl < 1 ∨ ¬ cl ≤ 6 ∨ (id &&& 1) = 0 ∨ id = -1
def dv_new (b i c dr : Int32) : Nat → Int32 := fun k => if k = 0 then b else if k = 1 then i else if k = 2 then c else if k = 3 then dr &&& (1 <<< (c &&& 31) - 1) else if k = 7 then 1 else 0
def c_dev (S : cS) (b id cl dr : Int32) : cS := c_restart (c_devA S (dv_new b id cl dr))
def nt_new (i j : Int32) : Nat → Int32 := fun k => if k = 1 then i else if k = 3 then j else if k = 4 then -1 else 0
def c_drv (S : cS) (i : Nat) (c : Int32) : Prop := (mm_ushr (c_D S i 3) c &&& 1) = 1
def c_wrd4 (S : cS) (i : Nat) (c : Int32) : Prop := (mm_ushr (c_D S i 4) c &&& 1) = 1
def c_wire (S : cS) (i : Nat) (c : Int32) : cS := s_D S i (upd (c_D S i) 4 (c_D S i 4 ||| 1 <<< (c &&& 31)))
def c_net (S : cS) (f : Nat) (fc : Int32) (t : Nat) (tc : Int32) : cS := s_Z (c_netA (c_wire (c_wire S f fc) t tc) (f, t, none) (nt_new fc tc)) 0 7 0
def c_new : cS := ((0, 0), fun _ _ => 0, fun _ _ => 0, fun _ => (0, 0, none), fun _ _ => 0)
section CB6
variable {G : mm_G} {K : Nat → Nat} {S : cS} {h : mm_Hp}
theorem ca_D : mm_in (.castable "ChainBench$Device" "java/lang/Object") = true := by decide +kernel
theorem ca_N : mm_in (.castable "ChainBench$Net" "java/lang/Object") = true := by decide +kernel
theorem upD_keep {f : (Nat → Int32) → Nat → Int32} : ∀ (n i : Nat) (S : cS), c_same S (up (fun i S => s_D S i (f (c_D S i))) n i S) ∧ c_Z (up (fun i S => s_D S i (f (c_D S i))) n i S) = c_Z S := by
  intro n
  induction n with
  | zero => intro i S; exact ⟨⟨rfl, rfl, rfl⟩, rfl⟩
  | succ n ih =>
    intro i S
    obtain ⟨⟨a1, a2, a3⟩, a4⟩ := ih (i + 1) (s_D S i (f (c_D S i)))
    exact ⟨⟨a1, a2, a3⟩, a4⟩
theorem restart_keep (S : cS) : c_same S (c_restart S) := by
  obtain ⟨⟨a1, a2, a3⟩, -⟩ := upD_keep (f := fun d => upd (upd d 5 0) 6 0) (c_nd S) 0 (c_ent S 0)
  obtain ⟨⟨b1, b2, b3⟩, -⟩ := ent_keep S 0
  exact ⟨a1.trans b1, a2.trans b2, a3.trans b3⟩
theorem restart_wf (w : c_wf G K S) : c_wf G K (c_restart S) := c_wf_same w (restart_keep S).1 (restart_keep S).2.1

set_option maxHeartbeats 1000000 in
theorem c_Cb_device_x (w : c_wf G K S) {b id cl dr : Int32} (hb : c_badD b id cl) : mm_C G M_Cb_device [.ref (K 0), .int b, .int id, .int cl, .int dr] (CP K S h) 1 6 (mm_X xIA (CP K S h)) := by
  refine mm_C_of (by decide +kernel) rfl (Nat.le_of_ble_eq_true rfl) rfl ?_
  refine mm_blk (pc' := 2) ok_Cb_device 2 _ _ _ rfl ?_
  refine mm_ic_lt ok_Cb_device 21 rfl (by decide) (fun c2 => ?_) (fun c2 => ?_)
  · -- 21 t
    exact mm_V_wid (k1 := 1) (k2 := 6) (by omega) (by omega) (mm_throw (kc := 0) (ks := 0) ok_Cb_device rfl rfl rfl rfl x_Cb_30_32 rfl (by decide) (Nat.le_of_ble_eq_true rfl) ⟨rfl, rfl⟩)
  · -- 5 f
    refine mm_blk (pc' := 7) ok_Cb_device 2 _ _ _ rfl ?_
    refine mm_ic_gt ok_Cb_device 21 rfl (by decide) (fun c7 => ?_) (fun c7 => ?_)
    · -- 21 t
      exact mm_V_wid (k1 := 1) (k2 := 6) (by omega) (by omega) (mm_throw (kc := 0) (ks := 0) ok_Cb_device rfl rfl rfl rfl x_Cb_30_32 rfl (by decide) (Nat.le_of_ble_eq_true rfl) ⟨rfl, rfl⟩)
    · -- 10 f
      refine mm_blk (pc' := 12) ok_Cb_device 2 _ _ _ rfl ?_
      refine mm_ic_lt ok_Cb_device 21 rfl (by decide) (fun c12 => ?_) (fun c12 => ?_)
      · -- 21 t
        exact mm_V_wid (k1 := 1) (k2 := 6) (by omega) (by omega) (mm_throw (kc := 0) (ks := 0) ok_Cb_device rfl rfl rfl rfl x_Cb_30_32 rfl (by decide) (Nat.le_of_ble_eq_true rfl) ⟨rfl, rfl⟩)
      · -- 15 f
        refine mm_blk (pc' := 18) ok_Cb_device 2 _ _ _ rfl ?_
        refine mm_ic_le ok_Cb_device 29 rfl (by decide) (fun c18 => ?_) (fun c18 => ?_)
        · -- 29 t
          refine mm_blk (pc' := 32) ok_Cb_device 3 _ _ _ rfl ?_
          refine mm_if_eq ok_Cb_device 40 rfl (by decide) (fun c32 => ?_) (fun c32 => ?_)
          · -- 40 t
            exact mm_V_wid (k1 := 1) (k2 := 6) (by omega) (by omega) (mm_throw (kc := 0) (ks := 0) ok_Cb_device rfl rfl rfl rfl x_Cb_30_32 rfl (by decide) (Nat.le_of_ble_eq_true rfl) ⟨rfl, rfl⟩)
          · -- 35 f
            refine mm_blk (pc' := 37) ok_Cb_device 2 _ _ _ rfl ?_
            refine mm_ic_ne ok_Cb_device 48 rfl (by decide) (fun c => ?_) (fun c => ?_)
            · rcases hb with z | z | z | z | z | z <;> contradiction
            exact mm_V_wid (k1 := 1) (k2 := 6) (by omega) (by omega) (mm_throw (kc := 0) (ks := 0) ok_Cb_device rfl rfl rfl rfl x_Cb_30_32 rfl (by decide) (Nat.le_of_ble_eq_true rfl) ⟨rfl, rfl⟩)
        · -- 21 f
          exact mm_V_wid (k1 := 1) (k2 := 6) (by omega) (by omega) (mm_throw (kc := 0) (ks := 0) ok_Cb_device rfl rfl rfl rfl x_Cb_30_32 rfl (by decide) (Nat.le_of_ble_eq_true rfl) ⟨rfl, rfl⟩)
set_option maxHeartbeats 1000000 in
theorem c_Cb_device_y (w : c_wf G K S) {b id cl dr : Int32} (hb : ¬ c_badD b id cl) (hn : ¬ c_nd S < 4) : mm_C G M_Cb_device [.ref (K 0), .int b, .int id, .int cl, .int dr] (CP K S h) 1 6 (mm_X xIS (CP K S h)) := by
  refine mm_C_of (by decide +kernel) rfl (Nat.le_of_ble_eq_true rfl) rfl ?_
  refine mm_blk (pc' := 2) ok_Cb_device 2 _ _ _ rfl ?_
  refine mm_ic_lt ok_Cb_device 21 rfl (by decide) (fun c => ?_) (fun c => ?_)
  · exact absurd (Or.inl c) hb
  refine mm_blk (pc' := 7) ok_Cb_device 2 _ _ _ rfl ?_
  refine mm_ic_gt ok_Cb_device 21 rfl (by decide) (fun c => ?_) (fun c => ?_)
  · exact absurd (Or.inr (Or.inl c)) hb
  refine mm_blk (pc' := 12) ok_Cb_device 2 _ _ _ rfl ?_
  refine mm_ic_lt ok_Cb_device 21 rfl (by decide) (fun c => ?_) (fun c => ?_)
  · exact absurd (Or.inr (Or.inr (Or.inl c))) hb
  refine mm_blk (pc' := 18) ok_Cb_device 2 _ _ _ rfl ?_
  refine mm_ic_le ok_Cb_device 29 rfl (by decide) (fun c => ?_) (fun c => ?_)
  rotate_left
  · exact absurd (Or.inr (Or.inr (Or.inr (Or.inl c)))) hb
  refine mm_blk (pc' := 32) ok_Cb_device 3 _ _ _ rfl ?_
  refine mm_if_eq ok_Cb_device 40 rfl (by decide) (fun c => ?_) (fun c => ?_)
  · exact absurd (Or.inr (Or.inr (Or.inr (Or.inr (Or.inl c))))) hb
  refine mm_blk (pc' := 37) ok_Cb_device 2 _ _ _ rfl ?_
  refine mm_ic_ne ok_Cb_device 48 rfl (by decide) (fun c => ?_) (fun c => ?_)
  rotate_left
  · exact absurd (Or.inr (Or.inr (Or.inr (Or.inr (Or.inr c))))) hb
  refine mm_blk (pc' := 49) ok_Cb_device 1 _ _ _ rfl ?_
  refine mm_getf ok_Cb_device (cp_0 w) rfl f_Cb_12 rfl ?_
  refine mm_cVE ok_Cb_device (As := []) rfl k_Cb_device_33 (cp_1 w) rfl rfl rfl (Nat.le_of_ble_eq_true rfl) (c_Al_size (cp_1 w)) ?_
  refine mm_blk (pc' := 56) ok_Cb_device 1 _ _ _ rfl ?_
  refine mm_ic_lt ok_Cb_device 67 rfl (by decide) (fun c => ?_) (fun c => ?_)
  · exact absurd ((nI_ltI (by have := w.1; omega) (by decide)).mp c) hn
  exact mm_V_wid (k1 := 1) (k2 := 6) (by omega) (by omega) (mm_throw (kc := 0) (ks := 0) ok_Cb_device rfl rfl rfl rfl x_Cb_37_39 rfl (by decide) (Nat.le_of_ble_eq_true rfl) ⟨rfl, rfl⟩)
set_option maxHeartbeats 1000000 in
theorem t_Cb_device (w : c_wf G K S) {m : Nat} (hm : c_nd S = m + 1) {b id cl dr : Int32} : mm_V G M_Cb_device 86 [(0, .ref (K 0)), (1, .int b), (2, .int id), (3, .int cl), (4, .int dr)] [.int 1] (CP K S h) 0 0 (mm_E (some (.int (nI m))) (CP K (c_restart S) h)) := by
  have w1 := restart_wf w
  have e1 : c_nd (c_restart S) = m + 1 := (congrArg Prod.fst (restart_keep S).1).trans hm
  refine mm_blk (pc' := 88) ok_Cb_device 2 _ _ _ rfl ?_
  refine mm_cVE ok_Cb_device (As := []) rfl k_Cb_device_49 (cp_0 w) rfl rfl rfl (Nat.le_of_ble_eq_true rfl) (c_Cb_restart w) ?_
  refine mm_blk (pc' := 92) ok_Cb_device 1 _ _ _ rfl ?_
  refine mm_getf ok_Cb_device (cp_0 w1) rfl f_Cb_12 rfl ?_
  refine mm_cVE ok_Cb_device (As := []) rfl k_Cb_device_33 (cp_1 w1) rfl rfl rfl (Nat.le_of_ble_eq_true rfl) (c_Al_size (cp_1 w1)) ?_
  refine mm_blk (pc' := 100) ok_Cb_device 2 _ _ _ rfl ?_
  rw [e1, nI_pred]
  exact mm_iret ok_Cb_device rfl rfl ⟨rfl, rfl⟩
set_option maxHeartbeats 2000000 in
theorem c_Cb_device_r (w : c_wf G K S) {b id cl dr : Int32} (hb : ¬ c_badD b id cl) (hn : c_nd S < 4) : mm_C G M_Cb_device [.ref (K 0), .int b, .int id, .int cl, .int dr] (CP K S h) 2 20 (fun o h' => ∃ K', c_wf G K' (c_dev S b id cl dr) ∧ (∀ n ∈ cdom (c_nd S) (c_nn S), K' n = K n) ∧ (∀ n ∈ cdom (c_nd S + 1) (c_nn S), n ∉ cdom (c_nd S) (c_nn S) → CP K S h (K' n) = none) ∧ o = .inl (some (.int (nI (c_nd S)))) ∧ h' = CP K' (c_dev S b id cl dr) h) := by
  refine mm_C_of (by decide +kernel) rfl (Nat.le_of_ble_eq_true rfl) rfl ?_
  refine mm_blk (pc' := 2) ok_Cb_device 2 _ _ _ rfl ?_
  refine mm_ic_lt ok_Cb_device 21 rfl (by decide) (fun c => ?_) (fun c => ?_)
  · exact absurd (Or.inl c) hb
  refine mm_blk (pc' := 7) ok_Cb_device 2 _ _ _ rfl ?_
  refine mm_ic_gt ok_Cb_device 21 rfl (by decide) (fun c => ?_) (fun c => ?_)
  · exact absurd (Or.inr (Or.inl c)) hb
  refine mm_blk (pc' := 12) ok_Cb_device 2 _ _ _ rfl ?_
  refine mm_ic_lt ok_Cb_device 21 rfl (by decide) (fun c => ?_) (fun c => ?_)
  · exact absurd (Or.inr (Or.inr (Or.inl c))) hb
  refine mm_blk (pc' := 18) ok_Cb_device 2 _ _ _ rfl ?_
  refine mm_ic_le ok_Cb_device 29 rfl (by decide) (fun c => ?_) (fun c => ?_)
  rotate_left
  · exact absurd (Or.inr (Or.inr (Or.inr (Or.inl c)))) hb
  refine mm_blk (pc' := 32) ok_Cb_device 3 _ _ _ rfl ?_
  refine mm_if_eq ok_Cb_device 40 rfl (by decide) (fun c => ?_) (fun c => ?_)
  · exact absurd (Or.inr (Or.inr (Or.inr (Or.inr (Or.inl c))))) hb
  refine mm_blk (pc' := 37) ok_Cb_device 2 _ _ _ rfl ?_
  refine mm_ic_ne ok_Cb_device 48 rfl (by decide) (fun c => ?_) (fun c => ?_)
  rotate_left
  · exact absurd (Or.inr (Or.inr (Or.inr (Or.inr (Or.inr c))))) hb
  refine mm_blk (pc' := 49) ok_Cb_device 1 _ _ _ rfl ?_
  refine mm_getf ok_Cb_device (cp_0 w) rfl f_Cb_12 rfl ?_
  refine mm_cVE ok_Cb_device (As := []) rfl k_Cb_device_33 (cp_1 w) rfl rfl rfl (Nat.le_of_ble_eq_true rfl) (c_Al_size (cp_1 w)) ?_
  refine mm_blk (pc' := 56) ok_Cb_device 1 _ _ _ rfl ?_
  refine mm_ic_lt ok_Cb_device 67 rfl (by decide) (fun c => ?_) (fun c => ?_)
  rotate_left
  · exact absurd (show nI (c_nd S) < nI 4 from nI_lt hn (by decide)) c
  refine mm_blk (pc' := 68) ok_Cb_device 1 _ _ _ rfl ?_
  refine mm_getf ok_Cb_device (cp_0 w) rfl f_Cb_12 rfl ?_
  refine mm_V_wid (k1 := 1 + 1) (k2 := 10 + 10) (by omega) (by omega) ?_
  refine mm_new (kc := 1) (ks := 10) ok_Cb_device n_Cb_40 rfl (fun q hq => ?_)
  refine mm_blk (pc' := 80) ok_Cb_device 5 _ _ _ rfl ?_
  refine mm_cIE ok_Cb_device (As := [.int b, .int id, .int cl, .int dr]) rfl k_Cb_device_42 rfl (Nat.le_of_ble_eq_true rfl) (c_Dv_init (mm_up_self _ _ _) b id cl dr) ?_
  rw [mm_up_up]
  have h1 : mm_up (CP K S h) q (oDv (dv_new b id cl dr)) (K 1) = some (oAl (c_Z S 3 0) (K 2) (c_nd S)) := (mm_up_ne _ _ (cp_ne hq (cp_1 w))).trans (cp_1 w)
  have hK1q : K 1 ≠ q := cp_ne hq (cp_1 w)
  by_cases hz : c_nd S = 0
  · have hK2 := w.2.2.2.1 hz
    rw [hK2, hz] at h1
    refine mm_callV (kc := 0) (ks := 0) (mc := 1) (ms := 10) ok_Cb_device (As := [.ref q]) rfl k_Cb_device_45 h1 rfl rfl rfl (Nat.le_of_ble_eq_true rfl) (c_Al_add_0 (mm_up_self _ _ _) rfl ca_D h1 (Ne.symm hK1q)) (fun E h' z => by obtain ⟨_, _, z, _⟩ := z; cases z) (fun v h' z => ?_)
    obtain ⟨q2, hq2, hv, rfl⟩ := z
    cases hv
    have hqq : q2 ≠ q := fun z => by rw [z, mm_up_self] at hq2; cases hq2
    rw [mm_up_ne _ _ hqq] at hq2
    have h12 : K 1 ≠ q2 := cp_ne hq2 (cp_1 w)
    obtain ⟨K', w', hK, hN, hX⟩ := grow_dev (X := mm_up (mm_up (mm_up (CP K S h) q (oDv (dv_new b id cl dr))) q2 (13, Value.ref q :: List.replicate 9 .null)) (K 1) (oAl (c_Z S 3 0 + 1) q2 1)) w hn (dv_new b id cl dr) hq (Or.inl ⟨hz, hq2, hqq⟩) (by rw [mm_up_self, hz]) (by rw [mm_up_ne _ _ (Ne.symm hK1q), mm_up_ne _ _ (Ne.symm hqq), mm_up_self]) (fun K' _ hk => by
      rw [mm_up_ne _ _ (Ne.symm h12), mm_up_self, hz]
      rw [hz] at hk
      unfold oAr
      rw [← hk]; rfl) (fun b0 b1 b2 b3 => by rw [mm_up_ne _ _ b1, mm_up_ne _ _ b3, mm_up_ne _ _ b2])
    refine mm_V_heap hX ?_
    rw [← hK 0 (cd_fix (by simp))]
    exact mm_V_wk (fun o h' z => ⟨K', restart_wf w', hK, hN, z.1, z.2⟩) (t_Cb_device w' (m := c_nd S) rfl)
  · have h2 : mm_up (CP K S h) q (oDv (dv_new b id cl dr)) (K 2) = some (oAr K 10 (c_nd S)) := (mm_up_ne _ _ (cp_ne hq (cp_2 w (by omega)))).trans (cp_2 w (by omega))
    have hbq : mm_up (CP K S h) q (oDv (dv_new b id cl dr)) q = some (oDv (dv_new b id cl dr)) := mm_up_self _ _ _
    refine mm_V_wid (k1 := 0) (k2 := 0) (by omega) (by omega) ?_
    refine mm_cVE ok_Cb_device (As := [.ref q]) rfl k_Cb_device_45 h1 rfl rfl rfl (Nat.le_of_ble_eq_true rfl) (c_Al_add_1 (ci := 1) hbq rfl ca_D h1 h2 (by rw [List.length_map, List.length_range]) (by omega) (Ne.symm hK1q)) ?_
    have hK2q : K 2 ≠ q := cp_ne hq (cp_2 w (by omega))
    have h12 : K 1 ≠ K 2 := fun z => absurd (w.2.2.1 1 (cd_fix (by simp)) 2 (cd_2 (by omega)) z) (by decide)
    obtain ⟨K', w', hK, hN, hX⟩ := grow_dev (X := mm_up (mm_up (mm_up (CP K S h) q (oDv (dv_new b id cl dr))) (K 2) (13, ((List.range 10).map (fun i => if i < c_nd S then Value.ref (K (10 + i)) else .null)).set (c_nd S) (.ref q))) (K 1) (oAl (c_Z S 3 0 + 1) (K 2) (c_nd S + 1))) w hn (dv_new b id cl dr) hq (Or.inr ⟨by omega, rfl⟩) (by rw [mm_up_self]) (by rw [mm_up_ne _ _ (Ne.symm hK1q), mm_up_ne _ _ (Ne.symm hK2q), mm_up_self]) (fun K' hko hk => by
      rw [mm_up_ne _ _ (Ne.symm h12), mm_up_self, oAr_set (by omega) hko hk]; rfl) (fun b0 b1 b2 b3 => by rw [mm_up_ne _ _ b1, mm_up_ne _ _ b3, mm_up_ne _ _ b2])
    refine mm_V_heap hX ?_
    rw [← hK 0 (cd_fix (by simp))]
    exact mm_V_wk (fun o h' z => ⟨K', restart_wf w', hK, hN, z.1, z.2⟩) (t_Cb_device w' (m := c_nd S) rfl)
set_option maxHeartbeats 1000000 in
theorem c_Cb_net_x (w : c_wf G K S) {x c1 y c2 : Int32} (hx : ¬ isC S x c1) : mm_C G M_Cb_net [.ref (K 0), .int x, .int c1, .int y, .int c2] (CP K S h) 1 6 (mm_X xIA (CP K S h)) := by
  refine mm_C_of (by decide +kernel) rfl (Nat.le_of_ble_eq_true rfl) rfl ?_
  refine mm_blk (pc' := 3) ok_Cb_net 3 _ _ _ rfl ?_
  refine mm_cVE ok_Cb_net (As := [.int x, .int c1]) rfl k_Cb_net_52 (cp_0 w) rfl rfl rfl (Nat.le_of_ble_eq_true rfl) (c_Cb_isCell0 w hx) ?_
  refine mm_if_eq ok_Cb_net 19 rfl (by decide) (fun c => ?_) (fun c => ?_)
  rotate_left
  · exact absurd rfl c
  exact mm_V_wid (k1 := 1) (k2 := 6) (by omega) (by omega) (mm_throw (kc := 0) (ks := 0) ok_Cb_net rfl rfl rfl rfl x_Cb_30_32 rfl (by decide) (Nat.le_of_ble_eq_true rfl) ⟨rfl, rfl⟩)
set_option maxHeartbeats 1000000 in
theorem c_Cb_net_y (w : c_wf G K S) {x c1 y c2 : Int32} (hx : isC S x c1) (hy : ¬ isC S y c2) : mm_C G M_Cb_net [.ref (K 0), .int x, .int c1, .int y, .int c2] (CP K S h) 1 6 (mm_X xIA (CP K S h)) := by
  refine mm_C_of (by decide +kernel) rfl (Nat.le_of_ble_eq_true rfl) rfl ?_
  refine mm_blk (pc' := 3) ok_Cb_net 3 _ _ _ rfl ?_
  refine mm_cVE ok_Cb_net (As := [.int x, .int c1]) rfl k_Cb_net_52 (cp_0 w) rfl rfl rfl (Nat.le_of_ble_eq_true rfl) (c_Cb_isCell1 w hx) ?_
  refine mm_if_eq ok_Cb_net 19 rfl (by decide) (fun c => ?_) (fun c => ?_)
  · exact absurd c (by decide)
  refine mm_blk (pc' := 13) ok_Cb_net 3 _ _ _ rfl ?_
  refine mm_cVE ok_Cb_net (As := [.int y, .int c2]) rfl k_Cb_net_52 (cp_0 w) rfl rfl rfl (Nat.le_of_ble_eq_true rfl) (c_Cb_isCell0 w hy) ?_
  refine mm_if_ne ok_Cb_net 27 rfl (by decide) (fun c => ?_) (fun c => ?_)
  · exact absurd rfl c
  exact mm_V_wid (k1 := 1) (k2 := 6) (by omega) (by omega) (mm_throw (kc := 0) (ks := 0) ok_Cb_net rfl rfl rfl rfl x_Cb_30_32 rfl (by decide) (Nat.le_of_ble_eq_true rfl) ⟨rfl, rfl⟩)
set_option maxHeartbeats 1000000 in
theorem c_Cb_net_b (w : c_wf G K S) {i j : Nat} {c1 c2 : Int32} (hi : i < c_nd S) (hj : j < c_nd S) (hx : isC S (nI i) c1) (hy : isC S (nI j) c2) (hb : (¬ c_drv S i c1 ∨ c_drv S j c2 ∨ c_wrd4 S i c1 ∨ c_wrd4 S j c2)) : mm_C G M_Cb_net [.ref (K 0), .int (nI i), .int c1, .int (nI j), .int c2] (CP K S h) 1 6 (mm_X xIA (CP K S h)) := by
  refine mm_C_of (by decide +kernel) rfl (Nat.le_of_ble_eq_true rfl) rfl ?_
  refine mm_blk (pc' := 3) ok_Cb_net 3 _ _ _ rfl ?_
  refine mm_cVE ok_Cb_net (As := [.int (nI i), .int c1]) rfl k_Cb_net_52 (cp_0 w) rfl rfl rfl (Nat.le_of_ble_eq_true rfl) (c_Cb_isCell1 w hx) ?_
  refine mm_if_eq ok_Cb_net 19 rfl (by decide) (fun c => ?_) (fun c => ?_)
  · exact absurd c (by decide)
  refine mm_blk (pc' := 13) ok_Cb_net 3 _ _ _ rfl ?_
  refine mm_cVE ok_Cb_net (As := [.int (nI j), .int c2]) rfl k_Cb_net_52 (cp_0 w) rfl rfl rfl (Nat.le_of_ble_eq_true rfl) (c_Cb_isCell1 w hy) ?_
  refine mm_if_ne ok_Cb_net 27 rfl (by decide) (fun c => ?_) (fun c => ?_)
  rotate_left
  · exact absurd c (by decide)
  refine mm_blk (pc' := 28) ok_Cb_net 1 _ _ _ rfl ?_
  refine mm_getf ok_Cb_net (cp_0 w) rfl f_Cb_12 rfl ?_
  refine mm_blk (pc' := 32) ok_Cb_net 1 _ _ _ rfl ?_
  refine mm_cVE ok_Cb_net (As := [.int (nI i)]) rfl k_Cb_net_56 (cp_1 w) rfl rfl rfl (Nat.le_of_ble_eq_true rfl) (c_getD w hi) ?_
  refine mm_cast ok_Cb_net (cp_dev w hi) cc_Cb_40 rfl ?_
  refine mm_blk (pc' := 41) ok_Cb_net 2 _ _ _ rfl ?_
  refine mm_getf ok_Cb_net (cp_0 w) rfl f_Cb_12 rfl ?_
  refine mm_blk (pc' := 45) ok_Cb_net 1 _ _ _ rfl ?_
  refine mm_cVE ok_Cb_net (As := [.int (nI j)]) rfl k_Cb_net_56 (cp_1 w) rfl rfl rfl (Nat.le_of_ble_eq_true rfl) (c_getD w hj) ?_
  refine mm_cast ok_Cb_net (cp_dev w hj) cc_Cb_40 rfl ?_
  refine mm_blk (pc' := 56) ok_Cb_net 3 _ _ _ rfl ?_
  refine mm_cVE ok_Cb_net (As := [.int c1]) rfl k_Cb_net_60 (cp_dev w hi) rfl rfl rfl (Nat.le_of_ble_eq_true rfl) (c_Dv_drives (cp_dev w hi) c1) ?_
  refine mm_if_eq ok_Cb_net 91 rfl (by decide) (fun c59 => ?_) (fun c59 => ?_)
  · -- 91 t
    exact mm_V_wid (k1 := 1) (k2 := 6) (by omega) (by omega) (mm_throw (kc := 0) (ks := 0) ok_Cb_net rfl rfl rfl rfl x_Cb_30_32 rfl (by decide) (Nat.le_of_ble_eq_true rfl) ⟨rfl, rfl⟩)
  · -- 62 f
    refine mm_blk (pc' := 66) ok_Cb_net 2 _ _ _ rfl ?_
    refine mm_cVE ok_Cb_net (As := [.int c2]) rfl k_Cb_net_60 (cp_dev w hj) rfl rfl rfl (Nat.le_of_ble_eq_true rfl) (c_Dv_drives (cp_dev w hj) c2) ?_
    refine mm_if_ne ok_Cb_net 91 rfl (by decide) (fun c69 => ?_) (fun c69 => ?_)
    · -- 91 t
      exact mm_V_wid (k1 := 1) (k2 := 6) (by omega) (by omega) (mm_throw (kc := 0) (ks := 0) ok_Cb_net rfl rfl rfl rfl x_Cb_30_32 rfl (by decide) (Nat.le_of_ble_eq_true rfl) ⟨rfl, rfl⟩)
    · -- 72 f
      refine mm_blk (pc' := 75) ok_Cb_net 2 _ _ _ rfl ?_
      refine mm_cVE ok_Cb_net (As := [.int c1]) rfl k_Cb_net_64 (cp_dev w hi) rfl rfl rfl (Nat.le_of_ble_eq_true rfl) (c_Dv_isWired (cp_dev w hi) c1) ?_
      refine mm_if_ne ok_Cb_net 91 rfl (by decide) (fun c78 => ?_) (fun c78 => ?_)
      · -- 91 t
        exact mm_V_wid (k1 := 1) (k2 := 6) (by omega) (by omega) (mm_throw (kc := 0) (ks := 0) ok_Cb_net rfl rfl rfl rfl x_Cb_30_32 rfl (by decide) (Nat.le_of_ble_eq_true rfl) ⟨rfl, rfl⟩)
      · -- 81 f
        refine mm_blk (pc' := 85) ok_Cb_net 2 _ _ _ rfl ?_
        refine mm_cVE ok_Cb_net (As := [.int c2]) rfl k_Cb_net_64 (cp_dev w hj) rfl rfl rfl (Nat.le_of_ble_eq_true rfl) (c_Dv_isWired (cp_dev w hj) c2) ?_
        refine mm_if_eq ok_Cb_net 99 rfl (by decide) (fun c88 => ?_) (fun c88 => ?_)
        · -- 99 t
          exfalso
          unfold c_drv c_wrd4 at hb
          rcases hb with z | z | z | z
          · rw [if_neg z] at c59; exact c59 rfl
          · rw [if_pos z] at c69; exact absurd c69 (by decide)
          · rw [if_pos z] at c78; exact absurd c78 (by decide)
          · rw [if_pos z] at c88; exact absurd c88 (by decide)
        · -- 91 f
          exact mm_V_wid (k1 := 1) (k2 := 6) (by omega) (by omega) (mm_throw (kc := 0) (ks := 0) ok_Cb_net rfl rfl rfl rfl x_Cb_30_32 rfl (by decide) (Nat.le_of_ble_eq_true rfl) ⟨rfl, rfl⟩)
set_option maxHeartbeats 1000000 in
theorem c_Cb_net_f (w : c_wf G K S) {i j : Nat} {c1 c2 : Int32} (hi : i < c_nd S) (hj : j < c_nd S) (hx : isC S (nI i) c1) (hy : isC S (nI j) c2) (d1 : c_drv S i c1) (d2 : ¬ c_drv S j c2) (d3 : ¬ c_wrd4 S i c1) (d4 : ¬ c_wrd4 S j c2) (hn : ¬ c_nn S < 8) : mm_C G M_Cb_net [.ref (K 0), .int (nI i), .int c1, .int (nI j), .int c2] (CP K S h) 1 6 (mm_X xIS (CP K S h)) := by
  refine mm_C_of (by decide +kernel) rfl (Nat.le_of_ble_eq_true rfl) rfl ?_
  refine mm_blk (pc' := 3) ok_Cb_net 3 _ _ _ rfl ?_
  refine mm_cVE ok_Cb_net (As := [.int (nI i), .int c1]) rfl k_Cb_net_52 (cp_0 w) rfl rfl rfl (Nat.le_of_ble_eq_true rfl) (c_Cb_isCell1 w hx) ?_
  refine mm_if_eq ok_Cb_net 19 rfl (by decide) (fun c => ?_) (fun c => ?_)
  · exact absurd c (by decide)
  refine mm_blk (pc' := 13) ok_Cb_net 3 _ _ _ rfl ?_
  refine mm_cVE ok_Cb_net (As := [.int (nI j), .int c2]) rfl k_Cb_net_52 (cp_0 w) rfl rfl rfl (Nat.le_of_ble_eq_true rfl) (c_Cb_isCell1 w hy) ?_
  refine mm_if_ne ok_Cb_net 27 rfl (by decide) (fun c => ?_) (fun c => ?_)
  rotate_left
  · exact absurd c (by decide)
  refine mm_blk (pc' := 28) ok_Cb_net 1 _ _ _ rfl ?_
  refine mm_getf ok_Cb_net (cp_0 w) rfl f_Cb_12 rfl ?_
  refine mm_blk (pc' := 32) ok_Cb_net 1 _ _ _ rfl ?_
  refine mm_cVE ok_Cb_net (As := [.int (nI i)]) rfl k_Cb_net_56 (cp_1 w) rfl rfl rfl (Nat.le_of_ble_eq_true rfl) (c_getD w hi) ?_
  refine mm_cast ok_Cb_net (cp_dev w hi) cc_Cb_40 rfl ?_
  refine mm_blk (pc' := 41) ok_Cb_net 2 _ _ _ rfl ?_
  refine mm_getf ok_Cb_net (cp_0 w) rfl f_Cb_12 rfl ?_
  refine mm_blk (pc' := 45) ok_Cb_net 1 _ _ _ rfl ?_
  refine mm_cVE ok_Cb_net (As := [.int (nI j)]) rfl k_Cb_net_56 (cp_1 w) rfl rfl rfl (Nat.le_of_ble_eq_true rfl) (c_getD w hj) ?_
  refine mm_cast ok_Cb_net (cp_dev w hj) cc_Cb_40 rfl ?_
  refine mm_blk (pc' := 56) ok_Cb_net 3 _ _ _ rfl ?_
  refine mm_cVE ok_Cb_net (As := [.int c1]) rfl k_Cb_net_60 (cp_dev w hi) rfl rfl rfl (Nat.le_of_ble_eq_true rfl) (c_Dv_drives (cp_dev w hi) c1) ?_
  refine mm_if_eq ok_Cb_net 91 rfl (by decide) (fun c => ?_) (fun c => ?_)
  · rw [show (if (mm_ushr (c_D S i 3) c1 &&& 1) = 1 then (1 : Int32) else 0) = 1 from if_pos d1] at c; exact absurd c (by decide)
  refine mm_blk (pc' := 66) ok_Cb_net 2 _ _ _ rfl ?_
  refine mm_cVE ok_Cb_net (As := [.int c2]) rfl k_Cb_net_60 (cp_dev w hj) rfl rfl rfl (Nat.le_of_ble_eq_true rfl) (c_Dv_drives (cp_dev w hj) c2) ?_
  refine mm_if_ne ok_Cb_net 91 rfl (by decide) (fun c => ?_) (fun c => ?_)
  · exact absurd (if_neg d2) c
  refine mm_blk (pc' := 75) ok_Cb_net 2 _ _ _ rfl ?_
  refine mm_cVE ok_Cb_net (As := [.int c1]) rfl k_Cb_net_64 (cp_dev w hi) rfl rfl rfl (Nat.le_of_ble_eq_true rfl) (c_Dv_isWired (cp_dev w hi) c1) ?_
  refine mm_if_ne ok_Cb_net 91 rfl (by decide) (fun c => ?_) (fun c => ?_)
  · exact absurd (if_neg d3) c
  refine mm_blk (pc' := 85) ok_Cb_net 2 _ _ _ rfl ?_
  refine mm_cVE ok_Cb_net (As := [.int c2]) rfl k_Cb_net_64 (cp_dev w hj) rfl rfl rfl (Nat.le_of_ble_eq_true rfl) (c_Dv_isWired (cp_dev w hj) c2) ?_
  refine mm_if_eq ok_Cb_net 99 rfl (by decide) (fun c => ?_) (fun c => ?_)
  rotate_left
  · exact absurd (if_neg d4) c
  refine mm_blk (pc' := 100) ok_Cb_net 1 _ _ _ rfl ?_
  refine mm_getf ok_Cb_net (cp_0 w) rfl f_Cb_16 rfl ?_
  refine mm_cVE ok_Cb_net (As := []) rfl k_Cb_net_33 (cp_3 w) rfl rfl rfl (Nat.le_of_ble_eq_true rfl) (c_Al_size (cp_3 w)) ?_
  refine mm_blk (pc' := 108) ok_Cb_net 1 _ _ _ rfl ?_
  refine mm_ic_lt ok_Cb_net 119 rfl (by decide) (fun c => ?_) (fun c => ?_)
  · exact absurd ((nI_ltI (by have := w.2.1; omega) (by decide)).mp c) hn
  exact mm_V_wid (k1 := 1) (k2 := 6) (by omega) (by omega) (mm_throw (kc := 0) (ks := 0) ok_Cb_net rfl rfl rfl rfl x_Cb_37_39 rfl (by decide) (Nat.le_of_ble_eq_true rfl) ⟨rfl, rfl⟩)
set_option maxHeartbeats 1000000 in
theorem t_Cb_net (w : c_wf G K S) {m i j : Nat} {c1 c2 : Int32} (hm : c_nn S = m + 1) {a5 a6 : Nat} : mm_V G M_Cb_net 153 [(0, .ref (K 0)), (1, .int (nI i)), (2, .int c1), (3, .int (nI j)), (4, .int c2), (5, .ref a5), (6, .ref a6)] [.int 1] (CP K S h) 0 0 (mm_E (some (.int (nI m))) (CP K (s_Z S 0 7 0) h)) := by
  refine mm_blk (pc' := 156) ok_Cb_net 3 _ _ _ rfl ?_
  refine mm_putf ok_Cb_net (cp_0 w) rfl f_Cb_76 (Or.inl rfl) mm_fit_Z0 ?_
  refine mm_V_heap (cu_0 w 7 0) ?_
  refine mm_blk (pc' := 160) ok_Cb_net 1 _ _ _ rfl ?_
  refine mm_getf ok_Cb_net (cp_0 (S := s_Z S 0 7 0) w) rfl f_Cb_16 rfl ?_
  refine mm_cVE ok_Cb_net (As := []) rfl k_Cb_net_33 (cp_3 (S := s_Z S 0 7 0) w) rfl rfl rfl (Nat.le_of_ble_eq_true rfl) (c_Al_size (cp_3 (S := s_Z S 0 7 0) w)) ?_
  refine mm_blk (pc' := 168) ok_Cb_net 2 _ _ _ rfl ?_
  rw [show c_nn (s_Z S 0 7 0) = m + 1 from hm, nI_pred]
  exact mm_iret ok_Cb_net rfl rfl ⟨rfl, rfl⟩
end CB6
