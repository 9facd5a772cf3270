/-! the class: a net added; a new bench; find; test -/
theorem pl_none {dom : List Nat} {K : Nat → Nat} {f : Nat → mm_Ob} {h : mm_Hp} {b : Nat} (e : mm_pl dom K f h b = none) : h b = none := by
  unfold mm_pl at e
  split at e
  · cases e
  · exact e
def c_fix (S S' : cS) : Prop := S'.1 = S.1 ∧ c_R S' = c_R S ∧ (∀ i f, f ≤ 4 → c_D S' i f = c_D S i f) ∧ ∀ j f, f ≠ 6 → c_N S' j f = c_N S j f
theorem fix_rf (S : cS) : c_fix S S := ⟨rfl, rfl, fun _ _ _ => rfl, fun _ _ _ => rfl⟩
theorem fix_tr {S T U : cS} (a : c_fix S T) (b : c_fix T U) : c_fix S U := ⟨b.1.trans a.1, b.2.1.trans a.2.1, fun i f hf => (b.2.2.1 i f hf).trans (a.2.2.1 i f hf), fun j f hf => (b.2.2.2 j f hf).trans (a.2.2.2 j f hf)⟩
theorem fix_sZ (S : cS) (i k : Nat) (x : Int32) : c_fix S (s_Z S i k x) := ⟨rfl, rfl, fun _ _ _ => rfl, fun _ _ _ => rfl⟩
theorem fix_sD (S : cS) (i : Nat) {d : Nat → Int32} (hd : ∀ f, f ≤ 4 → d f = c_D S i f) : c_fix S (s_D S i d) := by
  refine ⟨rfl, rfl, fun j f hf => ?_, fun _ _ _ => rfl⟩
  show va_up (c_D S) i d j f = c_D S j f
  by_cases e : j = i
  · rw [e, va_up_self, hd f hf]
  · rw [va_up_ne _ _ e]
theorem fix_sN (S : cS) (i : Nat) (x : Int32) : c_fix S (s_N S i (upd (c_N S i) 6 x)) := by
  refine ⟨rfl, rfl, fun _ _ _ => rfl, fun j f hf => ?_⟩
  show va_up (c_N S) i (upd (c_N S i) 6 x) j f = c_N S j f
  by_cases e : j = i
  · rw [e, va_up_self]; exact pk_un hf
  · rw [va_up_ne _ _ e]
theorem fix_up {f : Nat → cS → cS} (hf : ∀ i S, c_fix S (f i S)) : ∀ (n i : Nat) (S : cS), c_fix S (up f n i S) := by
  intro n
  induction n with
  | zero => intro i S; exact fix_rf S
  | succ n ih => intro i S; exact fix_tr (hf i S) (ih _ _)
theorem fix_dsb (p : Int32) (i : Nat) (x : Int32 × cS) : c_fix x.2 (c_dsb p i x).2 := by
  unfold c_dsb
  repeat' split
  all_goals first | exact fix_rf _ | exact fix_sD _ _ (fun f hf => pk_un (by omega))
theorem fix_run (p : Int32) : ∀ (n i : Nat) (x : Int32 × cS), c_fix x.2 (up (c_dsb p) n i x).2 := by
  intro n
  induction n with
  | zero => intro i x; exact fix_rf _
  | succ n ih => intro i x; exact fix_tr (fix_dsb p i x) (ih _ _)
theorem fix_ent (S : cS) (x : Int32) : c_fix S (c_ent S x) := by
  unfold c_ent
  split
  · exact fix_tr (fix_sZ S 0 2 x) (fix_up (fun i S => fix_sD S i (fun f hf => pk_un (by omega))) _ _ _)
  · exact fix_sZ _ _ _ _
theorem fix_stp (S : cS) (a b : Int32) : c_fix S (c_stp S a b) := fix_tr (fix_tr (fix_run (c_Z S 0 2) (c_nd S) 0 (b, S)) (fix_ent _ _)) (fix_sZ _ _ _ _)
theorem fix_scan (ins : Int32) (n : Nat) (S : cS) : c_fix S (c_scan ins n S) := by
  have h1 : ∀ S, c_fix S (c_lv2 (c_scl n n 0 (c_in3 S))) := fun S => fix_tr (fix_tr (fix_tr (fix_stp S 1 0) (fix_stp _ 0 0)) (fix_stp _ 0 0)) (fix_tr (fix_up (fun i S => fix_tr (fix_stp S _ _) (fix_sZ _ _ _ _)) _ _ _) (fix_tr (fix_stp _ 1 0) (fix_stp _ 0 0)))
  unfold c_scan
  split
  · exact h1 S
  · exact fix_tr (fix_stp S 1 0) (h1 _)
theorem fix_go5 (S : cS) : c_fix S (c_go5 S) := fix_tr (fix_up (fun _ S => fix_stp S 1 0) 5 0 S) (fix_stp _ 0 0)
theorem fix_forget (S : cS) : c_fix S (c_forget S) := fix_up (fun i S => fix_sN S i _) _ _ _
theorem fix_note (S : cS) (r came : Int32) : c_fix S (c_note S r came) := fix_up (fun i S => fix_sN S i _) _ _ _
theorem fix_wf {G : mm_G} {K : Nat → Nat} {S S' : cS} (hf : c_fix S S') (w : c_wf G K S) : c_wf G K S' := c_wf_same w hf.1 hf.2.1
theorem up_congr {α : Type} {f g : Nat → α → α} (h : ∀ i a, f i a = g i a) (n i : Nat) (a : α) : up f n i a = up g n i a := by rw [show f = g from funext fun i => funext fun a => h i a]
theorem fix_sumC {S S' : cS} (hf : c_fix S S') : c_sumC S' = c_sumC S := by
  unfold c_sumC
  rw [show c_nd S' = c_nd S from congrArg Prod.fst hf.1]
  exact up_congr (fun i a => by rw [hf.2.2.1 i 2 (by omega)]) _ _ _
theorem fix_sumB {S S' : cS} (hf : c_fix S S') : c_sumB S' = c_sumB S := by
  unfold c_sumB
  rw [show c_nd S' = c_nd S from congrArg Prod.fst hf.1]
  exact up_congr (fun i a => by rw [hf.2.2.1 i 0 (by omega)]) _ _ _
theorem note_Z (S : cS) (r came : Int32) : c_Z (c_note S r came) = c_Z S := by
  unfold c_note
  have : ∀ (n i : Nat) (S : cS), c_Z (up (fun j S => s_N S j (upd (c_N S j) 6 (c_N S j 6 ||| ((mm_ushr came (c_place S (c_R S j).2.1 (c_nd S) (c_N S j 3)) &&& 1) <<< (r &&& 31))))) n i S) = c_Z S := by
    intro n
    induction n with
    | zero => intro i S; rfl
    | succ n ih => intro i S; exact (ih _ _).trans rfl
  exact this _ _ _
theorem forget_Z (S : cS) : c_Z (c_forget S) = c_Z S := by
  unfold c_forget
  have : ∀ (n i : Nat) (S : cS), c_Z (up (fun j S => s_N S j (upd (c_N S j) 6 0)) n i S) = c_Z S := by
    intro n
    induction n with
    | zero => intro i S; rfl
    | succ n ih => intro i S; exact (ih _ _).trans rfl
  exact this _ _ _
theorem ps_Z {S S' : cS} (h : c_Z S' = c_Z S) (hp : c_ps S) : c_ps S' := by
  obtain ⟨k, hk, e⟩ := hp
  exact ⟨k, hk, by rw [h]; exact e⟩
def c_fill (S : cS) : cS := up (fun i S => s_Z S 1 i (-1)) 5 0 S
def c_cpy (fc : Nat) (n i : Nat) (S : cS) : cS := up (fun k S => s_Z S 2 k (c_Z S 1 (fc - 1 - k))) n i S
def c_fsc (S : cS) : cS := c_scan 0 160 (c_fill (c_go5 S))
def c_find (S : cS) : cS := c_cpy (c_words (c_fsc S) 4 0) (c_words (c_fsc S) 4 0) 0 (s_Z (c_fsc S) 0 6 (nI (c_words (c_fsc S) 4 0)))
def c_half (cc : Nat) (p : Int32) (S : cS) : cS := c_scan 0 cc (s_Z S 1 0 p)
def c_tbody (cc r : Nat) (S : cS) : cS := c_note (c_half cc (c_pat S (nI r)) (c_half cc (c_pat S (nI r)) S)) (nI r) (c_Z (c_half cc (c_pat S (nI r)) (c_half cc (c_pat S (nI r)) S)) 1 0)
def c_tl (cc : Nat) : Nat → Nat → cS → cS
  | 0, _, S => S
  | n + 1, r, S => if 2 ^ r ≤ c_nn S + 1 then c_tl cc n (r + 1) (c_tbody cc r S) else S
def c_test (cb cc : Nat) (S : cS) : cS := s_Z (c_tl cc 4 0 (c_forget (c_scan 1 cb (s_Z (c_go5 S) 1 0 0)))) 0 7 1
section CB7
variable {G : mm_G} {K : Nat → Nat} {S : cS} {h : mm_Hp}
theorem words_le (S : cS) : ∀ n i : Nat, c_words S n i ≤ i + n := by
  intro n
  induction n with
  | zero => intro i; exact Nat.le_refl _
  | succ n ih =>
    intro i
    unfold c_words
    split
    · omega
    · have := ih (i + 1); omega
theorem half_ok (cc : Nat) (p : Int32) (w : c_ok G K S) : c_ok G K (c_half cc p S) := scan_ok 0 cc ⟨w.1, sZ1_ps w.2 1 0 p (by decide)⟩
theorem tbody_ok (cc r : Nat) (w : c_ok G K S) : c_ok G K (c_tbody cc r S) := by
  have w1 := half_ok cc (c_pat S (nI r)) (half_ok cc (c_pat S (nI r)) w)
  unfold c_tbody
  generalize c_half cc (c_pat S (nI r)) (c_half cc (c_pat S (nI r)) S) = T at w1 ⊢
  exact ⟨fix_wf (fix_note T _ _) w1.1, ps_Z (note_Z T _ _) w1.2⟩
theorem fix_half (cc : Nat) (p : Int32) (S : cS) : c_fix S (c_half cc p S) := fix_tr (fix_sZ S 1 0 p) (fix_scan 0 cc _)
theorem fix_tbody (cc r : Nat) (S : cS) : c_fix S (c_tbody cc r S) := fix_tr (fix_tr (fix_half _ _ S) (fix_half _ _ _)) (fix_note _ _ _)
theorem fill_ok (w : c_ok G K S) : c_ok G K (c_fill S) := up_ok (P := c_ok G K) (fun i S w => ⟨w.1, sZ1_ps w.2 1 i (-1) (by decide)⟩) 5 0 S w

set_option maxHeartbeats 2000000 in
theorem t2_Cb_net (w : c_wf G K S) (hn : c_nn S < 8) {i j : Nat} {c1 c2 : Int32} (hi : i < c_nd S) (hj : j < c_nd S) : mm_V G M_Cb_net 132 [(0, .ref (K 0)), (1, .int (nI i)), (2, .int c1), (3, .int (nI j)), (4, .int c2), (5, .ref (K (10 + i))), (6, .ref (K (10 + j)))] [] (CP K S h) 2 20 (fun o h' => ∃ K', c_wf G K' (c_netA S (i, j, none) (nt_new c1 c2)) ∧ (∀ n ∈ cdom (c_nd S) (c_nn S), K' n = K n) ∧ (∀ n ∈ cdom (c_nd S) (c_nn S + 1), n ∉ cdom (c_nd S) (c_nn S) → h (K' n) = none) ∧ o = .inl (some (.int (nI (c_nn S)))) ∧ h' = CP K' (s_Z (c_netA S (i, j, none) (nt_new c1 c2)) 0 7 0) h) := by
  refine mm_blk (pc' := 133) ok_Cb_net 1 _ _ _ rfl ?_
  refine mm_getf ok_Cb_net (cp_0 w) rfl f_Cb_16 rfl ?_
  refine mm_V_wid (k1 := 1 + 1) (k2 := 7 + 10) (by omega) (by omega) ?_
  refine mm_new (kc := 1) (ks := 10) ok_Cb_net n_Cb_71 rfl (fun q hq => ?_)
  refine mm_blk (pc' := 147) ok_Cb_net 5 _ _ _ rfl ?_
  refine mm_cIE ok_Cb_net (As := [.ref (K (10 + i)), .int c1, .ref (K (10 + j)), .int c2]) rfl k_Cb_net_73 rfl (Nat.le_of_ble_eq_true rfl) (c_Nt_init (mm_up_self _ _ _) (K (10 + i)) (K (10 + j)) c1 c2) ?_
  rw [mm_up_up]
  have h1 : mm_up (CP K S h) q (oNt (K (10 + i)) (K (10 + j)) none (nt_new c1 c2)) (K 3) = some (oAl (c_Z S 3 1) (K 4) (c_nn S)) := (mm_up_ne _ _ (cp_ne hq (cp_3 w))).trans (cp_3 w)
  have hK1q : K 3 ≠ q := cp_ne hq (cp_3 w)
  have fin : ∀ (X : mm_Hp), (∃ K', c_wf G K' (c_netA S (i, j, none) (nt_new c1 c2)) ∧ (∀ n ∈ cdom (c_nd S) (c_nn S), K' n = K n) ∧ (∀ n ∈ cdom (c_nd S) (c_nn S + 1), n ∉ cdom (c_nd S) (c_nn S) → CP K S h (K' n) = none) ∧ X = CP K' (c_netA S (i, j, none) (nt_new c1 c2)) h) → mm_V G M_Cb_net 153 [(0, .ref (K 0)), (1, .int (nI i)), (2, .int c1), (3, .int (nI j)), (4, .int c2), (5, .ref (K (10 + i))), (6, .ref (K (10 + j)))] [.int 1] X 0 0 (fun o h' => ∃ K', c_wf G K' (c_netA S (i, j, none) (nt_new c1 c2)) ∧ (∀ n ∈ cdom (c_nd S) (c_nn S), K' n = K n) ∧ (∀ n ∈ cdom (c_nd S) (c_nn S + 1), n ∉ cdom (c_nd S) (c_nn S) → h (K' n) = none) ∧ o = .inl (some (.int (nI (c_nn S)))) ∧ h' = CP K' (s_Z (c_netA S (i, j, none) (nt_new c1 c2)) 0 7 0) h) := by
    rintro X ⟨K', w', hK, hN, hX⟩
    refine mm_V_heap hX ?_
    rw [← hK 0 (cd_fix (by simp))]
    exact mm_V_wk (fun o h' z => ⟨K', w', hK, fun n h1 h2 => pl_none (hN n h1 h2), z.1, z.2⟩) (t_Cb_net w' (m := c_nn S) rfl)
  by_cases hz : c_nn S = 0
  · have hK2 := w.2.2.2.2.1 hz
    rw [hK2, hz] at h1
    refine mm_callV (kc := 0) (ks := 0) (mc := 1) (ms := 10) ok_Cb_net (As := [.ref q]) rfl k_Cb_net_45 h1 rfl rfl rfl (Nat.le_of_ble_eq_true rfl) (c_Al_add_0 (mm_up_self _ _ _) rfl ca_N h1 (Ne.symm hK1q)) (fun E h' z => by obtain ⟨_, _, z, _⟩ := z; cases z) (fun v h' z => ?_)
    obtain ⟨q2, hq2, hv, rfl⟩ := z
    cases hv
    have hqq : q2 ≠ q := fun z => by rw [z, mm_up_self] at hq2; cases hq2
    rw [mm_up_ne _ _ hqq] at hq2
    have h12 : K 3 ≠ q2 := cp_ne hq2 (cp_3 w)
    refine fin _ (grow_net (X := mm_up (mm_up (mm_up (CP K S h) q (oNt (K (10 + i)) (K (10 + j)) none (nt_new c1 c2))) q2 (13, Value.ref q :: List.replicate 9 .null)) (K 3) (oAl (c_Z S 3 1 + 1) q2 1)) w hn i j hi hj (nt_new c1 c2) hq (Or.inl ⟨hz, hq2, hqq⟩) (by rw [mm_up_self, hz]) (by rw [mm_up_ne _ _ (Ne.symm hK1q), mm_up_ne _ _ (Ne.symm hqq), mm_up_self]) (fun K' _ hk => by
      rw [mm_up_ne _ _ (Ne.symm h12), mm_up_self, hz]
      rw [hz] at hk
      unfold oAr
      rw [← hk]; rfl) (fun b0 b1 b2 b3 => by rw [mm_up_ne _ _ b1, mm_up_ne _ _ b3, mm_up_ne _ _ b2]))
  · have h2 : mm_up (CP K S h) q (oNt (K (10 + i)) (K (10 + j)) none (nt_new c1 c2)) (K 4) = some (oAr K 20 (c_nn S)) := (mm_up_ne _ _ (cp_ne hq (cp_4 w (by omega)))).trans (cp_4 w (by omega))
    have hbq : mm_up (CP K S h) q (oNt (K (10 + i)) (K (10 + j)) none (nt_new c1 c2)) q = some (oNt (K (10 + i)) (K (10 + j)) none (nt_new c1 c2)) := mm_up_self _ _ _
    refine mm_V_wid (k1 := 0) (k2 := 0) (by omega) (by omega) ?_
    refine mm_cVE ok_Cb_net (As := [.ref q]) rfl k_Cb_net_45 h1 rfl rfl rfl (Nat.le_of_ble_eq_true rfl) (c_Al_add_1 (ci := 2) hbq rfl ca_N h1 h2 (by rw [List.length_map, List.length_range]) (by omega) (Ne.symm hK1q)) ?_
    have hK2q : K 4 ≠ q := cp_ne hq (cp_4 w (by omega))
    have h12 : K 3 ≠ K 4 := fun z => absurd (w.2.2.1 3 (cd_fix (by simp)) 4 (cd_4 (by omega)) z) (by decide)
    refine fin _ (grow_net (X := mm_up (mm_up (mm_up (CP K S h) q (oNt (K (10 + i)) (K (10 + j)) none (nt_new c1 c2))) (K 4) (13, ((List.range 10).map (fun i => if i < c_nn S then Value.ref (K (20 + i)) else .null)).set (c_nn S) (.ref q))) (K 3) (oAl (c_Z S 3 1 + 1) (K 4) (c_nn S + 1))) w hn i j hi hj (nt_new c1 c2) hq (Or.inr ⟨by omega, rfl⟩) (by rw [mm_up_self]) (by rw [mm_up_ne _ _ (Ne.symm hK1q), mm_up_ne _ _ (Ne.symm hK2q), mm_up_self]) (fun K' hko hk => by
      rw [mm_up_ne _ _ (Ne.symm h12), mm_up_self, oAr_set (by omega) hko hk]; rfl) (fun b0 b1 b2 b3 => by rw [mm_up_ne _ _ b1, mm_up_ne _ _ b3, mm_up_ne _ _ b2]))
set_option maxHeartbeats 2000000 in
theorem c_Cb_net_r (w : c_wf G K S) {i j : Nat} {c1 c2 : Int32} (hi : i < c_nd S) (hj : j < c_nd S) (hx : isC S (nI i) c1) (hy : isC S (nI j) c2) (d1 : c_drv S i c1) (d2 : ¬ c_drv S j c2) (d3 : ¬ c_wrd4 S i c1) (d4 : ¬ c_wrd4 S j c2) (hn : c_nn S < 8) : mm_C G M_Cb_net [.ref (K 0), .int (nI i), .int c1, .int (nI j), .int c2] (CP K S h) 2 20 (fun o h' => ∃ K', c_wf G K' (c_net S i c1 j c2) ∧ (∀ n ∈ cdom (c_nd S) (c_nn S), K' n = K n) ∧ (∀ n ∈ cdom (c_nd S) (c_nn S + 1), n ∉ cdom (c_nd S) (c_nn S) → h (K' n) = none) ∧ o = .inl (some (.int (nI (c_nn S)))) ∧ h' = CP K' (c_net S i c1 j c2) h) := by
  refine mm_C_of (by decide +kernel) rfl (Nat.le_of_ble_eq_true rfl) rfl ?_
  refine mm_blk (pc' := 3) ok_Cb_net 3 _ _ _ rfl ?_
  refine mm_cVE ok_Cb_net (As := [.int (nI i), .int c1]) rfl k_Cb_net_52 (cp_0 w) rfl rfl rfl (Nat.le_of_ble_eq_true rfl) (c_Cb_isCell1 w hx) ?_
  refine mm_if_eq ok_Cb_net 19 rfl (by decide) (fun c => ?_) (fun c => ?_)
  · exact absurd c (by decide)
  refine mm_blk (pc' := 13) ok_Cb_net 3 _ _ _ rfl ?_
  refine mm_cVE ok_Cb_net (As := [.int (nI j), .int c2]) rfl k_Cb_net_52 (cp_0 w) rfl rfl rfl (Nat.le_of_ble_eq_true rfl) (c_Cb_isCell1 w hy) ?_
  refine mm_if_ne ok_Cb_net 27 rfl (by decide) (fun c => ?_) (fun c => ?_)
  rotate_left
  · exact absurd c (by decide)
  refine mm_blk (pc' := 28) ok_Cb_net 1 _ _ _ rfl ?_
  refine mm_getf ok_Cb_net (cp_0 w) rfl f_Cb_12 rfl ?_
  refine mm_blk (pc' := 32) ok_Cb_net 1 _ _ _ rfl ?_
  refine mm_cVE ok_Cb_net (As := [.int (nI i)]) rfl k_Cb_net_56 (cp_1 w) rfl rfl rfl (Nat.le_of_ble_eq_true rfl) (c_getD w hi) ?_
  refine mm_cast ok_Cb_net (cp_dev w hi) cc_Cb_40 rfl ?_
  refine mm_blk (pc' := 41) ok_Cb_net 2 _ _ _ rfl ?_
  refine mm_getf ok_Cb_net (cp_0 w) rfl f_Cb_12 rfl ?_
  refine mm_blk (pc' := 45) ok_Cb_net 1 _ _ _ rfl ?_
  refine mm_cVE ok_Cb_net (As := [.int (nI j)]) rfl k_Cb_net_56 (cp_1 w) rfl rfl rfl (Nat.le_of_ble_eq_true rfl) (c_getD w hj) ?_
  refine mm_cast ok_Cb_net (cp_dev w hj) cc_Cb_40 rfl ?_
  refine mm_blk (pc' := 56) ok_Cb_net 3 _ _ _ rfl ?_
  refine mm_cVE ok_Cb_net (As := [.int c1]) rfl k_Cb_net_60 (cp_dev w hi) rfl rfl rfl (Nat.le_of_ble_eq_true rfl) (c_Dv_drives (cp_dev w hi) c1) ?_
  refine mm_if_eq ok_Cb_net 91 rfl (by decide) (fun c => ?_) (fun c => ?_)
  · rw [show (if (mm_ushr (c_D S i 3) c1 &&& 1) = 1 then (1 : Int32) else 0) = 1 from if_pos d1] at c; exact absurd c (by decide)
  refine mm_blk (pc' := 66) ok_Cb_net 2 _ _ _ rfl ?_
  refine mm_cVE ok_Cb_net (As := [.int c2]) rfl k_Cb_net_60 (cp_dev w hj) rfl rfl rfl (Nat.le_of_ble_eq_true rfl) (c_Dv_drives (cp_dev w hj) c2) ?_
  refine mm_if_ne ok_Cb_net 91 rfl (by decide) (fun c => ?_) (fun c => ?_)
  · exact absurd (if_neg d2) c
  refine mm_blk (pc' := 75) ok_Cb_net 2 _ _ _ rfl ?_
  refine mm_cVE ok_Cb_net (As := [.int c1]) rfl k_Cb_net_64 (cp_dev w hi) rfl rfl rfl (Nat.le_of_ble_eq_true rfl) (c_Dv_isWired (cp_dev w hi) c1) ?_
  refine mm_if_ne ok_Cb_net 91 rfl (by decide) (fun c => ?_) (fun c => ?_)
  · exact absurd (if_neg d3) c
  refine mm_blk (pc' := 85) ok_Cb_net 2 _ _ _ rfl ?_
  refine mm_cVE ok_Cb_net (As := [.int c2]) rfl k_Cb_net_64 (cp_dev w hj) rfl rfl rfl (Nat.le_of_ble_eq_true rfl) (c_Dv_isWired (cp_dev w hj) c2) ?_
  refine mm_if_eq ok_Cb_net 99 rfl (by decide) (fun c => ?_) (fun c => ?_)
  rotate_left
  · exact absurd (if_neg d4) c
  refine mm_blk (pc' := 100) ok_Cb_net 1 _ _ _ rfl ?_
  refine mm_getf ok_Cb_net (cp_0 w) rfl f_Cb_16 rfl ?_
  refine mm_cVE ok_Cb_net (As := []) rfl k_Cb_net_33 (cp_3 w) rfl rfl rfl (Nat.le_of_ble_eq_true rfl) (c_Al_size (cp_3 w)) ?_
  refine mm_blk (pc' := 108) ok_Cb_net 1 _ _ _ rfl ?_
  refine mm_ic_lt ok_Cb_net 119 rfl (by decide) (fun c => ?_) (fun c => ?_)
  rotate_left
  · exact absurd (show nI (c_nn S) < nI 8 from nI_lt hn (by decide)) c
  refine mm_blk (pc' := 122) ok_Cb_net 2 _ _ _ rfl ?_
  refine mm_cVE ok_Cb_net (As := [.int c1]) rfl k_Cb_net_67 (cp_dev w hi) rfl rfl rfl (Nat.le_of_ble_eq_true rfl) (c_Dv_wire (cp_dev w hi) c1) ?_
  refine mm_V_heap (cu_dev w hi _) ?_
  refine mm_blk (pc' := 129) ok_Cb_net 2 _ _ _ rfl ?_
  refine mm_cVE ok_Cb_net (As := [.int c2]) rfl k_Cb_net_67 (cp_dev (S := c_wire S i c1) w hj) rfl rfl rfl (Nat.le_of_ble_eq_true rfl) (c_Dv_wire (cp_dev (S := c_wire S i c1) w hj) c2) ?_
  refine mm_V_heap (cu_dev (S := c_wire S i c1) w hj _) ?_
  exact t2_Cb_net (S := c_wire (c_wire S i c1) j c2) w hn hi hj
set_option maxHeartbeats 1000000 in
theorem l_Cb_find2 {fc : Nat} (hfc : fc ≤ 4) : ∀ (n i : Nat) (S : cS), c_wf G K S → c_Z S 0 6 = nI fc → i + n = fc → mm_V G M_Cb_find 60 [(0, .ref (K 0)), (1, .int (nI i))] [] (CP K S h) 0 0 (mm_E (some (.int (nI fc))) (CP K (c_cpy fc n i S) h)) := by
  intro n
  induction n with
  | zero =>
    intro i S w hz hi
    refine mm_blk (pc' := 62) ok_Cb_find 2 _ _ _ rfl ?_
    refine mm_getf ok_Cb_find (cp_0 w) rfl f_Cb_131 rfl ?_
    rw [hz]
    refine mm_ic_ge ok_Cb_find 93 rfl (by decide) (fun c => ?_) (fun c => ?_)
    rotate_left
    · exact absurd (nI_le (by omega) (by omega)) c
    refine mm_blk (pc' := 94) ok_Cb_find 1 _ _ _ rfl ?_
    refine mm_getf ok_Cb_find (cp_0 w) rfl f_Cb_131 rfl ?_
    rw [hz]
    exact mm_iret ok_Cb_find rfl rfl ⟨rfl, rfl⟩
  | succ n ih =>
    intro i S w hz hi
    have e0 : nI fc - 1 - nI i = nI (fc - 1 - i) := by
      rw [show (1 : Int32) = nI 1 from rfl, pk_sub (by omega), pk_sub (by omega)]
    refine mm_blk (pc' := 62) ok_Cb_find 2 _ _ _ rfl ?_
    refine mm_getf ok_Cb_find (cp_0 w) rfl f_Cb_131 rfl ?_
    rw [hz]
    refine mm_ic_ge ok_Cb_find 93 rfl (by decide) (fun c => ?_) (fun c => ?_)
    · exact absurd c (nI_ge (by omega) (by omega))
    refine mm_blk (pc' := 69) ok_Cb_find 1 _ _ _ rfl ?_
    refine mm_getf ok_Cb_find (cp_0 w) rfl f_Cb_27 rfl ?_
    refine mm_blk (pc' := 74) ok_Cb_find 2 _ _ _ rfl ?_
    refine mm_getf ok_Cb_find (cp_0 w) rfl f_Cb_23 rfl ?_
    refine mm_blk (pc' := 78) ok_Cb_find 1 _ _ _ rfl ?_
    refine mm_getf ok_Cb_find (cp_0 w) rfl f_Cb_131 rfl ?_
    refine mm_blk (pc' := 85) ok_Cb_find 4 _ _ _ rfl ?_
    rw [hz, e0]
    refine mm_iald ok_Cb_find (cp_5 w) rfl rfl (by omega) (oIs_get (by omega) _) ?_
    refine mm_iast ok_Cb_find (cp_6 w) rfl rfl (by omega) (by rw [List.length_map, List.length_range]; omega) ?_
    refine mm_blk (pc' := 60) ok_Cb_find 2 _ _ _ rfl ?_
    rw [nI_1]
    refine mm_V_heap (cu_6 w (by omega) _) ?_
    exact ih (i + 1) (s_Z S 2 i _) w hz (by omega)
set_option maxHeartbeats 1000000 in
theorem t_Cb_find (w : c_wf G K S) : mm_V G M_Cb_find 50 [(0, .ref (K 0)), (1, .int (nI 5))] [] (CP K S h) 0 0 (mm_E (some (.int (nI (c_words S 4 0)))) (CP K (c_cpy (c_words S 4 0) (c_words S 4 0) 0 (s_Z S 0 6 (nI (c_words S 4 0)))) h)) := by
  have hw := words_le S 4 0
  refine mm_blk (pc' := 52) ok_Cb_find 2 _ _ _ rfl ?_
  refine mm_cVE ok_Cb_find (As := []) rfl k_Cb_find_128 (cp_0 w) rfl rfl rfl (Nat.le_of_ble_eq_true rfl) (c_Cb_words w) ?_
  generalize c_words S 4 0 = fc at hw ⊢
  refine mm_putf ok_Cb_find (cp_0 w) rfl f_Cb_131 (Or.inl rfl) (mm_fit_I _) ?_
  refine mm_blk (pc' := 60) ok_Cb_find 2 _ _ _ rfl ?_
  refine mm_V_heap (cu_0 w 6 (nI fc)) ?_
  exact l_Cb_find2 hw _ 0 (s_Z S 0 6 (nI fc)) w rfl (by omega)
set_option maxHeartbeats 1000000 in
theorem c_Cb_scan160 (w : c_ok G K S) : mm_C G M_Cb_scan [.ref (K 0), .int 0, .int (nI 160)] (CP K S h) 0 0 (mm_E none (CP K (c_scan 0 160 S) h)) := by
  exact c_Cb_scan (cnt := 159) (by omega) w
set_option maxHeartbeats 1000000 in
theorem l_Cb_find1 {T U : cS} (hS : c_ok G K T) (hU : U = c_scan 0 160 T) : ∀ (n i : Nat) (S : cS), c_wf G K S → i + n = 5 → up (fun i S => s_Z S 1 i (-1)) n i S = T → mm_V G M_Cb_find 24 [(0, .ref (K 0)), (1, .int (nI i))] [] (CP K S h) 0 0 (mm_E (some (.int (nI (c_words U 4 0)))) (CP K (c_cpy (c_words U 4 0) (c_words U 4 0) 0 (s_Z U 0 6 (nI (c_words U 4 0)))) h)) := by
  intro n
  induction n with
  | zero =>
    intro i S w hi hf
    have hf : S = T := hf
    subst hf
    have hi5 : i = 5 := by omega
    subst hi5
    have w1 : c_wf G K U := by rw [hU]; exact (scan_ok 0 160 hS).1
    refine mm_blk (pc' := 26) ok_Cb_find 2 _ _ _ rfl ?_
    refine mm_ic_ge ok_Cb_find 42 rfl (by decide) (fun c => ?_) (fun c => ?_)
    rotate_left
    · exact absurd (show nI 5 ≤ nI 5 from nI_le (by omega) (by omega)) c
    refine mm_blk (pc' := 47) ok_Cb_find 3 _ _ _ rfl ?_
    refine mm_cVE ok_Cb_find (As := [.int 0, .int (nI 160)]) rfl k_Cb_find_124 (cp_0 hS.1) rfl rfl rfl (Nat.le_of_ble_eq_true rfl) (c_Cb_scan160 hS) ?_
    rw [← hU]
    exact t_Cb_find w1
  | succ n ih =>
    intro i S w hi hf
    refine mm_blk (pc' := 26) ok_Cb_find 2 _ _ _ rfl ?_
    refine mm_ic_ge ok_Cb_find 42 rfl (by decide) (fun c => ?_) (fun c => ?_)
    · exact absurd c (show ¬ nI 5 ≤ nI i from nI_ge (by omega) (by omega))
    refine mm_blk (pc' := 30) ok_Cb_find 1 _ _ _ rfl ?_
    refine mm_getf ok_Cb_find (cp_0 w) rfl f_Cb_23 rfl ?_
    refine mm_blk (pc' := 35) ok_Cb_find 2 _ _ _ rfl ?_
    refine mm_iast ok_Cb_find (cp_5 w) rfl rfl (by omega) (by rw [List.length_map, List.length_range]; omega) ?_
    refine mm_blk (pc' := 24) ok_Cb_find 2 _ _ _ rfl ?_
    rw [nI_1]
    refine mm_V_heap (cu_5 w (by omega) (-1)) ?_
    exact ih (i + 1) (s_Z S 1 i (-1)) w (by omega) hf
set_option maxHeartbeats 1000000 in
theorem c_Cb_find_x (w : c_wf G K S) (hx : c_nd S = 0) : mm_C G M_Cb_find [.ref (K 0)] (CP K S h) 1 6 (mm_X xIS (CP K S h)) := by
  refine mm_C_of (by decide +kernel) rfl (Nat.le_of_ble_eq_true rfl) rfl ?_
  refine mm_blk (pc' := 1) ok_Cb_find 1 _ _ _ rfl ?_
  refine mm_getf ok_Cb_find (cp_0 w) rfl f_Cb_12 rfl ?_
  refine mm_cVE ok_Cb_find (As := []) rfl k_Cb_find_94 (cp_1 w) rfl rfl rfl (Nat.le_of_ble_eq_true rfl) (c_Al_isEmpty (cp_1 w)) ?_
  refine mm_if_eq ok_Cb_find 18 rfl (by decide) (fun c => ?_) (fun c => ?_)
  · rw [hx] at c; exact absurd c (by decide)
  exact mm_V_wid (k1 := 1) (k2 := 6) (by omega) (by omega) (mm_throw (kc := 0) (ks := 0) ok_Cb_find rfl rfl rfl rfl x_Cb_37_39 rfl (by decide) (Nat.le_of_ble_eq_true rfl) ⟨rfl, rfl⟩)
set_option maxHeartbeats 1000000 in
theorem c_Cb_find_r (v : c_ok G K S) (hx : 0 < c_nd S) : mm_C G M_Cb_find [.ref (K 0)] (CP K S h) 0 0 (mm_E (some (.int (nI (c_words (c_fsc S) 4 0)))) (CP K (c_find S) h)) := by
  have w := v.1
  have hn : (if nI (c_nd S) = 0 then (1 : Int32) else 0) = 0 := if_neg (nI_ne0 hx (by have := w.1; omega))
  refine mm_C_of (by decide +kernel) rfl (Nat.le_of_ble_eq_true rfl) rfl ?_
  refine mm_blk (pc' := 1) ok_Cb_find 1 _ _ _ rfl ?_
  refine mm_getf ok_Cb_find (cp_0 w) rfl f_Cb_12 rfl ?_
  refine mm_cVE ok_Cb_find (As := []) rfl k_Cb_find_94 (cp_1 w) rfl rfl rfl (Nat.le_of_ble_eq_true rfl) (c_Al_isEmpty (cp_1 w)) ?_
  refine mm_if_eq ok_Cb_find 18 rfl (by decide) (fun c => ?_) (fun c => ?_)
  rotate_left
  · exact absurd hn c
  refine mm_blk (pc' := 19) ok_Cb_find 1 _ _ _ rfl ?_
  refine mm_cVE ok_Cb_find (As := []) rfl k_Cb_find_121 (cp_0 w) rfl rfl rfl (Nat.le_of_ble_eq_true rfl) (c_Cb_goToIdle v) ?_
  refine mm_blk (pc' := 24) ok_Cb_find 2 _ _ _ rfl ?_
  unfold c_find c_fsc
  exact l_Cb_find1 (T := c_fill (c_go5 S)) (fill_ok (go5_ok v)) rfl 5 0 (c_go5 S) (go5_ok v).1 (by omega) rfl
set_option maxHeartbeats 1000000 in
theorem c_Cb_test_x (w : c_wf G K S) (hx : c_nd S = 0 ∨ c_nn S = 0) : mm_C G M_Cb_test [.ref (K 0)] (CP K S h) 1 6 (mm_X xIS (CP K S h)) := by
  refine mm_C_of (by decide +kernel) rfl (Nat.le_of_ble_eq_true rfl) rfl ?_
  refine mm_blk (pc' := 1) ok_Cb_test 1 _ _ _ rfl ?_
  refine mm_getf ok_Cb_test (cp_0 w) rfl f_Cb_12 rfl ?_
  refine mm_cVE ok_Cb_test (As := []) rfl k_Cb_test_94 (cp_1 w) rfl rfl rfl (Nat.le_of_ble_eq_true rfl) (c_Al_isEmpty (cp_1 w)) ?_
  refine mm_if_ne ok_Cb_test 20 rfl (by decide) (fun c7 => ?_) (fun c7 => ?_)
  · -- 20 t
    exact mm_V_wid (k1 := 1) (k2 := 6) (by omega) (by omega) (mm_throw (kc := 0) (ks := 0) ok_Cb_test rfl rfl rfl rfl x_Cb_37_39 rfl (by decide) (Nat.le_of_ble_eq_true rfl) ⟨rfl, rfl⟩)
  · -- 10 f
    refine mm_blk (pc' := 11) ok_Cb_test 1 _ _ _ rfl ?_
    refine mm_getf ok_Cb_test (cp_0 w) rfl f_Cb_16 rfl ?_
    refine mm_cVE ok_Cb_test (As := []) rfl k_Cb_test_94 (cp_3 w) rfl rfl rfl (Nat.le_of_ble_eq_true rfl) (c_Al_isEmpty (cp_3 w)) ?_
    refine mm_if_eq ok_Cb_test 28 rfl (by decide) (fun c => ?_) (fun c => ?_)
    · have hd : ¬ c_nd S = 0 := (fun z => absurd (show (if nI (c_nd S) = 0 then (1 : Int32) else 0) = 1 by rw [z]; rfl) (by rw [c7]; decide)); rw [hx.resolve_left hd] at c; exact absurd c (by decide)
    exact mm_V_wid (k1 := 1) (k2 := 6) (by omega) (by omega) (mm_throw (kc := 0) (ks := 0) ok_Cb_test rfl rfl rfl rfl x_Cb_37_39 rfl (by decide) (Nat.le_of_ble_eq_true rfl) ⟨rfl, rfl⟩)
set_option maxHeartbeats 2000000 in
theorem l_Cb_test {cc : Nat} (hcc : cc < 160) : ∀ (n r : Nat) (S : cS), c_ok G K S → c_sumC S = nI (cc + 1) → r + n = 4 → mm_V G M_Cb_test 42 [(0, .ref (K 0)), (1, .int (nI r))] [] (CP K S h) 0 0 (mm_E (some (.int (c_faulty (s_Z (c_tl (cc + 1) n r S) 0 7 1)))) (CP K (s_Z (c_tl (cc + 1) n r S) 0 7 1) h)) := by
  intro n
  induction n with
  | zero =>
    intro r S w hs hi
    refine mm_blk (pc' := 44) ok_Cb_test 2 _ _ _ rfl ?_
    refine mm_ic_ge ok_Cb_test 117 rfl (by decide) (fun c => ?_) (fun c => ?_)
    rotate_left
    · exact absurd (show nI 4 ≤ nI r from nI_le (by omega) (by omega)) c
    refine mm_blk (pc' := 119) ok_Cb_test 2 _ _ _ rfl ?_
    refine mm_putf ok_Cb_test (cp_0 w.1) rfl f_Cb_76 (Or.inl rfl) mm_fit_Z1 ?_
    refine mm_V_heap (cu_0 w.1 7 1) ?_
    refine mm_blk (pc' := 123) ok_Cb_test 1 _ _ _ rfl ?_
    refine mm_cVE ok_Cb_test (As := []) rfl k_Cb_test_154 (cp_0 (S := s_Z S 0 7 1) w.1) rfl rfl rfl (Nat.le_of_ble_eq_true rfl) (c_Cb_countFaulty (S := s_Z S 0 7 1) w.1) ?_
    exact mm_iret ok_Cb_test rfl rfl ⟨rfl, rfl⟩
  | succ n ih =>
    intro r S w hs hi
    have hp9 : ∀ r, r < 4 → (1 : Int32) <<< (nI r &&& 31) = nI (2 ^ r) := by decide
    have hpow := hp9 r (by omega)
    have hnn := w.1.2.1
    have hp2 : 2 ^ r ≤ 8 := Nat.le_trans (Nat.pow_le_pow_right (by decide) (show r ≤ 3 by omega)) (by decide)
    refine mm_blk (pc' := 44) ok_Cb_test 2 _ _ _ rfl ?_
    refine mm_ic_ge ok_Cb_test 117 rfl (by decide) (fun c => ?_) (fun c => ?_)
    · exact absurd c (show ¬ nI 4 ≤ nI r from nI_ge (by omega) (by omega))
    refine mm_blk (pc' := 51) ok_Cb_test 4 _ _ _ rfl ?_
    refine mm_getf ok_Cb_test (cp_0 w.1) rfl f_Cb_16 rfl ?_
    refine mm_cVE ok_Cb_test (As := []) rfl k_Cb_test_33 (cp_3 w.1) rfl rfl rfl (Nat.le_of_ble_eq_true rfl) (c_Al_size (cp_3 w.1)) ?_
    refine mm_blk (pc' := 59) ok_Cb_test 2 _ _ _ rfl ?_
    rw [nI_1, hpow]
    refine mm_ic_gt ok_Cb_test 117 rfl (by decide) (fun c59 => ?_) (fun c59 => ?_)
    · -- 117 t
      refine mm_blk (pc' := 119) ok_Cb_test 2 _ _ _ rfl ?_
      refine mm_putf ok_Cb_test (cp_0 w.1) rfl f_Cb_76 (Or.inl rfl) mm_fit_Z1 ?_
      have hle : ¬ 2 ^ r ≤ c_nn S + 1 := fun z => absurd c59 (nI_nlt (by omega) (by omega))
      have e9 : c_tl (cc + 1) (n + 1) r S = S := if_neg hle
      rw [e9]
      refine mm_V_heap (cu_0 w.1 7 1) ?_
      refine mm_blk (pc' := 123) ok_Cb_test 1 _ _ _ rfl ?_
      refine mm_cVE ok_Cb_test (As := []) rfl k_Cb_test_154 (cp_0 (S := s_Z S 0 7 1) w.1) rfl rfl rfl (Nat.le_of_ble_eq_true rfl) (c_Cb_countFaulty (S := s_Z S 0 7 1) w.1) ?_
      exact mm_iret ok_Cb_test rfl rfl ⟨rfl, rfl⟩
    · -- 62 f
      refine mm_blk (pc' := 64) ok_Cb_test 2 _ _ _ rfl ?_
      have hle : 2 ^ r ≤ c_nn S + 1 := by
        by_cases z : 2 ^ r ≤ c_nn S + 1
        · exact z
        · exact absurd (nI_lt (by omega) (by omega)) c59
      refine mm_cVE ok_Cb_test (As := [.int (nI r)]) rfl k_Cb_test_143 (cp_0 w.1) rfl rfl rfl (Nat.le_of_ble_eq_true rfl) (c_Cb_patternOfRound w.1 (nI r)) ?_
      have e8 : c_tl (cc + 1) (n + 1) r S = c_tl (cc + 1) n (r + 1) (c_tbody (cc + 1) r S) := if_pos hle
      rw [e8]
      unfold c_tbody
      generalize c_pat S (nI r) = p
      obtain ⟨T1, hT1⟩ : ∃ T1, T1 = c_half (cc + 1) p S := ⟨_, rfl⟩
      obtain ⟨T2, hT2⟩ : ∃ T2, T2 = c_half (cc + 1) p T1 := ⟨_, rfl⟩
      have w1 : c_ok G K T1 := by rw [hT1]; exact half_ok _ p w
      have w2 : c_ok G K T2 := by rw [hT2]; exact half_ok _ p w1
      have s1 : c_sumC T1 = nI (cc + 1) := by rw [hT1]; exact (fix_sumC (fix_half _ p S)).trans hs
      have s2 : c_sumC T2 = nI (cc + 1) := by rw [hT2]; exact (fix_sumC (fix_half _ p T1)).trans s1
      rw [← hT1, ← hT2]
      unfold c_half at hT1 hT2
      refine mm_blk (pc' := 69) ok_Cb_test 2 _ _ _ rfl ?_
      refine mm_getf ok_Cb_test (cp_0 w.1) rfl f_Cb_23 rfl ?_
      refine mm_blk (pc' := 74) ok_Cb_test 2 _ _ _ rfl ?_
      refine mm_iast ok_Cb_test (cp_5 w.1) rfl rfl (show 0 < 2147483648 by decide) (by rw [List.length_map, List.length_range]; decide) ?_
      refine mm_blk (pc' := 78) ok_Cb_test 3 _ _ _ rfl ?_
      refine mm_V_heap (cu_5 w.1 (by decide) p) ?_
      have wa : c_ok G K (s_Z S 1 0 p) := ⟨w.1, sZ1_ps w.2 1 0 p (by decide)⟩
      refine mm_cVE ok_Cb_test (As := []) rfl k_Cb_test_147 (cp_0 wa.1) rfl rfl rfl (Nat.le_of_ble_eq_true rfl) (c_Cb_allCells wa.1) ?_
      rw [show c_sumC (s_Z S 1 0 p) = nI (cc + 1) from hs]
      refine mm_cVE ok_Cb_test (As := [.int 0, .int (nI (cc + 1))]) rfl k_Cb_test_124 (cp_0 wa.1) rfl rfl rfl (Nat.le_of_ble_eq_true rfl) (c_Cb_scan hcc wa) ?_
      rw [← hT1]
      refine mm_blk (pc' := 85) ok_Cb_test 1 _ _ _ rfl ?_
      refine mm_getf ok_Cb_test (cp_0 w1.1) rfl f_Cb_23 rfl ?_
      refine mm_blk (pc' := 90) ok_Cb_test 2 _ _ _ rfl ?_
      refine mm_iast ok_Cb_test (cp_5 w1.1) rfl rfl (show 0 < 2147483648 by decide) (by rw [List.length_map, List.length_range]; decide) ?_
      refine mm_blk (pc' := 94) ok_Cb_test 3 _ _ _ rfl ?_
      refine mm_V_heap (cu_5 w1.1 (by decide) p) ?_
      have wb : c_ok G K (s_Z T1 1 0 p) := ⟨w1.1, sZ1_ps w1.2 1 0 p (by decide)⟩
      refine mm_cVE ok_Cb_test (As := []) rfl k_Cb_test_147 (cp_0 wb.1) rfl rfl rfl (Nat.le_of_ble_eq_true rfl) (c_Cb_allCells wb.1) ?_
      rw [show c_sumC (s_Z T1 1 0 p) = nI (cc + 1) from s1]
      refine mm_cVE ok_Cb_test (As := [.int 0, .int (nI (cc + 1))]) rfl k_Cb_test_124 (cp_0 wb.1) rfl rfl rfl (Nat.le_of_ble_eq_true rfl) (c_Cb_scan hcc wb) ?_
      rw [← hT2]
      refine mm_blk (pc' := 103) ok_Cb_test 3 _ _ _ rfl ?_
      refine mm_getf ok_Cb_test (cp_0 w2.1) rfl f_Cb_23 rfl ?_
      refine mm_blk (pc' := 107) ok_Cb_test 1 _ _ _ rfl ?_
      refine mm_iald ok_Cb_test (cp_5 w2.1) rfl rfl (show 0 < 2147483648 by decide) (oIs_get (by decide) _) ?_
      refine mm_cVE ok_Cb_test (As := [.int (nI r), .int (c_Z T2 1 0)]) rfl k_Cb_test_150 (cp_0 w2.1) rfl rfl rfl (Nat.le_of_ble_eq_true rfl) (c_Cb_noteSeen w2.1 (nI r) _) ?_
      refine mm_blk (pc' := 42) ok_Cb_test 2 _ _ _ rfl ?_
      rw [nI_1]
      refine mm_V_pick [0, 1] rfl ?_
      exact ih (r + 1) (c_note T2 (nI r) (c_Z T2 1 0)) ⟨fix_wf (fix_note T2 _ _) w2.1, ps_Z (note_Z T2 _ _) w2.2⟩ ((fix_sumC (fix_note T2 _ _)).trans s2) (by omega)
set_option maxHeartbeats 1000000 in
theorem c_Cb_test_r (v : c_ok G K S) (hx : 0 < c_nd S) (hy : 0 < c_nn S) {cb cc : Nat} (hcb : cb < 160) (hcc : cc < 160) (hsb : c_sumB S = nI (cb + 1)) (hsc : c_sumC S = nI (cc + 1)) : mm_C G M_Cb_test [.ref (K 0)] (CP K S h) 0 0 (mm_E (some (.int (c_faulty (c_test (cb + 1) (cc + 1) S)))) (CP K (c_test (cb + 1) (cc + 1) S) h)) := by
  have w := v.1
  have hn : (if nI (c_nd S) = 0 then (1 : Int32) else 0) = 0 := if_neg (nI_ne0 hx (by have := w.1; omega))
  have hm : (if nI (c_nn S) = 0 then (1 : Int32) else 0) = 0 := if_neg (nI_ne0 hy (by have := w.2.1; omega))
  unfold c_test
  obtain ⟨T1, hT1⟩ : ∃ T1, T1 = c_go5 S := ⟨_, rfl⟩
  obtain ⟨T2, hT2⟩ : ∃ T2, T2 = c_scan 1 (cb + 1) (s_Z T1 1 0 0) := ⟨_, rfl⟩
  obtain ⟨T3, hT3⟩ : ∃ T3, T3 = c_forget T2 := ⟨_, rfl⟩
  have v1 : c_ok G K T1 := by rw [hT1]; exact go5_ok v
  have v2 : c_ok G K T2 := by rw [hT2]; exact scan_ok 1 (cb + 1) (S := s_Z T1 1 0 0) ⟨v1.1, sZ1_ps v1.2 1 0 0 (by decide)⟩
  have v3 : c_ok G K T3 := by rw [hT3]; exact ⟨fix_wf (fix_forget T2) v2.1, ps_Z (forget_Z T2) v2.2⟩
  have f1 : c_fix S T1 := by rw [hT1]; exact fix_go5 S
  have f2 : c_fix T1 T2 := by rw [hT2]; exact fix_tr (fix_sZ T1 1 0 0) (fix_scan 1 (cb + 1) _)
  have f3 : c_fix T2 T3 := by rw [hT3]; exact fix_forget T2
  rw [← hT1, ← hT2, ← hT3]
  refine mm_C_of (by decide +kernel) rfl (Nat.le_of_ble_eq_true rfl) rfl ?_
  refine mm_blk (pc' := 1) ok_Cb_test 1 _ _ _ rfl ?_
  refine mm_getf ok_Cb_test (cp_0 w) rfl f_Cb_12 rfl ?_
  refine mm_cVE ok_Cb_test (As := []) rfl k_Cb_test_94 (cp_1 w) rfl rfl rfl (Nat.le_of_ble_eq_true rfl) (c_Al_isEmpty (cp_1 w)) ?_
  refine mm_if_ne ok_Cb_test 20 rfl (by decide) (fun c => ?_) (fun c => ?_)
  · exact absurd hn c
  refine mm_blk (pc' := 11) ok_Cb_test 1 _ _ _ rfl ?_
  refine mm_getf ok_Cb_test (cp_0 w) rfl f_Cb_16 rfl ?_
  refine mm_cVE ok_Cb_test (As := []) rfl k_Cb_test_94 (cp_3 w) rfl rfl rfl (Nat.le_of_ble_eq_true rfl) (c_Al_isEmpty (cp_3 w)) ?_
  refine mm_if_eq ok_Cb_test 28 rfl (by decide) (fun c => ?_) (fun c => ?_)
  rotate_left
  · exact absurd hm c
  refine mm_blk (pc' := 29) ok_Cb_test 1 _ _ _ rfl ?_
  refine mm_cVE ok_Cb_test (As := []) rfl k_Cb_test_121 (cp_0 w) rfl rfl rfl (Nat.le_of_ble_eq_true rfl) (c_Cb_goToIdle v) ?_
  rw [← hT1]
  refine mm_blk (pc' := 33) ok_Cb_test 1 _ _ _ rfl ?_
  refine mm_cVE ok_Cb_test (As := []) rfl k_Cb_test_137 (cp_0 v1.1) rfl rfl rfl (Nat.le_of_ble_eq_true rfl) (c_Cb_giveAllExtest v1 hcb ((fix_sumB f1).trans hsb)) ?_
  rw [← hT2]
  refine mm_blk (pc' := 37) ok_Cb_test 1 _ _ _ rfl ?_
  refine mm_cVE ok_Cb_test (As := []) rfl k_Cb_test_140 (cp_0 v2.1) rfl rfl rfl (Nat.le_of_ble_eq_true rfl) (c_Cb_forgetSeen v2.1) ?_
  rw [← hT3]
  refine mm_blk (pc' := 42) ok_Cb_test 2 _ _ _ rfl ?_
  exact l_Cb_test hcc 4 0 T3 v3 ((fix_sumC (fix_tr (fix_tr f1 f2) f3)).trans hsc) (by omega)
end CB7
