/-! ArrayList and what it calls -/
def oAl (mc : Int32) (e n : Nat) : mm_Ob := (0, [.int mc, .ref e, .int (nI n)])
theorem mm_max {G : mm_G} {M : mm_M} {pc : Nat} {L : List (Nat × Value)} {st : List Value} {h : mm_Hp} {kc ks : Nat} {Q : mm_O → mm_Hp → Prop} {T : mm_T} (hT : mm_ok M T) {idx : Nat} {x y c0 : Int32} (hf : mm_ix T pc = some (.invokestatic idx, 3, c0))
    (hk : (mm_in (.methodLink M.1.cls idx Lib.Math.max.name) && mm_in (.static Lib.Math.max.name) && mm_in (.initialized "java/lang/Math") && mm_in (.code Lib.Math.max.name Lib.Math.max.code 2 (some .int))) = true) (hfr : 1 ≤ M.2.2.2.2.1) (hlo : (st.map fun v => v.category).sum + 13 ≤ M.2.2.2.2.2.1)
    (kk : mm_V G M (pc + 3) L (.int (if x < y then y else x) :: st) h kc ks Q) : mm_V G M pc L (.int y :: .int x :: st) h kc ks Q := by
  intro p l e R s m args below meth c H locs cells slots A ls hF hI hc hs hl
  simp only [Bool.and_eq_true] at hk
  have hts := hF.2.2.2.2.2.2.1
  have hfr9 := hF.2.2.2.2.2.2.2.2.2.2.1
  have hlo9 := hF.2.2.2.2.2.2.2.2.2.2.2.1
  exact va_mmax hF.1 hF.2.1 (by rw [hF.2.2.2.2.1]; exact hl.1.symm) hF.2.2.2.2.2.1 (mm_in_of hts hk.1.1.1) (mm_in_of hts hk.1.1.2) (mm_in_of hts hk.1.2) (mm_in_of hts hk.2) (by omega) (by omega) (by omega) (by omega) (mm_dec hT hf) (kk p l e R s m args below meth c H locs cells slots A ls hF hI hc hs hl)
theorem mx_Al_79 : (mm_in (.methodLink RJx4a65c 79 Lib.Math.max.name) && mm_in (.static Lib.Math.max.name) && mm_in (.initialized "java/lang/Math") && mm_in (.code Lib.Math.max.name Lib.Math.max.code 2 (some .int))) = true := by decide +kernel
section AL
variable {G : mm_G} {h : mm_Hp} {a e n : Nat} {mc : Int32}

set_option maxHeartbeats 1000000 in
theorem c_Pc_checkIndex {j : Nat} (hj : j < n) (hn : n < 2147483648) : mm_C G M_Pc_checkIndex [.int (nI j), .int (nI n), .null] h 0 0 (mm_E (some (.int (nI j))) h) := by
  refine mm_C_of (by decide +kernel) rfl (Nat.le_of_ble_eq_true rfl) rfl ?_
  refine mm_blk (pc' := 1) ok_Pc_checkIndex 1 _ _ _ rfl ?_
  refine mm_if_lt ok_Pc_checkIndex 9 rfl (by decide) (fun c => ?_) (fun c => ?_)
  · exact absurd c (nI_pos (by omega))
  refine mm_blk (pc' := 6) ok_Pc_checkIndex 2 _ _ _ rfl ?_
  refine mm_ic_lt ok_Pc_checkIndex 16 rfl (by decide) (fun c => ?_) (fun c => ?_)
  rotate_left
  · exact absurd (nI_lt hj (by omega)) c
  refine mm_blk (pc' := 17) ok_Pc_checkIndex 1 _ _ _ rfl ?_
  exact mm_iret ok_Pc_checkIndex rfl rfl ⟨rfl, rfl⟩
set_option maxHeartbeats 1000000 in
theorem c_Ob_checkIndex {j : Nat} (hj : j < n) (hn : n < 2147483648) : mm_C G M_Ob_checkIndex [.int (nI j), .int (nI n)] h 0 0 (mm_E (some (.int (nI j))) h) := by
  refine mm_C_of (by decide +kernel) rfl (Nat.le_of_ble_eq_true rfl) rfl ?_
  refine mm_blk (pc' := 3) ok_Ob_checkIndex 3 _ _ _ rfl ?_
  refine mm_cSE ok_Ob_checkIndex (As := [.int (nI j), .int (nI n), .null]) rfl k_Ob_checkIndex_105 rfl (Nat.le_of_ble_eq_true rfl) (c_Pc_checkIndex hj hn) ?_
  exact mm_iret ok_Ob_checkIndex rfl rfl ⟨rfl, rfl⟩
set_option maxHeartbeats 1000000 in
theorem c_Al_size (ha : h a = some (oAl mc e n)) : mm_C G M_Al_size [.ref a] h 0 0 (mm_E (some (.int (nI n))) h) := by
  refine mm_C_of (by decide +kernel) rfl (Nat.le_of_ble_eq_true rfl) rfl ?_
  refine mm_blk (pc' := 1) ok_Al_size 1 _ _ _ rfl ?_
  refine mm_getf ok_Al_size ha rfl f_Al_48 rfl ?_
  exact mm_iret ok_Al_size rfl rfl ⟨rfl, rfl⟩
set_option maxHeartbeats 1000000 in
theorem c_Al_isEmpty (ha : h a = some (oAl mc e n)) : mm_C G M_Al_isEmpty [.ref a] h 0 0 (mm_E (some (.int (if nI n = 0 then 1 else 0))) h) := by
  refine mm_C_of (by decide +kernel) rfl (Nat.le_of_ble_eq_true rfl) rfl ?_
  refine mm_blk (pc' := 1) ok_Al_isEmpty 1 _ _ _ rfl ?_
  refine mm_getf ok_Al_isEmpty ha rfl f_Al_48 rfl ?_
  refine mm_ti_ne ok_Al_isEmpty 11 rfl (by decide) rfl rfl rfl (by decide) ?_
  exact mm_zret ok_Al_isEmpty rfl rfl mm_nb ⟨rfl, rfl⟩
set_option maxHeartbeats 1000000 in
theorem c_Al_elementData {j q : Nat} {vs : List Value} (ha : h a = some (oAl mc e n)) (he : h e = some (13, vs)) (hb : j < 2147483648) (hv : vs[j]? = some (.ref q)) : mm_C G M_Al_elementData [.ref a, .int (nI j)] h 0 0 (mm_E (some (.ref q)) h) := by
  refine mm_C_of (by decide +kernel) rfl (Nat.le_of_ble_eq_true rfl) rfl ?_
  refine mm_blk (pc' := 1) ok_Al_elementData 1 _ _ _ rfl ?_
  refine mm_getf ok_Al_elementData ha rfl f_Al_9 rfl ?_
  refine mm_blk (pc' := 5) ok_Al_elementData 1 _ _ _ rfl ?_
  refine mm_aald ok_Al_elementData he rfl rfl hb hv ?_
  exact mm_aret ok_Al_elementData rfl rfl (Or.inl ⟨_, rfl⟩) ⟨rfl, rfl⟩
set_option maxHeartbeats 1000000 in
theorem c_Al_get {j q : Nat} {vs : List Value} (ha : h a = some (oAl mc e n)) (he : h e = some (13, vs)) (hj : j < n) (hn : n < 2147483648) (hv : vs[j]? = some (.ref q)) : mm_C G M_Al_get [.ref a, .int (nI j)] h 0 0 (mm_E (some (.ref q)) h) := by
  refine mm_C_of (by decide +kernel) rfl (Nat.le_of_ble_eq_true rfl) rfl ?_
  refine mm_blk (pc' := 2) ok_Al_get 2 _ _ _ rfl ?_
  refine mm_getf ok_Al_get ha rfl f_Al_48 rfl ?_
  refine mm_cSE ok_Al_get (As := [.int (nI j), .int (nI n)]) rfl k_Al_get_118 rfl (Nat.le_of_ble_eq_true rfl) (c_Ob_checkIndex hj hn) ?_
  refine mm_blk (pc' := 11) ok_Al_get 3 _ _ _ rfl ?_
  refine mm_cVE ok_Al_get (As := [.int (nI j)]) rfl k_Al_get_123 ha rfl rfl rfl (Nat.le_of_ble_eq_true rfl) (c_Al_elementData ha he (by omega) hv) ?_
  exact mm_aret ok_Al_get rfl rfl (Or.inl ⟨_, rfl⟩) ⟨rfl, rfl⟩
set_option maxHeartbeats 1000000 in
theorem c_Ac_init : mm_C G M_Ac_init [.ref a] h 0 0 (mm_E none h) := by
  refine mm_C_of (by decide +kernel) rfl (Nat.le_of_ble_eq_true rfl) rfl ?_
  refine mm_blk (pc' := 1) ok_Ac_init 1 _ _ _ rfl ?_
  refine mm_oinit ok_Ac_init rfl oi_Ac_1 (Nat.le_of_ble_eq_true rfl) (by decide) (by decide) ?_
  exact mm_vret ok_Ac_init rfl rfl ⟨rfl, rfl⟩
set_option maxHeartbeats 1000000 in
theorem c_As_init {e0 v0 : Value} (ha : h a = some (0, [.int mc, e0, v0])) : mm_C G M_As_init [.ref a] h 0 0 (mm_E none (mm_up h a (0, [.int 0, e0, v0]))) := by
  refine mm_C_of (by decide +kernel) rfl (Nat.le_of_ble_eq_true rfl) rfl ?_
  refine mm_blk (pc' := 1) ok_As_init 1 _ _ _ rfl ?_
  refine mm_cIE ok_As_init (As := []) rfl k_As_init_1 rfl (Nat.le_of_ble_eq_true rfl) (c_Ac_init) ?_
  refine mm_blk (pc' := 6) ok_As_init 2 _ _ _ rfl ?_
  refine mm_putf ok_As_init ha rfl f_As_7 (Or.inl rfl) (mm_fit_I _) ?_
  exact mm_vret ok_As_init rfl rfl ⟨rfl, rfl⟩
set_option maxHeartbeats 1000000 in
theorem c_Al_init (ha : h a = some (0, mm_df 0)) : mm_C G M_Al_init [.ref a] h 0 0 (mm_E none (mm_up h a (oAl 0 (G.2.2.1 2) 0))) := by
  refine mm_C_of (by decide +kernel) rfl (Nat.le_of_ble_eq_true rfl) rfl ?_
  refine mm_blk (pc' := 1) ok_Al_init 1 _ _ _ rfl ?_
  refine mm_cIE ok_Al_init (As := []) rfl k_Al_init_1 rfl (Nat.le_of_ble_eq_true rfl) (c_As_init (mc := 0) (e0 := .null) (v0 := .int 0) ha) ?_
  refine mm_blk (pc' := 5) ok_Al_init 1 _ _ _ rfl ?_
  refine mm_gets ok_Al_init (k := 2) rfl gs_Al_39 rfl ?_
  refine mm_putf ok_Al_init (mm_up_self _ _ _) rfl f_Al_9 (Or.inl rfl) (mm_fit_AO _) ?_
  exact mm_vret ok_Al_init rfl rfl ⟨rfl, by simp only [mm_up_up]; rfl⟩
set_option maxHeartbeats 1000000 in
theorem c_Al_grow1 (ha : h a = some (oAl mc (G.2.2.1 2) 0)) : mm_C G M_Al_grow1 [.ref a, .int 1] h 1 10 (fun o h' => ∃ q, h q = none ∧ o = .inl (some (.ref q)) ∧ h' = mm_up (mm_up h q (13, List.replicate 10 .null)) a (oAl mc q 0)) := by
  refine mm_C_of (by decide +kernel) rfl (Nat.le_of_ble_eq_true rfl) rfl ?_
  refine mm_blk (pc' := 1) ok_Al_grow1 1 _ _ _ rfl ?_
  refine mm_getf ok_Al_grow1 ha rfl f_Al_9 rfl ?_
  refine mm_tlen (v := 0) ok_Al_grow1 (k := 2) rfl rfl rfl ?_
  refine mm_blk (pc' := 7) ok_Al_grow1 2 _ _ _ rfl ?_
  refine mm_if_gt ok_Al_grow1 20 rfl (by decide) (fun c => ?_) (fun c => ?_)
  · exact absurd c (by decide)
  refine mm_blk (pc' := 11) ok_Al_grow1 1 _ _ _ rfl ?_
  refine mm_getf ok_Al_grow1 ha rfl f_Al_9 rfl ?_
  refine mm_gets ok_Al_grow1 (k := 2) rfl gs_Al_39 rfl ?_
  refine mm_acmp_eq ok_Al_grow1 45 rfl (by decide) (fun _ => ?_) (fun c => absurd rfl c)
  refine mm_blk (pc' := 49) ok_Al_grow1 3 _ _ _ rfl ?_
  refine mm_max ok_Al_grow1 rfl mx_Al_79 (by decide) (Nat.le_of_ble_eq_true rfl) ?_
  refine mm_newO (kc := 0) (ks := 0) (N := 10) ok_Al_grow1 an_Al_7 rfl (by decide) (by decide) (fun q hq => ?_)
  have hne : a ≠ q := fun z => by rw [z, hq] at ha; cases ha
  refine mm_blk (pc' := 56) ok_Al_grow1 1 _ _ _ rfl ?_
  refine mm_putf ok_Al_grow1 ((mm_up_ne _ _ hne).trans ha) rfl f_Al_9 (Or.inl rfl) (mm_fit_AO _) ?_
  exact mm_aret ok_Al_grow1 rfl rfl (Or.inr ⟨_, rfl⟩) ⟨q, hq, rfl, rfl⟩
set_option maxHeartbeats 1000000 in
theorem c_Al_grow0 (ha : h a = some (oAl mc (G.2.2.1 2) 0)) : mm_C G M_Al_grow0 [.ref a] h 1 10 (fun o h' => ∃ q, h q = none ∧ o = .inl (some (.ref q)) ∧ h' = mm_up (mm_up h q (13, List.replicate 10 .null)) a (oAl mc q 0)) := by
  refine mm_C_of (by decide +kernel) rfl (Nat.le_of_ble_eq_true rfl) rfl ?_
  refine mm_blk (pc' := 2) ok_Al_grow0 2 _ _ _ rfl ?_
  refine mm_getf ok_Al_grow0 ha rfl f_Al_48 rfl ?_
  refine mm_blk (pc' := 7) ok_Al_grow0 2 _ _ _ rfl ?_
  refine mm_callV (kc := 0) (ks := 0) ok_Al_grow0 (As := [.int 1]) rfl k_Al_grow0_69 ha rfl rfl rfl (Nat.le_of_ble_eq_true rfl) (c_Al_grow1 ha) (fun E h' z => by obtain ⟨q, _, z, _⟩ := z; cases z) (fun v h' hq => ?_)
  obtain ⟨q, hq, e1, rfl⟩ := hq
  cases e1
  exact mm_aret ok_Al_grow0 rfl rfl (Or.inr ⟨_, rfl⟩) ⟨q, hq, rfl, rfl⟩
theorem mm_up_comm {h : mm_Hp} {a b : Nat} {o o' : mm_Ob} (hab : a ≠ b) : mm_up (mm_up h a o) b o' = mm_up (mm_up h b o') a o := by
  funext c
  unfold mm_up
  by_cases h1 : c = a
  · have h2 : ¬ c = b := fun z => hab (h1.symm.trans z)
    rw [if_neg h2, if_pos h1, if_pos h1]
  · rw [if_neg h1, if_neg h1]
set_option maxHeartbeats 1000000 in
theorem c_Al_add3_0 {b ci : Nat} {fs : List Value} {r : vw_C} (hb : h b = some (ci, fs)) (hr : mm_cl[ci]? = some r) (hca : mm_in (.castable r.1 "java/lang/Object") = true) (ha : h a = some (oAl mc (G.2.2.1 2) 0)) : mm_C G M_Al_add3 [.ref a, .ref b, .ref (G.2.2.1 2), .int 0] h 1 10 (fun o h' => ∃ q, h q = none ∧ o = .inl none ∧ h' = mm_up (mm_up h q (13, Value.ref b :: List.replicate 9 .null)) a (oAl mc q 1)) := by
  refine mm_C_of (by decide +kernel) rfl (Nat.le_of_ble_eq_true rfl) rfl ?_
  refine mm_blk (pc' := 2) ok_Al_add3 2 _ _ _ rfl ?_
  refine mm_tlen (v := 0) ok_Al_add3 (k := 2) rfl rfl rfl ?_
  refine mm_ic_ne ok_Al_add3 11 rfl (by decide) (fun c => ?_) (fun c => ?_)
  · exact absurd rfl c
  refine mm_blk (pc' := 7) ok_Al_add3 1 _ _ _ rfl ?_
  refine mm_callV (kc := 0) (ks := 0) ok_Al_add3 (As := []) rfl k_Al_add3_129 ha rfl rfl rfl (Nat.le_of_ble_eq_true rfl) (c_Al_grow0 ha) (fun E h' z => by obtain ⟨q, _, z, _⟩ := z; cases z) (fun v h' hq => ?_)
  obtain ⟨q, hq, e1, rfl⟩ := hq
  cases e1
  have hne : a ≠ q := fun z => by rw [z, hq] at ha; cases ha
  have hnb : b ≠ q := fun z => by rw [z, hq] at hb; cases hb
  refine mm_blk (pc' := 14) ok_Al_add3 4 _ _ _ rfl ?_
  have hab : h b = some (ci, fs) := hb
  by_cases hba : b = a
  · exfalso; rw [hba, ha] at hb; cases hb; cases hr; exact absurd hca (by decide +kernel)
  refine mm_aast (j := 0) ok_Al_add3 ((mm_up_ne _ _ (Ne.symm hne)).trans (mm_up_self _ _ _)) ((mm_up_ne _ _ hba).trans ((mm_up_ne _ _ hnb).trans hb)) hr hca rfl rfl (by decide) (by decide) ?_
  refine mm_blk (pc' := 19) ok_Al_add3 4 _ _ _ rfl ?_
  refine mm_putf ok_Al_add3 ((mm_up_ne _ _ hne).trans (mm_up_self _ _ _)) rfl f_Al_48 (Or.inl rfl) (mm_fit_I _) ?_
  exact mm_vret ok_Al_add3 rfl rfl ⟨q, hq, rfl, by rw [mm_up_comm (Ne.symm hne), mm_up_up, mm_up_comm hne, mm_up_up]; rfl⟩
set_option maxHeartbeats 1000000 in
theorem c_Al_add3_1 {b ci : Nat} {fs : List Value} {r : vw_C} (hb : h b = some (ci, fs)) (hr : mm_cl[ci]? = some r) (hca : mm_in (.castable r.1 "java/lang/Object") = true) {vs : List Value} (ha : h a = some (oAl mc e n)) (he : h e = some (13, vs)) (hl : vs.length = 10) (hn : n < 10) : mm_C G M_Al_add3 [.ref a, .ref b, .ref e, .int (nI n)] h 0 0 (mm_E none (mm_up (mm_up h e (13, vs.set n (.ref b))) a (oAl mc e (n + 1)))) := by
  refine mm_C_of (by decide +kernel) rfl (Nat.le_of_ble_eq_true rfl) rfl ?_
  refine mm_blk (pc' := 2) ok_Al_add3 2 _ _ _ rfl ?_
  refine mm_alen (v := nI 10) ok_Al_add3 he (Or.inr rfl) rfl (by rw [hl]) ?_
  refine mm_ic_ne ok_Al_add3 11 rfl (by decide) (fun c => ?_) (fun c => ?_)
  rotate_left
  · exact absurd c (fun z => by have := (nI_eq (by omega) (by omega)).mp z; omega)
  refine mm_blk (pc' := 14) ok_Al_add3 3 _ _ _ rfl ?_
  have hne : a ≠ e := fun z => by rw [z, he] at ha; cases ha
  refine mm_aast (j := n) ok_Al_add3 he hb hr hca rfl rfl (by omega) (by omega) ?_
  refine mm_blk (pc' := 19) ok_Al_add3 4 _ _ _ rfl ?_
  refine mm_putf ok_Al_add3 ((mm_up_ne _ _ hne).trans ha) rfl f_Al_48 (Or.inl rfl) (mm_fit_I _) ?_
  exact mm_vret ok_Al_add3 rfl rfl ⟨rfl, by unfold oAl; rw [← nI_1]; rfl⟩
set_option maxHeartbeats 1000000 in
theorem c_Al_add_0 {b ci : Nat} {fs : List Value} {r : vw_C} (hb : h b = some (ci, fs)) (hr : mm_cl[ci]? = some r) (hca : mm_in (.castable r.1 "java/lang/Object") = true) (ha : h a = some (oAl mc (G.2.2.1 2) 0)) (hba : b ≠ a) : mm_C G M_Al_add [.ref a, .ref b] h 1 10 (fun o h' => ∃ q, h q = none ∧ o = .inl (some (.int 1)) ∧ h' = mm_up (mm_up h q (13, Value.ref b :: List.replicate 9 .null)) a (oAl (mc + 1) q 1)) := by
  refine mm_C_of (by decide +kernel) rfl (Nat.le_of_ble_eq_true rfl) rfl ?_
  refine mm_blk (pc' := 2) ok_Al_add 2 _ _ _ rfl ?_
  refine mm_getf ok_Al_add ha rfl f_Al_63 rfl ?_
  refine mm_blk (pc' := 7) ok_Al_add 2 _ _ _ rfl ?_
  refine mm_putf ok_Al_add ha rfl f_Al_63 (Or.inl rfl) (mm_fit_I _) ?_
  refine mm_blk (pc' := 13) ok_Al_add 3 _ _ _ rfl ?_
  refine mm_getf ok_Al_add (mm_up_self _ _ _) rfl f_Al_9 rfl ?_
  refine mm_blk (pc' := 17) ok_Al_add 1 _ _ _ rfl ?_
  refine mm_getf ok_Al_add (mm_up_self _ _ _) rfl f_Al_48 rfl ?_
  refine mm_callV (kc := 0) (ks := 0) ok_Al_add (As := [.ref b, .ref (G.2.2.1 2), .int 0]) rfl k_Al_add_131 (mm_up_self _ _ _) rfl rfl rfl (Nat.le_of_ble_eq_true rfl) (c_Al_add3_0 (mc := mc + 1) ((mm_up_ne _ _ hba).trans hb) hr hca (mm_up_self _ _ _)) (fun E h' z => by obtain ⟨q, _, z, _⟩ := z; cases z) (fun v h' hq => ?_)
  obtain ⟨q, hq, e1, rfl⟩ := hq
  cases e1
  have hqa : q ≠ a := fun z => by rw [z, mm_up_self] at hq; cases hq
  refine mm_blk (pc' := 24) ok_Al_add 1 _ _ _ rfl ?_
  exact mm_zret ok_Al_add rfl rfl rfl ⟨q, by rw [mm_up_ne _ _ hqa] at hq; exact hq, rfl, by rw [mm_up_comm (Ne.symm hqa), mm_up_up]⟩
set_option maxHeartbeats 1000000 in
theorem c_Al_add_1 {b ci : Nat} {fs : List Value} {r : vw_C} (hb : h b = some (ci, fs)) (hr : mm_cl[ci]? = some r) (hca : mm_in (.castable r.1 "java/lang/Object") = true) {vs : List Value} (ha : h a = some (oAl mc e n)) (he : h e = some (13, vs)) (hl : vs.length = 10) (hn : n < 10) (hba : b ≠ a) : mm_C G M_Al_add [.ref a, .ref b] h 0 0 (mm_E (some (.int 1)) (mm_up (mm_up h e (13, vs.set n (.ref b))) a (oAl (mc + 1) e (n + 1)))) := by
  refine mm_C_of (by decide +kernel) rfl (Nat.le_of_ble_eq_true rfl) rfl ?_
  have hne : a ≠ e := fun z => by rw [z, he] at ha; cases ha
  refine mm_blk (pc' := 2) ok_Al_add 2 _ _ _ rfl ?_
  refine mm_getf ok_Al_add ha rfl f_Al_63 rfl ?_
  refine mm_blk (pc' := 7) ok_Al_add 2 _ _ _ rfl ?_
  refine mm_putf ok_Al_add ha rfl f_Al_63 (Or.inl rfl) (mm_fit_I _) ?_
  refine mm_blk (pc' := 13) ok_Al_add 3 _ _ _ rfl ?_
  refine mm_getf ok_Al_add (mm_up_self _ _ _) rfl f_Al_9 rfl ?_
  refine mm_blk (pc' := 17) ok_Al_add 1 _ _ _ rfl ?_
  refine mm_getf ok_Al_add (mm_up_self _ _ _) rfl f_Al_48 rfl ?_
  refine mm_cVE ok_Al_add (As := [.ref b, .ref e, .int (nI n)]) rfl k_Al_add_131 (mm_up_self _ _ _) rfl rfl rfl (Nat.le_of_ble_eq_true rfl) (c_Al_add3_1 (mc := mc + 1) ((mm_up_ne _ _ hba).trans hb) hr hca (mm_up_self _ _ _) ((mm_up_ne _ _ (Ne.symm hne)).trans he) hl hn) ?_
  refine mm_blk (pc' := 24) ok_Al_add 1 _ _ _ rfl ?_
  exact mm_zret ok_Al_add rfl rfl rfl ⟨rfl, by rw [mm_up_comm hne, mm_up_up]⟩
end AL
