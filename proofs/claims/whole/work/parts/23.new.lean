/-! the class: a new bench -/
section CB8
variable {G : mm_G} {h : mm_Hp}
def c_K0 (G : mm_G) (a q1 q3 q5 q6 : Nat) : Nat → Nat := fun n => if n = 0 then a else if n = 1 then q1 else if n = 3 then q3 else if n = 5 then q5 else if n = 6 then q6 else G.2.2.1 2
theorem new_CP {a q1 q3 q5 q6 : Nat} {X : mm_Hp} (d1 : a ≠ q1) (d3 : a ≠ q3) (d5 : a ≠ q5) (d6 : a ≠ q6) (e3 : q1 ≠ q3) (e5 : q1 ≠ q5) (e6 : q1 ≠ q6) (g5 : q3 ≠ q5) (g6 : q3 ≠ q6) (i6 : q5 ≠ q6)
    (x0 : X a = some (3, [.ref q1, .ref q3, .int 0, .int 0, .ref q5, .ref q6, .int 0, .int 0])) (x1 : X q1 = some (oAl 0 (G.2.2.1 2) 0)) (x3 : X q3 = some (oAl 0 (G.2.2.1 2) 0)) (x5 : X q5 = some (10, List.replicate 5 (.int 0))) (x6 : X q6 = some (10, List.replicate 4 (.int 0)))
    (xo : ∀ b, b ≠ a → b ≠ q1 → b ≠ q3 → b ≠ q5 → b ≠ q6 → X b = h b) : c_wf G (c_K0 G a q1 q3 q5 q6) c_new ∧ X = CP (c_K0 G a q1 q3 q5 q6) c_new h := by
  have hi : mm_inj (cdom 0 0) (c_K0 G a q1 q3 q5 q6) := by
    have e : cdom 0 0 = [0, 1, 3, 5, 6] := by decide
    rw [e]
    intro m hm n hn z
    simp only [List.mem_cons, List.not_mem_nil, or_false] at hm hn
    rcases hm with rfl | rfl | rfl | rfl | rfl <;> rcases hn with rfl | rfl | rfl | rfl | rfl
    · rfl
    · exact absurd (show a = q1 from z) d1
    · exact absurd (show a = q3 from z) d3
    · exact absurd (show a = q5 from z) d5
    · exact absurd (show a = q6 from z) d6
    · exact absurd (show q1 = a from z) (Ne.symm d1)
    · rfl
    · exact absurd (show q1 = q3 from z) e3
    · exact absurd (show q1 = q5 from z) e5
    · exact absurd (show q1 = q6 from z) e6
    · exact absurd (show q3 = a from z) (Ne.symm d3)
    · exact absurd (show q3 = q1 from z) (Ne.symm e3)
    · rfl
    · exact absurd (show q3 = q5 from z) g5
    · exact absurd (show q3 = q6 from z) g6
    · exact absurd (show q5 = a from z) (Ne.symm d5)
    · exact absurd (show q5 = q1 from z) (Ne.symm e5)
    · exact absurd (show q5 = q3 from z) (Ne.symm g5)
    · rfl
    · exact absurd (show q5 = q6 from z) i6
    · exact absurd (show q6 = a from z) (Ne.symm d6)
    · exact absurd (show q6 = q1 from z) (Ne.symm e6)
    · exact absurd (show q6 = q3 from z) (Ne.symm g6)
    · exact absurd (show q6 = q5 from z) (Ne.symm i6)
    · rfl
  refine ⟨⟨Nat.zero_le _, Nat.zero_le _, hi, fun _ => rfl, fun _ => rfl, fun j hj => absurd hj (Nat.not_lt_zero _)⟩, ?_⟩
  refine pl_ext (dom' := cdom 0 0) hi (fun n hn => ?_) (fun b hb => ?_)
  · have e : cdom 0 0 = [0, 1, 3, 5, 6] := by decide
    rw [e] at hn
    simp only [List.mem_cons, List.not_mem_nil, or_false] at hn
    rcases hn with rfl | rfl | rfl | rfl | rfl
    · exact x0
    · exact x1
    · exact x3
    · exact x5
    · exact x6
  · exact xo b (Ne.symm (hb 0 (by decide))) (Ne.symm (hb 1 (by decide))) (Ne.symm (hb 3 (by decide))) (Ne.symm (hb 5 (by decide))) (Ne.symm (hb 6 (by decide)))
theorem new_fin {a q1 q3 q5 q6 : Nat} {X : mm_Hp} (hq1 : h q1 = none) (hq3 : h q3 = none) (hq5 : h q5 = none) (hq6 : h q6 = none) (d1 : a ≠ q1) (d3 : a ≠ q3) (d5 : a ≠ q5) (d6 : a ≠ q6) (e3 : q1 ≠ q3) (e5 : q1 ≠ q5) (e6 : q1 ≠ q6) (g5 : q3 ≠ q5) (g6 : q3 ≠ q6) (i6 : q5 ≠ q6)
    (x0 : X a = some (3, [.ref q1, .ref q3, .int 0, .int 0, .ref q5, .ref q6, .int 0, .int 0])) (x1 : X q1 = some (oAl 0 (G.2.2.1 2) 0)) (x3 : X q3 = some (oAl 0 (G.2.2.1 2) 0)) (x5 : X q5 = some (10, List.replicate 5 (.int 0))) (x6 : X q6 = some (10, List.replicate 4 (.int 0)))
    (xo : ∀ b, b ≠ a → b ≠ q1 → b ≠ q3 → b ≠ q5 → b ≠ q6 → X b = h b) : ∃ K, c_wf G K c_new ∧ K 0 = a ∧ h (K 1) = none ∧ h (K 3) = none ∧ h (K 5) = none ∧ h (K 6) = none ∧ (Sum.inl none : mm_O) = .inl none ∧ X = CP K c_new h :=
  ⟨_, (new_CP d1 d3 d5 d6 e3 e5 e6 g5 g6 i6 x0 x1 x3 x5 x6 xo).1, rfl, hq1, hq3, hq5, hq6, rfl, (new_CP d1 d3 d5 d6 e3 e5 e6 g5 g6 i6 x0 x1 x3 x5 x6 xo).2⟩

set_option maxHeartbeats 2000000 in
theorem c_Cb_init {a : Nat} (ha : h a = some (3, mm_df 3)) : mm_C G M_Cb_init [.ref a] h 4 15 (fun o h' => ∃ K, c_wf G K c_new ∧ K 0 = a ∧ h (K 1) = none ∧ h (K 3) = none ∧ h (K 5) = none ∧ h (K 6) = none ∧ o = .inl none ∧ h' = CP K c_new h) := by
  refine mm_C_of (by decide +kernel) rfl (Nat.le_of_ble_eq_true rfl) rfl ?_
  refine mm_blk (pc' := 1) ok_Cb_init 1 _ _ _ rfl ?_
  refine mm_oinit ok_Cb_init rfl oi_Cb_3 (Nat.le_of_ble_eq_true rfl) (by decide) (by decide) ?_
  refine mm_blk (pc' := 5) ok_Cb_init 1 _ _ _ rfl ?_
  refine mm_V_wid (k1 := 1 + 3) (k2 := 3 + 12) (by omega) (by omega) ?_
  refine mm_new (kc := 3) (ks := 12) ok_Cb_init n_Cb_9 rfl (fun q1 hq1 => ?_)
  have d1 : a ≠ q1 := cp_ne hq1 ha
  refine mm_blk (pc' := 9) ok_Cb_init 1 _ _ _ rfl ?_
  refine mm_cIE ok_Cb_init (As := []) rfl k_Cb_init_11 rfl (Nat.le_of_ble_eq_true rfl) (c_Al_init (mm_up_self _ _ _)) ?_
  rw [mm_up_up]
  refine mm_putf ok_Cb_init ((mm_up_ne _ _ d1).trans ha) rfl f_Cb_12 (Or.inr ⟨rfl, rfl, rfl⟩) (mm_fit_L _) ?_
  refine mm_blk (pc' := 16) ok_Cb_init 1 _ _ _ rfl ?_
  refine mm_V_wid (k1 := 1 + 2) (k2 := 3 + 9) (by omega) (by omega) ?_
  refine mm_new (kc := 2) (ks := 9) ok_Cb_init n_Cb_9 rfl (fun q3 hq3 => ?_)
  have d3 : a ≠ q3 := cp_ne hq3 (mm_up_self _ _ _)
  rw [mm_up_ne _ _ (Ne.symm d3)] at hq3
  have e3 : q1 ≠ q3 := cp_ne hq3 (mm_up_self _ _ _)
  rw [mm_up_ne _ _ (Ne.symm e3)] at hq3
  refine mm_blk (pc' := 20) ok_Cb_init 1 _ _ _ rfl ?_
  refine mm_cIE ok_Cb_init (As := []) rfl k_Cb_init_11 rfl (Nat.le_of_ble_eq_true rfl) (c_Al_init (mm_up_self _ _ _)) ?_
  rw [mm_up_up]
  refine mm_putf ok_Cb_init ((mm_up_ne _ _ d3).trans (mm_up_self _ _ _)) rfl f_Cb_16 (Or.inr ⟨rfl, rfl, rfl⟩) (mm_fit_L _) ?_
  refine mm_blk (pc' := 28) ok_Cb_init 2 _ _ _ rfl ?_
  refine mm_putf ok_Cb_init (mm_up_self _ _ _) rfl f_Cb_19 (Or.inl rfl) (mm_fit_I _) ?_
  refine mm_blk (pc' := 33) ok_Cb_init 2 _ _ _ rfl ?_
  refine mm_V_wid (k1 := 1 + 1) (k2 := 5 + 4) (by omega) (by omega) ?_
  refine mm_newI (kc := 1) (ks := 4) (N := 5) ok_Cb_init ac_I rfl rfl (by decide) (fun q5 hq5 => ?_)
  rw [mm_up_up] at hq5
  have d5 : a ≠ q5 := cp_ne hq5 (mm_up_self _ _ _)
  rw [mm_up_ne _ _ (Ne.symm d5)] at hq5
  have g5 : q3 ≠ q5 := cp_ne hq5 (mm_up_self _ _ _)
  rw [mm_up_ne _ _ (Ne.symm g5), mm_up_ne _ _ (Ne.symm d5)] at hq5
  have e5 : q1 ≠ q5 := cp_ne hq5 (mm_up_self _ _ _)
  rw [mm_up_ne _ _ (Ne.symm e5)] at hq5
  refine mm_putf ok_Cb_init ((mm_up_ne _ _ d5).trans (mm_up_self _ _ _)) rfl f_Cb_23 (Or.inr ⟨rfl, rfl, rfl⟩) (mm_fit_AI _) ?_
  refine mm_blk (pc' := 40) ok_Cb_init 2 _ _ _ rfl ?_
  refine mm_V_wid (k1 := 1 + 0) (k2 := 4 + 0) (by omega) (by omega) ?_
  refine mm_newI (kc := 0) (ks := 0) (N := 4) ok_Cb_init ac_I rfl rfl (by decide) (fun q6 hq6 => ?_)
  have d6 : a ≠ q6 := cp_ne hq6 (mm_up_self _ _ _)
  rw [mm_up_ne _ _ (Ne.symm d6)] at hq6
  have i6 : q5 ≠ q6 := cp_ne hq6 (mm_up_self _ _ _)
  rw [mm_up_ne _ _ (Ne.symm i6), mm_up_up, mm_up_ne _ _ (Ne.symm d6)] at hq6
  have g6 : q3 ≠ q6 := cp_ne hq6 (mm_up_self _ _ _)
  rw [mm_up_ne _ _ (Ne.symm g6), mm_up_ne _ _ (Ne.symm d6)] at hq6
  have e6 : q1 ≠ q6 := cp_ne hq6 (mm_up_self _ _ _)
  rw [mm_up_ne _ _ (Ne.symm e6)] at hq6
  refine mm_putf ok_Cb_init ((mm_up_ne _ _ d6).trans (mm_up_self _ _ _)) rfl f_Cb_27 (Or.inr ⟨rfl, rfl, rfl⟩) (mm_fit_AI _) ?_
  refine mm_vret ok_Cb_init rfl rfl ?_
  refine new_fin (G := G) (h := h) (a := a) (q1 := q1) (q3 := q3) (q5 := q5) (q6 := q6) hq1 hq3 hq5 hq6 d1 d3 d5 d6 e3 e5 e6 g5 g6 i6 (mm_up_self _ _ _)
    ((mm_up_ne _ _ (Ne.symm d1)).trans ((mm_up_ne _ _ e6).trans ((mm_up_ne _ _ (Ne.symm d1)).trans ((mm_up_ne _ _ e5).trans ((mm_up_ne _ _ (Ne.symm d1)).trans ((mm_up_ne _ _ (Ne.symm d1)).trans ((mm_up_ne _ _ e3).trans ((mm_up_ne _ _ (Ne.symm d1)).trans (mm_up_self _ _ _)))))))))
    ((mm_up_ne _ _ (Ne.symm d3)).trans ((mm_up_ne _ _ g6).trans ((mm_up_ne _ _ (Ne.symm d3)).trans ((mm_up_ne _ _ g5).trans ((mm_up_ne _ _ (Ne.symm d3)).trans ((mm_up_ne _ _ (Ne.symm d3)).trans (mm_up_self _ _ _)))))))
    ((mm_up_ne _ _ (Ne.symm d5)).trans ((mm_up_ne _ _ i6).trans ((mm_up_ne _ _ (Ne.symm d5)).trans (mm_up_self _ _ _))))
    ((mm_up_ne _ _ (Ne.symm d6)).trans (mm_up_self _ _ _))
    (fun b b0 b1 b3 b5 b6 => (mm_up_ne _ _ b0).trans ((mm_up_ne _ _ b6).trans ((mm_up_ne _ _ b0).trans ((mm_up_ne _ _ b5).trans ((mm_up_ne _ _ b0).trans ((mm_up_ne _ _ b0).trans ((mm_up_ne _ _ b3).trans ((mm_up_ne _ _ b0).trans (mm_up_ne _ _ b1)))))))))
end CB8
