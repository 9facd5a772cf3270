/-! Net -/
/-- a net: the devices that it goes from and to, what it is shorted with, its numbers: 1 fromCell 3 toCell 4 faultKind 6 seen -/
def oNt (f t : Nat) (s : Option Nat) (n : Nat → Int32) : mm_Ob := (2, [.ref f, .int (n 1), .ref t, .int (n 3), .int (n 4), va_rf s, .int (n 6)])
section NT
variable {G : mm_G} {h : mm_Hp} {a f t : Nat} {n : Nat → Int32}
/-- the bit that a driver puts out -/
def nt_bit (d : Nat → Int32) (cell : Int32) : Int32 := mm_ushr (dv_out d) cell &&& 1
/-- what a net carries: its kind, its own driver's bit, the other one's -/
def nt_car (k own : Int32) (oth : Option Int32) : Int32 := if k = 0 then 0 else if k = 1 then 1 else match oth with
  | none => if own = 1 then 1 else 0
  | some o => if (if k = 2 then own &&& o else own ||| o) = 1 then 1 else 0

set_option maxHeartbeats 1000000 in
theorem c_Nt_init (ha : h a = some (2, mm_df 2)) (f t : Nat) (i j : Int32) : mm_C G M_Nt_init [.ref a, .ref f, .int i, .ref t, .int j] h 0 0 (mm_E none (mm_up h a (oNt f t none (fun k => if k = 1 then i else if k = 3 then j else if k = 4 then -1 else 0)))) := by
  refine mm_C_of (by decide +kernel) rfl (Nat.le_of_ble_eq_true rfl) rfl ?_
  refine mm_blk (pc' := 1) ok_Nt_init 1 _ _ _ rfl ?_
  refine mm_oinit ok_Nt_init rfl oi_Nt_3 (Nat.le_of_ble_eq_true rfl) (by decide) (by decide) ?_
  refine mm_blk (pc' := 6) ok_Nt_init 2 _ _ _ rfl ?_
  refine mm_putf ok_Nt_init ha rfl f_Nt_9 (Or.inr ⟨rfl, rfl, rfl⟩) (mm_fit_D _) ?_
  refine mm_blk (pc' := 11) ok_Nt_init 2 _ _ _ rfl ?_
  refine mm_putf ok_Nt_init (mm_up_self _ _ _) rfl f_Nt_15 (Or.inr ⟨rfl, rfl, rfl⟩) (mm_fit_I _) ?_
  refine mm_blk (pc' := 16) ok_Nt_init 2 _ _ _ rfl ?_
  refine mm_putf ok_Nt_init (mm_up_self _ _ _) rfl f_Nt_19 (Or.inr ⟨rfl, rfl, rfl⟩) (mm_fit_D _) ?_
  refine mm_blk (pc' := 22) ok_Nt_init 2 _ _ _ rfl ?_
  refine mm_putf ok_Nt_init (mm_up_self _ _ _) rfl f_Nt_22 (Or.inr ⟨rfl, rfl, rfl⟩) (mm_fit_I _) ?_
  refine mm_blk (pc' := 27) ok_Nt_init 2 _ _ _ rfl ?_
  refine mm_putf ok_Nt_init (mm_up_self _ _ _) rfl f_Nt_25 (Or.inl rfl) (mm_fit_I _) ?_
  exact mm_vret ok_Nt_init rfl rfl ⟨rfl, by simp only [mm_up_up]; rfl⟩
set_option maxHeartbeats 1000000 in
theorem c_Nt_carries0 {d : Nat → Int32} (ha : h a = some (oNt f t none n)) (hf : h f = some (oDv d)) : mm_C G M_Nt_carries [.ref a] h 0 0 (mm_E (some (.int (nt_car (n 4) (nt_bit d (n 1)) none))) h) := by
  refine mm_C_of (by decide +kernel) rfl (Nat.le_of_ble_eq_true rfl) rfl ?_
  refine mm_blk (pc' := 1) ok_Nt_carries 1 _ _ _ rfl ?_
  refine mm_getf ok_Nt_carries ha rfl f_Nt_25 rfl ?_
  refine mm_if_ne ok_Nt_carries 9 rfl (by decide) (fun c4 => ?_) (fun c4 => ?_)
  · -- 9 t
    refine mm_blk (pc' := 10) ok_Nt_carries 1 _ _ _ rfl ?_
    refine mm_getf ok_Nt_carries ha rfl f_Nt_25 rfl ?_
    refine mm_blk (pc' := 14) ok_Nt_carries 1 _ _ _ rfl ?_
    refine mm_ic_ne ok_Nt_carries 19 rfl (by decide) (fun c14 => ?_) (fun c14 => ?_)
    · -- 19 t
      refine mm_blk (pc' := 20) ok_Nt_carries 1 _ _ _ rfl ?_
      refine mm_getf ok_Nt_carries ha rfl f_Nt_9 rfl ?_
      refine mm_cVE ok_Nt_carries (As := []) rfl k_Nt_carries_28 hf rfl rfl rfl (Nat.le_of_ble_eq_true rfl) (c_Dv_outputs hf) ?_
      refine mm_blk (pc' := 27) ok_Nt_carries 1 _ _ _ rfl ?_
      refine mm_getf ok_Nt_carries ha rfl f_Nt_15 rfl ?_
      refine mm_blk (pc' := 35) ok_Nt_carries 5 _ _ _ rfl ?_
      refine mm_getf ok_Nt_carries ha rfl f_Nt_34 rfl ?_
      refine mm_ifnonnullN ok_Nt_carries rfl ?_
      refine mm_blk (pc' := 43) ok_Nt_carries 2 _ _ _ rfl ?_
      refine mm_tc_ne ok_Nt_carries 50 rfl (by decide) rfl rfl rfl (by decide) ?_
      exact mm_zret ok_Nt_carries rfl rfl mm_nb ⟨by unfold nt_car; rw [if_neg c4, if_neg c14]; rfl, rfl⟩
    · -- 17 f
      refine mm_blk (pc' := 18) ok_Nt_carries 1 _ _ _ rfl ?_
      exact mm_zret ok_Nt_carries rfl rfl rfl ⟨by unfold nt_car; rw [if_neg c4, if_pos c14], rfl⟩
  · -- 7 f
    refine mm_blk (pc' := 8) ok_Nt_carries 1 _ _ _ rfl ?_
    exact mm_zret ok_Nt_carries rfl rfl rfl ⟨by unfold nt_car; rw [if_pos c4], rfl⟩
set_option maxHeartbeats 1000000 in
theorem c_Nt_carries1 {d d2 : Nat → Int32} {b f2 t2 : Nat} {s2 : Option Nat} {n2 : Nat → Int32} (ha : h a = some (oNt f t (some b) n)) (hf : h f = some (oDv d)) (hb : h b = some (oNt f2 t2 s2 n2)) (hf2 : h f2 = some (oDv d2)) : mm_C G M_Nt_carries [.ref a] h 0 0 (mm_E (some (.int (nt_car (n 4) (nt_bit d (n 1)) (some (nt_bit d2 (n2 1)))))) h) := by
  refine mm_C_of (by decide +kernel) rfl (Nat.le_of_ble_eq_true rfl) rfl ?_
  refine mm_blk (pc' := 1) ok_Nt_carries 1 _ _ _ rfl ?_
  refine mm_getf ok_Nt_carries ha rfl f_Nt_25 rfl ?_
  refine mm_if_ne ok_Nt_carries 9 rfl (by decide) (fun c4 => ?_) (fun c4 => ?_)
  · -- 9 t
    refine mm_blk (pc' := 10) ok_Nt_carries 1 _ _ _ rfl ?_
    refine mm_getf ok_Nt_carries ha rfl f_Nt_25 rfl ?_
    refine mm_blk (pc' := 14) ok_Nt_carries 1 _ _ _ rfl ?_
    refine mm_ic_ne ok_Nt_carries 19 rfl (by decide) (fun c14 => ?_) (fun c14 => ?_)
    · -- 19 t
      refine mm_blk (pc' := 20) ok_Nt_carries 1 _ _ _ rfl ?_
      refine mm_getf ok_Nt_carries ha rfl f_Nt_9 rfl ?_
      refine mm_cVE ok_Nt_carries (As := []) rfl k_Nt_carries_28 hf rfl rfl rfl (Nat.le_of_ble_eq_true rfl) (c_Dv_outputs hf) ?_
      refine mm_blk (pc' := 27) ok_Nt_carries 1 _ _ _ rfl ?_
      refine mm_getf ok_Nt_carries ha rfl f_Nt_15 rfl ?_
      refine mm_blk (pc' := 35) ok_Nt_carries 5 _ _ _ rfl ?_
      refine mm_getf ok_Nt_carries ha rfl f_Nt_34 rfl ?_
      refine mm_ifnonnull ok_Nt_carries 52 rfl (by decide) ?_
      refine mm_blk (pc' := 53) ok_Nt_carries 1 _ _ _ rfl ?_
      refine mm_getf ok_Nt_carries ha rfl f_Nt_34 rfl ?_
      refine mm_getf ok_Nt_carries hb rfl f_Nt_9 rfl ?_
      refine mm_cVE ok_Nt_carries (As := []) rfl k_Nt_carries_28 hf2 rfl rfl rfl (Nat.le_of_ble_eq_true rfl) (c_Dv_outputs hf2) ?_
      refine mm_blk (pc' := 63) ok_Nt_carries 1 _ _ _ rfl ?_
      refine mm_getf ok_Nt_carries ha rfl f_Nt_34 rfl ?_
      refine mm_getf ok_Nt_carries hb rfl f_Nt_15 rfl ?_
      refine mm_blk (pc' := 74) ok_Nt_carries 5 _ _ _ rfl ?_
      refine mm_getf ok_Nt_carries ha rfl f_Nt_25 rfl ?_
      refine mm_blk (pc' := 78) ok_Nt_carries 1 _ _ _ rfl ?_
      refine mm_ic_ne ok_Nt_carries 87 rfl (by decide) (fun c78 => ?_) (fun c78 => ?_)
      · -- 87 t
        refine mm_blk (pc' := 91) ok_Nt_carries 4 _ _ _ rfl ?_
        refine mm_tc_ne ok_Nt_carries 98 rfl (by decide) rfl rfl rfl (by decide) ?_
        exact mm_zret ok_Nt_carries rfl rfl mm_nb ⟨by unfold nt_car; rw [if_neg c4, if_neg c14]; first | (simp only [if_pos c78]; rfl) | (simp only [if_neg c78]; rfl), rfl⟩
      · -- 81 f
        refine mm_blk (pc' := 91) ok_Nt_carries 5 _ _ _ rfl ?_
        refine mm_tc_ne ok_Nt_carries 98 rfl (by decide) rfl rfl rfl (by decide) ?_
        exact mm_zret ok_Nt_carries rfl rfl mm_nb ⟨by unfold nt_car; rw [if_neg c4, if_neg c14]; first | (simp only [if_pos c78]; rfl) | (simp only [if_neg c78]; rfl), rfl⟩
    · -- 17 f
      refine mm_blk (pc' := 18) ok_Nt_carries 1 _ _ _ rfl ?_
      exact mm_zret ok_Nt_carries rfl rfl rfl ⟨by unfold nt_car; rw [if_neg c4, if_pos c14], rfl⟩
  · -- 7 f
    refine mm_blk (pc' := 8) ok_Nt_carries 1 _ _ _ rfl ?_
    exact mm_zret ok_Nt_carries rfl rfl rfl ⟨by unfold nt_car; rw [if_pos c4], rfl⟩
set_option maxHeartbeats 1000000 in
theorem c_Nt_mend0 (ha : h a = some (oNt f t none n)) : mm_C G M_Nt_mend [.ref a] h 0 0 (mm_E none (mm_up h a (oNt f t none (upd n 4 (-1))))) := by
  refine mm_C_of (by decide +kernel) rfl (Nat.le_of_ble_eq_true rfl) rfl ?_
  refine mm_blk (pc' := 1) ok_Nt_mend 1 _ _ _ rfl ?_
  refine mm_getf ok_Nt_mend ha rfl f_Nt_34 rfl ?_
  refine mm_ifnullN ok_Nt_mend 23 rfl (by decide) ?_
  refine mm_blk (pc' := 25) ok_Nt_mend 2 _ _ _ rfl ?_
  refine mm_putf ok_Nt_mend ha rfl f_Nt_25 (Or.inl rfl) (mm_fit_I _) ?_
  refine mm_blk (pc' := 30) ok_Nt_mend 2 _ _ _ rfl ?_
  refine mm_putf ok_Nt_mend (mm_up_self _ _ _) rfl f_Nt_34 (Or.inl rfl) mm_fit_Nn ?_
  exact mm_vret ok_Nt_mend rfl rfl ⟨rfl, by simp only [mm_up_up]; rfl⟩
set_option maxHeartbeats 1000000 in
theorem c_Nt_mend1 {b f2 t2 : Nat} {s2 : Option Nat} {n2 : Nat → Int32} (ha : h a = some (oNt f t (some b) n)) (hb : h b = some (oNt f2 t2 s2 n2)) (hab : a ≠ b) : mm_C G M_Nt_mend [.ref a] h 0 0 (mm_E none (mm_up (mm_up h b (oNt f2 t2 none (upd n2 4 (-1)))) a (oNt f t none (upd n 4 (-1))))) := by
  refine mm_C_of (by decide +kernel) rfl (Nat.le_of_ble_eq_true rfl) rfl ?_
  refine mm_blk (pc' := 1) ok_Nt_mend 1 _ _ _ rfl ?_
  refine mm_getf ok_Nt_mend ha rfl f_Nt_34 rfl ?_
  refine mm_ifnull ok_Nt_mend rfl ?_
  refine mm_blk (pc' := 8) ok_Nt_mend 1 _ _ _ rfl ?_
  refine mm_getf ok_Nt_mend ha rfl f_Nt_34 rfl ?_
  refine mm_blk (pc' := 12) ok_Nt_mend 1 _ _ _ rfl ?_
  refine mm_putf ok_Nt_mend hb rfl f_Nt_25 (Or.inl rfl) (mm_fit_I _) ?_
  refine mm_blk (pc' := 16) ok_Nt_mend 1 _ _ _ rfl ?_
  refine mm_getf ok_Nt_mend ((mm_up_ne _ _ hab).trans ha) rfl f_Nt_34 rfl ?_
  refine mm_blk (pc' := 20) ok_Nt_mend 1 _ _ _ rfl ?_
  refine mm_putf ok_Nt_mend (mm_up_self _ _ _) rfl f_Nt_34 (Or.inl rfl) mm_fit_Nn ?_
  refine mm_blk (pc' := 25) ok_Nt_mend 2 _ _ _ rfl ?_
  refine mm_putf ok_Nt_mend ((mm_up_ne _ _ hab).trans ((mm_up_ne _ _ hab).trans ha)) rfl f_Nt_25 (Or.inl rfl) (mm_fit_I _) ?_
  refine mm_blk (pc' := 30) ok_Nt_mend 2 _ _ _ rfl ?_
  refine mm_putf ok_Nt_mend (mm_up_self _ _ _) rfl f_Nt_34 (Or.inl rfl) mm_fit_Nn ?_
  exact mm_vret ok_Nt_mend rfl rfl ⟨rfl, by simp only [mm_up_up]; rfl⟩
end NT
