/-! Device -/
theorem mm_nb {p : Prop} [Decidable p] : narrow .boolean (.int (if p then (1 : Int32) else 0)) = .int (if p then 1 else 0) := by split <;> rfl
theorem mm_nb0 : narrow .boolean (.int (0 : Int32)) = .int 0 := rfl
theorem mm_nb1 : narrow .boolean (.int (1 : Int32)) = .int 1 := rfl
/-- a device by its fields: 0 bits 1 identity 2 cells 3 drivers 4 wired 5 latches 6 cores 7 instruction 8 instructionShift 9 data -/
def oDv (d : Nat → Int32) : mm_Ob := (1, [.int (d 0), .int (d 1), .int (d 2), .int (d 3), .int (d 4), .int (d 5), .int (d 6), .int (d 7), .int (d 8), .int (d 9)])
def dv_out (d : Nat → Int32) : Int32 := if d 7 = 0 then d 5 else d 6
def dv_hb (d : Nat → Int32) : Prop := d 7 = 0 ∨ d 7 = 2
def dv_len (d : Nat → Int32) : Int32 := if d 7 = 0 ∨ d 7 = 2 then d 2 else if d 7 = 1 then 32 else 1
def dv_sd (r len i : Int32) : Int32 := if i = 0 then mm_ushr r 1 else mm_ushr r 1 ||| 1 <<< ((len - 1) &&& 31)
def dv_cap (d : Nat → Int32) (sg : Int32) : Int32 := if d 7 = 0 ∨ d 7 = 2 then sg else if d 7 = 1 then d 1 else 0
theorem mm_up_same {h : mm_Hp} {a : Nat} {o : mm_Ob} (ha : h a = some o) : mm_up h a o = h := by
  funext b
  unfold mm_up
  split
  · rename_i e; rw [e, ha]
  · rfl
section DV
variable {G : mm_G} {h : mm_Hp} {a : Nat} {d : Nat → Int32}

set_option maxHeartbeats 1000000 in
theorem c_Dv_drives (ha : h a = some (oDv d)) (k : Int32) : mm_C G M_Dv_drives [.ref a, .int k] h 0 0 (mm_E (some (.int (if (mm_ushr (d 3) k &&& 1) = 1 then 1 else 0))) h) := by
  refine mm_C_of (by decide +kernel) rfl (Nat.le_of_ble_eq_true rfl) rfl ?_
  refine mm_blk (pc' := 1) ok_Dv_drives 1 _ _ _ rfl ?_
  refine mm_getf ok_Dv_drives ha rfl f_Dv_21 rfl ?_
  refine mm_blk (pc' := 9) ok_Dv_drives 5 _ _ _ rfl ?_
  refine mm_tc_ne ok_Dv_drives 16 rfl (by decide) rfl rfl rfl (by decide) ?_
  exact mm_zret ok_Dv_drives rfl rfl mm_nb ⟨rfl, rfl⟩
set_option maxHeartbeats 1000000 in
theorem c_Dv_isWired (ha : h a = some (oDv d)) (k : Int32) : mm_C G M_Dv_isWired [.ref a, .int k] h 0 0 (mm_E (some (.int (if (mm_ushr (d 4) k &&& 1) = 1 then 1 else 0))) h) := by
  refine mm_C_of (by decide +kernel) rfl (Nat.le_of_ble_eq_true rfl) rfl ?_
  refine mm_blk (pc' := 1) ok_Dv_isWired 1 _ _ _ rfl ?_
  refine mm_getf ok_Dv_isWired ha rfl f_Dv_27 rfl ?_
  refine mm_blk (pc' := 9) ok_Dv_isWired 5 _ _ _ rfl ?_
  refine mm_tc_ne ok_Dv_isWired 16 rfl (by decide) rfl rfl rfl (by decide) ?_
  exact mm_zret ok_Dv_isWired rfl rfl mm_nb ⟨rfl, rfl⟩
set_option maxHeartbeats 1000000 in
theorem c_Dv_wire (ha : h a = some (oDv d)) (k : Int32) : mm_C G M_Dv_wire [.ref a, .int k] h 0 0 (mm_E none (mm_up h a (oDv (upd d 4 (d 4 ||| 1 <<< (k &&& 31)))))) := by
  refine mm_C_of (by decide +kernel) rfl (Nat.le_of_ble_eq_true rfl) rfl ?_
  refine mm_blk (pc' := 2) ok_Dv_wire 2 _ _ _ rfl ?_
  refine mm_getf ok_Dv_wire ha rfl f_Dv_27 rfl ?_
  refine mm_blk (pc' := 9) ok_Dv_wire 4 _ _ _ rfl ?_
  refine mm_putf ok_Dv_wire ha rfl f_Dv_27 (Or.inl rfl) (mm_fit_I _) ?_
  exact mm_vret ok_Dv_wire rfl rfl ⟨rfl, rfl⟩
set_option maxHeartbeats 1000000 in
theorem c_Dv_setCore (ha : h a = some (oDv d)) (k one : Int32) : mm_C G M_Dv_setCore [.ref a, .int k, .int one] h 0 0 (mm_E none (mm_up h a (oDv (upd d 6 (if one = 0 then d 6 &&& (1 <<< (k &&& 31) ^^^ -1) else d 6 ||| 1 <<< (k &&& 31)))))) := by
  refine mm_C_of (by decide +kernel) rfl (Nat.le_of_ble_eq_true rfl) rfl ?_
  refine mm_blk (pc' := 1) ok_Dv_setCore 1 _ _ _ rfl ?_
  refine mm_if_eq ok_Dv_setCore 19 rfl (by decide) (fun c1 => ?_) (fun c1 => ?_)
  · -- 19 t
    refine mm_blk (pc' := 21) ok_Dv_setCore 2 _ _ _ rfl ?_
    refine mm_getf ok_Dv_setCore ha rfl f_Dv_30 rfl ?_
    refine mm_blk (pc' := 30) ok_Dv_setCore 6 _ _ _ rfl ?_
    refine mm_putf ok_Dv_setCore ha rfl f_Dv_30 (Or.inl rfl) (mm_fit_I _) ?_
    exact mm_vret ok_Dv_setCore rfl rfl ⟨rfl, by simp only [c1, if_true, if_false]; rfl⟩
  · -- 4 f
    refine mm_blk (pc' := 6) ok_Dv_setCore 2 _ _ _ rfl ?_
    refine mm_getf ok_Dv_setCore ha rfl f_Dv_30 rfl ?_
    refine mm_blk (pc' := 13) ok_Dv_setCore 4 _ _ _ rfl ?_
    refine mm_putf ok_Dv_setCore ha rfl f_Dv_30 (Or.inl rfl) (mm_fit_I _) ?_
    refine mm_blk (pc' := 33) ok_Dv_setCore 1 _ _ _ rfl ?_
    exact mm_vret ok_Dv_setCore rfl rfl ⟨rfl, by simp only [c1, if_true, if_false]; rfl⟩
set_option maxHeartbeats 1000000 in
theorem c_Dv_clearOutputs (ha : h a = some (oDv d)) : mm_C G M_Dv_clearOutputs [.ref a] h 0 0 (mm_E none (mm_up h a (oDv (upd (upd d 5 0) 6 0)))) := by
  refine mm_C_of (by decide +kernel) rfl (Nat.le_of_ble_eq_true rfl) rfl ?_
  refine mm_blk (pc' := 2) ok_Dv_clearOutputs 2 _ _ _ rfl ?_
  refine mm_putf ok_Dv_clearOutputs ha rfl f_Dv_33 (Or.inl rfl) (mm_fit_I _) ?_
  refine mm_blk (pc' := 7) ok_Dv_clearOutputs 2 _ _ _ rfl ?_
  refine mm_putf ok_Dv_clearOutputs (mm_up_self _ _ _) rfl f_Dv_30 (Or.inl rfl) (mm_fit_I _) ?_
  exact mm_vret ok_Dv_clearOutputs rfl rfl ⟨rfl, by rw [mm_up_up]; rfl⟩
set_option maxHeartbeats 1000000 in
theorem c_Dv_outputs (ha : h a = some (oDv d)) : mm_C G M_Dv_outputs [.ref a] h 0 0 (mm_E (some (.int (dv_out d))) h) := by
  refine mm_C_of (by decide +kernel) rfl (Nat.le_of_ble_eq_true rfl) rfl ?_
  refine mm_blk (pc' := 1) ok_Dv_outputs 1 _ _ _ rfl ?_
  refine mm_getf ok_Dv_outputs ha rfl f_Dv_24 rfl ?_
  refine mm_if_ne ok_Dv_outputs 14 rfl (by decide) (fun c4 => ?_) (fun c4 => ?_)
  · -- 14 t
    refine mm_blk (pc' := 15) ok_Dv_outputs 1 _ _ _ rfl ?_
    refine mm_getf ok_Dv_outputs ha rfl f_Dv_30 rfl ?_
    exact mm_iret ok_Dv_outputs rfl rfl ⟨by unfold dv_out; simp only [c4, if_true, if_false], rfl⟩
  · -- 7 f
    refine mm_blk (pc' := 8) ok_Dv_outputs 1 _ _ _ rfl ?_
    refine mm_getf ok_Dv_outputs ha rfl f_Dv_33 rfl ?_
    refine mm_blk (pc' := 18) ok_Dv_outputs 1 _ _ _ rfl ?_
    exact mm_iret ok_Dv_outputs rfl rfl ⟨by unfold dv_out; simp only [c4, if_true, if_false], rfl⟩
set_option maxHeartbeats 1000000 in
theorem c_Dv_hasBoundary (ha : h a = some (oDv d)) : mm_C G M_Dv_hasBoundary [.ref a] h 0 0 (mm_E (some (.int (if d 7 = 0 ∨ d 7 = 2 then 1 else 0))) h) := by
  refine mm_C_of (by decide +kernel) rfl (Nat.le_of_ble_eq_true rfl) rfl ?_
  refine mm_blk (pc' := 1) ok_Dv_hasBoundary 1 _ _ _ rfl ?_
  refine mm_getf ok_Dv_hasBoundary ha rfl f_Dv_24 rfl ?_
  refine mm_if_eq ok_Dv_hasBoundary 15 rfl (by decide) (fun c4 => ?_) (fun c4 => ?_)
  · -- 15 t
    refine mm_blk (pc' := 20) ok_Dv_hasBoundary 2 _ _ _ rfl ?_
    exact mm_zret ok_Dv_hasBoundary rfl rfl rfl ⟨by simp [*], rfl⟩
  · -- 7 f
    refine mm_blk (pc' := 8) ok_Dv_hasBoundary 1 _ _ _ rfl ?_
    refine mm_getf ok_Dv_hasBoundary ha rfl f_Dv_24 rfl ?_
    refine mm_blk (pc' := 12) ok_Dv_hasBoundary 1 _ _ _ rfl ?_
    refine mm_ic_ne ok_Dv_hasBoundary 19 rfl (by decide) (fun c12 => ?_) (fun c12 => ?_)
    · -- 19 t
      refine mm_blk (pc' := 20) ok_Dv_hasBoundary 1 _ _ _ rfl ?_
      exact mm_zret ok_Dv_hasBoundary rfl rfl rfl ⟨by simp [*], rfl⟩
    · -- 15 f
      refine mm_blk (pc' := 20) ok_Dv_hasBoundary 2 _ _ _ rfl ?_
      exact mm_zret ok_Dv_hasBoundary rfl rfl rfl ⟨by simp [*], rfl⟩
set_option maxHeartbeats 1000000 in
theorem c_Dv_shiftedDown : ∀ (r n i : Int32), mm_C G M_Dv_shiftedDown [.int r, .int n, .int i] h 0 0 (mm_E (some (.int (dv_sd r n i))) h) := by
  intro r n i
  refine mm_C_of (by decide +kernel) rfl (Nat.le_of_ble_eq_true rfl) rfl ?_
  refine mm_blk (pc' := 5) ok_Dv_shiftedDown 5 _ _ _ rfl ?_
  refine mm_if_eq ok_Dv_shiftedDown 18 rfl (by decide) (fun c5 => ?_) (fun c5 => ?_)
  · -- 18 t
    refine mm_blk (pc' := 19) ok_Dv_shiftedDown 1 _ _ _ rfl ?_
    exact mm_iret ok_Dv_shiftedDown rfl rfl ⟨by unfold dv_sd; simp only [c5, if_true, if_false], rfl⟩
  · -- 8 f
    refine mm_blk (pc' := 19) ok_Dv_shiftedDown 8 _ _ _ rfl ?_
    exact mm_iret ok_Dv_shiftedDown rfl rfl ⟨by unfold dv_sd; simp only [c5, if_true, if_false], rfl⟩
set_option maxHeartbeats 1000000 in
theorem c_Dv_dataLength (ha : h a = some (oDv d)) : mm_C G M_Dv_dataLength [.ref a] h 0 0 (mm_E (some (.int (dv_len d))) h) := by
  refine mm_C_of (by decide +kernel) rfl (Nat.le_of_ble_eq_true rfl) rfl ?_
  refine mm_blk (pc' := 1) ok_Dv_dataLength 1 _ _ _ rfl ?_
  refine mm_cVE ok_Dv_dataLength (As := []) rfl k_Dv_dataLength_36 ha rfl rfl rfl (Nat.le_of_ble_eq_true rfl) (c_Dv_hasBoundary ha) ?_
  by_cases hb : d 7 = 0 ∨ d 7 = 2
  · simp only [hb, if_true]
    refine mm_if_eq ok_Dv_dataLength 12 rfl (by decide) (fun c4 => absurd c4 (by decide)) (fun _ => ?_)
    refine mm_blk (pc' := 8) ok_Dv_dataLength 1 _ _ _ rfl ?_
    refine mm_getf ok_Dv_dataLength ha rfl f_Dv_18 rfl ?_
    exact mm_iret ok_Dv_dataLength rfl rfl ⟨by unfold dv_len; simp only [hb, if_true], rfl⟩
  simp only [hb, if_false]
  refine mm_if_eq ok_Dv_dataLength 12 rfl (by decide) (fun c4 => ?_) (fun c4 => ?_)
  · -- 12 t
    refine mm_blk (pc' := 13) ok_Dv_dataLength 1 _ _ _ rfl ?_
    refine mm_getf ok_Dv_dataLength ha rfl f_Dv_24 rfl ?_
    refine mm_blk (pc' := 17) ok_Dv_dataLength 1 _ _ _ rfl ?_
    refine mm_ic_ne ok_Dv_dataLength 25 rfl (by decide) (fun c17 => ?_) (fun c17 => ?_)
    · -- 25 t
      refine mm_blk (pc' := 26) ok_Dv_dataLength 1 _ _ _ rfl ?_
      exact mm_iret ok_Dv_dataLength rfl rfl ⟨by unfold dv_len; rw [if_neg hb]; first | rw [if_pos c17] | rw [if_neg c17], rfl⟩
    · -- 20 f
      refine mm_blk (pc' := 26) ok_Dv_dataLength 2 _ _ _ rfl ?_
      exact mm_iret ok_Dv_dataLength rfl rfl ⟨by unfold dv_len; rw [if_neg hb]; first | rw [if_pos c17] | rw [if_neg c17], rfl⟩
  · -- 7 f
    exact absurd rfl c4
set_option maxHeartbeats 1000000 in
theorem c_Dv_captureData (ha : h a = some (oDv d)) (sg : Int32) : mm_C G M_Dv_captureData [.ref a, .int sg] h 0 0 (mm_E none (mm_up h a (oDv (upd d 9 (dv_cap d sg))))) := by
  refine mm_C_of (by decide +kernel) rfl (Nat.le_of_ble_eq_true rfl) rfl ?_
  refine mm_blk (pc' := 1) ok_Dv_captureData 1 _ _ _ rfl ?_
  refine mm_cVE ok_Dv_captureData (As := []) rfl k_Dv_captureData_36 ha rfl rfl rfl (Nat.le_of_ble_eq_true rfl) (c_Dv_hasBoundary ha) ?_
  by_cases hb : d 7 = 0 ∨ d 7 = 2
  · simp only [hb, if_true]
    refine mm_if_eq ok_Dv_captureData 15 rfl (by decide) (fun c4 => absurd c4 (by decide)) (fun _ => ?_)
    refine mm_blk (pc' := 9) ok_Dv_captureData 2 _ _ _ rfl ?_
    refine mm_putf ok_Dv_captureData ha rfl f_Dv_40 (Or.inl rfl) (mm_fit_I _) ?_
    refine mm_blk (pc' := 35) ok_Dv_captureData 1 _ _ _ rfl ?_
    exact mm_vret ok_Dv_captureData rfl rfl ⟨rfl, by unfold dv_cap; simp only [hb, if_true]; rfl⟩
  simp only [hb, if_false]
  refine mm_if_eq ok_Dv_captureData 15 rfl (by decide) (fun c4 => ?_) (fun c4 => ?_)
  · -- 15 t
    refine mm_blk (pc' := 17) ok_Dv_captureData 2 _ _ _ rfl ?_
    refine mm_getf ok_Dv_captureData ha rfl f_Dv_24 rfl ?_
    refine mm_blk (pc' := 21) ok_Dv_captureData 1 _ _ _ rfl ?_
    refine mm_ic_ne ok_Dv_captureData 31 rfl (by decide) (fun c21 => ?_) (fun c21 => ?_)
    · -- 31 t
      refine mm_blk (pc' := 32) ok_Dv_captureData 1 _ _ _ rfl ?_
      refine mm_putf ok_Dv_captureData ha rfl f_Dv_40 (Or.inl rfl) (mm_fit_I _) ?_
      exact mm_vret ok_Dv_captureData rfl rfl ⟨rfl, by unfold dv_cap; rw [if_neg hb]; first | (rw [if_pos c21]; rfl) | (rw [if_neg c21]; rfl)⟩
    · -- 24 f
      refine mm_blk (pc' := 25) ok_Dv_captureData 1 _ _ _ rfl ?_
      refine mm_getf ok_Dv_captureData ha rfl f_Dv_15 rfl ?_
      refine mm_blk (pc' := 32) ok_Dv_captureData 1 _ _ _ rfl ?_
      refine mm_putf ok_Dv_captureData ha rfl f_Dv_40 (Or.inl rfl) (mm_fit_I _) ?_
      exact mm_vret ok_Dv_captureData rfl rfl ⟨rfl, by unfold dv_cap; rw [if_neg hb]; first | (rw [if_pos c21]; rfl) | (rw [if_neg c21]; rfl)⟩
  · -- 7 f
    exact absurd rfl c4
set_option maxHeartbeats 1000000 in
theorem c_Dv_shiftData (ha : h a = some (oDv d)) (i : Int32) : mm_C G M_Dv_shiftData [.ref a, .int i] h 0 0 (mm_E (some (.int (if (d 9 &&& 1) = 1 then 1 else 0))) (mm_up h a (oDv (upd d 9 (dv_sd (d 9) (dv_len d) i))))) := by
  refine mm_C_of (by decide +kernel) rfl (Nat.le_of_ble_eq_true rfl) rfl ?_
  refine mm_blk (pc' := 1) ok_Dv_shiftData 1 _ _ _ rfl ?_
  refine mm_getf ok_Dv_shiftData ha rfl f_Dv_40 rfl ?_
  refine mm_blk (pc' := 7) ok_Dv_shiftData 3 _ _ _ rfl ?_
  refine mm_tc_ne ok_Dv_shiftData 14 rfl (by decide) rfl rfl rfl (by decide) ?_
  refine mm_blk (pc' := 18) ok_Dv_shiftData 3 _ _ _ rfl ?_
  refine mm_getf ok_Dv_shiftData ha rfl f_Dv_40 rfl ?_
  refine mm_blk (pc' := 22) ok_Dv_shiftData 1 _ _ _ rfl ?_
  refine mm_cVE ok_Dv_shiftData (As := []) rfl k_Dv_shiftData_43 ha rfl rfl rfl (Nat.le_of_ble_eq_true rfl) (c_Dv_dataLength ha) ?_
  refine mm_blk (pc' := 26) ok_Dv_shiftData 1 _ _ _ rfl ?_
  refine mm_cSE ok_Dv_shiftData (As := [.int (d 9), .int (dv_len d), .int i]) rfl k_Dv_shiftData_47 rfl (Nat.le_of_ble_eq_true rfl) (c_Dv_shiftedDown _ _ _) ?_
  refine mm_putf ok_Dv_shiftData ha rfl f_Dv_40 (Or.inl rfl) (mm_fit_I _) ?_
  refine mm_blk (pc' := 33) ok_Dv_shiftData 1 _ _ _ rfl ?_
  exact mm_zret ok_Dv_shiftData rfl rfl mm_nb ⟨rfl, rfl⟩
set_option maxHeartbeats 1000000 in
theorem c_Dv_shiftInstruction (ha : h a = some (oDv d)) (i : Int32) : mm_C G M_Dv_shiftInstruction [.ref a, .int i] h 0 0 (mm_E (some (.int (if (d 8 &&& 1) = 1 then 1 else 0))) (mm_up h a (oDv (upd d 8 (dv_sd (d 8) (d 0) i))))) := by
  refine mm_C_of (by decide +kernel) rfl (Nat.le_of_ble_eq_true rfl) rfl ?_
  refine mm_blk (pc' := 1) ok_Dv_shiftInstruction 1 _ _ _ rfl ?_
  refine mm_getf ok_Dv_shiftInstruction ha rfl f_Dv_51 rfl ?_
  refine mm_blk (pc' := 7) ok_Dv_shiftInstruction 3 _ _ _ rfl ?_
  refine mm_tc_ne ok_Dv_shiftInstruction 14 rfl (by decide) rfl rfl rfl (by decide) ?_
  refine mm_blk (pc' := 18) ok_Dv_shiftInstruction 3 _ _ _ rfl ?_
  refine mm_getf ok_Dv_shiftInstruction ha rfl f_Dv_51 rfl ?_
  refine mm_blk (pc' := 22) ok_Dv_shiftInstruction 1 _ _ _ rfl ?_
  refine mm_getf ok_Dv_shiftInstruction ha rfl f_Dv_9 rfl ?_
  refine mm_blk (pc' := 26) ok_Dv_shiftInstruction 1 _ _ _ rfl ?_
  refine mm_cSE ok_Dv_shiftInstruction (As := [.int (d 8), .int (d 0), .int i]) rfl k_Dv_shiftInstruction_47 rfl (Nat.le_of_ble_eq_true rfl) (c_Dv_shiftedDown _ _ _) ?_
  refine mm_putf ok_Dv_shiftInstruction ha rfl f_Dv_51 (Or.inl rfl) (mm_fit_I _) ?_
  refine mm_blk (pc' := 33) ok_Dv_shiftInstruction 1 _ _ _ rfl ?_
  exact mm_zret ok_Dv_shiftInstruction rfl rfl mm_nb ⟨rfl, rfl⟩
set_option maxHeartbeats 1000000 in
theorem c_Dv_updateData (ha : h a = some (oDv d)) : mm_C G M_Dv_updateData [.ref a] h 0 0 (mm_E none (mm_up h a (oDv (upd d 5 (if d 7 = 0 ∨ d 7 = 2 then d 9 &&& d 3 else d 5))))) := by
  refine mm_C_of (by decide +kernel) rfl (Nat.le_of_ble_eq_true rfl) rfl ?_
  refine mm_blk (pc' := 1) ok_Dv_updateData 1 _ _ _ rfl ?_
  refine mm_cVE ok_Dv_updateData (As := []) rfl k_Dv_updateData_36 ha rfl rfl rfl (Nat.le_of_ble_eq_true rfl) (c_Dv_hasBoundary ha) ?_
  by_cases hb : d 7 = 0 ∨ d 7 = 2
  · simp only [hb, if_true]
    refine mm_if_eq ok_Dv_updateData 20 rfl (by decide) (fun c4 => absurd c4 (by decide)) (fun _ => ?_)
    refine mm_blk (pc' := 9) ok_Dv_updateData 2 _ _ _ rfl ?_
    refine mm_getf ok_Dv_updateData ha rfl f_Dv_40 rfl ?_
    refine mm_blk (pc' := 13) ok_Dv_updateData 1 _ _ _ rfl ?_
    refine mm_getf ok_Dv_updateData ha rfl f_Dv_21 rfl ?_
    refine mm_blk (pc' := 17) ok_Dv_updateData 1 _ _ _ rfl ?_
    refine mm_putf ok_Dv_updateData ha rfl f_Dv_33 (Or.inl rfl) (mm_fit_I _) ?_
    exact mm_vret ok_Dv_updateData rfl rfl ⟨rfl, rfl⟩
  simp only [hb, if_false]
  refine mm_if_eq ok_Dv_updateData 20 rfl (by decide) (fun c4 => ?_) (fun c4 => ?_)
  · -- 20 t
    exact mm_vret ok_Dv_updateData rfl rfl ⟨rfl, (mm_up_same ha).symm⟩
  · -- 7 f
    exact absurd rfl c4
set_option maxHeartbeats 1000000 in
theorem c_Dv_init (ha : h a = some (1, mm_df 1)) (b i c dr : Int32) : mm_C G M_Dv_init [.ref a, .int b, .int i, .int c, .int dr] h 0 0 (mm_E none (mm_up h a (oDv (fun k => if k = 0 then b else if k = 1 then i else if k = 2 then c else if k = 3 then dr &&& (1 <<< (c &&& 31) - 1) else if k = 7 then 1 else 0)))) := by
  refine mm_C_of (by decide +kernel) rfl (Nat.le_of_ble_eq_true rfl) rfl ?_
  refine mm_blk (pc' := 1) ok_Dv_init 1 _ _ _ rfl ?_
  refine mm_oinit ok_Dv_init rfl oi_Dv_3 (Nat.le_of_ble_eq_true rfl) (by decide) (by decide) ?_
  refine mm_blk (pc' := 6) ok_Dv_init 2 _ _ _ rfl ?_
  refine mm_putf ok_Dv_init ha rfl f_Dv_9 (Or.inr ⟨rfl, rfl, rfl⟩) (mm_fit_I _) ?_
  refine mm_blk (pc' := 11) ok_Dv_init 2 _ _ _ rfl ?_
  refine mm_putf ok_Dv_init (mm_up_self _ _ _) rfl f_Dv_15 (Or.inr ⟨rfl, rfl, rfl⟩) (mm_fit_I _) ?_
  refine mm_blk (pc' := 16) ok_Dv_init 2 _ _ _ rfl ?_
  refine mm_putf ok_Dv_init (mm_up_self _ _ _) rfl f_Dv_18 (Or.inr ⟨rfl, rfl, rfl⟩) (mm_fit_I _) ?_
  refine mm_blk (pc' := 28) ok_Dv_init 8 _ _ _ rfl ?_
  refine mm_putf ok_Dv_init (mm_up_self _ _ _) rfl f_Dv_21 (Or.inr ⟨rfl, rfl, rfl⟩) (mm_fit_I _) ?_
  refine mm_blk (pc' := 33) ok_Dv_init 2 _ _ _ rfl ?_
  refine mm_putf ok_Dv_init (mm_up_self _ _ _) rfl f_Dv_24 (Or.inl rfl) (mm_fit_I _) ?_
  exact mm_vret ok_Dv_init rfl rfl ⟨rfl, by simp only [mm_up_up]; rfl⟩
end DV
