/-! the reference: registers -/
def m_sh1 (data : Int32) (d : Nat) (x : Int32 × mS) : Int32 × mS :=
  if data = 0 then (x.2 6 (4 * d), m_w x.2 6 (dn (x.2 6) (4 * d) (m_wd x.2 d) x.1))
  else if x.2 5 d = 0 ∨ x.2 5 d = 2 then (x.2 7 (6 * d), m_w x.2 7 (dn (x.2 7) (6 * d) (m_cl x.2 d) x.1))
  else if x.2 5 d = 1 then (x.2 8 (32 * d), m_w x.2 8 (dn (x.2 8) (32 * d) 32 x.1))
  else (x.2 9 d, m_w x.2 9 (dn (x.2 9) d 1 x.1))
def m_cp8 (d : Nat) (t : mS) : mS := up (fun b t => m_s t 8 (32 * d + b) ((t 3 d >>> (nI b &&& 31)) &&& 1)) 32 0 t
def m_cp7 (d n i : Nat) (t : mS) : mS := up (fun c t => m_s t 7 (6 * d + c) (m_sg t (6 * d + c))) n i t
def m_cap (d : Nat) (t : mS) : mS := if t 5 d = 0 ∨ t 5 d = 2 then m_cp7 d (m_cl t d) 0 (m_cp8 d (m_s t 9 d 0)) else m_cp8 d (m_s t 9 d 0)
def m_upd (d : Nat) (t : mS) : mS := if t 5 d = 0 ∨ t 5 d = 2 then up (fun c t => m_s t 11 (6 * d + c) (if t 10 (6 * d + c) = 0 then 0 else t 7 (6 * d + c))) (m_cl t d) 0 t else t
theorem same_sh1 (data : Int32) (d : Nat) (x : Int32 × mS) : m_same x.2 (m_sh1 data d x).2 := by
  unfold m_sh1
  repeat' split
  all_goals exact same_w _ (by decide) _
theorem same_sh (data : Int32) : ∀ (n i : Nat) (x : Int32 × mS), m_same x.2 (up (m_sh1 data) n i x).2 := by
  intro n
  induction n with
  | zero => intro i x; exact same_rf _
  | succ n ih => intro i x; exact same_tr (same_sh1 data i x) (ih _ _)
theorem same_cp8 (d : Nat) (t : mS) : m_same t (m_cp8 d t) := same_up (fun _ t => same_w t (by decide) _) _ _ _
theorem same_cp7 (d n i : Nat) (t : mS) : m_same t (m_cp7 d n i t) := same_up (fun _ t => same_w t (by decide) _) _ _ _
theorem same_cap (d : Nat) (t : mS) : m_same t (m_cap d t) := by
  unfold m_cap
  split
  · exact same_tr (same_tr (same_w t (n := 9) (by decide) _) (same_cp8 _ _)) (same_cp7 _ _ _ _)
  · exact same_tr (same_w t (n := 9) (by decide) _) (same_cp8 _ _)
theorem same_upd (d : Nat) (t : mS) : m_same t (m_upd d t) := by
  unfold m_upd
  split
  · exact same_up (fun _ t => same_w t (by decide) _) _ _ _
  · exact same_rf _
section MD2
variable {G : mm_G} {K : Nat → Nat} {t : mS} {h : mm_Hp} {nd nn : Nat}

set_option maxHeartbeats 1000000 in
theorem l_Md_down {b N fr len : Nat} {x g : Int32} {z : Nat → Int32} (hN : fr + len ≤ N) (hN2 : N ≤ 1000) (h1 : 1 ≤ len) : ∀ (n k : Nat), 1 ≤ k → k + n = len → mm_V G M_Md_down 8 [(0, .ref b), (1, .int (nI fr)), (2, .int (nI len)), (3, .int x), (4, .int g), (5, .int (nI k))] [] (mm_up h b (oIs N (dnk z fr k))) 0 0 (mm_E (some (.int g)) (mm_up h b (oIs N (dn z fr len x)))) := by
  intro n
  induction n with
  | zero =>
    intro k hk hi
    have hkl : k = len := by omega
    subst hkl
    refine mm_blk (pc' := 11) ok_Md_down 2 _ _ _ rfl ?_
    refine mm_ic_ge ok_Md_down 34 rfl (by decide) (fun c => ?_) (fun c => ?_)
    rotate_left
    · exact absurd (nI_le (by omega) (by omega)) c
    refine mm_blk (pc' := 41) ok_Md_down 7 _ _ _ rfl ?_
    refine mm_iast (j := fr + k - 1) ok_Md_down (mm_up_self _ _ _) rfl (by rw [nI_add, show (1 : Int32) = nI 1 from rfl, pk_sub (by omega)]) (by omega) (by rw [List.length_map, List.length_range]; omega) ?_
    rw [mm_up_up, oIs_set (by omega)]
    refine mm_blk (pc' := 44) ok_Md_down 1 _ _ _ rfl ?_
    exact mm_iret ok_Md_down rfl rfl ⟨rfl, rfl⟩
  | succ n ih =>
    intro k hk hi
    refine mm_blk (pc' := 11) ok_Md_down 2 _ _ _ rfl ?_
    refine mm_ic_ge ok_Md_down 34 rfl (by decide) (fun c => ?_) (fun c => ?_)
    · exact absurd c (nI_ge (by omega) (by omega))
    refine mm_blk (pc' := 26) ok_Md_down 10 _ _ _ rfl ?_
    refine mm_iald (j := fr + k) ok_Md_down (mm_up_self _ _ _) rfl (nI_add _ _) (by omega) (oIs_get (by omega) _) ?_
    refine mm_iast (j := fr + k - 1) ok_Md_down (mm_up_self _ _ _) rfl (by rw [nI_add, show (1 : Int32) = nI 1 from rfl, pk_sub (by omega)]) (by omega) (by rw [List.length_map, List.length_range]; omega) ?_
    rw [mm_up_up, oIs_set (by omega)]
    refine mm_blk (pc' := 8) ok_Md_down 2 _ _ _ rfl ?_
    rw [nI_1, dnk_s z fr k hk]
    exact ih (k + 1) (by omega) (by omega)
set_option maxHeartbeats 1000000 in
theorem c_Md_down {b N fr len : Nat} {x : Int32} {z : Nat → Int32} (hb : h b = some (oIs N z)) (hN : fr + len ≤ N) (hN2 : N ≤ 1000) (h1 : 1 ≤ len) : mm_C G M_Md_down [.ref b, .int (nI fr), .int (nI len), .int x] h 0 0 (mm_E (some (.int (z fr))) (mm_up h b (oIs N (dn z fr len x)))) := by
  refine mm_C_of (by decide +kernel) rfl (Nat.le_of_ble_eq_true rfl) rfl ?_
  refine mm_blk (pc' := 2) ok_Md_down 2 _ _ _ rfl ?_
  refine mm_iald (j := fr) ok_Md_down hb rfl rfl (by omega) (oIs_get (by omega) _) ?_
  refine mm_blk (pc' := 8) ok_Md_down 3 _ _ _ rfl ?_
  have e9 : h = mm_up h b (oIs N (dnk z fr 1)) := by rw [dnk_1]; exact (mm_up_same hb).symm
  refine mm_V_heap e9 ?_
  exact l_Md_down hN hN2 h1 (len - 1) 1 (Nat.le_refl _) (by omega)
set_option maxHeartbeats 1000000 in
theorem l_Md_numberIn (w : mm_inj mdom K) {d : Nat} (hd : d < 4) : ∀ (k : Nat) (v : Int32), k ≤ 4 → mm_V G M_Md_numberIn 11 [(0, .ref (K 0)), (1, .int (nI d)), (2, .int v), (3, .int (nI k - 1))] [] (MP K t h) 0 0 (mm_E (some (.int (dwn (fun k v => 2 * v + t 6 (4 * d + k)) k v))) (MP K t h)) := by
  intro k
  induction k with
  | zero =>
    intro v hk
    refine mm_blk (pc' := 12) ok_Md_numberIn 1 _ _ _ rfl ?_
    refine mm_if_lt ok_Md_numberIn 36 rfl (by decide) (fun c => ?_) (fun c => ?_)
    rotate_left
    · exact absurd (by decide) c
    refine mm_blk (pc' := 37) ok_Md_numberIn 1 _ _ _ rfl ?_
    exact mm_iret ok_Md_numberIn rfl rfl ⟨rfl, rfl⟩
  | succ k ih =>
    intro v hk
    rw [nI_pred]
    refine mm_blk (pc' := 12) ok_Md_numberIn 1 _ _ _ rfl ?_
    refine mm_if_lt ok_Md_numberIn 36 rfl (by decide) (fun c => ?_) (fun c => ?_)
    · exact absurd c (nI_pos (by omega))
    refine mm_blk (pc' := 19) ok_Md_numberIn 4 _ _ _ rfl ?_
    refine mm_getf ok_Md_numberIn (mp_0 w) rfl f_Md_22 rfl ?_
    refine mm_blk (pc' := 27) ok_Md_numberIn 5 _ _ _ rfl ?_
    refine mm_iald (j := 4 * d + k) ok_Md_numberIn (mp_6 w) rfl (ix4 _ _) (by omega) (oIs_get (by omega) _) ?_
    refine mm_blk (pc' := 11) ok_Md_numberIn 4 _ _ _ rfl ?_
    rw [show nI k + (-1) = nI k - 1 from (Int32.sub_eq_add_neg _ _).symm]
    exact ih _ (by omega)
set_option maxHeartbeats 1000000 in
theorem c_Md_numberIn (w : mm_inj mdom K) (ok : m_ok nd nn t) {d : Nat} (hd : d < nd) : mm_C G M_Md_numberIn [.ref (K 0), .int (nI d)] (MP K t h) 0 0 (mm_E (some (.int (m_num t d))) (MP K t h)) := by
  have h4 := ok.1
  obtain ⟨-, c6, ec⟩ := ok.2.2.2.2.2.1 d hd
  refine mm_C_of (by decide +kernel) rfl (Nat.le_of_ble_eq_true rfl) rfl ?_
  refine mm_blk (pc' := 3) ok_Md_numberIn 3 _ _ _ rfl ?_
  refine mm_getf ok_Md_numberIn (mp_0 w) rfl f_Md_7 rfl ?_
  refine mm_blk (pc' := 7) ok_Md_numberIn 1 _ _ _ rfl ?_
  refine mm_iald (j := d) ok_Md_numberIn (mp_2 w) rfl rfl (by omega) (oIs_get (by omega) _) ?_
  rw [ec]
  refine mm_blk (pc' := 11) ok_Md_numberIn 3 _ _ _ rfl ?_
  exact l_Md_numberIn w (by omega) (m_wd t d) 0 c6
set_option maxHeartbeats 2000000 in
theorem l_Md_shiftAll (w : mm_inj mdom K) {data q0 : Int32} : ∀ (n i : Nat) (q : Int32) (t : mS), m_ok nd nn t → i + n = nd → mm_V G M_Md_shiftAll 5 [(0, .ref (K 0)), (1, .int data), (2, .int q0), (3, .int q), (4, .int (nI i))] [] (MP K t h) 0 0 (mm_E (some (.int (up (m_sh1 data) n i (q, t)).1)) (MP K (up (m_sh1 data) n i (q, t)).2 h)) := by
  intro n
  induction n with
  | zero =>
    intro i q t ok hi
    have h4 := ok.1
    refine mm_blk (pc' := 8) ok_Md_shiftAll 2 _ _ _ rfl ?_
    refine mm_getf ok_Md_shiftAll (mp_0 w) rfl f_Md_66 rfl ?_
    rw [ok.2.2.1]
    refine mm_ic_ge ok_Md_shiftAll 128 rfl (by decide) (fun c => ?_) (fun c => ?_)
    rotate_left
    · exact absurd (nI_le (by omega) (by omega)) c
    refine mm_blk (pc' := 129) ok_Md_shiftAll 1 _ _ _ rfl ?_
    exact mm_iret ok_Md_shiftAll rfl rfl ⟨rfl, rfl⟩
  | succ n ih =>
    intro i q t ok hi
    have h4 := ok.1
    obtain ⟨w1, w4, ec⟩ := ok.2.2.2.2.2.1 i (by omega)
    obtain ⟨l1, l6, el⟩ := ok.2.2.2.2.1 i (by omega)
    refine mm_blk (pc' := 8) ok_Md_shiftAll 2 _ _ _ rfl ?_
    refine mm_getf ok_Md_shiftAll (mp_0 w) rfl f_Md_66 rfl ?_
    rw [ok.2.2.1]
    refine mm_ic_ge ok_Md_shiftAll 128 rfl (by decide) (fun c => ?_) (fun c => ?_)
    · exact absurd c (nI_ge (by omega) (by omega))
    refine mm_blk (pc' := 15) ok_Md_shiftAll 1 _ _ _ rfl ?_
    refine mm_getf ok_Md_shiftAll (mp_0 w) rfl f_Md_19 rfl ?_
    refine mm_blk (pc' := 20) ok_Md_shiftAll 1 _ _ _ rfl ?_
    refine mm_iald (j := i) ok_Md_shiftAll (mp_5 w) rfl rfl (by omega) (oIs_get (by omega) _) ?_
    refine mm_blk (pc' := 24) ok_Md_shiftAll 2 _ _ _ rfl ?_
    refine mm_if_ne ok_Md_shiftAll 50 rfl (by decide) (fun c24 => ?_) (fun c24 => ?_)
    · -- 50 t
      refine mm_blk (pc' := 52) ok_Md_shiftAll 1 _ _ _ rfl ?_
      refine mm_if_eq ok_Md_shiftAll 61 rfl (by decide) (fun c52 => ?_) (fun c52 => ?_)
      · -- 61 t
        refine mm_blk (pc' := 62) ok_Md_shiftAll 1 _ _ _ rfl ?_
        refine mm_getf ok_Md_shiftAll (mp_0 w) rfl f_Md_25 rfl ?_
        refine mm_blk (pc' := 71) ok_Md_shiftAll 4 _ _ _ rfl ?_
        refine mm_getf ok_Md_shiftAll (mp_0 w) rfl f_Md_16 rfl ?_
        refine mm_blk (pc' := 76) ok_Md_shiftAll 1 _ _ _ rfl ?_
        refine mm_iald (j := i) ok_Md_shiftAll (mp_4 w) rfl rfl (by omega) (oIs_get (by omega) _) ?_
        refine mm_blk (pc' := 78) ok_Md_shiftAll 1 _ _ _ rfl ?_
        rw [ix6', el]
        refine mm_cSE ok_Md_shiftAll (As := [.ref (K 7), .int (nI (6 * i)), .int (nI (m_cl t i)), .int q]) rfl k_Md_shiftAll_103 rfl (Nat.le_of_ble_eq_true rfl) (c_Md_down (N := 24) (z := t 7) (mp_7 w) (by omega) (by omega) (by omega)) ?_
        refine mm_V_heap (mw_7 w _) ?_
        refine mm_blk (pc' := 122) ok_Md_shiftAll 2 _ _ _ rfl ?_
        have e9 : m_sh1 data i (q, t) = (t 7 (6 * i), m_w t 7 (dn (t 7) (6 * i) (m_cl t i) q)) := by unfold m_sh1; rw [if_neg c24, if_pos (Or.inl c52)]
        show mm_V _ _ _ _ _ _ _ _ (mm_E (some (.int (up (m_sh1 data) n (i + 1) (m_sh1 data i (q, t))).1)) (MP K (up (m_sh1 data) n (i + 1) (m_sh1 data i (q, t))).2 h))
        rw [e9]
        refine mm_blk (pc' := 5) ok_Md_shiftAll 2 _ _ _ rfl ?_
        rw [nI_1]
        refine mm_V_pick [0, 1, 2, 3, 4] rfl ?_
        exact ih (i + 1) _ _ (same_ok (same_w t (by decide) _) ok) (by omega)
      · -- 55 f
        refine mm_blk (pc' := 58) ok_Md_shiftAll 2 _ _ _ rfl ?_
        refine mm_ic_ne ok_Md_shiftAll 85 rfl (by decide) (fun c58 => ?_) (fun c58 => ?_)
        · -- 85 t
          refine mm_blk (pc' := 88) ok_Md_shiftAll 2 _ _ _ rfl ?_
          refine mm_ic_ne ok_Md_shiftAll 110 rfl (by decide) (fun c88 => ?_) (fun c88 => ?_)
          · -- 110 t
            refine mm_blk (pc' := 111) ok_Md_shiftAll 1 _ _ _ rfl ?_
            refine mm_getf ok_Md_shiftAll (mp_0 w) rfl f_Md_31 rfl ?_
            refine mm_blk (pc' := 118) ok_Md_shiftAll 3 _ _ _ rfl ?_
            skip
            refine mm_cSE ok_Md_shiftAll (As := [.ref (K 9), .int (nI (i)), .int (nI (1)), .int q]) rfl k_Md_shiftAll_103 rfl (Nat.le_of_ble_eq_true rfl) (c_Md_down (N := 4) (z := t 9) (mp_9 w) (by omega) (by omega) (by omega)) ?_
            refine mm_V_heap (mw_9 w _) ?_
            refine mm_blk (pc' := 122) ok_Md_shiftAll 1 _ _ _ rfl ?_
            have e9 : m_sh1 data i (q, t) = (t 9 i, m_w t 9 (dn (t 9) i 1 q)) := by unfold m_sh1; rw [if_neg c24, if_neg (fun z => z.elim c52 c58), if_neg c88]
            show mm_V _ _ _ _ _ _ _ _ (mm_E (some (.int (up (m_sh1 data) n (i + 1) (m_sh1 data i (q, t))).1)) (MP K (up (m_sh1 data) n (i + 1) (m_sh1 data i (q, t))).2 h))
            rw [e9]
            refine mm_blk (pc' := 5) ok_Md_shiftAll 2 _ _ _ rfl ?_
            rw [nI_1]
            refine mm_V_pick [0, 1, 2, 3, 4] rfl ?_
            exact ih (i + 1) _ _ (same_ok (same_w t (by decide) _) ok) (by omega)
          · -- 91 f
            refine mm_blk (pc' := 92) ok_Md_shiftAll 1 _ _ _ rfl ?_
            refine mm_getf ok_Md_shiftAll (mp_0 w) rfl f_Md_28 rfl ?_
            refine mm_blk (pc' := 103) ok_Md_shiftAll 5 _ _ _ rfl ?_
            rw [ix32']
            refine mm_cSE ok_Md_shiftAll (As := [.ref (K 8), .int (nI (32 * i)), .int (nI (32)), .int q]) rfl k_Md_shiftAll_103 rfl (Nat.le_of_ble_eq_true rfl) (c_Md_down (N := 128) (z := t 8) (mp_8 w) (by omega) (by omega) (by omega)) ?_
            refine mm_V_heap (mw_8 w _) ?_
            refine mm_blk (pc' := 122) ok_Md_shiftAll 2 _ _ _ rfl ?_
            have e9 : m_sh1 data i (q, t) = (t 8 (32 * i), m_w t 8 (dn (t 8) (32 * i) 32 q)) := by unfold m_sh1; rw [if_neg c24, if_neg (fun z => z.elim c52 c58), if_pos c88]
            show mm_V _ _ _ _ _ _ _ _ (mm_E (some (.int (up (m_sh1 data) n (i + 1) (m_sh1 data i (q, t))).1)) (MP K (up (m_sh1 data) n (i + 1) (m_sh1 data i (q, t))).2 h))
            rw [e9]
            refine mm_blk (pc' := 5) ok_Md_shiftAll 2 _ _ _ rfl ?_
            rw [nI_1]
            refine mm_V_pick [0, 1, 2, 3, 4] rfl ?_
            exact ih (i + 1) _ _ (same_ok (same_w t (by decide) _) ok) (by omega)
        · -- 61 f
          refine mm_blk (pc' := 62) ok_Md_shiftAll 1 _ _ _ rfl ?_
          refine mm_getf ok_Md_shiftAll (mp_0 w) rfl f_Md_25 rfl ?_
          refine mm_blk (pc' := 71) ok_Md_shiftAll 4 _ _ _ rfl ?_
          refine mm_getf ok_Md_shiftAll (mp_0 w) rfl f_Md_16 rfl ?_
          refine mm_blk (pc' := 76) ok_Md_shiftAll 1 _ _ _ rfl ?_
          refine mm_iald (j := i) ok_Md_shiftAll (mp_4 w) rfl rfl (by omega) (oIs_get (by omega) _) ?_
          refine mm_blk (pc' := 78) ok_Md_shiftAll 1 _ _ _ rfl ?_
          rw [ix6', el]
          refine mm_cSE ok_Md_shiftAll (As := [.ref (K 7), .int (nI (6 * i)), .int (nI (m_cl t i)), .int q]) rfl k_Md_shiftAll_103 rfl (Nat.le_of_ble_eq_true rfl) (c_Md_down (N := 24) (z := t 7) (mp_7 w) (by omega) (by omega) (by omega)) ?_
          refine mm_V_heap (mw_7 w _) ?_
          refine mm_blk (pc' := 122) ok_Md_shiftAll 2 _ _ _ rfl ?_
          have e9 : m_sh1 data i (q, t) = (t 7 (6 * i), m_w t 7 (dn (t 7) (6 * i) (m_cl t i) q)) := by unfold m_sh1; rw [if_neg c24, if_pos (Or.inr c58)]
          show mm_V _ _ _ _ _ _ _ _ (mm_E (some (.int (up (m_sh1 data) n (i + 1) (m_sh1 data i (q, t))).1)) (MP K (up (m_sh1 data) n (i + 1) (m_sh1 data i (q, t))).2 h))
          rw [e9]
          refine mm_blk (pc' := 5) ok_Md_shiftAll 2 _ _ _ rfl ?_
          rw [nI_1]
          refine mm_V_pick [0, 1, 2, 3, 4] rfl ?_
          exact ih (i + 1) _ _ (same_ok (same_w t (by decide) _) ok) (by omega)
    · -- 27 f
      refine mm_blk (pc' := 28) ok_Md_shiftAll 1 _ _ _ rfl ?_
      refine mm_getf ok_Md_shiftAll (mp_0 w) rfl f_Md_22 rfl ?_
      refine mm_blk (pc' := 36) ok_Md_shiftAll 4 _ _ _ rfl ?_
      refine mm_getf ok_Md_shiftAll (mp_0 w) rfl f_Md_7 rfl ?_
      refine mm_blk (pc' := 41) ok_Md_shiftAll 1 _ _ _ rfl ?_
      refine mm_iald (j := i) ok_Md_shiftAll (mp_2 w) rfl rfl (by omega) (oIs_get (by omega) _) ?_
      refine mm_blk (pc' := 43) ok_Md_shiftAll 1 _ _ _ rfl ?_
      rw [ix4', ec]
      refine mm_cSE ok_Md_shiftAll (As := [.ref (K 6), .int (nI (4 * i)), .int (nI (m_wd t i)), .int q]) rfl k_Md_shiftAll_103 rfl (Nat.le_of_ble_eq_true rfl) (c_Md_down (N := 16) (z := t 6) (mp_6 w) (by omega) (by omega) (by omega)) ?_
      refine mm_V_heap (mw_6 w _) ?_
      refine mm_blk (pc' := 122) ok_Md_shiftAll 2 _ _ _ rfl ?_
      have e9 : m_sh1 data i (q, t) = (t 6 (4 * i), m_w t 6 (dn (t 6) (4 * i) (m_wd t i) q)) := by unfold m_sh1; rw [if_pos c24]
      show mm_V _ _ _ _ _ _ _ _ (mm_E (some (.int (up (m_sh1 data) n (i + 1) (m_sh1 data i (q, t))).1)) (MP K (up (m_sh1 data) n (i + 1) (m_sh1 data i (q, t))).2 h))
      rw [e9]
      refine mm_blk (pc' := 5) ok_Md_shiftAll 2 _ _ _ rfl ?_
      rw [nI_1]
      refine mm_V_pick [0, 1, 2, 3, 4] rfl ?_
      exact ih (i + 1) _ _ (same_ok (same_w t (by decide) _) ok) (by omega)
set_option maxHeartbeats 1000000 in
theorem c_Md_shiftAll (w : mm_inj mdom K) (ok : m_ok nd nn t) (data q : Int32) : mm_C G M_Md_shiftAll [.ref (K 0), .int data, .int q] (MP K t h) 0 0 (mm_E (some (.int (up (m_sh1 data) nd 0 (q, t)).1)) (MP K (up (m_sh1 data) nd 0 (q, t)).2 h)) := by
  refine mm_C_of (by decide +kernel) rfl (Nat.le_of_ble_eq_true rfl) rfl ?_
  refine mm_blk (pc' := 5) ok_Md_shiftAll 4 _ _ _ rfl ?_
  exact l_Md_shiftAll w nd 0 q t ok (by omega)
set_option maxHeartbeats 1000000 in
theorem l_Md_capture7 (w : mm_inj mdom K) {d m : Nat} {s : Int32} (hs : s = 0 ∨ s = 2) (hm : m ≤ 6) (hd : d < nd) : ∀ (n i : Nat) (t : mS), m_ok nd nn t → m_cl t d = m → i + n = m → mm_V G M_Md_capture 51 [(0, .ref (K 0)), (1, .int (nI d)), (2, .int s), (3, .int (nI i))] [] (MP K t h) 0 0 (mm_E none (MP K (m_cp7 d n i t) h)) := by
  intro n
  induction n with
  | zero =>
    intro i t ok hc hi
    have h4 := ok.1
    have el := (ok.2.2.2.2.1 d hd).2.2
    rw [hc] at el
    refine mm_blk (pc' := 53) ok_Md_capture 2 _ _ _ rfl ?_
    refine mm_getf ok_Md_capture (mp_0 w) rfl f_Md_16 rfl ?_
    refine mm_blk (pc' := 57) ok_Md_capture 1 _ _ _ rfl ?_
    refine mm_iald (j := d) ok_Md_capture (mp_4 w) rfl rfl (by omega) (oIs_get (by omega) _) ?_
    rw [el]
    refine mm_ic_ge ok_Md_capture 97 rfl (by decide) (fun c => ?_) (fun c => ?_)
    rotate_left
    · exact absurd (nI_le (by omega) (by omega)) c
    exact mm_vret ok_Md_capture rfl rfl ⟨rfl, rfl⟩
  | succ n ih =>
    intro i t ok hc hi
    have h4 := ok.1
    have el := (ok.2.2.2.2.1 d hd).2.2
    rw [hc] at el
    have hno := ok.2.2.2.2.2.2.2.2 d i hd (by omega)
    refine mm_blk (pc' := 53) ok_Md_capture 2 _ _ _ rfl ?_
    refine mm_getf ok_Md_capture (mp_0 w) rfl f_Md_16 rfl ?_
    refine mm_blk (pc' := 57) ok_Md_capture 1 _ _ _ rfl ?_
    refine mm_iald (j := d) ok_Md_capture (mp_4 w) rfl rfl (by omega) (oIs_get (by omega) _) ?_
    rw [el]
    refine mm_ic_ge ok_Md_capture 97 rfl (by decide) (fun c => ?_) (fun c => ?_)
    · exact absurd c (nI_ge (by omega) (by omega))
    refine mm_blk (pc' := 62) ok_Md_capture 1 _ _ _ rfl ?_
    refine mm_if_eq ok_Md_capture 70 rfl (by decide) (fun c62 => ?_) (fun c62 => ?_)
    · -- 70 t
      refine mm_blk (pc' := 71) ok_Md_capture 1 _ _ _ rfl ?_
      refine mm_getf ok_Md_capture (mp_0 w) rfl f_Md_25 rfl ?_
      refine mm_blk (pc' := 87) ok_Md_capture 11 _ _ _ rfl ?_
      rw [ix6]
      refine mm_cVE ok_Md_capture (As := [.int (nI (6 * d + i))]) rfl k_Md_capture_107 (mp_0 w) rfl rfl rfl (Nat.le_of_ble_eq_true rfl) (c_Md_signal w ok (by omega) hno) ?_
      refine mm_iast (j := 6 * d + i) ok_Md_capture (mp_7 w) rfl rfl (by omega) (by rw [List.length_map, List.length_range]; exact (by omega)) ?_
      refine mm_V_heap (mu_7 w (by omega) _) ?_
      refine mm_blk (pc' := 51) ok_Md_capture 2 _ _ _ rfl ?_
      rw [nI_1]
      refine mm_V_pick [0, 1, 2, 3] rfl ?_
      exact ih (i + 1) (m_s t 7 (6 * d + i) _) (same_ok (same_w t (n := 7) (by decide) _) ok) hc (by omega)
    · -- 65 f
      refine mm_blk (pc' := 67) ok_Md_capture 2 _ _ _ rfl ?_
      refine mm_ic_ne ok_Md_capture 97 rfl (by decide) (fun c => ?_) (fun c => ?_)
      · exact absurd (hs.resolve_left c62) c
      refine mm_blk (pc' := 71) ok_Md_capture 1 _ _ _ rfl ?_
      refine mm_getf ok_Md_capture (mp_0 w) rfl f_Md_25 rfl ?_
      refine mm_blk (pc' := 87) ok_Md_capture 11 _ _ _ rfl ?_
      rw [ix6]
      refine mm_cVE ok_Md_capture (As := [.int (nI (6 * d + i))]) rfl k_Md_capture_107 (mp_0 w) rfl rfl rfl (Nat.le_of_ble_eq_true rfl) (c_Md_signal w ok (by omega) hno) ?_
      refine mm_iast (j := 6 * d + i) ok_Md_capture (mp_7 w) rfl rfl (by omega) (by rw [List.length_map, List.length_range]; exact (by omega)) ?_
      refine mm_V_heap (mu_7 w (by omega) _) ?_
      refine mm_blk (pc' := 51) ok_Md_capture 2 _ _ _ rfl ?_
      rw [nI_1]
      refine mm_V_pick [0, 1, 2, 3] rfl ?_
      exact ih (i + 1) (m_s t 7 (6 * d + i) _) (same_ok (same_w t (n := 7) (by decide) _) ok) hc (by omega)
set_option maxHeartbeats 1000000 in
theorem l_Md_capture8 (w : mm_inj mdom K) {d : Nat} {s : Int32} (hd : d < nd) {t0 : mS} (hs : t0 5 d = s) : ∀ (n i : Nat) (t : mS), m_ok nd nn t → m_same t0 t → t 5 = t0 5 → i + n = 32 → up (fun b t => m_s t 8 (32 * d + b) ((t 3 d >>> (nI b &&& 31)) &&& 1)) n i t = m_cp8 d (m_s t0 9 d 0) → mm_V G M_Md_capture 16 [(0, .ref (K 0)), (1, .int (nI d)), (2, .int s), (3, .int (nI i))] [] (MP K t h) 0 0 (mm_E none (MP K (m_cap d t0) h)) := by
  intro n
  induction n with
  | zero =>
    intro i t ok hsm h5 hi hf
    have hf : t = m_cp8 d (m_s t0 9 d 0) := hf
    have h4 := ok.1
    have el := ok.2.2.2.2.1 d hd
    have ec : m_cl t d = m_cl t0 d := by unfold m_cl; rw [hsm.1 4 (by decide)]
    refine mm_blk (pc' := 19) ok_Md_capture 2 _ _ _ rfl ?_
    refine mm_ic_ge ok_Md_capture 49 rfl (by decide) (fun c => ?_) (fun c => ?_)
    rotate_left
    · exact absurd (show nI 32 ≤ nI i from nI_le (by omega) (by omega)) c
    refine mm_blk (pc' := 51) ok_Md_capture 2 _ _ _ rfl ?_
    by_cases h02 : s = 0 ∨ s = 2
    · have e9 : m_cap d t0 = m_cp7 d (m_cl t0 d) 0 t := by unfold m_cap; rw [if_pos (by rw [hs]; exact h02), ← hf]
      rw [e9, ← ec]
      exact l_Md_capture7 w h02 el.2.1 hd (m_cl t d) 0 t ok rfl (by omega)
    · have e9 : m_cap d t0 = t := by unfold m_cap; rw [if_neg (by rw [hs]; exact h02), ← hf]
      rw [e9]
      refine mm_blk (pc' := 53) ok_Md_capture 2 _ _ _ rfl ?_
      refine mm_getf ok_Md_capture (mp_0 w) rfl f_Md_16 rfl ?_
      refine mm_blk (pc' := 57) ok_Md_capture 1 _ _ _ rfl ?_
      refine mm_iald (j := d) ok_Md_capture (mp_4 w) rfl rfl (by omega) (oIs_get (by omega) _) ?_
      rw [el.2.2]
      refine mm_ic_ge ok_Md_capture 97 rfl (by decide) (fun c => ?_) (fun c => ?_)
      · exact absurd c (nI_nle el.1 (by omega))
      refine mm_blk (pc' := 62) ok_Md_capture 1 _ _ _ rfl ?_
      refine mm_if_eq ok_Md_capture 70 rfl (by decide) (fun c => ?_) (fun c => ?_)
      · exact absurd (Or.inl c) h02
      refine mm_blk (pc' := 67) ok_Md_capture 2 _ _ _ rfl ?_
      refine mm_ic_ne ok_Md_capture 97 rfl (by decide) (fun c => ?_) (fun c => ?_)
      rotate_left
      · exact absurd (Or.inr c) h02
      exact mm_vret ok_Md_capture rfl rfl ⟨rfl, rfl⟩
  | succ n ih =>
    intro i t ok hsm h5 hi hf
    have h4 := ok.1
    refine mm_blk (pc' := 19) ok_Md_capture 2 _ _ _ rfl ?_
    refine mm_ic_ge ok_Md_capture 49 rfl (by decide) (fun c => ?_) (fun c => ?_)
    · exact absurd c (show ¬ nI 32 ≤ nI i from nI_ge (by omega) (by omega))
    refine mm_blk (pc' := 23) ok_Md_capture 1 _ _ _ rfl ?_
    refine mm_getf ok_Md_capture (mp_0 w) rfl f_Md_28 rfl ?_
    refine mm_blk (pc' := 33) ok_Md_capture 6 _ _ _ rfl ?_
    refine mm_getf ok_Md_capture (mp_0 w) rfl f_Md_13 rfl ?_
    refine mm_blk (pc' := 37) ok_Md_capture 1 _ _ _ rfl ?_
    refine mm_iald (j := d) ok_Md_capture (mp_3 w) rfl rfl (by omega) (oIs_get (by omega) _) ?_
    refine mm_blk (pc' := 42) ok_Md_capture 4 _ _ _ rfl ?_
    refine mm_iast (j := 32 * d + i) ok_Md_capture (mp_8 w) rfl (ix32 _ _) (by omega) (by rw [List.length_map, List.length_range]; exact (by omega)) ?_
    refine mm_V_heap (mu_8 w (by omega) _) ?_
    refine mm_blk (pc' := 16) ok_Md_capture 2 _ _ _ rfl ?_
    rw [nI_1]
    exact ih (i + 1) (m_s t 8 (32 * d + i) _) (same_ok (same_w t (n := 8) (by decide) _) ok) (same_tr hsm (same_w t (n := 8) (by decide) _)) h5 (by omega) hf
set_option maxHeartbeats 1000000 in
theorem c_Md_capture (w : mm_inj mdom K) (ok : m_ok nd nn t) {d : Nat} (hd : d < nd) : mm_C G M_Md_capture [.ref (K 0), .int (nI d)] (MP K t h) 0 0 (mm_E none (MP K (m_cap d t) h)) := by
  have h4 := ok.1
  refine mm_C_of (by decide +kernel) rfl (Nat.le_of_ble_eq_true rfl) rfl ?_
  refine mm_blk (pc' := 1) ok_Md_capture 1 _ _ _ rfl ?_
  refine mm_getf ok_Md_capture (mp_0 w) rfl f_Md_19 rfl ?_
  refine mm_blk (pc' := 5) ok_Md_capture 1 _ _ _ rfl ?_
  refine mm_iald (j := d) ok_Md_capture (mp_5 w) rfl rfl (by omega) (oIs_get (by omega) _) ?_
  refine mm_blk (pc' := 8) ok_Md_capture 2 _ _ _ rfl ?_
  refine mm_getf ok_Md_capture (mp_0 w) rfl f_Md_31 rfl ?_
  refine mm_blk (pc' := 13) ok_Md_capture 2 _ _ _ rfl ?_
  refine mm_iast (j := d) ok_Md_capture (mp_9 w) rfl rfl (by omega) (by rw [List.length_map, List.length_range]; exact (by omega)) ?_
  refine mm_V_heap (mu_9 w (by omega) _) ?_
  refine mm_blk (pc' := 16) ok_Md_capture 2 _ _ _ rfl ?_
  exact l_Md_capture8 w hd rfl 32 0 (m_s t 9 d 0) (same_ok (same_w t (n := 9) (by decide) _) ok) (same_w t (n := 9) (by decide) _) rfl (by omega) rfl
set_option maxHeartbeats 1000000 in
theorem l_Md_update (w : mm_inj mdom K) {d m : Nat} (hm : m ≤ 6) (hd : d < nd) : ∀ (n i : Nat) (t : mS), m_ok nd nn t → m_cl t d = m → i + n = m → mm_V G M_Md_update 25 [(0, .ref (K 0)), (1, .int (nI d)), (2, .int (nI (6 * d + i)))] [] (MP K t h) 0 0 (mm_E none (MP K (up (fun c t => m_s t 11 (6 * d + c) (if t 10 (6 * d + c) = 0 then 0 else t 7 (6 * d + c))) n i t) h)) := by
  intro n
  induction n with
  | zero =>
    intro i t ok hc hi
    have h4 := ok.1
    have el := (ok.2.2.2.2.1 d hd).2.2
    rw [hc] at el
    refine mm_blk (pc' := 31) ok_Md_update 5 _ _ _ rfl ?_
    refine mm_getf ok_Md_update (mp_0 w) rfl f_Md_16 rfl ?_
    refine mm_blk (pc' := 35) ok_Md_update 1 _ _ _ rfl ?_
    refine mm_iald (j := d) ok_Md_update (mp_4 w) rfl rfl (by omega) (oIs_get (by omega) _) ?_
    refine mm_blk (pc' := 37) ok_Md_update 1 _ _ _ rfl ?_
    rw [el, ix6]
    refine mm_ic_ge ok_Md_update 71 rfl (by decide) (fun c => ?_) (fun c => ?_)
    rotate_left
    · exact absurd (nI_le (by omega) (by omega)) c
    exact mm_vret ok_Md_update rfl rfl ⟨rfl, rfl⟩
  | succ n ih =>
    intro i t ok hc hi
    have h4 := ok.1
    have el := (ok.2.2.2.2.1 d hd).2.2
    rw [hc] at el
    refine mm_blk (pc' := 31) ok_Md_update 5 _ _ _ rfl ?_
    refine mm_getf ok_Md_update (mp_0 w) rfl f_Md_16 rfl ?_
    refine mm_blk (pc' := 35) ok_Md_update 1 _ _ _ rfl ?_
    refine mm_iald (j := d) ok_Md_update (mp_4 w) rfl rfl (by omega) (oIs_get (by omega) _) ?_
    refine mm_blk (pc' := 37) ok_Md_update 1 _ _ _ rfl ?_
    rw [el, ix6]
    refine mm_ic_ge ok_Md_update 71 rfl (by decide) (fun c => ?_) (fun c => ?_)
    · exact absurd c (nI_ge (by omega) (by omega))
    refine mm_blk (pc' := 41) ok_Md_update 1 _ _ _ rfl ?_
    refine mm_getf ok_Md_update (mp_0 w) rfl f_Md_38 rfl ?_
    refine mm_blk (pc' := 46) ok_Md_update 2 _ _ _ rfl ?_
    refine mm_getf ok_Md_update (mp_0 w) rfl f_Md_34 rfl ?_
    refine mm_blk (pc' := 50) ok_Md_update 1 _ _ _ rfl ?_
    refine mm_zald (j := 6 * d + i) ok_Md_update (mp_10 w) rfl rfl (by omega) (oIs_get (by omega) _) ?_
    refine mm_if_eq ok_Md_update 63 rfl (by decide) (fun c51 => ?_) (fun c51 => ?_)
    · -- 63 t
      refine mm_blk (pc' := 64) ok_Md_update 1 _ _ _ rfl ?_
      refine mm_iast (j := 6 * d + i) ok_Md_update (mp_11 w) rfl rfl (by omega) (by rw [List.length_map, List.length_range]; exact (by omega)) ?_
      refine mm_V_heap (mu_11 w (by omega) _) ?_
      refine mm_blk (pc' := 25) ok_Md_update 2 _ _ _ rfl ?_
      rw [nI_1]
      unfold up
      first | rw [if_pos c51] | rw [if_neg c51]
      exact ih (i + 1) (m_s t 11 (6 * d + i) _) (same_ok (same_w t (n := 11) (by decide) _) ok) hc (by omega)
    · -- 54 f
      refine mm_blk (pc' := 55) ok_Md_update 1 _ _ _ rfl ?_
      refine mm_getf ok_Md_update (mp_0 w) rfl f_Md_25 rfl ?_
      refine mm_blk (pc' := 59) ok_Md_update 1 _ _ _ rfl ?_
      refine mm_iald (j := 6 * d + i) ok_Md_update (mp_7 w) rfl rfl (by omega) (oIs_get (by omega) _) ?_
      refine mm_blk (pc' := 64) ok_Md_update 1 _ _ _ rfl ?_
      refine mm_iast (j := 6 * d + i) ok_Md_update (mp_11 w) rfl rfl (by omega) (by rw [List.length_map, List.length_range]; exact (by omega)) ?_
      refine mm_V_heap (mu_11 w (by omega) _) ?_
      refine mm_blk (pc' := 25) ok_Md_update 2 _ _ _ rfl ?_
      rw [nI_1]
      unfold up
      first | rw [if_pos c51] | rw [if_neg c51]
      exact ih (i + 1) (m_s t 11 (6 * d + i) _) (same_ok (same_w t (n := 11) (by decide) _) ok) hc (by omega)
set_option maxHeartbeats 1000000 in
theorem c_Md_update (w : mm_inj mdom K) (ok : m_ok nd nn t) {d : Nat} (hd : d < nd) : mm_C G M_Md_update [.ref (K 0), .int (nI d)] (MP K t h) 0 0 (mm_E none (MP K (m_upd d t) h)) := by
  have h4 := ok.1
  have el := ok.2.2.2.2.1 d hd
  refine mm_C_of (by decide +kernel) rfl (Nat.le_of_ble_eq_true rfl) rfl ?_
  refine mm_blk (pc' := 1) ok_Md_update 1 _ _ _ rfl ?_
  refine mm_getf ok_Md_update (mp_0 w) rfl f_Md_19 rfl ?_
  refine mm_blk (pc' := 5) ok_Md_update 1 _ _ _ rfl ?_
  refine mm_iald (j := d) ok_Md_update (mp_5 w) rfl rfl (by omega) (oIs_get (by omega) _) ?_
  refine mm_if_eq ok_Md_update 20 rfl (by decide) (fun c6 => ?_) (fun c6 => ?_)
  · -- 20 t
    have e9 : m_upd d t = up (fun c t => m_s t 11 (6 * d + c) (if t 10 (6 * d + c) = 0 then 0 else t 7 (6 * d + c))) (m_cl t d) 0 t := by unfold m_upd; first | rw [if_pos (Or.inl c6)] | rw [if_pos (Or.inr c16)]
    rw [e9]
    refine mm_blk (pc' := 25) ok_Md_update 4 _ _ _ rfl ?_
    rw [ix6']
    exact l_Md_update w el.2.1 hd (m_cl t d) 0 t ok rfl (by omega)
  · -- 9 f
    refine mm_blk (pc' := 10) ok_Md_update 1 _ _ _ rfl ?_
    refine mm_getf ok_Md_update (mp_0 w) rfl f_Md_19 rfl ?_
    refine mm_blk (pc' := 14) ok_Md_update 1 _ _ _ rfl ?_
    refine mm_iald (j := d) ok_Md_update (mp_5 w) rfl rfl (by omega) (oIs_get (by omega) _) ?_
    refine mm_blk (pc' := 16) ok_Md_update 1 _ _ _ rfl ?_
    refine mm_ic_eq ok_Md_update 20 rfl (by decide) (fun c16 => ?_) (fun c16 => ?_)
    · -- 20 t
      have e9 : m_upd d t = up (fun c t => m_s t 11 (6 * d + c) (if t 10 (6 * d + c) = 0 then 0 else t 7 (6 * d + c))) (m_cl t d) 0 t := by unfold m_upd; first | rw [if_pos (Or.inl c6)] | rw [if_pos (Or.inr c16)]
      rw [e9]
      refine mm_blk (pc' := 25) ok_Md_update 4 _ _ _ rfl ?_
      rw [ix6']
      exact l_Md_update w el.2.1 hd (m_cl t d) 0 t ok rfl (by omega)
    · -- 19 f
      exact mm_vret ok_Md_update rfl rfl ⟨rfl, by rw [show m_upd d t = t from if_neg (fun z => z.elim c6 c16)]⟩
end MD2
