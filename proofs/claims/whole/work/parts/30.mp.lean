/-! THE REFERENCE'S STATE: 0 its own numbers by field, else the array of that field -/
abbrev mS : Type := Nat → Nat → Int32
def mlen (n : Nat) : Nat := if n = 6 then 16 else if n = 8 then 128 else if n = 2 ∨ n = 3 ∨ n = 4 ∨ n = 5 ∨ n = 9 ∨ n = 22 then 4 else if n = 15 ∨ n = 16 ∨ n = 17 ∨ n = 18 then 8 else 24
def oMd (K : Nat → Nat) (z : Nat → Int32) : mm_Ob := (4, [.int (z 0), .int (z 1), .ref (K 2), .ref (K 3), .ref (K 4), .ref (K 5), .ref (K 6), .ref (K 7), .ref (K 8), .ref (K 9), .ref (K 10), .ref (K 11), .ref (K 12), .ref (K 13), .int (z 14), .ref (K 15), .ref (K 16), .ref (K 17), .ref (K 18), .int (z 19), .int (z 20), .int (z 21), .ref (K 22), .int (z 23)])
def mob (K : Nat → Nat) (t : mS) (n : Nat) : mm_Ob := if n = 0 then oMd K (t 0) else (if n = 10 then 11 else 10, (List.range (mlen n)).map (fun k => Value.int (t n k)))
def mdom : List Nat := [0, 2, 3, 4, 5, 6, 7, 8, 9, 10, 11, 12, 13, 15, 16, 17, 18, 22]
def MP (K : Nat → Nat) (t : mS) (h : mm_Hp) : mm_Hp := mm_pl mdom K (mob K t) h
def m_s (t : mS) (n k : Nat) (x : Int32) : mS := va_up t n (upd (t n) k x)
def m_w (t : mS) (n : Nat) (z : Nat → Int32) : mS := va_up t n z
theorem m_w_self (t : mS) (n : Nat) (z : Nat → Int32) : m_w t n z n = z := va_up_self _ _ _
theorem m_w_ne (t : mS) {n m : Nat} (z : Nat → Int32) (h : m ≠ n) : m_w t n z m = t m := va_up_ne _ _ h
theorem m_s_w (t : mS) (n k : Nat) (x : Int32) : m_s t n k x = m_w t n (upd (t n) k x) := rfl
theorem m_s_ne (t : mS) {n m : Nat} (k : Nat) (x : Int32) (h : m ≠ n) : m_s t n k x m = t m := va_up_ne _ _ h
theorem m_s_at (t : mS) (n k : Nat) (x : Int32) : m_s t n k x n k = x := by
  unfold m_s; rw [va_up_self]; exact pk_us
theorem m_s_off (t : mS) (n : Nat) {k j : Nat} (x : Int32) (h : j ≠ k) : m_s t n k x n j = t n j := by
  unfold m_s; rw [va_up_self]; exact pk_un h
section MPS
variable {K : Nat → Nat} {t : mS} {h : mm_Hp}
theorem mu_g (w : mm_inj mdom K) {n : Nat} (hn : n ∈ mdom) {z : Nat → Int32} {o : mm_Ob} (ho : mob K (m_w t n z) n = o) : mm_up (MP K t h) (K n) o = MP K (m_w t n z) h := by
  refine mm_pl_up w hn ho (fun m hm hne => ?_)
  unfold mob
  by_cases e : m = 0
  · rw [if_pos e, if_pos e, m_w_ne _ _ (fun z => hne (by rw [e]; exact z))]
  · rw [if_neg e, if_neg e, m_w_ne _ _ hne]
theorem mp_0 (w : mm_inj mdom K) : MP K t h (K 0) = some (oMd K (t 0)) := mm_pl_at w (by decide)
theorem mu_0 (w : mm_inj mdom K) (f : Nat) (x : Int32) : mm_up (MP K t h) (K 0) (oMd K (upd (t 0) f x)) = MP K (m_s t 0 f x) h := mu_g w (by decide) (by show oMd K (m_w t 0 _ 0) = _; rw [m_w_self])

theorem mp_2 (w : mm_inj mdom K) : MP K t h (K 2) = some (10, (List.range 4).map (fun k => Value.int (t 2 k))) := mm_pl_at w (by decide)
theorem mw_2 (w : mm_inj mdom K) (z : Nat → Int32) : mm_up (MP K t h) (K 2) (10, (List.range 4).map (fun k => Value.int (z k))) = MP K (m_w t 2 z) h := mu_g w (by decide) (by show (10, (List.range 4).map (fun k => Value.int (m_w t 2 z 2 k))) = _; rw [m_w_self])
theorem mu_2 (w : mm_inj mdom K) {j : Nat} (hj : j < 4) (x : Int32) : mm_up (MP K t h) (K 2) (10, ((List.range 4).map (fun k => Value.int (t 2 k))).set j (.int x)) = MP K (m_s t 2 j x) h := by rw [oIs_set hj]; exact mw_2 w _
theorem mp_3 (w : mm_inj mdom K) : MP K t h (K 3) = some (10, (List.range 4).map (fun k => Value.int (t 3 k))) := mm_pl_at w (by decide)
theorem mw_3 (w : mm_inj mdom K) (z : Nat → Int32) : mm_up (MP K t h) (K 3) (10, (List.range 4).map (fun k => Value.int (z k))) = MP K (m_w t 3 z) h := mu_g w (by decide) (by show (10, (List.range 4).map (fun k => Value.int (m_w t 3 z 3 k))) = _; rw [m_w_self])
theorem mu_3 (w : mm_inj mdom K) {j : Nat} (hj : j < 4) (x : Int32) : mm_up (MP K t h) (K 3) (10, ((List.range 4).map (fun k => Value.int (t 3 k))).set j (.int x)) = MP K (m_s t 3 j x) h := by rw [oIs_set hj]; exact mw_3 w _
theorem mp_4 (w : mm_inj mdom K) : MP K t h (K 4) = some (10, (List.range 4).map (fun k => Value.int (t 4 k))) := mm_pl_at w (by decide)
theorem mw_4 (w : mm_inj mdom K) (z : Nat → Int32) : mm_up (MP K t h) (K 4) (10, (List.range 4).map (fun k => Value.int (z k))) = MP K (m_w t 4 z) h := mu_g w (by decide) (by show (10, (List.range 4).map (fun k => Value.int (m_w t 4 z 4 k))) = _; rw [m_w_self])
theorem mu_4 (w : mm_inj mdom K) {j : Nat} (hj : j < 4) (x : Int32) : mm_up (MP K t h) (K 4) (10, ((List.range 4).map (fun k => Value.int (t 4 k))).set j (.int x)) = MP K (m_s t 4 j x) h := by rw [oIs_set hj]; exact mw_4 w _
theorem mp_5 (w : mm_inj mdom K) : MP K t h (K 5) = some (10, (List.range 4).map (fun k => Value.int (t 5 k))) := mm_pl_at w (by decide)
theorem mw_5 (w : mm_inj mdom K) (z : Nat → Int32) : mm_up (MP K t h) (K 5) (10, (List.range 4).map (fun k => Value.int (z k))) = MP K (m_w t 5 z) h := mu_g w (by decide) (by show (10, (List.range 4).map (fun k => Value.int (m_w t 5 z 5 k))) = _; rw [m_w_self])
theorem mu_5 (w : mm_inj mdom K) {j : Nat} (hj : j < 4) (x : Int32) : mm_up (MP K t h) (K 5) (10, ((List.range 4).map (fun k => Value.int (t 5 k))).set j (.int x)) = MP K (m_s t 5 j x) h := by rw [oIs_set hj]; exact mw_5 w _
theorem mp_6 (w : mm_inj mdom K) : MP K t h (K 6) = some (10, (List.range 16).map (fun k => Value.int (t 6 k))) := mm_pl_at w (by decide)
theorem mw_6 (w : mm_inj mdom K) (z : Nat → Int32) : mm_up (MP K t h) (K 6) (10, (List.range 16).map (fun k => Value.int (z k))) = MP K (m_w t 6 z) h := mu_g w (by decide) (by show (10, (List.range 16).map (fun k => Value.int (m_w t 6 z 6 k))) = _; rw [m_w_self])
theorem mu_6 (w : mm_inj mdom K) {j : Nat} (hj : j < 16) (x : Int32) : mm_up (MP K t h) (K 6) (10, ((List.range 16).map (fun k => Value.int (t 6 k))).set j (.int x)) = MP K (m_s t 6 j x) h := by rw [oIs_set hj]; exact mw_6 w _
theorem mp_7 (w : mm_inj mdom K) : MP K t h (K 7) = some (10, (List.range 24).map (fun k => Value.int (t 7 k))) := mm_pl_at w (by decide)
theorem mw_7 (w : mm_inj mdom K) (z : Nat → Int32) : mm_up (MP K t h) (K 7) (10, (List.range 24).map (fun k => Value.int (z k))) = MP K (m_w t 7 z) h := mu_g w (by decide) (by show (10, (List.range 24).map (fun k => Value.int (m_w t 7 z 7 k))) = _; rw [m_w_self])
theorem mu_7 (w : mm_inj mdom K) {j : Nat} (hj : j < 24) (x : Int32) : mm_up (MP K t h) (K 7) (10, ((List.range 24).map (fun k => Value.int (t 7 k))).set j (.int x)) = MP K (m_s t 7 j x) h := by rw [oIs_set hj]; exact mw_7 w _
theorem mp_8 (w : mm_inj mdom K) : MP K t h (K 8) = some (10, (List.range 128).map (fun k => Value.int (t 8 k))) := mm_pl_at w (by decide)
theorem mw_8 (w : mm_inj mdom K) (z : Nat → Int32) : mm_up (MP K t h) (K 8) (10, (List.range 128).map (fun k => Value.int (z k))) = MP K (m_w t 8 z) h := mu_g w (by decide) (by show (10, (List.range 128).map (fun k => Value.int (m_w t 8 z 8 k))) = _; rw [m_w_self])
theorem mu_8 (w : mm_inj mdom K) {j : Nat} (hj : j < 128) (x : Int32) : mm_up (MP K t h) (K 8) (10, ((List.range 128).map (fun k => Value.int (t 8 k))).set j (.int x)) = MP K (m_s t 8 j x) h := by rw [oIs_set hj]; exact mw_8 w _
theorem mp_9 (w : mm_inj mdom K) : MP K t h (K 9) = some (10, (List.range 4).map (fun k => Value.int (t 9 k))) := mm_pl_at w (by decide)
theorem mw_9 (w : mm_inj mdom K) (z : Nat → Int32) : mm_up (MP K t h) (K 9) (10, (List.range 4).map (fun k => Value.int (z k))) = MP K (m_w t 9 z) h := mu_g w (by decide) (by show (10, (List.range 4).map (fun k => Value.int (m_w t 9 z 9 k))) = _; rw [m_w_self])
theorem mu_9 (w : mm_inj mdom K) {j : Nat} (hj : j < 4) (x : Int32) : mm_up (MP K t h) (K 9) (10, ((List.range 4).map (fun k => Value.int (t 9 k))).set j (.int x)) = MP K (m_s t 9 j x) h := by rw [oIs_set hj]; exact mw_9 w _
theorem mp_10 (w : mm_inj mdom K) : MP K t h (K 10) = some (11, (List.range 24).map (fun k => Value.int (t 10 k))) := mm_pl_at w (by decide)
theorem mw_10 (w : mm_inj mdom K) (z : Nat → Int32) : mm_up (MP K t h) (K 10) (11, (List.range 24).map (fun k => Value.int (z k))) = MP K (m_w t 10 z) h := mu_g w (by decide) (by show (11, (List.range 24).map (fun k => Value.int (m_w t 10 z 10 k))) = _; rw [m_w_self])
theorem mu_10 (w : mm_inj mdom K) {j : Nat} (hj : j < 24) (x : Int32) : mm_up (MP K t h) (K 10) (11, ((List.range 24).map (fun k => Value.int (t 10 k))).set j (.int x)) = MP K (m_s t 10 j x) h := by rw [oIs_set hj]; exact mw_10 w _
theorem mp_11 (w : mm_inj mdom K) : MP K t h (K 11) = some (10, (List.range 24).map (fun k => Value.int (t 11 k))) := mm_pl_at w (by decide)
theorem mw_11 (w : mm_inj mdom K) (z : Nat → Int32) : mm_up (MP K t h) (K 11) (10, (List.range 24).map (fun k => Value.int (z k))) = MP K (m_w t 11 z) h := mu_g w (by decide) (by show (10, (List.range 24).map (fun k => Value.int (m_w t 11 z 11 k))) = _; rw [m_w_self])
theorem mu_11 (w : mm_inj mdom K) {j : Nat} (hj : j < 24) (x : Int32) : mm_up (MP K t h) (K 11) (10, ((List.range 24).map (fun k => Value.int (t 11 k))).set j (.int x)) = MP K (m_s t 11 j x) h := by rw [oIs_set hj]; exact mw_11 w _
theorem mp_12 (w : mm_inj mdom K) : MP K t h (K 12) = some (10, (List.range 24).map (fun k => Value.int (t 12 k))) := mm_pl_at w (by decide)
theorem mw_12 (w : mm_inj mdom K) (z : Nat → Int32) : mm_up (MP K t h) (K 12) (10, (List.range 24).map (fun k => Value.int (z k))) = MP K (m_w t 12 z) h := mu_g w (by decide) (by show (10, (List.range 24).map (fun k => Value.int (m_w t 12 z 12 k))) = _; rw [m_w_self])
theorem mu_12 (w : mm_inj mdom K) {j : Nat} (hj : j < 24) (x : Int32) : mm_up (MP K t h) (K 12) (10, ((List.range 24).map (fun k => Value.int (t 12 k))).set j (.int x)) = MP K (m_s t 12 j x) h := by rw [oIs_set hj]; exact mw_12 w _
theorem mp_13 (w : mm_inj mdom K) : MP K t h (K 13) = some (10, (List.range 24).map (fun k => Value.int (t 13 k))) := mm_pl_at w (by decide)
theorem mw_13 (w : mm_inj mdom K) (z : Nat → Int32) : mm_up (MP K t h) (K 13) (10, (List.range 24).map (fun k => Value.int (z k))) = MP K (m_w t 13 z) h := mu_g w (by decide) (by show (10, (List.range 24).map (fun k => Value.int (m_w t 13 z 13 k))) = _; rw [m_w_self])
theorem mu_13 (w : mm_inj mdom K) {j : Nat} (hj : j < 24) (x : Int32) : mm_up (MP K t h) (K 13) (10, ((List.range 24).map (fun k => Value.int (t 13 k))).set j (.int x)) = MP K (m_s t 13 j x) h := by rw [oIs_set hj]; exact mw_13 w _
theorem mp_15 (w : mm_inj mdom K) : MP K t h (K 15) = some (10, (List.range 8).map (fun k => Value.int (t 15 k))) := mm_pl_at w (by decide)
theorem mw_15 (w : mm_inj mdom K) (z : Nat → Int32) : mm_up (MP K t h) (K 15) (10, (List.range 8).map (fun k => Value.int (z k))) = MP K (m_w t 15 z) h := mu_g w (by decide) (by show (10, (List.range 8).map (fun k => Value.int (m_w t 15 z 15 k))) = _; rw [m_w_self])
theorem mu_15 (w : mm_inj mdom K) {j : Nat} (hj : j < 8) (x : Int32) : mm_up (MP K t h) (K 15) (10, ((List.range 8).map (fun k => Value.int (t 15 k))).set j (.int x)) = MP K (m_s t 15 j x) h := by rw [oIs_set hj]; exact mw_15 w _
theorem mp_16 (w : mm_inj mdom K) : MP K t h (K 16) = some (10, (List.range 8).map (fun k => Value.int (t 16 k))) := mm_pl_at w (by decide)
theorem mw_16 (w : mm_inj mdom K) (z : Nat → Int32) : mm_up (MP K t h) (K 16) (10, (List.range 8).map (fun k => Value.int (z k))) = MP K (m_w t 16 z) h := mu_g w (by decide) (by show (10, (List.range 8).map (fun k => Value.int (m_w t 16 z 16 k))) = _; rw [m_w_self])
theorem mu_16 (w : mm_inj mdom K) {j : Nat} (hj : j < 8) (x : Int32) : mm_up (MP K t h) (K 16) (10, ((List.range 8).map (fun k => Value.int (t 16 k))).set j (.int x)) = MP K (m_s t 16 j x) h := by rw [oIs_set hj]; exact mw_16 w _
theorem mp_17 (w : mm_inj mdom K) : MP K t h (K 17) = some (10, (List.range 8).map (fun k => Value.int (t 17 k))) := mm_pl_at w (by decide)
theorem mw_17 (w : mm_inj mdom K) (z : Nat → Int32) : mm_up (MP K t h) (K 17) (10, (List.range 8).map (fun k => Value.int (z k))) = MP K (m_w t 17 z) h := mu_g w (by decide) (by show (10, (List.range 8).map (fun k => Value.int (m_w t 17 z 17 k))) = _; rw [m_w_self])
theorem mu_17 (w : mm_inj mdom K) {j : Nat} (hj : j < 8) (x : Int32) : mm_up (MP K t h) (K 17) (10, ((List.range 8).map (fun k => Value.int (t 17 k))).set j (.int x)) = MP K (m_s t 17 j x) h := by rw [oIs_set hj]; exact mw_17 w _
theorem mp_18 (w : mm_inj mdom K) : MP K t h (K 18) = some (10, (List.range 8).map (fun k => Value.int (t 18 k))) := mm_pl_at w (by decide)
theorem mw_18 (w : mm_inj mdom K) (z : Nat → Int32) : mm_up (MP K t h) (K 18) (10, (List.range 8).map (fun k => Value.int (z k))) = MP K (m_w t 18 z) h := mu_g w (by decide) (by show (10, (List.range 8).map (fun k => Value.int (m_w t 18 z 18 k))) = _; rw [m_w_self])
theorem mu_18 (w : mm_inj mdom K) {j : Nat} (hj : j < 8) (x : Int32) : mm_up (MP K t h) (K 18) (10, ((List.range 8).map (fun k => Value.int (t 18 k))).set j (.int x)) = MP K (m_s t 18 j x) h := by rw [oIs_set hj]; exact mw_18 w _
theorem mp_22 (w : mm_inj mdom K) : MP K t h (K 22) = some (10, (List.range 4).map (fun k => Value.int (t 22 k))) := mm_pl_at w (by decide)
theorem mw_22 (w : mm_inj mdom K) (z : Nat → Int32) : mm_up (MP K t h) (K 22) (10, (List.range 4).map (fun k => Value.int (z k))) = MP K (m_w t 22 z) h := mu_g w (by decide) (by show (10, (List.range 4).map (fun k => Value.int (m_w t 22 z 22 k))) = _; rw [m_w_self])
theorem mu_22 (w : mm_inj mdom K) {j : Nat} (hj : j < 4) (x : Int32) : mm_up (MP K t h) (K 22) (10, ((List.range 4).map (fun k => Value.int (t 22 k))).set j (.int x)) = MP K (m_s t 22 j x) h := by rw [oIs_set hj]; exact mw_22 w _
end MPS
/-- what the reference's arrays keep to -/
def m_cl (t : mS) (d : Nat) : Nat := (t 4 d).toNatClampNeg
def m_wd (t : mS) (d : Nat) : Nat := (t 2 d).toNatClampNeg
def m_dr (t : mS) (j : Nat) : Nat := (t 15 j).toNatClampNeg
def m_no (t : mS) (c : Nat) : Nat := (t 13 c).toNatClampNeg
def m_pt (t : mS) (j : Nat) : Nat := (t 17 j).toNatClampNeg
def m_ok (nd nn : Nat) (t : mS) : Prop := nd ≤ 4 ∧ nn ≤ 8 ∧ t 0 1 = nI nd ∧ t 0 14 = nI nn ∧ (∀ d, d < nd → 1 ≤ m_cl t d ∧ m_cl t d ≤ 6 ∧ t 4 d = nI (m_cl t d)) ∧ (∀ d, d < nd → 2 ≤ m_wd t d ∧ m_wd t d ≤ 4 ∧ t 2 d = nI (m_wd t d)) ∧ (∀ j, j < nn → m_dr t j < 24 ∧ t 15 j = nI (m_dr t j)) ∧ (∀ j, j < nn → (¬ t 16 j < 2 → ¬ t 17 j < 0) ∧ (¬ t 17 j < 0 → m_pt t j < nn ∧ t 17 j = nI (m_pt t j))) ∧ ∀ d k, d < nd → k < m_cl t d → ¬ t 13 (6 * d + k) < 0 → m_no t (6 * d + k) < nn ∧ t 13 (6 * d + k) = nI (m_no t (6 * d + k))
theorem ix6 (a b : Nat) : (6 : Int32) * nI a + nI b = nI (6 * a + b) := by rw [show (6 : Int32) = nI 6 from rfl, pk_mul, nI_add]
theorem ix4 (a b : Nat) : (4 : Int32) * nI a + nI b = nI (4 * a + b) := by rw [show (4 : Int32) = nI 4 from rfl, pk_mul, nI_add]
theorem ix32 (a b : Nat) : (32 : Int32) * nI a + nI b = nI (32 * a + b) := by rw [show (32 : Int32) = nI 32 from rfl, pk_mul, nI_add]
theorem ix6' (a : Nat) : (6 : Int32) * nI a = nI (6 * a) := by rw [show (6 : Int32) = nI 6 from rfl, pk_mul]
theorem ix4' (a : Nat) : (4 : Int32) * nI a = nI (4 * a) := by rw [show (4 : Int32) = nI 4 from rfl, pk_mul]
theorem ix32' (a : Nat) : (32 : Int32) * nI a = nI (32 * a) := by rw [show (32 : Int32) = nI 32 from rfl, pk_mul]
/-- what a clock leaves alone -/
def m_same (t t' : mS) : Prop := (∀ n, n ∉ [0, 5, 6, 7, 8, 9, 11] → t' n = t n) ∧ ∀ f, f ≠ 19 → f ≠ 20 → t' 0 f = t 0 f
theorem same_rf (t : mS) : m_same t t := ⟨fun _ _ => rfl, fun _ _ _ => rfl⟩
theorem same_tr {a b c : mS} (h1 : m_same a b) (h2 : m_same b c) : m_same a c := ⟨fun n hn => (h2.1 n hn).trans (h1.1 n hn), fun f a b => (h2.2 f a b).trans (h1.2 f a b)⟩
theorem same_w (t : mS) {n : Nat} (hn : n ∈ [5, 6, 7, 8, 9, 11]) (z : Nat → Int32) : m_same t (m_w t n z) := by
  have h0 : n ≠ 0 := fun e => by rw [e] at hn; exact absurd hn (by decide)
  exact ⟨fun m hm => m_w_ne _ _ (fun e => hm (by rw [e]; exact List.mem_cons_of_mem _ hn)), fun f _ _ => by rw [m_w_ne _ _ (Ne.symm h0)]⟩
theorem same_up {f : Nat → mS → mS} (hf : ∀ i t, m_same t (f i t)) : ∀ (n i : Nat) (t : mS), m_same t (up f n i t) := by
  intro n
  induction n with
  | zero => intro i t; exact same_rf t
  | succ n ih => intro i t; exact same_tr (hf i t) (ih _ _)
theorem same_ok {nd nn : Nat} {t t' : mS} (hs : m_same t t') (hk : m_ok nd nn t) : m_ok nd nn t' := by
  have e2 : t' 2 = t 2 := hs.1 2 (by decide)
  have e4 : t' 4 = t 4 := hs.1 4 (by decide)
  have e13 : t' 13 = t 13 := hs.1 13 (by decide)
  have e15 : t' 15 = t 15 := hs.1 15 (by decide)
  have e16 : t' 16 = t 16 := hs.1 16 (by decide)
  have e17 : t' 17 = t 17 := hs.1 17 (by decide)
  unfold m_ok m_cl m_wd m_dr m_no m_pt at *
  rw [e2, e4, e13, e15, e16, e17, hs.2 1 (by decide) (by decide), hs.2 14 (by decide) (by decide)]
  exact hk
