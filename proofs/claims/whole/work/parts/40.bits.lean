/-! ===== Int32 by its bits: bt x i ===== -/
def bt (x : Int32) (i : Nat) : Bool := x.toBitVec.getLsbD i
theorem b_ext {x y : Int32} (h : ∀ i, i < 32 → bt x i = bt y i) : x = y := Int32.toBitVec_inj.mp (BitVec.eq_of_getLsbD_eq (fun i hi => h i hi))
theorem b_or (x y : Int32) (i : Nat) : bt (x ||| y) i = (bt x i || bt y i) := by unfold bt; rw [Int32.toBitVec_or, BitVec.getLsbD_or]
theorem b_and (x y : Int32) (i : Nat) : bt (x &&& y) i = (bt x i && bt y i) := by unfold bt; rw [Int32.toBitVec_and, BitVec.getLsbD_and]
theorem b_xor (x y : Int32) (i : Nat) : bt (x ^^^ y) i = (bt x i ^^ bt y i) := by unfold bt; rw [Int32.toBitVec_xor, BitVec.getLsbD_xor]
theorem b_big {x : Int32} {i : Nat} (h : 32 ≤ i) : bt x i = false := BitVec.getLsbD_of_ge _ _ h
theorem b_255 (i : Nat) : bt 255 i = decide (i < 8) := by
  rcases Nat.lt_or_ge i 32 with h | h
  · exact (by decide +kernel : ∀ i, i < 32 → bt 255 i = decide (i < 8)) i h
  · rw [b_big h, decide_eq_false (by omega)]
theorem b_65535 (i : Nat) : bt 65535 i = decide (i < 16) := by
  rcases Nat.lt_or_ge i 32 with h | h
  · exact (by decide +kernel : ∀ i, i < 32 → bt 65535 i = decide (i < 16)) i h
  · rw [b_big h, decide_eq_false (by omega)]
theorem b_m1 : ∀ i, i < 32 → bt (-1) i = true := by decide +kernel
theorem b_0 (i : Nat) : bt 0 i = false := BitVec.getLsbD_zero
theorem s_l : ∀ n, n < 32 → ((nI n &&& 31).toBitVec.smod 32).toNat = n := by decide +kernel
theorem s_u : ∀ n, n < 32 → (((nI n).toUInt32 &&& Int32.toUInt32 31).toBitVec % 32).toNat = n := by decide +kernel
theorem b_shl (n : Nat) (hn : n < 32) (x : Int32) {i : Nat} (hi : i < 32) : bt (x <<< (nI n &&& 31)) i = (decide (n ≤ i) && bt x (i - n)) := by
  unfold bt
  rw [Int32.toBitVec_shiftLeft]
  show (x.toBitVec <<< ((nI n &&& 31).toBitVec.smod 32).toNat).getLsbD i = _
  rw [s_l n hn, BitVec.getLsbD_shiftLeft]
  rcases Nat.lt_or_ge i n with h | h
  · simp [h, Nat.not_le.mpr h]
  · simp [hi, h, Nat.not_lt.mpr h]
theorem b_ushr (n : Nat) (hn : n < 32) (x : Int32) (i : Nat) : bt ((x.toUInt32 >>> ((nI n).toUInt32 &&& Int32.toUInt32 31)).toInt32) i = bt x (n + i) := by
  show (x.toUInt32 >>> ((nI n).toUInt32 &&& Int32.toUInt32 31)).toBitVec.getLsbD i = x.toUInt32.toBitVec.getLsbD (n + i)
  rw [UInt32.toBitVec_shiftRight]
  show (x.toUInt32.toBitVec >>> (((nI n).toUInt32 &&& Int32.toUInt32 31).toBitVec % 32).toNat).getLsbD i = _
  rw [s_u n hn, BitVec.getLsbD_ushiftRight]
theorem b_sshr (n : Nat) (hn : n < 32) (x : Int32) {i : Nat} (hi : i < 32) : bt (x >>> (nI n &&& 31)) i = if n + i < 32 then bt x (n + i) else bt x 31 := by
  unfold bt
  rw [Int32.toBitVec_shiftRight]
  show (x.toBitVec.sshiftRight ((nI n &&& 31).toBitVec.smod 32).toNat).getLsbD i = _
  rw [s_l n hn, BitVec.getLsbD_sshiftRight, BitVec.msb_eq_getLsbD_last]
  simp [hi]
/-- a bit as a number -/
def b01 (b : Bool) : Int32 := if b = true then 1 else 0
theorem b01_1 {b : Bool} : b01 b = 1 ↔ b = true := by cases b <;> decide
theorem b01_0 {b : Bool} : b01 b = 0 ↔ b = false := by cases b <;> decide
theorem b01_if (b : Bool) : (if b01 b = 1 then (1 : Int32) else 0) = b01 b := by cases b <;> decide
theorem b01_inj {a b : Bool} (h : b01 a = b01 b) : a = b := by cases a <;> cases b <;> first | rfl | exact absurd h (by decide)
theorem b_1 (i : Nat) : bt 1 i = decide (i = 0) := by
  rcases Nat.lt_or_ge i 32 with h | h
  · exact (by decide +kernel : ∀ i, i < 32 → bt 1 i = decide (i = 0)) i h
  · rw [b_big h, decide_eq_false (by omega)]
theorem b_b01 (b : Bool) (i : Nat) : bt (b01 b) i = (b && decide (i = 0)) := by
  cases b
  · exact b_0 i
  · exact b_1 i
theorem and_1 (x : Int32) : x &&& 1 = b01 (bt x 0) := by
  apply b_ext
  intro i hi
  rw [b_and, b_1, b_b01]
  by_cases e : i = 0
  · rw [e]
  · rw [decide_eq_false e, Bool.and_false, Bool.and_false]
theorem b_mu {n : Nat} (hn : n < 32) (x : Int32) (i : Nat) : bt (mm_ushr x (nI n)) i = bt x (n + i) := b_ushr n hn x i
theorem mu_and1 {n : Nat} (hn : n < 32) (x : Int32) : mm_ushr x (nI n) &&& 1 = b01 (bt x n) := by
  rw [and_1, b_mu hn, Nat.add_zero]
theorem sh_and1 {n : Nat} (hn : n < 32) (x : Int32) : (x >>> (nI n &&& 31)) &&& 1 = b01 (bt x n) := by
  rw [and_1, b_sshr n hn x (by decide), Nat.add_zero, if_pos hn]
theorem b_1shl {n : Nat} (hn : n < 32) (i : Nat) : bt ((1 : Int32) <<< (nI n &&& 31)) i = decide (i = n) := by
  rcases Nat.lt_or_ge i 32 with h | h
  · rw [b_shl n hn 1 h, b_1]
    by_cases e : i = n
    · rw [e]; simp
    · rw [decide_eq_false e]
      by_cases e2 : n ≤ i
      · rw [decide_eq_false (show ¬ i - n = 0 by omega), Bool.and_false]
      · rw [decide_eq_false e2, Bool.false_and]
  · rw [b_big h, decide_eq_false (by omega)]
theorem b_xn (x : Int32) {i : Nat} (hi : i < 32) : bt (x ^^^ -1) i = !bt x i := by
  rw [b_xor, b_m1 i hi]
  cases bt x i <;> rfl
theorem b_msk {c : Nat} (hc : c ≤ 6) (i : Nat) : bt ((1 : Int32) <<< (nI c &&& 31) - 1) i = decide (i < c) := by
  rcases Nat.lt_or_ge i 32 with h | h
  · exact (by decide +kernel : ∀ c, c < 7 → ∀ i, i < 32 → bt ((1 : Int32) <<< (nI c &&& 31) - 1) i = decide (i < c)) c (by omega) i h
  · rw [b_big h, decide_eq_false (by omega)]
/-- a register of n bits and the row that holds them -/
def reg (n : Nat) (x : Int32) (z : Nat → Int32) : Prop := (∀ k, k < n → z k = b01 (bt x k)) ∧ ∀ k, n ≤ k → bt x k = false
def sub (x y : Int32) : Prop := ∀ k, bt x k = true → bt y k = true
theorem reg_congr {n : Nat} {x : Int32} {z z' : Nat → Int32} (h : reg n x z) (hz : ∀ k, k < n → z' k = z k) : reg n x z' := ⟨fun k hk => (hz k hk).trans (h.1 k hk), h.2⟩
theorem b_sd {n : Nat} (h1 : 1 ≤ n) (h32 : n ≤ 32) (x : Int32) (q : Bool) (i : Nat) : bt (dv_sd x (nI n) (b01 q)) i = (bt x (i + 1) || (q && decide (i = n - 1))) := by
  have e1 : bt (mm_ushr x 1) i = bt x (i + 1) := by
    have := b_mu (n := 1) (by decide) x i
    rw [Nat.add_comm 1 i] at this
    exact this
  have e2 : nI n - 1 = nI (n - 1) := pk_sub (b := 1) h1
  unfold dv_sd
  cases q
  · rw [if_pos (by decide), e1, Bool.false_and, Bool.or_false]
  · rw [if_neg (by decide), b_or, e1, e2, b_1shl (by omega), Bool.true_and]
theorem reg_sd {n : Nat} {x : Int32} {z : Nat → Int32} (h1 : 1 ≤ n) (h32 : n ≤ 32) (h : reg n x z) (q : Bool) : reg n (dv_sd x (nI n) (b01 q)) (fun k => if k + 1 < n then z (k + 1) else b01 q) := by
  refine ⟨fun k hk => ?_, fun k hk => ?_⟩
  · show (if k + 1 < n then z (k + 1) else b01 q) = _
    rw [b_sd h1 h32]
    by_cases e : k + 1 < n
    · rw [if_pos e, h.1 _ e, decide_eq_false (show ¬ k = n - 1 by omega), Bool.and_false, Bool.or_false]
    · rw [if_neg e, h.2 (k + 1) (by omega), decide_eq_true (show k = n - 1 by omega), Bool.and_true, Bool.false_or]
  · rw [b_sd h1 h32, h.2 (k + 1) (by omega), decide_eq_false (show ¬ k = n - 1 by omega), Bool.and_false, Bool.or_false]
theorem reg_low {n : Nat} {x : Int32} {z : Nat → Int32} (h1 : 1 ≤ n) (h : reg n x z) : (if (x &&& 1) = 1 then (1 : Int32) else 0) = z 0 := by
  rw [and_1, b01_if, h.1 0 h1]
theorem dn_at (z : Nat → Int32) (a l : Nat) (x : Int32) {k : Nat} (hl : 1 ≤ l) (hk : k < l) : dn z a l x (a + k) = if k + 1 < l then z (a + (k + 1)) else x := by
  unfold dn upd dnk
  by_cases e : a + k = a + l - 1
  · rw [if_pos e, if_neg (by omega)]
  · rw [if_neg e, if_pos (by omega), if_pos (by omega)]; rfl
theorem dn_off (z : Nat → Int32) (a l : Nat) (x : Int32) {i : Nat} (hl : 1 ≤ l) (hi : i < a ∨ a + l ≤ i) : dn z a l x i = z i := by
  unfold dn upd dnk
  rw [if_neg (by omega), if_neg (by omega)]
/-- the number of a register's bits -/
theorem nI_bv (x : Int32) : x = nI x.toBitVec.toNat := by
  apply Int32.toBitVec_inj.1
  show x.toBitVec = BitVec.ofNat 32 x.toBitVec.toNat
  simp
theorem mu_nat {n : Nat} (hn : n < 32) (x : Int32) : mm_ushr x (nI n) = nI (x.toBitVec.toNat / 2 ^ n) := by
  have h := pk_ushr x (nI n) n (s_u n hn)
  rw [← h]
  exact nI_bv _
theorem b_nat (x : Int32) (i : Nat) : b01 (bt x i) = nI (x.toBitVec.toNat / 2 ^ i % 2) := by
  have h : bt x i = decide (x.toBitVec.toNat / 2 ^ i % 2 = 1) := by
    unfold bt
    rw [← BitVec.testBit_toNat, Nat.testBit_eq_decide_div_mod_eq]
  rw [h]
  have h2 : x.toBitVec.toNat / 2 ^ i % 2 = 0 ∨ x.toBitVec.toNat / 2 ^ i % 2 = 1 := by omega
  rcases h2 with e | e <;> rw [e] <;> rfl
theorem mu_step {i : Nat} (hi : i + 1 < 32) (x : Int32) : 2 * mm_ushr x (nI (i + 1)) + b01 (bt x i) = mm_ushr x (nI i) := by
  rw [mu_nat hi, mu_nat (by omega), b_nat, show (2 : Int32) = nI 2 from rfl, pk_mul, nI_add]
  congr 1
  rw [Nat.pow_succ, ← Nat.div_div_eq_div_mul]
  omega
theorem dwn_reg {n : Nat} {x : Int32} {z : Nat → Int32} (hn : n < 32) (h : reg n x z) : dwn (fun k v => 2 * v + z k) n 0 = x := by
  have key : ∀ i, i ≤ n → dwn (fun k v => 2 * v + z k) i (mm_ushr x (nI i)) = x := by
    intro i
    induction i with
    | zero =>
      intro _
      show mm_ushr x (nI 0) = x
      rw [mu_nat (by decide)]
      simp
      exact (nI_bv x).symm
    | succ i ih =>
      intro hi
      show dwn (fun k v => 2 * v + z k) i (2 * mm_ushr x (nI (i + 1)) + z i) = x
      rw [h.1 i (by omega), mu_step (by omega)]
      exact ih (by omega)
  have e : mm_ushr x (nI n) = 0 := by
    apply b_ext
    intro i hi
    rw [b_mu hn, b_0]
    exact h.2 _ (by omega)
  have := key n (Nat.le_refl _)
  rw [e] at this
  exact this
theorem reg_inj {n : Nat} {x y : Int32} {z : Nat → Int32} (hx : reg n x z) (hy : reg n y z) : x = y := by
  apply b_ext
  intro i _
  by_cases e : i < n
  · exact b01_inj ((hx.1 i e).symm.trans (hy.1 i e))
  · rw [hx.2 i (by omega), hy.2 i (by omega)]
