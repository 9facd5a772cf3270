/-! THE RELATION of the class's state and the reference's -/
def dat (D : Nat → Int32) (t : mS) (d : Nat) : Prop := if D 7 = 0 ∨ D 7 = 2 then reg (m_cl t d) (D 9) (fun k => t 7 (6 * d + k)) else if D 7 = 1 then reg 32 (D 9) (fun k => t 8 (32 * d + k)) else reg 1 (D 9) (fun k => t 9 (d + k))
/-- a device; P: its data register is in use -/
def rD (P : Prop) (D : Nat → Int32) (t : mS) (d : Nat) : Prop :=
  (t 2 d = D 0 ∧ t 3 d = D 1 ∧ t 4 d = D 2 ∧ t 5 d = D 7) ∧ (2 ≤ m_wd t d ∧ m_wd t d ≤ 4 ∧ t 2 d = nI (m_wd t d)) ∧ (1 ≤ m_cl t d ∧ m_cl t d ≤ 6 ∧ t 4 d = nI (m_cl t d)) ∧
  reg (m_cl t d) (D 3) (fun k => t 10 (6 * d + k)) ∧ (∀ k, k < m_cl t d → (bt (D 4) k = true ↔ ¬ t 13 (6 * d + k) < 0)) ∧ reg (m_wd t d) (D 8) (fun k => t 6 (4 * d + k)) ∧
  reg (m_cl t d) (D 5) (fun k => t 11 (6 * d + k)) ∧ sub (D 5) (D 3) ∧ reg (m_cl t d) (D 6) (fun k => t 12 (6 * d + k)) ∧ sub (D 6) (D 3) ∧ (P → dat D t d)
def RN (S : cS) (t : mS) (j : Nat) : Prop := ∃ a b, a < m_cl t (c_R S j).1 ∧ b < m_cl t (c_R S j).2.1 ∧ (c_R S j).1 < c_nd S ∧ (c_R S j).2.1 < c_nd S ∧ c_N S j 1 = nI a ∧ c_N S j 3 = nI b ∧ t 15 j = nI (6 * (c_R S j).1 + a) ∧ t 13 (6 * (c_R S j).1 + a) = nI j ∧ t 13 (6 * (c_R S j).2.1 + b) = nI j ∧ ¬ t 10 (6 * (c_R S j).1 + a) = 0 ∧ t 10 (6 * (c_R S j).2.1 + b) = 0
def RF (S : cS) (t : mS) (j : Nat) : Prop := t 16 j = c_N S j 4 ∧ (((c_R S j).2.2 = none ∧ t 17 j = -1 ∧ (c_N S j 4 = -1 ∨ c_N S j 4 = 0 ∨ c_N S j 4 = 1)) ∨ ∃ k, k < c_nn S ∧ (c_R S j).2.2 = some k ∧ t 17 j = nI k ∧ (c_N S j 4 = 2 ∨ c_N S j 4 = 3) ∧ (c_R S k).2.2 = some j)
def RO (S : cS) (t : mS) : Prop := ∀ d k, d < c_nd S → k < m_cl t d → t 13 (6 * d + k) = -1 ∨ ∃ j, j < c_nn S ∧ t 13 (6 * d + k) = nI j ∧ ((d = (c_R S j).1 ∧ c_N S j 1 = nI k) ∨ (d = (c_R S j).2.1 ∧ c_N S j 3 = nI k))
def RG (S : cS) (t : mS) : Prop := c_nd S ≤ 4 ∧ c_nn S ≤ 8 ∧ t 0 1 = nI (c_nd S) ∧ t 0 14 = nI (c_nn S) ∧ (∀ j, j < c_nn S → RN S t j ∧ RF S t j) ∧ RO S t
def RD (P : Nat → Prop) (S : cS) (t : mS) : Prop := ∀ d, d < c_nd S → rD (P d) (c_D S d) t d
section REL
variable {S : cS} {t : mS} {P : Nat → Prop}
theorem dv_out_sub {D : Nat → Int32} {Pp : Prop} {d : Nat} (h : rD Pp D t d) : sub (dv_out D) (D 3) := by
  unfold dv_out
  split
  · exact h.2.2.2.2.2.2.2.1
  · exact h.2.2.2.2.2.2.2.2.2.1
theorem dv_out_reg {D : Nat → Int32} {Pp : Prop} {d : Nat} (h : rD Pp D t d) : reg (m_cl t d) (dv_out D) (fun k => m_out t (6 * d + k)) := by
  have hc := h.2.2.1
  have e5 : t 5 d = D 7 := h.1.2.2.2
  have hd : ∀ k, k < m_cl t d → (6 * d + k) / 6 = d := fun k hk => by omega
  unfold dv_out
  split
  · rename_i h0
    refine reg_congr h.2.2.2.2.2.2.1 (fun k hk => ?_)
    show m_out t (6 * d + k) = t 11 (6 * d + k)
    unfold m_out
    rw [hd k hk, e5, if_pos h0]
  · rename_i h0
    refine reg_congr h.2.2.2.2.2.2.2.2.1 (fun k hk => ?_)
    show m_out t (6 * d + k) = t 12 (6 * d + k)
    unfold m_out
    rw [hd k hk, e5, if_neg h0]
theorem nI_m1 {j : Nat} (hj : j < 2147483648) : ¬ nI j = -1 := fun e => by
  have := nI_pos (n := j) hj
  rw [e] at this
  exact this (by decide)
/-- the bit of net j's driver -/
theorem bit_out (g : RG S t) (r : RD P S t) {j : Nat} (hj : j < c_nn S) : ∃ b : Bool, c_bit S j = b01 b ∧ m_out t (m_dr t j) = b01 b := by
  obtain ⟨a, b, ha, hb, hf, ht, e1, e3, e15, -⟩ := (g.2.2.2.2.1 j hj).1
  have h4 := g.1
  have hr := r _ hf
  have h6 := hr.2.2.1.2.1
  refine ⟨bt (dv_out (c_D S (c_R S j).1)) a, ?_, ?_⟩
  · unfold c_bit nt_bit
    rw [e1, mu_and1 (by omega)]
  · have : m_dr t j = 6 * (c_R S j).1 + a := by unfold m_dr; rw [e15]; exact nI_clamp (by omega)
    rw [this]
    exact (dv_out_reg hr).1 a ha
theorem val_car (g : RG S t) (r : RD P S t) {j : Nat} (hj : j < c_nn S) : ∃ b : Bool, m_val t j = b01 b ∧ c_car S j = b01 b := by
  obtain ⟨o, ho1, ho2⟩ := bit_out g r hj
  obtain ⟨e16, hk⟩ := (g.2.2.2.2.1 j hj).2
  have h8 := g.2.1
  unfold m_val c_car
  rw [e16, ho1, ho2]
  rcases hk with ⟨hn, e17, hkd⟩ | ⟨k, hk8, hn, e17, hkd, -⟩
  · rw [hn]
    rcases hkd with e | e | e
    · rw [e]
      refine ⟨o, if_pos (by decide), ?_⟩
      unfold nt_car
      rw [if_neg (by decide), if_neg (by decide)]
      exact b01_if o
    · rw [e]; exact ⟨false, by rw [if_neg (by decide), if_pos (by decide)]; rfl, rfl⟩
    · rw [e]; exact ⟨true, by rw [if_neg (by decide), if_pos (by decide)]; rfl, rfl⟩
  · obtain ⟨o2, hp1, hp2⟩ := bit_out g r hk8
    have hpt : m_pt t j = k := by unfold m_pt; rw [e17]; exact nI_clamp (by omega)
    rw [hn, hpt, hp2]
    show ∃ b, _ = b01 b ∧ nt_car (c_N S j 4) (b01 o) (some (c_bit S k)) = b01 b
    rw [hp1]
    rcases hkd with e | e
    · rw [e]
      refine ⟨o && o2, ?_, ?_⟩
      · rw [if_neg (by decide), if_neg (by decide), if_pos rfl]
        cases o <;> cases o2 <;> decide
      · cases o <;> cases o2 <;> decide
    · rw [e]
      refine ⟨o || o2, ?_, ?_⟩
      · rw [if_neg (by decide), if_neg (by decide), if_neg (by decide)]
        cases o <;> cases o2 <;> decide
      · cases o <;> cases o2 <;> decide
/-- the signals' bits -/
theorem sig_bits {d : Nat} (hb : ∀ j, j < c_nn S → ∃ b, b < 32 ∧ c_N S j 3 = nI b) (k : Nat) : ∀ (n i : Nat) (a : Int32), i + n ≤ c_nn S → (bt (up (fun j a => if (c_R S j).2.1 = d then (if c_car S j = 0 then a else a ||| 1 <<< (c_N S j 3 &&& 31)) else a) n i a) k = true ↔ bt a k = true ∨ ∃ j, i ≤ j ∧ j < i + n ∧ (c_R S j).2.1 = d ∧ ¬ c_car S j = 0 ∧ c_N S j 3 = nI k ∧ k < 32) := by
  intro n
  induction n with
  | zero =>
    intro i a _
    exact ⟨Or.inl, fun h => h.elim id (fun ⟨j, h1, h2, _⟩ => by omega)⟩
  | succ n ih =>
    intro i a hi
    obtain ⟨b, hb32, eb⟩ := hb i (by omega)
    show bt (up _ n (i + 1) _) k = true ↔ _
    rw [ih (i + 1) _ (by omega)]
    have hcur : (bt (if (c_R S i).2.1 = d then (if c_car S i = 0 then a else a ||| 1 <<< (c_N S i 3 &&& 31)) else a) k = true) ↔ bt a k = true ∨ ((c_R S i).2.1 = d ∧ ¬ c_car S i = 0 ∧ c_N S i 3 = nI k ∧ k < 32) := by
      by_cases h1 : (c_R S i).2.1 = d
      · rw [if_pos h1]
        by_cases h2 : c_car S i = 0
        · rw [if_pos h2]
          exact ⟨Or.inl, fun h => h.elim id (fun z => absurd h2 z.2.1)⟩
        · rw [if_neg h2, b_or, eb, b_1shl hb32, Bool.or_eq_true, decide_eq_true_iff]
          constructor
          · rintro (h | h)
            · exact Or.inl h
            · exact Or.inr ⟨h1, h2, by rw [h], by omega⟩
          · rintro (h | ⟨-, -, h, h5⟩)
            · exact Or.inl h
            · exact Or.inr ((nI_eq (by omega) (by omega)).mp h).symm
      · rw [if_neg h1]
        exact ⟨Or.inl, fun h => h.elim id (fun z => absurd z.1 h1)⟩
    rw [hcur]
    constructor
    · rintro ((h | h) | ⟨j, h1, h2, h3⟩)
      · exact Or.inl h
      · exact Or.inr ⟨i, Nat.le_refl _, by omega, h⟩
      · exact Or.inr ⟨j, by omega, by omega, h3⟩
    · rintro (h | ⟨j, h1, h2, h3⟩)
      · exact Or.inl (Or.inl h)
      · by_cases e : j = i
        · rw [e] at h3; exact Or.inl (Or.inr h3)
        · exact Or.inr ⟨j, by omega, by omega, h3⟩
theorem bool_b01 {x : Bool} {p : Prop} (h : x = true ↔ p) : (p → b01 x = 1) ∧ (¬ p → b01 x = 0) := ⟨fun z => b01_1.mpr (h.mpr z), fun z => b01_0.mpr (by cases x; rfl; exact absurd (h.mp rfl) z)⟩
theorem sig_reg (g : RG S t) (r : RD P S t) {d : Nat} (hd : d < c_nd S) : reg (m_cl t d) (c_sig S d) (fun k => m_sg t (6 * d + k)) := by
  have h4 := g.1
  have h8 := g.2.1
  have hr := r d hd
  have h6 := hr.2.2.1.2.1
  have hor := dv_out_reg hr
  have hos := dv_out_sub hr
  have hd3 := hr.2.2.2.1
  have hb : ∀ j, j < c_nn S → ∃ b, b < 32 ∧ c_N S j 3 = nI b := fun j hj => by
    obtain ⟨a, b, -, hb, -, ht, -, e3, -⟩ := (g.2.2.2.2.1 j hj).1
    have := (r _ ht).2.2.1.2.1
    exact ⟨b, by omega, e3⟩
  have hsb : ∀ k, bt (c_sig S d) k = true ↔ bt (dv_out (c_D S d)) k = true ∨ ∃ j, 0 ≤ j ∧ j < 0 + c_nn S ∧ (c_R S j).2.1 = d ∧ ¬ c_car S j = 0 ∧ c_N S j 3 = nI k ∧ k < 32 := fun k => sig_bits hb k (c_nn S) 0 _ (by omega)
  have hto : ∀ j k, j < c_nn S → (c_R S j).2.1 = d → c_N S j 3 = nI k → k < 32 → k < m_cl t d ∧ t 13 (6 * d + k) = nI j ∧ t 10 (6 * d + k) = 0 := by
    intro j k hj h1 h2 h3
    obtain ⟨a, b, ha, hb, -, ht, -, e3, -, -, e13, -, e10⟩ := (g.2.2.2.2.1 j hj).1
    rw [h1] at hb e13 e10
    have : b = k := (nI_eq (by omega) (by omega)).mp (e3.symm.trans h2)
    rw [this] at hb e13 e10
    exact ⟨hb, e13, e10⟩
  refine ⟨fun k hk => ?_, fun k hk => ?_⟩
  · show m_sg t (6 * d + k) = b01 (bt (c_sig S d) k)
    unfold m_sg
    have e10 : t 10 (6 * d + k) = b01 (bt (c_D S d 3) k) := hd3.1 k hk
    by_cases hz : t 10 (6 * d + k) = 0
    · rw [if_pos hz]
      have hb3 : bt (c_D S d 3) k = false := b01_0.mp (e10.symm.trans hz)
      have hbo : ¬ bt (dv_out (c_D S d)) k = true := fun z => by rw [hos k z] at hb3; cases hb3
      have hs : bt (c_sig S d) k = true ↔ ∃ j, j < c_nn S ∧ (c_R S j).2.1 = d ∧ ¬ c_car S j = 0 ∧ c_N S j 3 = nI k ∧ k < 32 := by
        rw [hsb k]
        exact ⟨fun z => z.elim (fun y => absurd y hbo) (fun ⟨j, _, h2, h3⟩ => ⟨j, by omega, h3⟩), fun ⟨j, h2, h3⟩ => Or.inr ⟨j, by omega, by omega, h3⟩⟩
      rcases g.2.2.2.2.2 d k hd hk with e13 | ⟨j, hj, e13, hw⟩
      · rw [e13, if_pos (by decide)]
        refine ((bool_b01 hs).2 ?_).symm
        rintro ⟨j, hj, h1, -, h2, h3⟩
        have := (hto j k hj h1 h2 h3).2.1
        rw [e13] at this
        exact nI_m1 (by omega) this.symm
      · have hno : m_no t (6 * d + k) = j := by unfold m_no; rw [e13]; exact nI_clamp (by omega)
        rw [hno, e13, if_neg (nI_pos (by omega))]
        obtain ⟨v, hv1, hv2⟩ := val_car g r hj
        rw [hv1]
        rcases hw with ⟨w1, w2⟩ | ⟨w1, w2⟩
        · exfalso
          obtain ⟨a, b, ha, hb, hf, ht, e1, e3, -, -, -, n10, -⟩ := (g.2.2.2.2.1 j hj).1
          rw [← w1] at n10 ha
          have : a = k := (nI_eq (by omega) (by omega)).mp (e1.symm.trans w2)
          rw [this] at n10
          exact n10 hz
        · cases v
          · refine ((bool_b01 hs).2 ?_).symm
            rintro ⟨j2, hj2, h1, h1c, h2, h3⟩
            have := (hto j2 k hj2 h1 h2 h3).2.1
            rw [e13] at this
            have : j = j2 := (nI_eq (by omega) (by omega)).mp this
            rw [← this, hv2] at h1c
            exact h1c rfl
          · exact ((bool_b01 hs).1 ⟨j, hj, w1.symm, by rw [hv2]; decide, w2, by omega⟩).symm
    · rw [if_neg hz, show m_out t (6 * d + k) = b01 (bt (dv_out (c_D S d)) k) from hor.1 k hk]
      congr 1
      have hs : bt (c_sig S d) k = true ↔ bt (dv_out (c_D S d)) k = true := by
        rw [hsb k]
        exact ⟨fun z => z.elim id (fun ⟨j, _, h2, h1, _, h3, h5⟩ => absurd (hto j k (by omega) h1 h3 h5).2.2 hz), Or.inl⟩
      cases hx : bt (c_sig S d) k
      · cases hy : bt (dv_out (c_D S d)) k
        · rfl
        · rw [hx, hy] at hs; exact absurd (hs.mpr rfl) (by decide)
      · rw [hx] at hs; rw [hs.mp rfl]
  · have hn : ¬ bt (c_sig S d) k = true := by
      rw [hsb k]
      rintro (z | ⟨j, _, h2, h1, _, h3, h5⟩)
      · rw [hor.2 k hk] at z; cases z
      · have := (hto j k (by omega) h1 h3 h5).1
        omega
    cases hx : bt (c_sig S d) k
    · rfl
    · exact absurd hx hn
end REL
