/-! test on both sides -/
def tot (cl : Nat → Nat) : Nat → Nat
  | 0 => 0
  | n + 1 => tot cl n + cl n
theorem tot_mono {cl : Nat → Nat} {a b : Nat} (h : a ≤ b) : tot cl a ≤ tot cl b := by
  induction b with
  | zero => rw [show a = 0 by omega]; exact Nat.le_refl _
  | succ b ih =>
    by_cases e : a = b + 1
    · rw [e]; exact Nat.le_refl _
    · exact Nat.le_trans (ih (by omega)) (Nat.le_add_right _ _)
theorem tot_le {cl : Nat → Nat} {m : Nat} (h : ∀ i, i < m → cl i ≤ 6) : ∀ n, n ≤ m → tot cl n ≤ 6 * n := by
  intro n
  induction n with
  | zero => intro _; exact Nat.le_refl _
  | succ n ih =>
    intro hn
    have h1 := ih (by omega)
    have h2 := h n (by omega)
    show tot cl n + cl n ≤ 6 * (n + 1)
    omega
/-- where a cell stands in a scan -/
def pos (cl : Nat → Nat) (nd d c : Nat) : Nat := tot cl nd - tot cl (d + 1) + c
theorem pos_lt {cl : Nat → Nat} {nd d c : Nat} (hd : d < nd) (hc : c < cl d) : pos cl nd d c < tot cl nd := by
  have h1 := tot_mono (cl := cl) (show d + 1 ≤ nd by omega)
  have h2 : tot cl (d + 1) = tot cl d + cl d := rfl
  unfold pos
  omega
theorem pos_inj {cl : Nat → Nat} {nd d c d' c' : Nat} (hd : d < nd) (hc : c < cl d) (hd' : d' < nd) (hc' : c' < cl d') (h : pos cl nd d c = pos cl nd d' c') : d = d' ∧ c = c' := by
  have h1 := tot_mono (cl := cl) (show d + 1 ≤ nd by omega)
  have h1' := tot_mono (cl := cl) (show d' + 1 ≤ nd by omega)
  have h2 : tot cl (d + 1) = tot cl d + cl d := rfl
  have h2' : tot cl (d' + 1) = tot cl d' + cl d' := rfl
  unfold pos at h
  rcases Nat.lt_trichotomy d d' with e | e | e
  · have := tot_mono (cl := cl) (show d + 1 ≤ d' by omega)
    omega
  · subst e; exact ⟨rfl, by omega⟩
  · have := tot_mono (cl := cl) (show d' + 1 ≤ d by omega)
    omega
theorem up_last {α : Type} {f : Nat → α → α} : ∀ (n i : Nat) (a : α), up f (n + 1) i a = f (i + n) (up f n i a) := by
  intro n
  induction n with
  | zero => intro i a; rfl
  | succ n ih =>
    intro i a
    show up f (n + 1) (i + 1) (f i a) = f (i + (n + 1)) (up f n (i + 1) (f i a))
    rw [ih, show i + 1 + n = i + (n + 1) by omega]
theorem up_add {α : Type} {f : Nat → α → α} : ∀ (m n i : Nat) (a : α), up f (m + n) i a = up f n (i + m) (up f m i a) := by
  intro m
  induction m with
  | zero => intro n i a; rw [Nat.zero_add]; rfl
  | succ m ih =>
    intro n i a
    rw [show m + 1 + n = (m + n) + 1 by omega]
    show up f (m + n) (i + 1) (f i a) = up f n (i + (m + 1)) (up f m (i + 1) (f i a))
    rw [ih, show i + 1 + m = i + (m + 1) by omega]
theorem sum_tot {g : Nat → Int32} {cl : Nat → Nat} {m : Nat} (h : ∀ i, i < m → g i = nI (cl i)) : ∀ n, n ≤ m → up (fun i a => a + g i) n 0 0 = nI (tot cl n) := by
  intro n
  induction n with
  | zero => intro _; rfl
  | succ n ih =>
    intro hn
    rw [up_last, ih (by omega), Nat.zero_add, h n (by omega), nI_add]
    rfl
section TST
variable {S : cS} {t : mS} {nd : Nat} {cl : Nat → Nat}
theorem place_tot (h : ∀ i, i < nd → c_D S i 2 = nI (cl i)) {o : Nat} : ∀ (n a : Nat), o < n → n ≤ nd → c_place S o n (nI a) = nI (a + (tot cl n - tot cl (o + 1))) := by
  intro n
  induction n with
  | zero => intro a h1 _; omega
  | succ n ih =>
    intro a h1 h2
    unfold c_place
    by_cases e : n = o
    · rw [if_pos e, e, Nat.sub_self]; rfl
    · rw [if_neg e, h n (by omega), nI_add, ih (a + cl n) (by omega) (by omega)]
      have h3 := tot_mono (cl := cl) (show o + 1 ≤ n by omega)
      congr 1
      show a + cl n + (tot cl n - tot cl (o + 1)) = a + (tot cl n + cl n - tot cl (o + 1))
      omega
theorem b01_shl (q : Bool) {n : Nat} (hn : n < 32) (k : Nat) : bt (b01 q <<< (nI n &&& 31)) k = (q && decide (k = n)) := by
  rcases Nat.lt_or_ge k 32 with h | h
  · rw [b_shl n hn _ h, b_b01]
    by_cases e : k = n
    · rw [e]; simp
    · rw [decide_eq_false e, Bool.and_false]
      by_cases e2 : n ≤ k
      · rw [decide_eq_false (show ¬ k - n = 0 by omega), Bool.and_false, Bool.and_false]
      · rw [decide_eq_false e2, Bool.false_and]
  · rw [b_big h, decide_eq_false (by omega), Bool.and_false]
/-- the bits of a round's pattern -/
theorem pat_bits {r : Nat} (hr : r < 32) {ps : Nat → Nat} (hp : ∀ j, j < c_nn S → ps j < 32 ∧ c_place S (c_R S j).1 (c_nd S) (c_N S j 1) = nI (ps j)) (k : Nat) : ∀ (n i : Nat) (a : Int32), i + n ≤ c_nn S → (bt (up (fun j a => a ||| ((mm_ushr (nI (j + 1)) (nI r) &&& 1) <<< (c_place S (c_R S j).1 (c_nd S) (c_N S j 1) &&& 31))) n i a) k = true ↔ bt a k = true ∨ ∃ j, i ≤ j ∧ j < i + n ∧ bt (nI (j + 1)) r = true ∧ ps j = k) := by
  intro n
  induction n with
  | zero =>
    intro i a _
    exact ⟨Or.inl, fun h => h.elim id (fun ⟨j, h1, h2, _⟩ => by omega)⟩
  | succ n ih =>
    intro i a hi
    obtain ⟨p1, p2⟩ := hp i (by omega)
    show bt (up _ n (i + 1) _) k = true ↔ _
    rw [ih (i + 1) _ (by omega), b_or, p2, mu_and1 hr, b01_shl _ p1, Bool.or_eq_true, Bool.and_eq_true, decide_eq_true_iff]
    constructor
    · rintro ((h | ⟨h1, h2⟩) | ⟨j, h1, h2, h3⟩)
      · exact Or.inl h
      · exact Or.inr ⟨i, Nat.le_refl _, by omega, h1, h2.symm⟩
      · exact Or.inr ⟨j, by omega, by omega, h3⟩
    · rintro (h | ⟨j, h1, h2, h3, h4⟩)
      · exact Or.inl (Or.inl h)
      · by_cases e : j = i
        · rw [e] at h3 h4; exact Or.inl (Or.inr ⟨h3, h4.symm⟩)
        · exact Or.inr ⟨j, by omega, by omega, h3, h4⟩
theorem TR_cl (h : TR S t) : ∀ i, i < c_nd S → c_D S i 2 = nI (m_cl t i) := fun i hi => by
  have hr := TR_dev h hi
  exact hr.1.2.2.1.symm.trans hr.2.2.1.2.2
theorem TR_c6 (h : TR S t) : ∀ i, i < c_nd S → 1 ≤ m_cl t i ∧ m_cl t i ≤ 6 := fun i hi => by
  have hr := TR_dev h hi
  exact ⟨hr.2.2.1.1, hr.2.2.1.2.1⟩
theorem tot24 (h : TR S t) : tot (m_cl t) (c_nd S) ≤ 24 := by
  have h4 := h.1.1
  have := tot_le (cl := m_cl t) (m := c_nd S) (fun i hi => (TR_c6 h i hi).2) (c_nd S) (Nat.le_refl _)
  omega
/-- what goes in at a cell -/
theorem rbit_pat (h : TR S t) {r d c : Nat} (hr : r < 32) (hd : d < c_nd S) (hc : c < m_cl t d) : m_rbit t (nI r) (6 * d + c) = b01 (bt (c_pat S (nI r)) (pos (m_cl t) (c_nd S) d c)) := by
  have h4 := h.1.1
  have h8 := h.1.2.1
  have ht := tot24 h
  have hc6 := TR_c6 h
  have hps : ∀ j, j < c_nn S → ∃ a, a < m_cl t (c_R S j).1 ∧ (c_R S j).1 < c_nd S ∧ c_N S j 1 = nI a ∧ t 13 (6 * (c_R S j).1 + a) = nI j ∧ ¬ t 10 (6 * (c_R S j).1 + a) = 0 := fun j hj => by
    obtain ⟨a, b, q1, q2, q3, q4, q5, q6, q7, q8, q9, q10, q11⟩ := (h.1.2.2.2.2.1 j hj).1
    exact ⟨a, q1, q3, q5, q8, q10⟩
  have hpp : ∀ j, j < c_nn S → pos (m_cl t) (c_nd S) (c_R S j).1 (c_N S j 1).toNatClampNeg < 32 ∧ c_place S (c_R S j).1 (c_nd S) (c_N S j 1) = nI (pos (m_cl t) (c_nd S) (c_R S j).1 (c_N S j 1).toNatClampNeg) := fun j hj => by
    obtain ⟨a, q1, q3, q5, -⟩ := hps j hj
    have := (hc6 _ q3).2
    rw [q5, nI_clamp (by omega), place_tot (TR_cl h) (c_nd S) a q3 (Nat.le_refl _)]
    refine ⟨by have := pos_lt q3 q1; omega, ?_⟩
    unfold pos
    rw [Nat.add_comm]
  have hb : bt (c_pat S (nI r)) (pos (m_cl t) (c_nd S) d c) = true ↔ ∃ j, j < c_nn S ∧ bt (nI (j + 1)) r = true ∧ pos (m_cl t) (c_nd S) (c_R S j).1 (c_N S j 1).toNatClampNeg = pos (m_cl t) (c_nd S) d c := by
    refine (pat_bits hr hpp _ (c_nn S) 0 0 (by omega)).trans ?_
    rw [b_0]
    exact ⟨fun z => z.elim (fun y => by cases y) (fun ⟨j, _, h2, h3⟩ => ⟨j, by omega, h3⟩), fun ⟨j, h2, h3⟩ => Or.inr ⟨j, by omega, by omega, h3⟩⟩
  have hfrom : ∀ j, j < c_nn S → pos (m_cl t) (c_nd S) (c_R S j).1 (c_N S j 1).toNatClampNeg = pos (m_cl t) (c_nd S) d c → t 13 (6 * d + c) = nI j ∧ ¬ t 10 (6 * d + c) = 0 := fun j hj e => by
    obtain ⟨a, q1, q3, q5, q8, q10⟩ := hps j hj
    have := (hc6 _ q3).2
    rw [q5, nI_clamp (by omega)] at e
    obtain ⟨e1, e2⟩ := pos_inj q3 q1 hd hc e
    rw [e1, e2] at q8 q10
    exact ⟨q8, q10⟩
  unfold m_rbit
  rcases h.1.2.2.2.2.2 d c hd hc with e13 | ⟨j, hj, e13, hw⟩
  · rw [e13, if_pos (by decide)]
    refine ((bool_b01 hb).2 ?_).symm
    rintro ⟨j, hj, -, e⟩
    have := (hfrom j hj e).1
    rw [e13] at this
    exact nI_m1 (by omega) this.symm
  · rw [e13, if_neg (nI_pos (by omega)), nI_1, sh_and1 hr]
    by_cases hz : t 10 (6 * d + c) = 0
    · rw [if_pos hz]
      refine ((bool_b01 hb).2 ?_).symm
      rintro ⟨j2, hj2, -, e⟩
      exact (hfrom j2 hj2 e).2 hz
    · rw [if_neg hz]
      congr 1
      have hfr : pos (m_cl t) (c_nd S) (c_R S j).1 (c_N S j 1).toNatClampNeg = pos (m_cl t) (c_nd S) d c := by
        rcases hw with ⟨w1, w2⟩ | ⟨w1, w2⟩
        · have := (hc6 d hd).2
          rw [w2, nI_clamp (by omega), ← w1]
        · exfalso
          obtain ⟨a, b, q1, q2, q3, q4, q5, q6, q7, q8, q9, q10, q11⟩ := (h.1.2.2.2.2.1 j hj).1
          have := (hc6 _ q4).2
          have := (hc6 d hd).2
          have eb : b = c := (nI_eq (by omega) (by omega)).mp (q6.symm.trans w2)
          rw [← w1, eb] at q11
          exact hz q11
      cases hx : bt (nI (j + 1)) r
      · cases hy : bt (c_pat S (nI r)) (pos (m_cl t) (c_nd S) d c)
        · rfl
        · obtain ⟨j2, hj2, h2, e⟩ := hb.mp hy
          have h13 := (hfrom j2 hj2 e).1
          rw [e13] at h13
          have : j = j2 := (nI_eq (by omega) (by omega)).mp h13
          rw [this, h2] at hx; cases hx
      · exact (hb.mpr ⟨j, hj, hx, hfr⟩).symm
end TST
