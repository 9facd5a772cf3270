/-! a net added on both sides -/
section NETS
variable {S : cS} {t : mS}
theorem wire_D (S : cS) (i : Nat) (c : Int32) (d f : Nat) (hf : f ≠ 4) : c_D (c_wire S i c) d f = c_D S d f := by
  show va_up (c_D S) i (upd (c_D S i) 4 (c_D S i 4 ||| 1 <<< (c &&& 31))) d f = _
  by_cases e : d = i
  · rw [e, va_up_self, pk_un hf]
  · rw [va_up_ne _ _ e]
theorem wire_4 (S : cS) (i : Nat) {a : Nat} (ha : a < 32) (d k : Nat) : bt (c_D (c_wire S i (nI a)) d 4) k = true ↔ bt (c_D S d 4) k = true ∨ (d = i ∧ k = a) := by
  show bt (va_up (c_D S) i (upd (c_D S i) 4 (c_D S i 4 ||| 1 <<< (nI a &&& 31))) d 4) k = true ↔ _
  by_cases e : d = i
  · rw [e, va_up_self, pk_us, b_or, b_1shl ha, Bool.or_eq_true, decide_eq_true_iff]
    exact ⟨fun z => z.elim Or.inl (fun y => Or.inr ⟨rfl, y⟩), fun z => z.elim Or.inl (fun y => Or.inr y.2)⟩
  · rw [va_up_ne _ _ e]
    exact ⟨Or.inl, fun z => z.elim id (fun y => absurd y.1 e)⟩
/-- a device: its wired bits, and where the nets stand -/
theorem rD_4 {D D' : Nat → Int32} {t t' : mS} {d : Nat} {P1 : Prop} (hD : ∀ f, f ≠ 4 → D' f = D f) (ht : ∀ m, m ∈ [2, 3, 4, 5, 6, 7, 8, 9, 10, 11, 12] → t' m = t m) (r : rD P1 D t d) (h : ∀ k, k < m_cl t d → (bt (D' 4) k = true ↔ ¬ t' 13 (6 * d + k) < 0)) : rD P1 D' t' d := by
  refine ⟨?_, ?_, ?_, ?_, ?_, ?_, ?_, ?_, ?_, ?_, fun p => dat_eq (hD 7 (by decide)) (hD 9 (by decide)) (ht 4 (by decide)) (ht 7 (by decide)) (ht 8 (by decide)) (ht 9 (by decide)) (r.2.2.2.2.2.2.2.2.2.2 p)⟩
  all_goals unfold rD m_wd m_cl at *
  · rw [hD 0 (by decide), hD 1 (by decide), hD 2 (by decide), hD 7 (by decide), ht 2 (by decide), ht 3 (by decide), ht 4 (by decide), ht 5 (by decide)]; exact r.1
  · rw [ht 2 (by decide)]; exact r.2.1
  · rw [ht 4 (by decide)]; exact r.2.2.1
  · rw [hD 3 (by decide), ht 4 (by decide), ht 10 (by decide)]; exact r.2.2.2.1
  · rw [ht 4 (by decide)]; exact h
  · rw [hD 8 (by decide), ht 2 (by decide), ht 6 (by decide)]; exact r.2.2.2.2.2.1
  · rw [hD 5 (by decide), ht 4 (by decide), ht 11 (by decide)]; exact r.2.2.2.2.2.2.1
  · rw [hD 5 (by decide), hD 3 (by decide)]; exact r.2.2.2.2.2.2.2.1
  · rw [hD 6 (by decide), ht 4 (by decide), ht 12 (by decide)]; exact r.2.2.2.2.2.2.2.2.1
  · rw [hD 6 (by decide), hD 3 (by decide)]; exact r.2.2.2.2.2.2.2.2.2.1
theorem net_r (h : Rel S t) {i j a b : Nat} (hi : i < c_nd S) (hj : j < c_nd S) (ha : a < m_cl t i) (hb : b < m_cl t j) (d1 : ¬ t 10 (6 * i + a) = 0) (d2 : t 10 (6 * j + b) = 0) (d3 : t 13 (6 * i + a) < 0) (d4 : t 13 (6 * j + b) < 0) (hn : c_nn S < 8) : Rel (c_net S i (nI a) j (nI b)) (m_net t (c_nn S) (6 * i + a) (6 * j + b)) := by
  obtain ⟨⟨g, ⟨p, hp, e1, e2, r⟩, e3⟩, h2, h3, f, h4, h5, h6, h7⟩ := h
  have g4 := g.1
  have ai6 := (r i hi).2.2.1.2.1
  have bj6 := (r j hj).2.2.1.2.1
  obtain ⟨A, hA⟩ : ∃ A, A = 6 * i + a := ⟨_, rfl⟩
  obtain ⟨B, hB⟩ : ∃ B, B = 6 * j + b := ⟨_, rfl⟩
  rw [← hA] at d1 d3 ⊢
  rw [← hB] at d2 d4 ⊢
  have hAB : A ≠ B := fun z => d1 (by rw [z]; exact d2)
  obtain ⟨t', ht'⟩ : ∃ t', t' = m_net t (c_nn S) A B := ⟨_, rfl⟩
  obtain ⟨S', hS'⟩ : ∃ S', S' = c_net S i (nI a) j (nI b) := ⟨_, rfl⟩
  have s1 : c_nd S' = c_nd S := by rw [hS']; rfl
  have s2 : c_nn S' = c_nn S + 1 := by rw [hS']; rfl
  have sR : ∀ x, c_R S' x = if x = c_nn S then (i, j, none) else c_R S x := fun x => by
    rw [hS']
    show va_up (c_R S) (c_nn S) (i, j, none) x = _
    by_cases e : x = c_nn S
    · rw [if_pos e, e, va_up_self]
    · rw [if_neg e, va_up_ne _ _ e]
  have sN : ∀ x, c_N S' x = if x = c_nn S then nt_new (nI a) (nI b) else c_N S x := fun x => by
    rw [hS']
    show va_up (c_N S) (c_nn S) (nt_new (nI a) (nI b)) x = _
    by_cases e : x = c_nn S
    · rw [if_pos e, e, va_up_self]
    · rw [if_neg e, va_up_ne _ _ e]
  have sZ : c_Z S' 0 2 = c_Z S 0 2 ∧ c_Z S' 0 3 = c_Z S 0 3 ∧ c_Z S' 0 6 = c_Z S 0 6 ∧ c_Z S' 0 7 = 0 ∧ c_Z S' 2 = c_Z S 2 := by rw [hS']; exact ⟨rfl, rfl, rfl, rfl, rfl⟩
  have sD : ∀ d f, f ≠ 4 → c_D S' d f = c_D S d f := fun d f hf => by
    rw [hS']
    show c_D (c_wire (c_wire S i (nI a)) j (nI b)) d f = _
    rw [wire_D _ _ _ _ _ hf, wire_D _ _ _ _ _ hf]
  have sD4 : ∀ d k, bt (c_D S' d 4) k = true ↔ bt (c_D S d 4) k = true ∨ (d = i ∧ k = a) ∨ (d = j ∧ k = b) := fun d k => by
    rw [hS']
    show bt (c_D (c_wire (c_wire S i (nI a)) j (nI b)) d 4) k = true ↔ _
    rw [wire_4 _ _ (by omega), wire_4 _ _ (by omega), or_assoc]
  have t0 : t' 0 1 = t 0 1 ∧ t' 0 14 = nI (c_nn S + 1) ∧ t' 0 19 = t 0 19 ∧ t' 0 20 = t 0 20 ∧ t' 0 21 = t 0 21 ∧ t' 0 23 = 0 := by rw [ht']; exact ⟨rfl, rfl, rfl, rfl, rfl, rfl⟩
  have tm : ∀ m, m ∈ [2, 3, 4, 5, 6, 7, 8, 9, 10, 11, 12, 22] → t' m = t m := fun m hm => by
    simp only [List.mem_cons, List.not_mem_nil, or_false] at hm
    rw [ht']
    unfold m_net
    rw [m_s_ne _ _ _ (by omega), m_s_ne _ _ _ (by omega), m_s_ne _ _ _ (by omega), m_s_ne _ _ _ (by omega), m_s_ne _ _ _ (by omega), m_s_ne _ _ _ (by omega), m_s_ne _ _ _ (by omega), m_s_ne _ _ _ (by omega), m_s_ne _ _ _ (by omega)]
  have t13 : ∀ x, t' 13 x = if x = A ∨ x = B then nI (c_nn S) else t 13 x := fun x => by
    rw [ht']
    unfold m_net
    rw [m_s_ne _ _ _ (by decide), m_s_ne _ _ _ (by decide), m_s_ne _ _ _ (by decide), m_s_ne _ _ _ (by decide), m_s_ne _ _ _ (by decide), m_s_ne _ _ _ (by decide)]
    by_cases eB : x = B
    · rw [if_pos (Or.inr eB), eB, m_s_at]
    · rw [m_s_off _ _ _ eB]
      by_cases eA : x = A
      · rw [if_pos (Or.inl eA), eA, m_s_at]
      · rw [m_s_off _ _ _ eA, if_neg (fun z => z.elim eA eB)]; rfl
  have tn : ∀ m v, (m = 15 ∧ v = nI A) ∨ (m = 16 ∧ v = -1) ∨ (m = 17 ∧ v = -1) ∨ (m = 18 ∧ v = 0) → ∀ x, t' m x = if x = c_nn S then v else t m x := by
    rintro m v (⟨rfl, rfl⟩ | ⟨rfl, rfl⟩ | ⟨rfl, rfl⟩ | ⟨rfl, rfl⟩) x
    all_goals
      rw [ht']
      unfold m_net
      by_cases e : x = c_nn S
      · rw [if_pos e, e]
        repeat rw [m_s_ne _ _ _ (by decide)]
        rw [m_s_at]
      · rw [if_neg e]
        repeat first | rw [m_s_ne _ _ _ (by decide)] | rw [m_s_off _ _ _ e]
  have t15 := tn 15 _ (Or.inl ⟨rfl, rfl⟩)
  have t16 := tn 16 _ (Or.inr (Or.inl ⟨rfl, rfl⟩))
  have t17 := tn 17 _ (Or.inr (Or.inr (Or.inl ⟨rfl, rfl⟩)))
  have t18 := tn 18 _ (Or.inr (Or.inr (Or.inr ⟨rfl, rfl⟩)))
  have mcl : ∀ d, m_cl t' d = m_cl t d := fun d => by unfold m_cl; rw [tm 4 (by decide)]
  rw [← ht', ← hS']
  clear ht' hS' tn
  have g' : RG S' t' := by
    refine ⟨by rw [s1]; exact g4, by rw [s2]; omega, by rw [s1, t0.1]; exact g.2.2.1, by rw [s2]; exact t0.2.1, fun x hx => ?_, fun d k hd hk => ?_⟩
    · rw [s2] at hx
      by_cases e : x = c_nn S
      · constructor
        · refine ⟨a, b, ?_⟩
          rw [sR, sN, if_pos e, if_pos e, mcl, mcl, s1, t15, if_pos e, tm 10 (by decide), t13, t13, ← hA, ← hB, if_pos (Or.inl rfl), if_pos (Or.inr rfl)]
          exact ⟨ha, hb, hi, hj, rfl, rfl, rfl, by rw [e], by rw [e], d1, d2⟩
        · refine ⟨?_, Or.inl ⟨?_, ?_, Or.inl ?_⟩⟩
          · rw [t16, sN, if_pos e, if_pos e]; rfl
          · rw [sR, if_pos e]
          · rw [t17, if_pos e]
          · rw [sN, if_pos e]; rfl
      · have hx9 : x < c_nn S := by omega
        obtain ⟨⟨a2, b2, q1, q2, q3, q4, q5, q6, q7, q8, q9, q10, q11⟩, ⟨f16, hq⟩⟩ := g.2.2.2.2.1 x hx9
        constructor
        · refine ⟨a2, b2, ?_⟩
          have n1 : ∀ y, t 13 y = nI x → ¬ (y = A ∨ y = B) := fun y hy z => by
            rcases z with z | z
            · rw [z] at hy; rw [hy] at d3; exact nI_pos (by omega) d3
            · rw [z] at hy; rw [hy] at d4; exact nI_pos (by omega) d4
          rw [sR, sN, if_neg e, if_neg e, mcl, mcl, s1, t15, if_neg e, tm 10 (by decide), t13, t13, if_neg (n1 _ q8), if_neg (n1 _ q9)]
          exact ⟨q1, q2, q3, q4, q5, q6, q7, q8, q9, q10, q11⟩
        · unfold RF
          rw [t16, t17, sN, sR, if_neg e, if_neg e, if_neg e, if_neg e, s2]
          refine ⟨f16, ?_⟩
          rcases hq with hq | ⟨k, k1, k2, k3, k4, k5⟩
          · exact Or.inl hq
          · exact Or.inr ⟨k, by omega, k2, k3, k4, by rw [sR, if_neg (by omega)]; exact k5⟩
    · rw [s1] at hd
      rw [mcl] at hk
      have hk6 := (r d hd).2.2.1.2.1
      rw [s2, t13]
      by_cases eA : 6 * d + k = A
      · rw [if_pos (Or.inl eA)]
        refine Or.inr ⟨c_nn S, by omega, rfl, Or.inl ⟨?_, ?_⟩⟩
        · rw [sR, if_pos rfl]; show d = i; omega
        · rw [sN, if_pos rfl]; show nI a = nI k; congr 1; omega
      · by_cases eB : 6 * d + k = B
        · rw [if_pos (Or.inr eB)]
          refine Or.inr ⟨c_nn S, by omega, rfl, Or.inr ⟨?_, ?_⟩⟩
          · rw [sR, if_pos rfl]; show d = j; omega
          · rw [sN, if_pos rfl]; show nI b = nI k; congr 1; omega
        · rw [if_neg (fun z => z.elim eA eB)]
          rcases g.2.2.2.2.2 d k hd hk with e | ⟨x, hx, e, hw⟩
          · exact Or.inl e
          · refine Or.inr ⟨x, by omega, e, ?_⟩
            rw [sR, sN, if_neg (by omega), if_neg (by omega)]
            exact hw
  refine ⟨⟨g', ⟨p, hp, by rw [sZ.1]; exact e1, by rw [t0.2.2.1]; exact e2, fun d hd => ?_⟩, by rw [sZ.2.1, t0.2.2.2.1]; exact e3⟩, fun x hx => ?_, by rw [sZ.2.2.2.1, t0.2.2.2.2.2], f, h4, by rw [t0.2.2.2.2.1]; exact h5, by rw [sZ.2.2.1]; exact h6, fun k hk => by rw [sZ.2.2.2.2, tm 22 (by decide)]; exact h7 k hk⟩
  · rw [s1] at hd
    have hr := r d hd
    have hk6 := hr.2.2.1.2.1
    refine rD_4 (fun f hf => sD d f hf) (fun m hm => tm m (by simp only [List.mem_cons, List.not_mem_nil, or_false] at hm ⊢; omega)) hr (fun k hk => ?_)
    rw [sD4, t13]
    by_cases eA : 6 * d + k = A
    · rw [if_pos (Or.inl eA)]
      exact ⟨fun _ => nI_pos (by omega), fun _ => Or.inr (Or.inl ⟨by omega, by omega⟩)⟩
    · by_cases eB : 6 * d + k = B
      · rw [if_pos (Or.inr eB)]
        exact ⟨fun _ => nI_pos (by omega), fun _ => Or.inr (Or.inr ⟨by omega, by omega⟩)⟩
      · rw [if_neg (fun z => z.elim eA eB), ← hr.2.2.2.2.1 k hk]
        exact ⟨fun z => z.elim id (fun y => y.elim (fun y => absurd (by rw [y.1, y.2, hA]) eA) (fun y => absurd (by rw [y.1, y.2, hB]) eB)), Or.inl⟩
  · rw [s2] at hx
    rw [t18, sN]
    by_cases e : x = c_nn S
    · rw [if_pos e, if_pos e]; rfl
    · rw [if_neg e, if_neg e]; exact h2 x (by omega)
end NETS
