/-! faults on both sides -/
section FLT
variable {S S' : cS} {t t' : mS}
theorem Rel_F (h : Rel S t) (h1 : S'.1 = S.1) (hD : c_D S' = c_D S) (hZ : c_Z S' = c_Z S) (hR : ∀ j, (c_R S' j).1 = (c_R S j).1 ∧ (c_R S' j).2.1 = (c_R S j).2.1) (hN : ∀ j f, f ≠ 4 → c_N S' j f = c_N S j f) (ht : ∀ n, n ≠ 16 → n ≠ 17 → t' n = t n) (hF : ∀ j, j < c_nn S → RF S' t' j) : Rel S' t' := by
  obtain ⟨⟨g, ⟨p, hp, e1, e2, r⟩, e3⟩, h2, h3, f, h4, h5, h6, h7⟩ := h
  have hnd : c_nd S' = c_nd S := congrArg Prod.fst h1
  have hnn : c_nn S' = c_nn S := congrArg Prod.snd h1
  have g' : RG S' t' := by
    refine ⟨by rw [hnd]; exact g.1, by rw [hnn]; exact g.2.1, by rw [hnd, ht 0 (by decide) (by decide)]; exact g.2.2.1, by rw [hnn, ht 0 (by decide) (by decide)]; exact g.2.2.2.1, fun j hj => ⟨?_, hF j (by rw [← hnn]; exact hj)⟩, ?_⟩
    · have hx := (g.2.2.2.2.1 j (by rw [← hnn]; exact hj)).1
      unfold RN m_cl at *
      rw [(hR j).1, (hR j).2, hnd, hN j 1 (by decide), hN j 3 (by decide), ht 4 (by decide) (by decide), ht 10 (by decide) (by decide), ht 13 (by decide) (by decide), ht 15 (by decide) (by decide)]
      exact hx
    · have hx := g.2.2.2.2.2
      unfold RO m_cl at *
      rw [hnd, hnn, ht 4 (by decide) (by decide), ht 13 (by decide) (by decide)]
      intro d k hd hk
      rcases hx d k hd hk with e | ⟨j, hj, e, hw⟩
      · exact Or.inl e
      · refine Or.inr ⟨j, hj, e, ?_⟩
        rw [(hR j).1, (hR j).2, hN j 1 (by decide), hN j 3 (by decide)]
        exact hw
  refine ⟨⟨g', ⟨p, hp, by rw [hZ]; exact e1, by rw [ht 0 (by decide) (by decide)]; exact e2, fun d hd => ?_⟩, by rw [hZ, ht 0 (by decide) (by decide)]; exact e3⟩, fun j hj => ?_, by rw [hZ, ht 0 (by decide) (by decide)]; exact h3, f, h4, by rw [ht 0 (by decide) (by decide)]; exact h5, by rw [hZ]; exact h6, fun k hk => by rw [hZ, ht 22 (by decide) (by decide)]; exact h7 k hk⟩
  · rw [hD]
    refine rD_blk ⟨⟨?_, ?_, ?_, ?_⟩, ?_, ?_, ?_, ?_, ?_, ?_, ?_, ?_⟩ (r d (by rw [← hnd]; exact hd))
    all_goals first | (intro k _; rw [ht _ (by decide) (by decide)]) | rw [ht _ (by decide) (by decide)]
  · rw [ht 18 (by decide) (by decide), hN j 6 (by decide)]
    exact h2 j (by rw [← hnn]; exact hj)
/-- a net and its partner mended -/
theorem mend_R {j : Nat} (hp : ∀ k, (c_R S j).2.2 = some k → k ≠ j) (i : Nat) : c_R (c_mend S j) i = if i = j ∨ (c_R S j).2.2 = some i then ((c_R S i).1, (c_R S i).2.1, none) else c_R S i := by
  unfold c_mend
  cases e : (c_R S j).2.2 with
  | none =>
    show va_up (c_R S) j ((c_R S j).1, (c_R S j).2.1, none) i = _
    by_cases h : i = j
    · rw [if_pos (Or.inl h), h, va_up_self]
    · rw [if_neg (fun z => z.elim h (fun z => by cases z)), va_up_ne _ _ h]
  | some k =>
    have hk := hp k e
    show va_up (va_up (c_R S) k ((c_R S k).1, (c_R S k).2.1, none)) j ((c_R S j).1, (c_R S j).2.1, none) i = _
    by_cases h : i = j
    · rw [if_pos (Or.inl h), h, va_up_self]
    · rw [va_up_ne _ _ h]
      by_cases h2 : i = k
      · rw [if_pos (Or.inr (by rw [h2])), h2, va_up_self]
      · rw [if_neg (fun z => z.elim h (fun z => h2 (by cases z; rfl))), va_up_ne _ _ h2]
theorem mend_N {j : Nat} (hp : ∀ k, (c_R S j).2.2 = some k → k ≠ j) (i f : Nat) : c_N (c_mend S j) i f = if f = 4 ∧ (i = j ∨ (c_R S j).2.2 = some i) then -1 else c_N S i f := by
  unfold c_mend
  cases e : (c_R S j).2.2 with
  | none =>
    show va_up (c_N S) j (upd (c_N S j) 4 (-1)) i f = _
    by_cases h : i = j
    · rw [h, va_up_self]
      by_cases hf : f = 4
      · rw [if_pos ⟨hf, Or.inl rfl⟩, hf, pk_us]
      · rw [if_neg (fun z => hf z.1), pk_un hf]
    · rw [if_neg (fun z => z.2.elim h (fun z => by cases z)), va_up_ne _ _ h]
  | some k =>
    have hk := hp k e
    show va_up (va_up (c_N S) k (upd (c_N S k) 4 (-1))) j (upd (c_N S j) 4 (-1)) i f = _
    by_cases h : i = j
    · rw [h, va_up_self]
      by_cases hf : f = 4
      · rw [if_pos ⟨hf, Or.inl rfl⟩, hf, pk_us]
      · rw [if_neg (fun z => hf z.1), pk_un hf]
    · rw [va_up_ne _ _ h]
      by_cases h2 : i = k
      · rw [h2, va_up_self]
        by_cases hf : f = 4
        · rw [if_pos ⟨hf, Or.inr rfl⟩, hf, pk_us]
        · rw [if_neg (fun z => hf z.1), pk_un hf]
      · rw [if_neg (fun z => z.2.elim h (fun z => h2 (by cases z; rfl))), va_up_ne _ _ h2]
theorem mend_D (j : Nat) : c_D (c_mend S j) = c_D S := by unfold c_mend; split <;> rfl
theorem mend_Z (j : Nat) : c_Z (c_mend S j) = c_Z S := by unfold c_mend; split <;> rfl
theorem cut_at (t : mS) (j n i : Nat) : m_cut t j n i = if (n = 16 ∨ n = 17) ∧ i = j then -1 else t n i := by
  unfold m_cut
  by_cases h17 : n = 17
  · subst h17
    by_cases e : i = j
    · rw [if_pos ⟨Or.inr rfl, e⟩, e, m_s_at]
    · rw [if_neg (fun z => e z.2), m_s_off _ _ _ e, m_s_ne _ _ _ (by decide)]
  · rw [m_s_ne _ _ _ h17]
    by_cases h16 : n = 16
    · subst h16
      by_cases e : i = j
      · rw [if_pos ⟨Or.inl rfl, e⟩, e, m_s_at]
      · rw [if_neg (fun z => e z.2), m_s_off _ _ _ e]
    · rw [m_s_ne _ _ _ h16, if_neg (fun z => z.1.elim h16 h17)]
theorem heal_at {j : Nat} {pj : Option Nat} (hp : (pj = none ∧ t 17 j = -1) ∨ ∃ k, k < 1000 ∧ pj = some k ∧ t 17 j = nI k) (n i : Nat) : m_heal t j n i = if (n = 16 ∨ n = 17) ∧ (i = j ∨ pj = some i) then -1 else t n i := by
  unfold m_heal
  rcases hp with ⟨e, e17⟩ | ⟨k, hk, e, e17⟩
  · rw [e17, if_pos (by decide), cut_at, e]
    by_cases h : (n = 16 ∨ n = 17) ∧ i = j
    · rw [if_pos h, if_pos ⟨h.1, Or.inl h.2⟩]
    · rw [if_neg h, if_neg (fun z => h ⟨z.1, z.2.elim id (fun z => by cases z)⟩)]
  · have ep : m_pt t j = k := by unfold m_pt; rw [e17]; exact nI_clamp (by omega)
    rw [e17, if_neg (nI_pos (by omega)), ep, cut_at, cut_at, e]
    by_cases h : (n = 16 ∨ n = 17) ∧ i = k
    · rw [if_pos h, if_pos ⟨h.1, Or.inr (by rw [h.2])⟩]
    · rw [if_neg h]
      by_cases h2 : (n = 16 ∨ n = 17) ∧ i = j
      · rw [if_pos h2, if_pos ⟨h2.1, Or.inl h2.2⟩]
      · rw [if_neg h2, if_neg (fun z => z.2.elim (fun y => h2 ⟨z.1, y⟩) (fun y => h ⟨z.1, by cases y; rfl⟩))]
theorem RF_pt {j : Nat} (h8 : c_nn S ≤ 8) (h : RF S t j) : ((c_R S j).2.2 = none ∧ t 17 j = -1) ∨ ∃ k, k < 1000 ∧ (c_R S j).2.2 = some k ∧ t 17 j = nI k := by
  rcases h.2 with ⟨h1, h2, -⟩ | ⟨k, h1, h2, h3, -⟩
  · exact Or.inl ⟨h1, h2⟩
  · exact Or.inr ⟨k, by omega, h2, h3⟩
/-- mended: none of the two has a fault; the others' stay -/
theorem mend_RF (h8 : c_nn S ≤ 8) (hF : ∀ j, j < c_nn S → RF S t j) {j : Nat} (hj : j < c_nn S) (hp : ∀ k, (c_R S j).2.2 = some k → k ≠ j) : ∀ i, i < c_nn S → RF (c_mend S j) (m_heal t j) i := by
  intro i hi
  have ha := heal_at (RF_pt h8 (hF j hj))
  have hnn : c_nn (c_mend S j) = c_nn S := congrArg Prod.snd (mend_1 S j)
  unfold RF
  by_cases h : i = j ∨ (c_R S j).2.2 = some i
  · have a16 : m_heal t j 16 i = -1 := by rw [ha, if_pos ⟨Or.inl rfl, h⟩]
    have a17 : m_heal t j 17 i = -1 := by rw [ha, if_pos ⟨Or.inr rfl, h⟩]
    have aN : c_N (c_mend S j) i 4 = -1 := by rw [mend_N hp, if_pos ⟨rfl, h⟩]
    have aR : (c_R (c_mend S j) i).2.2 = none := by rw [mend_R hp, if_pos h]
    rw [a16, a17, aN]
    exact ⟨rfl, Or.inl ⟨aR, rfl, Or.inl rfl⟩⟩
  · have a16 : m_heal t j 16 i = t 16 i := by rw [ha, if_neg (fun z => h z.2)]
    have a17 : m_heal t j 17 i = t 17 i := by rw [ha, if_neg (fun z => h z.2)]
    have aN : c_N (c_mend S j) i 4 = c_N S i 4 := by rw [mend_N hp, if_neg (fun z => h z.2)]
    have aR : c_R (c_mend S j) i = c_R S i := by rw [mend_R hp, if_neg h]
    rw [a16, a17, aN, aR, hnn]
    obtain ⟨e16, hq⟩ := hF i hi
    refine ⟨e16, ?_⟩
    rcases hq with hq | ⟨k, hk, e1, e2, e3, e4⟩
    · exact Or.inl hq
    · refine Or.inr ⟨k, hk, e1, e2, e3, ?_⟩
      have h9 : ¬ (k = j ∨ (c_R S j).2.2 = some k) := by
        rintro (z | z)
        · rw [z] at e4; exact h (Or.inr e4)
        · rcases (hF j hj).2 with ⟨y, -⟩ | ⟨k2, -, y1, -, -, y2⟩
          · rw [y] at z; cases z
          · rw [y1] at z; cases z
            rw [e4] at y2; cases y2
            exact h (Or.inl rfl)
      rw [mend_R hp k, if_neg h9]
      exact e4
theorem RF_ne {G : mm_G} {K : Nat → Nat} (w : c_wf G K S) {j : Nat} (hj : j < c_nn S) : ∀ k, (c_R S j).2.2 = some k → k ≠ j := fun k e => ((w.2.2.2.2.2 j hj).2.2 k e).2
theorem heal_same {j : Nat} (n : Nat) (h16 : n ≠ 16) (h17 : n ≠ 17) : m_heal t j n = t n := by
  unfold m_heal m_cut
  split
  · rw [m_s_ne _ _ _ h17, m_s_ne _ _ _ h16]
  · rw [m_s_ne _ _ _ h17, m_s_ne _ _ _ h16, m_s_ne _ _ _ h17, m_s_ne _ _ _ h16]
theorem fault_1 {G : mm_G} {K : Nat → Nat} (w : c_wf G K S) (h : Rel S t) {j : Nat} (hj : j < c_nn S) {kd : Int32} (hk : kd = -1 ∨ kd = 0 ∨ kd = 1) : Rel (c_alone S j kd) (m_flt1 t j kd) := by
  have h := Rel_s0 h 0
  unfold m_flt1
  generalize m_s t 0 0 0 = t at h ⊢
  have h8 := h.1.1.2.1
  have hF : ∀ j, j < c_nn S → RF S t j := fun j hj => (h.1.1.2.2.2.2.1 j hj).2
  have hp := RF_ne w hj
  have hM := mend_RF h8 hF hj hp
  have hnn : c_nn (c_mend S j) = c_nn S := congrArg Prod.snd (mend_1 S j)
  have hN : ∀ i f, c_N (c_alone S j kd) i f = if i = j ∧ f = 4 then kd else c_N (c_mend S j) i f := by
    intro i f
    show va_up (c_N (c_mend S j)) j (upd (c_N (c_mend S j) j) 4 kd) i f = _
    by_cases e : i = j
    · rw [e, va_up_self]
      by_cases hf : f = 4
      · rw [if_pos ⟨rfl, hf⟩, hf, pk_us]
      · rw [if_neg (fun z => hf z.2), pk_un hf]
    · rw [va_up_ne _ _ e, if_neg (fun z => e z.1)]
  refine Rel_F h (mend_1 S j) (mend_D j) (mend_Z j) (fun i => ?_) (fun i f hf => ?_) (fun n h16 h17 => ?_) (fun i hi => ?_)
  · show (c_R (c_mend S j) i).1 = _ ∧ (c_R (c_mend S j) i).2.1 = _
    rw [mend_R hp i]
    split <;> exact ⟨rfl, rfl⟩
  · rw [hN, if_neg (fun z => hf z.2), mend_N hp, if_neg (fun z => hf z.1)]
  · rw [m_s_ne _ _ _ h16]; exact heal_same n h16 h17
  · have hm := hM i hi
    unfold RF at hm ⊢
    rw [hN, m_s_ne _ _ _ (show 17 ≠ 16 by decide)]
    show m_s (m_heal t j) 16 j kd 16 i = _ ∧ (((c_R (c_mend S j) i).2.2 = none ∧ _) ∨ ∃ k, k < c_nn (c_mend S j) ∧ (c_R (c_mend S j) i).2.2 = some k ∧ _ ∧ _ ∧ (c_R (c_mend S j) k).2.2 = some i)
    by_cases e : i = j
    · subst e
      have hr : (c_R (c_mend S i) i).2.2 = none := by rw [mend_R hp i, if_pos (Or.inl rfl)]
      rw [m_s_at, if_pos ⟨rfl, rfl⟩]
      refine ⟨rfl, Or.inl ⟨hr, ?_, hk⟩⟩
      rw [heal_at (RF_pt h8 (hF i hj)), if_pos ⟨Or.inr rfl, Or.inl rfl⟩]
    · rw [m_s_off _ _ _ e, if_neg (fun z => e z.1)]
      exact hm
theorem fault_2 {G : mm_G} {K : Nat → Nat} (w : c_wf G K S) (h : Rel S t) {j i : Nat} (hj : j < c_nn S) (hi : i < c_nn S) (hij : i ≠ j) {kd : Int32} (hk : kd = 2 ∨ kd = 3) : Rel (c_with S j i kd) (m_flt2 t j i kd) := by
  have h := Rel_s0 h 0
  unfold m_flt2 m_flt1
  generalize m_s t 0 0 0 = t at h ⊢
  have h8 := h.1.1.2.1
  have hF : ∀ j, j < c_nn S → RF S t j := fun j hj => (h.1.1.2.2.2.2.1 j hj).2
  have hp := RF_ne w hj
  have hM := mend_RF h8 hF hj hp
  have hnn : c_nn (c_mend S j) = c_nn S := congrArg Prod.snd (mend_1 S j)
  have w1 := mend_wf w hj
  have hrj : (c_R (c_mend S j) j).2.2 = none := by rw [mend_R hp j, if_pos (Or.inl rfl)]
  have hS1 : ∀ x, (c_R (c_mend S j) x).1 = (c_R S x).1 ∧ (c_R (c_mend S j) x).2.1 = (c_R S x).2.1 := fun x => by
    rw [mend_R hp x]; split <;> exact ⟨rfl, rfl⟩
  have hN1 : ∀ x f, f ≠ 4 → c_N (c_mend S j) x f = c_N S x f := fun x f hf => by rw [mend_N hp, if_neg (fun z => hf z.1)]
  have hD1 := mend_D (S := S) j
  have hZ1 := mend_Z (S := S) j
  have h11 := mend_1 S j
  obtain ⟨t1, ht1⟩ : ∃ t1, t1 = m_heal t j := ⟨_, rfl⟩
  have hs1 : ∀ n, n ≠ 16 → n ≠ 17 → t1 n = t n := fun n a b => by rw [ht1]; exact heal_same n a b
  rw [← ht1] at hM ⊢
  unfold c_with
  generalize c_mend S j = S1 at hM hnn w1 hrj hS1 hN1 hD1 hZ1 h11 ⊢
  have hi1 : i < c_nn S1 := by rw [hnn]; exact hi
  have hp1 := RF_ne w1 hi1
  have pij : ¬ (c_R S1 i).2.2 = some j := by
    intro z
    rcases (hM i hi).2 with ⟨y, -⟩ | ⟨k, -, y1, -, -, y2⟩
    · rw [y] at z; cases z
    · rw [y1] at z; cases z
      rw [hrj] at y2; cases y2
  have hR2 := mend_R hp1
  have hN2 := mend_N hp1
  have hh := heal_at (t := m_s t1 16 j kd) (j := i) (pj := (c_R S1 i).2.2) (by
    rcases RF_pt (by rw [hnn]; exact h8) (hM i hi) with ⟨a, b⟩ | ⟨k, a, b, c⟩
    · exact Or.inl ⟨a, by rw [m_s_ne _ _ _ (by decide)]; exact b⟩
    · exact Or.inr ⟨k, a, b, by rw [m_s_ne _ _ _ (by decide)]; exact c⟩)
  have hD2 : c_D (c_mend S1 i) = c_D S1 := mend_D i
  have hZ2 : c_Z (c_mend S1 i) = c_Z S1 := mend_Z i
  have h12 := mend_1 S1 i
  generalize c_mend S1 i = S2 at hR2 hN2 hD2 hZ2 h12 ⊢
  have hR3 : ∀ x, c_R (c_tie (c_tie S2 j i kd) i j kd) x = if x = i then ((c_R S2 i).1, (c_R S2 i).2.1, some j) else if x = j then ((c_R S2 j).1, (c_R S2 j).2.1, some i) else c_R S2 x := by
    intro x
    have e1 : ∀ x, c_R (c_tie S2 j i kd) x = if x = j then ((c_R S2 j).1, (c_R S2 j).2.1, some i) else c_R S2 x := by
      intro x
      show va_up (c_R S2) j ((c_R S2 j).1, (c_R S2 j).2.1, some i) x = _
      by_cases e : x = j
      · rw [if_pos e, e, va_up_self]
      · rw [if_neg e, va_up_ne _ _ e]
    show va_up (c_R (c_tie S2 j i kd)) i ((c_R (c_tie S2 j i kd) i).1, (c_R (c_tie S2 j i kd) i).2.1, some j) x = _
    by_cases e : x = i
    · rw [if_pos e, e, va_up_self, e1 i, if_neg hij]
    · rw [if_neg e, va_up_ne _ _ e, e1 x]
  have hN3 : ∀ x f, c_N (c_tie (c_tie S2 j i kd) i j kd) x f = if f = 4 ∧ (x = i ∨ x = j) then kd else c_N S2 x f := by
    intro x f
    have e1 : ∀ x f, c_N (c_tie S2 j i kd) x f = if f = 4 ∧ x = j then kd else c_N S2 x f := by
      intro x f
      show va_up (c_N S2) j (upd (c_N S2 j) 4 kd) x f = _
      by_cases e : x = j
      · rw [e, va_up_self]
        by_cases hf : f = 4
        · rw [if_pos ⟨hf, rfl⟩, hf, pk_us]
        · rw [if_neg (fun z => hf z.1), pk_un hf]
      · rw [va_up_ne _ _ e, if_neg (fun z => e z.2)]
    show va_up (c_N (c_tie S2 j i kd)) i (upd (c_N (c_tie S2 j i kd) i) 4 kd) x f = _
    by_cases e : x = i
    · rw [e, va_up_self]
      by_cases hf : f = 4
      · rw [if_pos ⟨hf, Or.inl rfl⟩, hf, pk_us]
      · rw [if_neg (fun z => hf z.1), pk_un hf, e1, if_neg (fun z => hf z.1)]
    · rw [va_up_ne _ _ e, e1]
      by_cases hf : f = 4 ∧ x = j
      · rw [if_pos hf, if_pos ⟨hf.1, Or.inr hf.2⟩]
      · rw [if_neg hf, if_neg (fun z => hf ⟨z.1, z.2.resolve_left e⟩)]
  have hh16 : ∀ x, m_s (m_s (m_s (m_heal (m_s t1 16 j kd) i) 16 i kd) 17 j (nI i)) 17 i (nI j) 16 x = if x = i then kd else if (c_R S1 i).2.2 = some x then -1 else if x = j then kd else t1 16 x := by
    intro x
    rw [m_s_ne _ _ _ (by decide), m_s_ne _ _ _ (by decide)]
    by_cases e : x = i
    · rw [if_pos e, e, m_s_at]
    · rw [if_neg e, m_s_off _ _ _ e, hh]
      by_cases e2 : (c_R S1 i).2.2 = some x
      · rw [if_pos ⟨Or.inl rfl, Or.inr e2⟩, if_pos e2]
      · rw [if_neg (fun z => z.2.elim e e2), if_neg e2]
        by_cases e3 : x = j
        · rw [if_pos e3, e3, m_s_at]
        · rw [if_neg e3, m_s_off _ _ _ e3]
  have hh17 : ∀ x, m_s (m_s (m_s (m_heal (m_s t1 16 j kd) i) 16 i kd) 17 j (nI i)) 17 i (nI j) 17 x = if x = i then nI j else if x = j then nI i else if (c_R S1 i).2.2 = some x then -1 else t1 17 x := by
    intro x
    by_cases e : x = i
    · rw [if_pos e, e, m_s_at]
    · rw [if_neg e, m_s_off _ _ _ e]
      by_cases e3 : x = j
      · rw [if_pos e3, e3, m_s_at]
      · rw [if_neg e3, m_s_off _ _ _ e3, m_s_ne _ _ _ (by decide), hh]
        by_cases e2 : (c_R S1 i).2.2 = some x
        · rw [if_pos ⟨Or.inr rfl, Or.inr e2⟩, if_pos e2]
        · rw [if_neg (fun z => z.2.elim e e2), if_neg e2, m_s_ne _ _ _ (by decide)]
  have hnn2 : c_nn S2 = c_nn S := (congrArg Prod.snd h12).trans hnn
  refine Rel_F h (h12.trans h11) (hD2.trans hD1) (hZ2.trans hZ1) (fun x => ?_) (fun x f hf => ?_) (fun n h16 h17 => ?_) (fun x hx => ?_)
  · have hx2 : (c_R S2 x).1 = (c_R S x).1 ∧ (c_R S2 x).2.1 = (c_R S x).2.1 := by
      rw [hR2 x]; split <;> exact hS1 x
    rw [hR3 x]
    by_cases e : x = i
    · rw [if_pos e, ← e]; exact hx2
    · rw [if_neg e]
      by_cases e2 : x = j
      · rw [if_pos e2, ← e2]; exact hx2
      · rw [if_neg e2]; exact hx2
  · rw [hN3, if_neg (fun z => hf z.1), hN2, if_neg (fun z => hf z.1), hN1 x f hf]
  · rw [m_s_ne _ _ _ h17, m_s_ne _ _ _ h17, m_s_ne _ _ _ h16, heal_same n h16 h17, m_s_ne _ _ _ h16, hs1 n h16 h17]
  · unfold RF
    show _ ∧ (_ ∨ ∃ k, k < c_nn S2 ∧ _)
    rw [hnn2]
    by_cases e : x = i
    · have a16 := hh16 x
      have a17 := hh17 x
      rw [if_pos e] at a16 a17
      have aN : c_N (c_tie (c_tie S2 j i kd) i j kd) x 4 = kd := by rw [hN3, if_pos ⟨rfl, Or.inl e⟩]
      have aR : (c_R (c_tie (c_tie S2 j i kd) i j kd) x).2.2 = some j := by rw [hR3, if_pos e]
      rw [a16, a17, aN, aR]
      refine ⟨rfl, Or.inr ⟨j, hj, rfl, rfl, hk, ?_⟩⟩
      rw [hR3, if_neg (Ne.symm hij), if_pos rfl, e]
    · by_cases e2 : x = j
      · have a16 := hh16 x
        have a17 := hh17 x
        rw [if_neg e, if_neg (by rw [e2]; exact pij), if_pos e2] at a16
        rw [if_neg e, if_pos e2] at a17
        have aN : c_N (c_tie (c_tie S2 j i kd) i j kd) x 4 = kd := by rw [hN3, if_pos ⟨rfl, Or.inr e2⟩]
        have aR : (c_R (c_tie (c_tie S2 j i kd) i j kd) x).2.2 = some i := by rw [hR3, if_neg e, if_pos e2]
        rw [a16, a17, aN, aR]
        refine ⟨rfl, Or.inr ⟨i, hi, rfl, rfl, hk, ?_⟩⟩
        rw [hR3, if_pos rfl, e2]
      · have a16 := hh16 x
        have a17 := hh17 x
        rw [if_neg e] at a16
        rw [if_neg e, if_neg e2] at a17
        have aN : c_N (c_tie (c_tie S2 j i kd) i j kd) x 4 = c_N S2 x 4 := by rw [hN3, if_neg (fun z => z.2.elim e e2)]
        have aR : c_R (c_tie (c_tie S2 j i kd) i j kd) x = c_R S2 x := by rw [hR3, if_neg e, if_neg e2]
        by_cases e3 : (c_R S1 i).2.2 = some x
        · rw [if_pos e3] at a16 a17
          have bN : c_N S2 x 4 = -1 := by rw [hN2, if_pos ⟨rfl, Or.inr e3⟩]
          have bR : (c_R S2 x).2.2 = none := by rw [hR2, if_pos (Or.inr e3)]
          rw [a16, a17, aN, aR, bN, bR]
          exact ⟨rfl, Or.inl ⟨rfl, rfl, Or.inl rfl⟩⟩
        · rw [if_neg e3] at a16 a17
          rw [if_neg e2] at a16
          have bN : c_N S2 x 4 = c_N S1 x 4 := by rw [hN2, if_neg (fun z => z.2.elim e e3)]
          have bR : c_R S2 x = c_R S1 x := by rw [hR2, if_neg (fun z => z.elim e e3)]
          rw [a16, a17, aN, aR, bN, bR]
          obtain ⟨e16, hq⟩ := hM x hx
          refine ⟨e16, ?_⟩
          rcases hq with hq | ⟨k, hk8, q1, q2, q3, q4⟩
          · exact Or.inl hq
          · refine Or.inr ⟨k, by omega, q1, q2, q3, ?_⟩
            have k1 : ¬ k = i := fun z => by rw [z] at q4; exact e3 q4
            have k2 : ¬ k = j := fun z => by rw [z, hrj] at q4; cases q4
            have k3 : ¬ (c_R S1 i).2.2 = some k := fun z => by
              rcases (hM i hi).2 with ⟨y, -⟩ | ⟨k2, -, y1, -, -, y2⟩
              · rw [y] at z; cases z
              · rw [y1] at z; cases z
                rw [q4] at y2; cases y2
                exact e rfl
            rw [hR3, if_neg k1, if_neg k2, hR2, if_neg (fun z => z.elim k1 k3)]
            exact q4
end FLT
