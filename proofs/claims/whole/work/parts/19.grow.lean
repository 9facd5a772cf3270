/-! pools that grow; the class's own objects -/
theorem inj_grow {dom dom' : List Nat} {K K' : Nat → Nat} {f : Nat → mm_Ob} {h : mm_Hp} (hi : mm_inj dom K) (hK : ∀ n ∈ dom, K' n = K n) (hN : ∀ n ∈ dom', n ∉ dom → mm_pl dom K f h (K' n) = none) (hNN : ∀ m ∈ dom', ∀ n ∈ dom', m ∉ dom → n ∉ dom → K' m = K' n → m = n) : mm_inj dom' K' := by
  intro m hm n hn e
  by_cases h1 : m ∈ dom
  · by_cases h2 : n ∈ dom
    · exact hi m h1 n h2 (by rw [← hK m h1, ← hK n h2]; exact e)
    · have := hN n hn h2
      rw [← e, hK m h1, mm_pl_at hi h1] at this
      cases this
  · by_cases h2 : n ∈ dom
    · have := hN m hm h1
      rw [e, hK n h2, mm_pl_at hi h2] at this
      cases this
    · exact hNN m hm n hn h1 h2 e
theorem pl_ext {dom' : List Nat} {K' : Nat → Nat} {g : Nat → mm_Ob} {h X : mm_Hp} (hi' : mm_inj dom' K') (h1 : ∀ n ∈ dom', X (K' n) = some (g n)) (h2 : ∀ b, (∀ n ∈ dom', K' n ≠ b) → X b = h b) : X = mm_pl dom' K' g h := by
  funext b
  rcases mm_pl_cases (dom := dom') (K := K') b with ⟨n, hn, rfl⟩ | hb
  · rw [mm_pl_at hi' hn, h1 n hn]
  · rw [mm_pl_no hb, h2 b hb]
theorem pl_grow {dom dom' : List Nat} {K K' : Nat → Nat} {f g : Nat → mm_Ob} {h X : mm_Hp} (p : Nat → Prop) (hi : mm_inj dom K) (hi' : mm_inj dom' K') (hK : ∀ n ∈ dom, K' n = K n) (hsub : ∀ n ∈ dom, n ∈ dom') (hp : ∀ n, p n → n ∈ dom' ∧ X (K' n) = some (g n)) (hg : ∀ n ∈ dom', ¬ p n → n ∈ dom ∧ g n = f n)
    (hXo : ∀ b, (∀ n, p n → b ≠ K' n) → X b = mm_pl dom K f h b) : X = mm_pl dom' K' g h := by
  refine pl_ext hi' (fun n hn => ?_) (fun b hb => ?_)
  · by_cases e : p n
    · exact (hp n e).2
    · obtain ⟨h1, h2⟩ := hg n hn e
      rw [hXo (K' n) (fun m hm z => e (by rw [hi' n hn m (hp m hm).1 z]; exact hm)), hK n h1, mm_pl_at hi h1, h2]
  · rw [hXo b (fun n hn z => hb n (hp n hn).1 z.symm), mm_pl_no (fun n hn => by rw [← hK n hn]; exact hb n (hsub n hn))]
def c_devA (S : cS) (d : Nat → Int32) : cS := ((c_nd S + 1, c_nn S), va_up (c_D S) (c_nd S) d, c_N S, c_R S, va_up (c_Z S) 3 (upd (c_Z S 3) 0 (c_Z S 3 0 + 1)))
def c_netA (S : cS) (r : Nat × Nat × Option Nat) (n : Nat → Int32) : cS := ((c_nd S, c_nn S + 1), c_D S, va_up (c_N S) (c_nn S) n, va_up (c_R S) (c_nn S) r, va_up (c_Z S) 3 (upd (c_Z S 3) 1 (c_Z S 3 1 + 1)))
theorem cd_subD {nd nn n : Nat} (h : n ∈ cdom nd nn) : n ∈ cdom (nd + 1) nn := by
  rcases cd_cases h with h | ⟨rfl, h0⟩ | ⟨rfl, h0⟩ | ⟨i, hi, rfl⟩ | ⟨j, hj, rfl⟩
  · exact cd_fix h
  · exact cd_2 (by omega)
  · exact cd_4 h0
  · exact cd_dev (by omega)
  · exact cd_net hj
theorem cd_subN {nd nn n : Nat} (h : n ∈ cdom nd nn) : n ∈ cdom nd (nn + 1) := by
  rcases cd_cases h with h | ⟨rfl, h0⟩ | ⟨rfl, h0⟩ | ⟨i, hi, rfl⟩ | ⟨j, hj, rfl⟩
  · exact cd_fix h
  · exact cd_2 h0
  · exact cd_4 (by omega)
  · exact cd_dev hi
  · exact cd_net (by omega)
theorem oAr_set {K K' : Nat → Nat} {b n q : Nat} (hn : n < 10) (h1 : ∀ i, i < n → K' (b + i) = K (b + i)) (h2 : K' (b + n) = q) : ((List.range 10).map (fun i => if i < n then Value.ref (K (b + i)) else .null)).set n (.ref q) = (List.range 10).map (fun i => if i < n + 1 then Value.ref (K' (b + i)) else .null) := by
  apply List.ext_getElem?
  intro i
  rw [List.getElem?_set, List.length_map, List.length_range, List.getElem?_map, List.getElem?_map]
  by_cases hi : i < 10
  · rw [List.getElem?_range hi]
    by_cases e : n = i
    · subst e; rw [if_pos rfl, if_pos hi]; simp [h2]
    · rw [if_neg e]
      show some (if i < n then Value.ref (K (b + i)) else .null) = some (if i < n + 1 then Value.ref (K' (b + i)) else .null)
      by_cases e2 : i < n
      · rw [if_pos e2, if_pos (by omega), h1 i e2]
      · rw [if_neg e2, if_neg (by omega)]
  · rw [List.getElem?_eq_none (by rw [List.length_range]; omega)]
    by_cases e : n = i
    · omega
    · rw [if_neg e]; rfl
theorem cp_ne {h : mm_Hp} {q b : Nat} {o : mm_Ob} (hq : h q = none) (hb : h b = some o) : b ≠ q := fun z => by rw [z, hq] at hb; cases hb
section GROW
variable {G : mm_G} {K : Nat → Nat} {S : cS} {h : mm_Hp}
theorem grow_dev (w : c_wf G K S) (hnd : c_nd S < 4) (d : Nat → Int32) {q a2 : Nat} {X : mm_Hp} (hq : CP K S h q = none) (ha2 : (c_nd S = 0 ∧ CP K S h a2 = none ∧ a2 ≠ q) ∨ (0 < c_nd S ∧ a2 = K 2))
    (hX1 : X (K 1) = some (oAl (c_Z S 3 0 + 1) a2 (c_nd S + 1))) (hXq : X q = some (oDv d)) (hXa : ∀ K' : Nat → Nat, (∀ i, i < c_nd S → K' (10 + i) = K (10 + i)) → K' (10 + c_nd S) = q → X a2 = some (oAr K' 10 (c_nd S + 1))) (hXo : ∀ b, b ≠ K 1 → b ≠ q → b ≠ a2 → X b = CP K S h b) :
    ∃ K', c_wf G K' (c_devA S d) ∧ (∀ n ∈ cdom (c_nd S) (c_nn S), K' n = K n) ∧ (∀ n ∈ cdom (c_nd S + 1) (c_nn S), n ∉ cdom (c_nd S) (c_nn S) → CP K S h (K' n) = none) ∧ X = CP K' (c_devA S d) h := by
  obtain ⟨K', hK'⟩ : ∃ K' : Nat → Nat, K' = fun n => if n = 10 + c_nd S then q else if n = 2 then a2 else K n := ⟨_, rfl⟩
  have kq : K' (10 + c_nd S) = q := by rw [hK']; exact if_pos rfl
  have k2 : K' 2 = a2 := by rw [hK']; show (if 2 = 10 + c_nd S then q else if 2 = 2 then a2 else K 2) = a2; rw [if_neg (by omega), if_pos rfl]
  have ko : ∀ n, n ≠ 10 + c_nd S → n ≠ 2 → K' n = K n := fun n h1 h2 => by rw [hK']; show (if n = 10 + c_nd S then q else if n = 2 then a2 else K n) = K n; rw [if_neg h1, if_neg h2]
  have hK : ∀ n ∈ cdom (c_nd S) (c_nn S), K' n = K n := by
    intro n hn
    rcases cd_cases hn with h1 | ⟨rfl, h0⟩ | ⟨rfl, h0⟩ | ⟨i, hi, rfl⟩ | ⟨j, hj, rfl⟩
    · simp only [List.mem_cons, List.not_mem_nil, or_false] at h1
      exact ko n (by omega) (by omega)
    · rcases ha2 with ⟨z, -⟩ | ⟨-, z⟩
      · omega
      · rw [k2, z]
    · exact ko 4 (by omega) (by omega)
    · exact ko _ (by omega) (by omega)
    · exact ko _ (by omega) (by omega)
  have hnew : ∀ n ∈ cdom (c_nd S + 1) (c_nn S), n ∉ cdom (c_nd S) (c_nn S) → n = 10 + c_nd S ∨ (n = 2 ∧ c_nd S = 0) := by
    intro n hn hno
    rcases cd_cases hn with h1 | ⟨rfl, h0⟩ | ⟨rfl, h0⟩ | ⟨i, hi, rfl⟩ | ⟨j, hj, rfl⟩
    · exact absurd (cd_fix h1) hno
    · by_cases z : c_nd S = 0
      · exact Or.inr ⟨rfl, z⟩
      · exact absurd (cd_2 (by omega)) hno
    · exact absurd (cd_4 h0) hno
    · by_cases z : i = c_nd S
      · exact Or.inl (by rw [z])
      · exact absurd (cd_dev (by omega)) hno
    · exact absurd (cd_net hj) hno
  have hN : ∀ n ∈ cdom (c_nd S + 1) (c_nn S), n ∉ cdom (c_nd S) (c_nn S) → CP K S h (K' n) = none := by
    intro n hn hno
    rcases hnew n hn hno with rfl | ⟨rfl, z⟩
    · rw [kq]; exact hq
    · rw [k2]
      rcases ha2 with ⟨-, h1, -⟩ | ⟨z1, -⟩
      · exact h1
      · omega
  have hi' : mm_inj (cdom (c_nd S + 1) (c_nn S)) K' := by
    refine inj_grow w.2.2.1 hK hN (fun m hm n hn h1 h2 e => ?_)
    rcases hnew m hm h1 with rfl | ⟨rfl, z⟩ <;> rcases hnew n hn h2 with rfl | ⟨rfl, z2⟩
    · rfl
    · rw [kq, k2] at e
      rcases ha2 with ⟨-, -, h3⟩ | ⟨z1, -⟩
      · exact absurd e.symm h3
      · omega
    · rw [kq, k2] at e
      rcases ha2 with ⟨-, -, h3⟩ | ⟨z1, -⟩
      · exact absurd e h3
      · omega
    · rfl
  refine ⟨K', ⟨hnd, w.2.1, hi', fun z => absurd z (Nat.succ_ne_zero _), fun z => ?_, fun j hj => ?_⟩, hK, hN, ?_⟩
  · rw [ko 4 (by omega) (by omega)]; exact w.2.2.2.2.1 z
  · obtain ⟨h1, h2, h3⟩ := w.2.2.2.2.2 j hj
    exact ⟨Nat.lt_succ_of_lt h1, Nat.lt_succ_of_lt h2, h3⟩
  · refine pl_grow (f := cob K S) (dom' := cdom (c_nd S + 1) (c_nn S)) (fun n => n = 1 ∨ n = 2 ∨ n = 10 + c_nd S) w.2.2.1 hi' hK (fun n hn => cd_subD hn) (fun n hn => ?_) (fun n hn hno => ?_) (fun b hb => ?_)
    · rcases hn with rfl | rfl | rfl
      · refine ⟨cd_fix (by simp), ?_⟩
        rw [ko 1 (by omega) (by omega), hX1]
        show some (oAl (c_Z S 3 0 + 1) a2 (c_nd S + 1)) = some (oAl (c_Z S 3 0 + 1) (K' 2) (c_nd S + 1))
        rw [k2]
      · refine ⟨cd_2 (by omega), ?_⟩
        rw [k2, hXa K' (fun i hi => ko _ (by omega) (by omega)) kq]; rfl
      · refine ⟨cd_dev (by omega), ?_⟩
        rw [kq, hXq, cob_dev (by omega)]
        show some (oDv d) = some (oDv (va_up (c_D S) (c_nd S) d (c_nd S)))
        rw [va_up_self]
    · have h4 := w.1
      have h8 := w.2.1
      rcases cd_cases hn with h1 | ⟨rfl, h0⟩ | ⟨rfl, h0⟩ | ⟨i, hi, rfl⟩ | ⟨j, hj, rfl⟩
      · refine ⟨cd_fix h1, ?_⟩
        simp only [List.mem_cons, List.not_mem_nil, or_false] at h1
        rcases h1 with rfl | rfl | rfl | rfl | rfl
        · show oCb K' (c_Z S 0) = oCb K (c_Z S 0)
          unfold oCb
          rw [ko 1 (by omega) (by omega), ko 3 (by omega) (by omega), ko 5 (by omega) (by omega), ko 6 (by omega) (by omega)]
        · exact absurd (Or.inl rfl) hno
        · show oAl (c_Z S 3 1) (K' 4) (c_nn S) = oAl (c_Z S 3 1) (K 4) (c_nn S)
          rw [ko 4 (by omega) (by omega)]
        · rfl
        · rfl
      · exact absurd (Or.inr (Or.inl rfl)) hno
      · refine ⟨cd_4 h0, ?_⟩
        show oAr K' 20 (c_nn S) = oAr K 20 (c_nn S)
        unfold oAr
        congr 1
        refine List.map_congr_left fun i hi => ?_
        rw [ko (20 + i) (by omega) (by omega)]
      · have hi9 : i < c_nd S := by
          by_cases z : i = c_nd S
          · exact absurd (Or.inr (Or.inr (by rw [z]))) hno
          · omega
        refine ⟨cd_dev hi9, ?_⟩
        rw [cob_dev (by omega), cob_dev (by omega)]
        show oDv (va_up (c_D S) (c_nd S) d i) = oDv (c_D S i)
        rw [va_up_ne _ _ (by omega)]
      · refine ⟨cd_net hj, ?_⟩
        rw [cob_net, cob_net]
        show oNK K' (c_R S j) (c_N S j) = oNK K (c_R S j) (c_N S j)
        obtain ⟨h1, h2, h3⟩ := w.2.2.2.2.2 j hj
        unfold oNK
        rw [ko _ (by omega) (by omega), ko _ (by omega) (by omega)]
        congr 1
        cases e : (c_R S j).2.2 with
        | none => rfl
        | some k => show some (K' (20 + k)) = some (K (20 + k)); rw [ko _ (by omega) (by omega)]
    · have h1 := hb 1 (Or.inl rfl)
      have h2 := hb 2 (Or.inr (Or.inl rfl))
      have h3 := hb _ (Or.inr (Or.inr rfl))
      rw [ko 1 (by omega) (by omega)] at h1
      rw [k2] at h2
      rw [kq] at h3
      exact hXo b h1 h3 h2
theorem grow_net (w : c_wf G K S) (hnn : c_nn S < 8) (f t : Nat) (hf : f < c_nd S) (ht : t < c_nd S) (d : Nat → Int32) {q a2 : Nat} {X : mm_Hp} (hq : CP K S h q = none) (ha2 : (c_nn S = 0 ∧ CP K S h a2 = none ∧ a2 ≠ q) ∨ (0 < c_nn S ∧ a2 = K 4))
    (hX1 : X (K 3) = some (oAl (c_Z S 3 1 + 1) a2 (c_nn S + 1))) (hXq : X q = some (oNt (K (10 + f)) (K (10 + t)) none d)) (hXa : ∀ K' : Nat → Nat, (∀ i, i < c_nn S → K' (20 + i) = K (20 + i)) → K' (20 + c_nn S) = q → X a2 = some (oAr K' 20 (c_nn S + 1))) (hXo : ∀ b, b ≠ K 3 → b ≠ q → b ≠ a2 → X b = CP K S h b) :
    ∃ K', c_wf G K' (c_netA S (f, t, none) d) ∧ (∀ n ∈ cdom (c_nd S) (c_nn S), K' n = K n) ∧ (∀ n ∈ cdom (c_nd S) (c_nn S + 1), n ∉ cdom (c_nd S) (c_nn S) → CP K S h (K' n) = none) ∧ X = CP K' (c_netA S (f, t, none) d) h := by
  have h4 := w.1
  obtain ⟨K', hK'⟩ : ∃ K' : Nat → Nat, K' = fun n => if n = 20 + c_nn S then q else if n = 4 then a2 else K n := ⟨_, rfl⟩
  have kq : K' (20 + c_nn S) = q := by rw [hK']; exact if_pos rfl
  have k2 : K' 4 = a2 := by rw [hK']; show (if 4 = 20 + c_nn S then q else if 4 = 4 then a2 else K 4) = a2; rw [if_neg (by omega), if_pos rfl]
  have ko : ∀ n, n ≠ 20 + c_nn S → n ≠ 4 → K' n = K n := fun n h1 h2 => by rw [hK']; show (if n = 20 + c_nn S then q else if n = 4 then a2 else K n) = K n; rw [if_neg h1, if_neg h2]
  have hK : ∀ n ∈ cdom (c_nd S) (c_nn S), K' n = K n := by
    intro n hn
    rcases cd_cases hn with h1 | ⟨rfl, h0⟩ | ⟨rfl, h0⟩ | ⟨i, hi, rfl⟩ | ⟨j, hj, rfl⟩
    · simp only [List.mem_cons, List.not_mem_nil, or_false] at h1
      exact ko n (by omega) (by omega)
    · exact ko 2 (by omega) (by omega)
    · rcases ha2 with ⟨z, -⟩ | ⟨-, z⟩
      · omega
      · rw [k2, z]
    · exact ko _ (by omega) (by omega)
    · exact ko _ (by omega) (by omega)
  have hnew : ∀ n ∈ cdom (c_nd S) (c_nn S + 1), n ∉ cdom (c_nd S) (c_nn S) → n = 20 + c_nn S ∨ (n = 4 ∧ c_nn S = 0) := by
    intro n hn hno
    rcases cd_cases hn with h1 | ⟨rfl, h0⟩ | ⟨rfl, h0⟩ | ⟨i, hi, rfl⟩ | ⟨j, hj, rfl⟩
    · exact absurd (cd_fix h1) hno
    · exact absurd (cd_2 h0) hno
    · by_cases z : c_nn S = 0
      · exact Or.inr ⟨rfl, z⟩
      · exact absurd (cd_4 (by omega)) hno
    · exact absurd (cd_dev hi) hno
    · by_cases z : j = c_nn S
      · exact Or.inl (by rw [z])
      · exact absurd (cd_net (by omega)) hno
  have hN : ∀ n ∈ cdom (c_nd S) (c_nn S + 1), n ∉ cdom (c_nd S) (c_nn S) → CP K S h (K' n) = none := by
    intro n hn hno
    rcases hnew n hn hno with rfl | ⟨rfl, z⟩
    · rw [kq]; exact hq
    · rw [k2]
      rcases ha2 with ⟨-, h1, -⟩ | ⟨z1, -⟩
      · exact h1
      · omega
  have hi' : mm_inj (cdom (c_nd S) (c_nn S + 1)) K' := by
    refine inj_grow w.2.2.1 hK hN (fun m hm n hn h1 h2 e => ?_)
    rcases hnew m hm h1 with rfl | ⟨rfl, z⟩ <;> rcases hnew n hn h2 with rfl | ⟨rfl, z2⟩
    · rfl
    · rw [kq, k2] at e
      rcases ha2 with ⟨-, -, h3⟩ | ⟨z1, -⟩
      · exact absurd e.symm h3
      · omega
    · rw [kq, k2] at e
      rcases ha2 with ⟨-, -, h3⟩ | ⟨z1, -⟩
      · exact absurd e h3
      · omega
    · rfl
  refine ⟨K', ⟨w.1, hnn, hi', fun z => ?_, fun z => absurd z (Nat.succ_ne_zero _), fun j hj => ?_⟩, hK, hN, ?_⟩
  · rw [ko 2 (by omega) (by omega)]; exact w.2.2.2.1 z
  · show (va_up (c_R S) (c_nn S) (f, t, none) j).1 < c_nd S ∧ (va_up (c_R S) (c_nn S) (f, t, none) j).2.1 < c_nd S ∧ ∀ k, (va_up (c_R S) (c_nn S) (f, t, none) j).2.2 = some k → k < c_nn S + 1 ∧ k ≠ j
    by_cases z : j = c_nn S
    · rw [z, va_up_self]
      exact ⟨hf, ht, fun k e => by cases e⟩
    · have hj9 : j < c_nn S := by
        have : j < c_nn S + 1 := hj
        omega
      rw [va_up_ne _ _ z]
      obtain ⟨h1, h2, h3⟩ := w.2.2.2.2.2 j hj9
      exact ⟨h1, h2, fun k e => ⟨Nat.lt_succ_of_lt (h3 k e).1, (h3 k e).2⟩⟩
  · refine pl_grow (f := cob K S) (dom' := cdom (c_nd S) (c_nn S + 1)) (fun n => n = 3 ∨ n = 4 ∨ n = 20 + c_nn S) w.2.2.1 hi' hK (fun n hn => cd_subN hn) (fun n hn => ?_) (fun n hn hno => ?_) (fun b hb => ?_)
    · rcases hn with rfl | rfl | rfl
      · refine ⟨cd_fix (by simp), ?_⟩
        rw [ko 3 (by omega) (by omega), hX1]
        show some (oAl (c_Z S 3 1 + 1) a2 (c_nn S + 1)) = some (oAl (c_Z S 3 1 + 1) (K' 4) (c_nn S + 1))
        rw [k2]
      · refine ⟨cd_4 (by omega), ?_⟩
        rw [k2, hXa K' (fun i hi => ko _ (by omega) (by omega)) kq]; rfl
      · refine ⟨cd_net (by omega), ?_⟩
        rw [kq, hXq, cob_net]
        show _ = some (oNK K' (va_up (c_R S) (c_nn S) (f, t, none) (c_nn S)) (va_up (c_N S) (c_nn S) d (c_nn S)))
        rw [va_up_self, va_up_self]
        show _ = some (oNt (K' (10 + f)) (K' (10 + t)) none d)
        rw [ko (10 + f) (by omega) (by omega), ko (10 + t) (by omega) (by omega)]
    · have h8 := w.2.1
      rcases cd_cases hn with h1 | ⟨rfl, h0⟩ | ⟨rfl, h0⟩ | ⟨i, hi, rfl⟩ | ⟨j, hj, rfl⟩
      · refine ⟨cd_fix h1, ?_⟩
        simp only [List.mem_cons, List.not_mem_nil, or_false] at h1
        rcases h1 with rfl | rfl | rfl | rfl | rfl
        · show oCb K' (c_Z S 0) = oCb K (c_Z S 0)
          unfold oCb
          rw [ko 1 (by omega) (by omega), ko 3 (by omega) (by omega), ko 5 (by omega) (by omega), ko 6 (by omega) (by omega)]
        · show oAl (c_Z S 3 0) (K' 2) (c_nd S) = oAl (c_Z S 3 0) (K 2) (c_nd S)
          rw [ko 2 (by omega) (by omega)]
        · exact absurd (Or.inl rfl) hno
        · rfl
        · rfl
      · refine ⟨cd_2 h0, ?_⟩
        show oAr K' 10 (c_nd S) = oAr K 10 (c_nd S)
        unfold oAr
        congr 1
        refine List.map_congr_left fun i hi => ?_
        split
        · rw [ko (10 + i) (by omega) (by omega)]
        · rfl
      · exact absurd (Or.inr (Or.inl rfl)) hno
      · refine ⟨cd_dev hi, ?_⟩
        rw [cob_dev (by omega), cob_dev (by omega)]
        rfl
      · have hj9 : j < c_nn S := by
          by_cases z : j = c_nn S
          · exact absurd (Or.inr (Or.inr (by rw [z]))) hno
          · omega
        refine ⟨cd_net hj9, ?_⟩
        rw [cob_net, cob_net]
        show oNK K' (va_up (c_R S) (c_nn S) (f, t, none) j) (va_up (c_N S) (c_nn S) d j) = oNK K (c_R S j) (c_N S j)
        rw [va_up_ne _ _ (by omega), va_up_ne _ _ (by omega)]
        obtain ⟨h1, h2, h3⟩ := w.2.2.2.2.2 j hj9
        unfold oNK
        rw [ko _ (by omega) (by omega), ko _ (by omega) (by omega)]
        congr 1
        cases e : (c_R S j).2.2 with
        | none => rfl
        | some k =>
          have := (h3 k e).1
          show some (K' (20 + k)) = some (K (20 + k)); rw [ko _ (by omega) (by omega)]
    · have h1 := hb 3 (Or.inl rfl)
      have h2 := hb 4 (Or.inr (Or.inl rfl))
      have h3 := hb _ (Or.inr (Or.inr rfl))
      rw [ko 3 (by omega) (by omega)] at h1
      rw [k2] at h2
      rw [kq] at h3
      exact hXo b h1 h3 h2
end GROW
