/-! things by numbers: number n lies at K n and is f n; all else is h -/
def mm_pl (dom : List Nat) (K : Nat → Nat) (f : Nat → mm_Ob) (h : mm_Hp) : mm_Hp := fun b => match dom.find? (fun n => K n == b) with
  | some n => some (f n)
  | none => h b
def mm_inj (dom : List Nat) (K : Nat → Nat) : Prop := ∀ m ∈ dom, ∀ n ∈ dom, K m = K n → m = n
theorem mm_find {dom : List Nat} {K : Nat → Nat} (hi : mm_inj dom K) {n : Nat} (hn : n ∈ dom) : dom.find? (fun m => K m == K n) = some n := by
  cases e : dom.find? (fun m => K m == K n) with
  | none =>
    have := List.find?_eq_none.mp e n hn
    simp at this
  | some m =>
    have h1 := List.find?_some e
    have h2 := List.mem_of_find?_eq_some e
    rw [hi m h2 n hn (by simpa using h1)]
theorem mm_find_no {dom : List Nat} {K : Nat → Nat} {b : Nat} (hb : ∀ n ∈ dom, K n ≠ b) : dom.find? (fun m => K m == b) = none :=
  List.find?_eq_none.mpr fun n hn => by simpa using hb n hn
theorem mm_pl_at {dom : List Nat} {K : Nat → Nat} {f : Nat → mm_Ob} {h : mm_Hp} (hi : mm_inj dom K) {n : Nat} (hn : n ∈ dom) : mm_pl dom K f h (K n) = some (f n) := by
  unfold mm_pl
  rw [mm_find hi hn]
theorem mm_pl_no {dom : List Nat} {K : Nat → Nat} {f : Nat → mm_Ob} {h : mm_Hp} {b : Nat} (hb : ∀ n ∈ dom, K n ≠ b) : mm_pl dom K f h b = h b := by
  unfold mm_pl
  rw [mm_find_no hb]
theorem mm_pl_cases {dom : List Nat} {K : Nat → Nat} (b : Nat) : (∃ n, n ∈ dom ∧ b = K n) ∨ ∀ n ∈ dom, K n ≠ b := by
  by_cases e : ∃ n, n ∈ dom ∧ b = K n
  · exact Or.inl e
  · exact Or.inr fun n hn z => e ⟨n, hn, z.symm⟩
theorem mm_pl_congr {dom : List Nat} {K K' : Nat → Nat} {f g : Nat → mm_Ob} {h : mm_Hp} (hi : mm_inj dom K) (hK : ∀ n ∈ dom, K n = K' n) (hf : ∀ n ∈ dom, f n = g n) : mm_pl dom K f h = mm_pl dom K' g h := by
  funext b
  have hi' : mm_inj dom K' := fun m hm n hn z => hi m hm n hn (by rw [hK m hm, hK n hn]; exact z)
  rcases mm_pl_cases (dom := dom) (K := K) b with ⟨n, hn, rfl⟩ | hb
  · rw [mm_pl_at hi hn, hK n hn, mm_pl_at hi' hn, hf n hn]
  · rw [mm_pl_no hb, mm_pl_no (fun n hn => by rw [← hK n hn]; exact hb n hn)]
theorem mm_pl_up {dom : List Nat} {K : Nat → Nat} {f g : Nat → mm_Ob} {h : mm_Hp} (hi : mm_inj dom K) {n : Nat} (hn : n ∈ dom) {o : mm_Ob} (ho : g n = o) (hg : ∀ m ∈ dom, m ≠ n → g m = f m) : mm_up (mm_pl dom K f h) (K n) o = mm_pl dom K g h := by
  funext b
  by_cases e : b = K n
  · rw [e, mm_up_self, mm_pl_at hi hn, ho]
  · rw [mm_up_ne _ _ e]
    rcases mm_pl_cases (dom := dom) (K := K) b with ⟨m, hm, rfl⟩ | hb
    · rw [mm_pl_at hi hm, mm_pl_at hi hm, hg m hm (fun z => e (by rw [z]))]
    · rw [mm_pl_no hb, mm_pl_no hb]
/-- a thing elsewhere is written: that is the rest's business -/
theorem mm_pl_out {dom : List Nat} {K : Nat → Nat} {f : Nat → mm_Ob} {h : mm_Hp} {a : Nat} {o : mm_Ob} (ha : ∀ n ∈ dom, K n ≠ a) : mm_up (mm_pl dom K f h) a o = mm_pl dom K f (mm_up h a o) := by
  funext b
  by_cases e : b = a
  · rw [e, mm_up_self, mm_pl_no ha, mm_up_self]
  · rw [mm_up_ne _ _ e]
    unfold mm_pl
    split
    · rfl
    · rw [mm_up_ne _ _ e]
/-- one thing more -/
theorem mm_pl_new {dom dom' : List Nat} {K K' : Nat → Nat} {f g : Nat → mm_Ob} {h : mm_Hp} {q n : Nat} {o : mm_Ob} (hi : mm_inj dom K) (hq : ∀ m ∈ dom, K m ≠ q) (hd : ∀ m, m ∈ dom' ↔ m ∈ dom ∨ m = n) (hn : n ∉ dom) (hK : ∀ m ∈ dom, K' m = K m) (hKn : K' n = q) (ho : g n = o) (hg : ∀ m ∈ dom, g m = f m) :
    mm_inj dom' K' ∧ mm_up (mm_pl dom K f h) q o = mm_pl dom' K' g h := by
  have hi' : mm_inj dom' K' := by
    intro a ha b hb z
    rcases (hd a).mp ha with ha | rfl <;> rcases (hd b).mp hb with hb | rfl
    · exact hi a ha b hb (by rw [← hK a ha, ← hK b hb]; exact z)
    · rw [hK a ha, hKn] at z
      exact absurd z (hq a ha)
    · rw [hK b hb, hKn] at z
      exact absurd z.symm (hq b hb)
    · rfl
  refine ⟨hi', ?_⟩
  funext b
  by_cases e : b = q
  · rw [e, mm_up_self, ← hKn, mm_pl_at hi' ((hd n).mpr (Or.inr rfl)), ho]
  · rw [mm_up_ne _ _ e]
    rcases mm_pl_cases (dom := dom) (K := K) b with ⟨m, hm, rfl⟩ | hb
    · rw [mm_pl_at hi hm, ← hK m hm, mm_pl_at hi' ((hd m).mpr (Or.inl hm)), hg m hm]
    · rw [mm_pl_no hb, mm_pl_no]
      intro m hm
      rcases (hd m).mp hm with hm | rfl
      · rw [hK m hm]; exact hb m hm
      · rw [hKn]; exact Ne.symm e
/-- two pools side by side -/
theorem mm_pl_comm {d1 d2 : List Nat} {K1 K2 : Nat → Nat} {f1 f2 : Nat → mm_Ob} {h : mm_Hp} (hd : ∀ m ∈ d1, ∀ n ∈ d2, K1 m ≠ K2 n) : mm_pl d1 K1 f1 (mm_pl d2 K2 f2 h) = mm_pl d2 K2 f2 (mm_pl d1 K1 f1 h) := by
  funext b
  unfold mm_pl
  cases e1 : d1.find? (fun n => K1 n == b) with
  | none => rfl
  | some m =>
    have h1 := List.mem_of_find?_eq_some e1
    have h2 : K1 m = b := by simpa using List.find?_some e1
    have e2 : d2.find? (fun n => K2 n == b) = none := mm_find_no fun n hn z => hd m h1 n hn (h2.trans z.symm)
    rw [e2]
/-! loops that count -/
def lp {α : Type} (f : Nat → α → α) : Nat → α → α
  | 0, a => a
  | n + 1, a => f n (lp f n a)
/-! THE CLASS'S STATE: how many devices, nets; fields of devices; numbers of nets; from, to, shorted with; 0 the bench's numbers, 1 the row of a scan, 2 the identities found, 3 the lists' counts of changes -/
abbrev cS : Type := (Nat × Nat) × (Nat → Nat → Int32) × (Nat → Nat → Int32) × (Nat → Nat × Nat × Option Nat) × (Nat → Nat → Int32)
abbrev c_nd (S : cS) : Nat := S.1.1
abbrev c_nn (S : cS) : Nat := S.1.2
abbrev c_D (S : cS) : Nat → Nat → Int32 := S.2.1
abbrev c_N (S : cS) : Nat → Nat → Int32 := S.2.2.1
abbrev c_R (S : cS) : Nat → Nat × Nat × Option Nat := S.2.2.2.1
abbrev c_Z (S : cS) : Nat → Nat → Int32 := S.2.2.2.2
def s_D (S : cS) (i : Nat) (d : Nat → Int32) : cS := (S.1, va_up S.2.1 i d, S.2.2)
def s_N (S : cS) (j : Nat) (n : Nat → Int32) : cS := (S.1, S.2.1, va_up S.2.2.1 j n, S.2.2.2)
def s_R (S : cS) (j : Nat) (r : Nat × Nat × Option Nat) : cS := (S.1, S.2.1, S.2.2.1, va_up S.2.2.2.1 j r, S.2.2.2.2)
def s_Z (S : cS) (i k : Nat) (x : Int32) : cS := (S.1, S.2.1, S.2.2.1, S.2.2.2.1, va_up S.2.2.2.2 i (upd (S.2.2.2.2 i) k x))
def oCb (K : Nat → Nat) (z : Nat → Int32) : mm_Ob := (3, [.ref (K 1), .ref (K 3), .int (z 2), .int (z 3), .ref (K 5), .ref (K 6), .int (z 6), .int (z 7)])
def oAr (K : Nat → Nat) (b n : Nat) : mm_Ob := (13, (List.range 10).map (fun i => if i < n then Value.ref (K (b + i)) else .null))
def oIs (n : Nat) (z : Nat → Int32) : mm_Ob := (10, (List.range n).map (fun k => Value.int (z k)))
def oNK (K : Nat → Nat) (r : Nat × Nat × Option Nat) (n : Nat → Int32) : mm_Ob := oNt (K (10 + r.1)) (K (10 + r.2.1)) (r.2.2.map (fun j => K (20 + j))) n
def cdom (nd nn : Nat) : List Nat := [0, 1, 3, 5, 6] ++ (if nd = 0 then [] else [2]) ++ (if nn = 0 then [] else [4]) ++ (List.range nd).map (fun i => 10 + i) ++ (List.range nn).map (fun i => 20 + i)
def cob (K : Nat → Nat) (S : cS) (n : Nat) : mm_Ob :=
  if n = 0 then oCb K (c_Z S 0) else if n = 1 then oAl (c_Z S 3 0) (K 2) (c_nd S) else if n = 2 then oAr K 10 (c_nd S) else if n = 3 then oAl (c_Z S 3 1) (K 4) (c_nn S) else if n = 4 then oAr K 20 (c_nn S) else if n = 5 then oIs 5 (c_Z S 1) else if n = 6 then oIs 4 (c_Z S 2) else
  if n < 20 then oDv (c_D S (n - 10)) else oNK K (c_R S (n - 20)) (c_N S (n - 20))
def c_wf (G : mm_G) (K : Nat → Nat) (S : cS) : Prop := c_nd S ≤ 4 ∧ c_nn S ≤ 8 ∧ mm_inj (cdom (c_nd S) (c_nn S)) K ∧ (c_nd S = 0 → K 2 = G.2.2.1 2) ∧ (c_nn S = 0 → K 4 = G.2.2.1 2) ∧ ∀ j, j < c_nn S → (c_R S j).1 < c_nd S ∧ (c_R S j).2.1 < c_nd S ∧ ∀ k, (c_R S j).2.2 = some k → k < c_nn S ∧ k ≠ j
def CP (K : Nat → Nat) (S : cS) (h : mm_Hp) : mm_Hp := mm_pl (cdom (c_nd S) (c_nn S)) K (cob K S) h
theorem cd_dev {nd nn i : Nat} (hi : i < nd) : 10 + i ∈ cdom nd nn := by
  unfold cdom
  refine List.mem_append_left _ (List.mem_append_right _ (List.mem_map.mpr ⟨i, List.mem_range.mpr hi, rfl⟩))
theorem cd_net {nd nn j : Nat} (hj : j < nn) : 20 + j ∈ cdom nd nn := List.mem_append_right _ (List.mem_map.mpr ⟨j, List.mem_range.mpr hj, rfl⟩)
theorem cd_fix {nd nn n : Nat} (hn : n ∈ [0, 1, 3, 5, 6]) : n ∈ cdom nd nn := List.mem_append_left _ (List.mem_append_left _ (List.mem_append_left _ (List.mem_append_left _ hn)))
theorem cd_2 {nd nn : Nat} (h : 0 < nd) : 2 ∈ cdom nd nn := by
  refine List.mem_append_left _ (List.mem_append_left _ (List.mem_append_left _ (List.mem_append_right _ ?_)))
  rw [if_neg (by omega)]; exact List.mem_singleton.mpr rfl
theorem cd_4 {nd nn : Nat} (h : 0 < nn) : 4 ∈ cdom nd nn := by
  refine List.mem_append_left _ (List.mem_append_left _ (List.mem_append_right _ ?_))
  rw [if_neg (by omega)]; exact List.mem_singleton.mpr rfl
theorem cd_cases {nd nn n : Nat} (h : n ∈ cdom nd nn) : n ∈ [0, 1, 3, 5, 6] ∨ (n = 2 ∧ 0 < nd) ∨ (n = 4 ∧ 0 < nn) ∨ (∃ i, i < nd ∧ n = 10 + i) ∨ ∃ j, j < nn ∧ n = 20 + j := by
  unfold cdom at h
  rcases List.mem_append.mp h with h | h
  · rcases List.mem_append.mp h with h | h
    · rcases List.mem_append.mp h with h | h
      · rcases List.mem_append.mp h with h | h
        · exact Or.inl h
        · split at h
          · cases h
          · exact Or.inr (Or.inl ⟨List.mem_singleton.mp h, by omega⟩)
      · split at h
        · cases h
        · exact Or.inr (Or.inr (Or.inl ⟨List.mem_singleton.mp h, by omega⟩))
    · obtain ⟨i, hi, rfl⟩ := List.mem_map.mp h
      exact Or.inr (Or.inr (Or.inr (Or.inl ⟨i, List.mem_range.mp hi, rfl⟩)))
  · obtain ⟨i, hi, rfl⟩ := List.mem_map.mp h
    exact Or.inr (Or.inr (Or.inr (Or.inr ⟨i, List.mem_range.mp hi, rfl⟩)))
theorem cob_dev {K : Nat → Nat} {S : cS} {i : Nat} (hi : i < 10) : cob K S (10 + i) = oDv (c_D S i) := by
  unfold cob
  rw [if_neg (by omega), if_neg (by omega), if_neg (by omega), if_neg (by omega), if_neg (by omega), if_neg (by omega), if_neg (by omega), if_pos (by omega), show 10 + i - 10 = i by omega]
theorem cob_net {K : Nat → Nat} {S : cS} {j : Nat} : cob K S (20 + j) = oNK K (c_R S j) (c_N S j) := by
  unfold cob
  rw [if_neg (by omega), if_neg (by omega), if_neg (by omega), if_neg (by omega), if_neg (by omega), if_neg (by omega), if_neg (by omega), if_neg (by omega), show 20 + j - 20 = j by omega]
section CPS
variable {G : mm_G} {K : Nat → Nat} {S : cS} {h : mm_Hp}
theorem cp_0 (w : c_wf G K S) : CP K S h (K 0) = some (oCb K (c_Z S 0)) := mm_pl_at w.2.2.1 (cd_fix (by simp))
theorem cp_1 (w : c_wf G K S) : CP K S h (K 1) = some (oAl (c_Z S 3 0) (K 2) (c_nd S)) := mm_pl_at w.2.2.1 (cd_fix (by simp))
theorem cp_3 (w : c_wf G K S) : CP K S h (K 3) = some (oAl (c_Z S 3 1) (K 4) (c_nn S)) := mm_pl_at w.2.2.1 (cd_fix (by simp))
theorem cp_5 (w : c_wf G K S) : CP K S h (K 5) = some (oIs 5 (c_Z S 1)) := mm_pl_at w.2.2.1 (cd_fix (by simp))
theorem cp_6 (w : c_wf G K S) : CP K S h (K 6) = some (oIs 4 (c_Z S 2)) := mm_pl_at w.2.2.1 (cd_fix (by simp))
theorem cp_2 (w : c_wf G K S) (hd : 0 < c_nd S) : CP K S h (K 2) = some (oAr K 10 (c_nd S)) := mm_pl_at w.2.2.1 (cd_2 hd)
theorem cp_4 (w : c_wf G K S) (hd : 0 < c_nn S) : CP K S h (K 4) = some (oAr K 20 (c_nn S)) := mm_pl_at w.2.2.1 (cd_4 hd)
theorem cp_dev (w : c_wf G K S) {i : Nat} (hi : i < c_nd S) : CP K S h (K (10 + i)) = some (oDv (c_D S i)) := by
  rw [← cob_dev (K := K) (by have := w.1; omega)]
  exact mm_pl_at w.2.2.1 (cd_dev hi)
theorem cp_net (w : c_wf G K S) {j : Nat} (hj : j < c_nn S) : CP K S h (K (20 + j)) = some (oNK K (c_R S j) (c_N S j)) := by
  rw [← cob_net]
  exact mm_pl_at w.2.2.1 (cd_net hj)
theorem cu_dev (w : c_wf G K S) {i : Nat} (hi : i < c_nd S) (d : Nat → Int32) : mm_up (CP K S h) (K (10 + i)) (oDv d) = CP K (s_D S i d) h := by
  refine mm_pl_up w.2.2.1 (cd_dev hi) ?_ (fun m hm hne => ?_)
  · rw [cob_dev (by have := w.1; omega)]
    show oDv (va_up S.2.1 i d i) = _
    rw [va_up_self]
  · rcases cd_cases hm with hm | ⟨rfl, -⟩ | ⟨rfl, -⟩ | ⟨k, hk, rfl⟩ | ⟨k, hk, rfl⟩
    · simp only [List.mem_cons, List.not_mem_nil, or_false] at hm
      rcases hm with rfl | rfl | rfl | rfl | rfl <;> rfl
    · rfl
    · rfl
    · have h4 := w.1
      have hk9 : k < c_nd S := hk
      rw [cob_dev (by omega), cob_dev (by omega)]
      show oDv (va_up S.2.1 i d k) = _
      rw [va_up_ne _ _ (fun z => hne (by rw [z]))]
    · rw [cob_net, cob_net]; rfl
theorem cu_net (w : c_wf G K S) {j : Nat} (hj : j < c_nn S) (r : Nat × Nat × Option Nat) (n : Nat → Int32) : mm_up (CP K S h) (K (20 + j)) (oNK K r n) = CP K (s_R (s_N S j n) j r) h := by
  refine mm_pl_up w.2.2.1 (cd_net hj) ?_ (fun m hm hne => ?_)
  · rw [cob_net]
    show oNK K (va_up S.2.2.2.1 j r j) (va_up S.2.2.1 j n j) = _
    rw [va_up_self, va_up_self]
  · rcases cd_cases hm with hm | ⟨rfl, -⟩ | ⟨rfl, -⟩ | ⟨k, hk, rfl⟩ | ⟨k, hk, rfl⟩
    · simp only [List.mem_cons, List.not_mem_nil, or_false] at hm
      rcases hm with rfl | rfl | rfl | rfl | rfl <;> rfl
    · rfl
    · rfl
    · have h4 := w.1
      have hk9 : k < c_nd S := hk
      rw [cob_dev (by omega), cob_dev (by omega)]; rfl
    · rw [cob_net, cob_net]
      show oNK K (va_up S.2.2.2.1 j r k) (va_up S.2.2.1 j n k) = _
      rw [va_up_ne _ _ (fun z => hne (by rw [z])), va_up_ne _ _ (fun z => hne (by rw [z]))]
/-- the bench's own numbers, the two rows -/
theorem cu_fix (w : c_wf G K S) {g i : Nat} (hg : (g = 0 ∧ i = 0) ∨ (g = 5 ∧ i = 1) ∨ (g = 6 ∧ i = 2)) {k : Nat} {x : Int32} {o : mm_Ob} (ho : cob K (s_Z S i k x) g = o) : mm_up (CP K S h) (K g) o = CP K (s_Z S i k x) h := by
  refine mm_pl_up w.2.2.1 (cd_fix (by rcases hg with ⟨rfl, -⟩ | ⟨rfl, -⟩ | ⟨rfl, -⟩ <;> simp)) ho (fun m hm hne => ?_)
  have hz : ∀ q, q ≠ i → c_Z (s_Z S i k x) q = c_Z S q := fun q hq => va_up_ne _ _ hq
  have e0 : g ≠ 0 → c_Z (s_Z S i k x) 0 = c_Z S 0 := fun z => hz 0 (by omega)
  have e1 : g ≠ 5 → c_Z (s_Z S i k x) 1 = c_Z S 1 := fun z => hz 1 (by omega)
  have e2 : g ≠ 6 → c_Z (s_Z S i k x) 2 = c_Z S 2 := fun z => hz 2 (by omega)
  have e3 : c_Z (s_Z S i k x) 3 = c_Z S 3 := hz 3 (by omega)
  rcases cd_cases hm with hm | ⟨rfl, -⟩ | ⟨rfl, -⟩ | ⟨k2, hk, rfl⟩ | ⟨k2, hk, rfl⟩
  · simp only [List.mem_cons, List.not_mem_nil, or_false] at hm
    rcases hm with rfl | rfl | rfl | rfl | rfl
    · show oCb K (c_Z (s_Z S i k x) 0) = oCb K (c_Z S 0); rw [e0 (Ne.symm hne)]
    · show oAl (c_Z (s_Z S i k x) 3 0) _ _ = oAl (c_Z S 3 0) _ _; rw [e3]; rfl
    · show oAl (c_Z (s_Z S i k x) 3 1) _ _ = oAl (c_Z S 3 1) _ _; rw [e3]; rfl
    · show oIs 5 (c_Z (s_Z S i k x) 1) = oIs 5 (c_Z S 1); rw [e1 (Ne.symm hne)]
    · show oIs 4 (c_Z (s_Z S i k x) 2) = oIs 4 (c_Z S 2); rw [e2 (Ne.symm hne)]
  · rfl
  · rfl
  · have h4 := w.1
    have hk9 : k2 < c_nd S := hk
    rw [cob_dev (by omega), cob_dev (by omega)]; rfl
  · rw [cob_net, cob_net]; rfl
theorem cu_0 (w : c_wf G K S) (k : Nat) (x : Int32) : mm_up (CP K S h) (K 0) (oCb K (upd (c_Z S 0) k x)) = CP K (s_Z S 0 k x) h := cu_fix w (Or.inl ⟨rfl, rfl⟩) (by show oCb K (va_up S.2.2.2.2 0 (upd (S.2.2.2.2 0) k x) 0) = _; rw [va_up_self])
theorem oIs_set {n j : Nat} (hj : j < n) (z : Nat → Int32) (x : Int32) : ((List.range n).map (fun k => Value.int (z k))).set j (.int x) = (List.range n).map (fun k => Value.int (upd z j x k)) := by
  apply List.ext_getElem?
  intro i
  rw [List.getElem?_set, List.length_map, List.length_range, List.getElem?_map, List.getElem?_map]
  by_cases hi : i < n
  · rw [List.getElem?_range hi]
    by_cases e : j = i
    · subst e; rw [if_pos rfl, if_pos hi]; simp [upd]
    · rw [if_neg e]; simp [upd, Ne.symm e]
  · rw [List.getElem?_eq_none (by rw [List.length_range]; omega)]
    by_cases e : j = i
    · omega
    · rw [if_neg e]; rfl
theorem oIs_get {n j : Nat} (hj : j < n) (z : Nat → Int32) : ((List.range n).map (fun k => Value.int (z k)))[j]? = some (.int (z j)) := by
  rw [List.getElem?_map, List.getElem?_range hj]; rfl
theorem cu_5 (w : c_wf G K S) {j : Nat} (hj : j < 5) (x : Int32) : mm_up (CP K S h) (K 5) (10, ((List.range 5).map (fun k => Value.int (c_Z S 1 k))).set j (.int x)) = CP K (s_Z S 1 j x) h := cu_fix w (Or.inr (Or.inl ⟨rfl, rfl⟩)) (by rw [oIs_set hj]; show oIs 5 (va_up S.2.2.2.2 1 (upd (S.2.2.2.2 1) j x) 1) = _; rw [va_up_self]; rfl)
theorem cu_6 (w : c_wf G K S) {j : Nat} (hj : j < 4) (x : Int32) : mm_up (CP K S h) (K 6) (10, ((List.range 4).map (fun k => Value.int (c_Z S 2 k))).set j (.int x)) = CP K (s_Z S 2 j x) h := cu_fix w (Or.inr (Or.inr ⟨rfl, rfl⟩)) (by rw [oIs_set hj]; show oIs 4 (va_up S.2.2.2.2 2 (upd (S.2.2.2.2 2) j x) 2) = _; rw [va_up_self]; rfl)
theorem oAr_get {b n j : Nat} (hj : j < n) (hn : n ≤ 10) : ((List.range 10).map (fun i => if i < n then Value.ref (K (b + i)) else .null))[j]? = some (.ref (K (b + j))) := by
  rw [List.getElem?_map, List.getElem?_range (by omega)]
  simp [hj]
/-- an element of the lists -/
theorem c_getD (w : c_wf G K S) {i : Nat} (hi : i < c_nd S) : mm_C G M_Al_get [.ref (K 1), .int (nI i)] (CP K S h) 0 0 (mm_E (some (.ref (K (10 + i)))) (CP K S h)) := c_Al_get (cp_1 w) (cp_2 w (by omega)) hi (by have := w.1; omega) (oAr_get hi (by have := w.1; omega))
theorem c_getN (w : c_wf G K S) {i : Nat} (hi : i < c_nn S) : mm_C G M_Al_get [.ref (K 3), .int (nI i)] (CP K S h) 0 0 (mm_E (some (.ref (K (20 + i)))) (CP K S h)) := c_Al_get (cp_3 w) (cp_4 w (by omega)) hi (by have := w.2.1; omega) (oAr_get hi (by have := w.2.1; omega))
theorem k_dev_eq (w : c_wf G K S) {i j : Nat} (hi : i < c_nd S) (hj : j < c_nd S) : K (10 + i) = K (10 + j) ↔ i = j := ⟨fun z => by have := w.2.2.1 _ (cd_dev hi) _ (cd_dev hj) z; omega, fun z => by rw [z]⟩
theorem k_net_ne (w : c_wf G K S) {i j : Nat} (hi : i < c_nn S) (hj : j < c_nn S) (hij : i ≠ j) : K (20 + i) ≠ K (20 + j) := fun z => hij (by have := w.2.2.1 _ (cd_net hi) _ (cd_net hj) z; omega)
end CPS
section CPS2
variable {G : mm_G} {K : Nat → Nat} {S : cS} {h : mm_Hp}
theorem mm_V_heap {M : mm_M} {pc : Nat} {L : List (Nat × Value)} {st : List Value} {h h' : mm_Hp} {kc ks : Nat} {Q : mm_O → mm_Hp → Prop} (e : h = h') (k : mm_V G M pc L st h' kc ks Q) : mm_V G M pc L st h kc ks Q := e ▸ k
/-- one number of a net -/
theorem cu_netN (w : c_wf G K S) {j : Nat} (hj : j < c_nn S) (k : Nat) (x : Int32) : mm_up (CP K S h) (K (20 + j)) (oNK K (c_R S j) (upd (c_N S j) k x)) = CP K (s_N S j (upd (c_N S j) k x)) h := by
  rw [cu_net w hj]
  have e : s_R (s_N S j (upd (c_N S j) k x)) j (c_R S j) = s_N S j (upd (c_N S j) k x) := by
    unfold s_R s_N
    have : va_up S.2.2.2.1 j (S.2.2.2.1 j) = S.2.2.2.1 := by
      funext q
      by_cases hq : q = j
      · rw [hq, va_up_self]
      · rw [va_up_ne _ _ hq]
    show (S.1, S.2.1, va_up S.2.2.1 j (upd (c_N S j) k x), va_up S.2.2.2.1 j (S.2.2.2.1 j), S.2.2.2.2) = _
    rw [this]
  rw [e]
end CPS2
