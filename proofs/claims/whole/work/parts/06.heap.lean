/-! words by a program's look -/
def mm_in (w : Cond) : Bool := mm_good w && decide (w ∈ lw_tbl)
theorem mm_in_mem {w : Cond} (h : mm_in w = true) : w ∈ mm_W := by
  simp only [mm_in, Bool.and_eq_true, decide_eq_true_eq] at h
  exact mm_W_in h.2 h.1
theorem mm_in_of {w : Cond} {args : Array Value} {s : State} (hts : ∀ w ∈ mm_W, w.before args s = true) (h : mm_in w = true) : w.before args s = true := hts w (mm_in_mem h)
def mm_fd (ci k : Nat) : String := match mm_cl[ci]? with
  | some r => (r.2.1 k).2.2.1
  | none => ""
/-- field k of class ci by the pool's entry idx of own -/
def mm_fok (own : String) (idx : Nat) (ref : String) (ci k : Nat) : Bool := match mm_cl[ci]? with
  | some r => decide (k < r.2.2) && mm_in (.fieldLink own idx ref (r.2.1 k).2.1 (r.2.1 k).2.2.1) && (decide (ref = (r.2.1 k).1) || mm_in (.sameField ref (r.2.1 k).1 (r.2.1 k).2.1 (r.2.1 k).2.2.1))
  | none => false
def mm_fin (ci k : Nat) : Bool := match mm_cl[ci]? with
  | some r => (r.2.1 k).2.2.2
  | none => true
def mm_decl (ci k : Nat) : String := match mm_cl[ci]? with
  | some r => (r.2.1 k).1
  | none => ""
def mm_fit (d : String) (v : Value) : Prop := ∃ ty, parseFieldDescriptor d = some ty ∧ narrow ty v = v ∧ fits ty v = true
theorem mm_fit_I (x : Int32) : mm_fit "I" (.int x) := ⟨.int, by decide +kernel, rfl, rfl⟩
theorem mm_fit_Z0 : mm_fit "Z" (.int 0) := ⟨.boolean, by decide +kernel, rfl, by decide +kernel⟩
theorem mm_fit_Z1 : mm_fit "Z" (.int 1) := ⟨.boolean, by decide +kernel, rfl, by decide +kernel⟩
theorem mm_fit_AI (a : Nat) : mm_fit "[I" (.ref a) := ⟨.array .int, by decide +kernel, rfl, rfl⟩
theorem mm_fit_AZ (a : Nat) : mm_fit "[Z" (.ref a) := ⟨.array .boolean, by decide +kernel, rfl, rfl⟩
theorem mm_fit_AO (a : Nat) : mm_fit "[Ljava/lang/Object;" (.ref a) := ⟨.array (.object "java/lang/Object"), by decide +kernel, rfl, rfl⟩
theorem mm_fit_L (a : Nat) : mm_fit "Ljava/util/ArrayList;" (.ref a) := ⟨.object "java/util/ArrayList", by decide +kernel, rfl, rfl⟩
theorem mm_fit_D (a : Nat) : mm_fit "LChainBench$Device;" (.ref a) := ⟨.object "ChainBench$Device", by decide +kernel, rfl, rfl⟩
theorem mm_fit_N (a : Nat) : mm_fit "LChainBench$Net;" (.ref a) := ⟨.object "ChainBench$Net", by decide +kernel, rfl, rfl⟩
theorem mm_fit_Nn : mm_fit "LChainBench$Net;" .null := ⟨.object "ChainBench$Net", by decide +kernel, rfl, rfl⟩
theorem mm_ci_lt {ci : Nat} {r : vw_C} (h : mm_cl[ci]? = some r) : ci < 10 := by
  have := (List.getElem?_eq_some_iff.mp h).1
  exact Nat.lt_trans this (by decide)
theorem mm_ci_in {ci : Nat} {r : vw_C} (h : mm_cl[ci]? = some r) : ∀ w ∈ u_ws r.1 r.2.1 r.2.2, w ∈ mm_W := mm_cl_in r (List.mem_of_getElem? h)
def mm_ty0 (r : vw_C) (k : Nat) : FieldType := (parseFieldDescriptor (r.2.1 k).2.2.1).getD .int
theorem mm_ty0_ok {ci : Nat} {r : vw_C} (h : mm_cl[ci]? = some r) : ∀ k, k < r.2.2 → parseFieldDescriptor (r.2.1 k).2.2.1 = some (mm_ty0 r k) := fun k hk => by
  have h1 := mm_cl_ty r (List.mem_of_getElem? h) k hk
  unfold mm_ty0
  cases e : parseFieldDescriptor (r.2.1 k).2.2.1 with
  | none => rw [e] at h1; cases h1
  | some t => rfl
/-- what the field's look gives -/
theorem mm_fok_of {own ref : String} {idx ci k : Nat} {args : Array Value} {s : State} (hts : ∀ w ∈ mm_W, w.before args s = true) (h : mm_fok own idx ref ci k = true) :
    ∃ r : vw_C, mm_cl[ci]? = some r ∧ k < r.2.2 ∧ (Cond.fieldLink own idx ref (r.2.1 k).2.1 (r.2.1 k).2.2.1).before args s = true ∧ (∀ x, s.fieldFound? (r.2.1 k).1 (r.2.1 k).2.1 (r.2.1 k).2.2.1 = some x → s.fieldFound? ref (r.2.1 k).2.1 (r.2.1 k).2.2.1 = some x) := by
  unfold mm_fok at h
  split at h
  · rename_i r hr
    simp only [Bool.and_eq_true, Bool.or_eq_true, decide_eq_true_eq] at h
    obtain ⟨⟨h1, h2⟩, h3⟩ := h
    refine ⟨r, hr, h1, mm_in_of hts h2, fun x hx => ?_⟩
    rcases h3 with h3 | h3
    · rw [h3]; exact hx
    · exact u_same (mm_in_of hts h3) x hx
  · cases h
section MMH
variable {G : mm_G} {M : mm_M} {pc : Nat} {L : List (Nat × Value)} {st : List Value} {h : mm_Hp} {kc ks : Nat} {Q : mm_O → mm_Hp → Prop} {T : mm_T}
theorem mm_getf (hT : mm_ok M T) {a ci idx k : Nat} {fs : List Value} {v : Value} {c0 : Int32} {ref : String} (ha : h a = some (ci, fs)) (hf : mm_ix T pc = some (.getfield idx, 3, c0)) (hk : mm_fok M.1.cls idx ref ci k = true) (hv : fs[k]? = some v)
    (kk : mm_V G M (pc + 3) L (v :: st) h kc ks Q) : mm_V G M pc L (.ref a :: st) h kc ks Q := by
  intro p l e R s m args below meth c H locs cells slots A ls hF hI hc hs hl
  obtain ⟨r, hr, hkN, hlink, hsame⟩ := mm_fok_of hF.2.2.2.2.2.2.1 hk
  have hcell := hI.1 a _ ha
  rw [mm_cell_o (mm_ci_lt hr)] at hcell
  obtain ⟨r', hr', -, hOB⟩ := hcell
  cases hr.symm.trans hr'
  have hP : va_P G.1 mm_cl [(a, .inr (ci, fs))] H := fun j q hj => by
    have hz : j < 1 := (List.getElem?_eq_some_iff.mp hj).1
    rw [show j = 0 by omega] at hj
    cases hj
    exact ⟨r, hr, hOB⟩
  exact va_get (D := G.1) (cl := mm_cl) (C := r.1) (T := r.2.1) (N := r.2.2) hF.1 hF.2.1 hF.2.2.2.2.2.2.1 (mm_ci_in hr) hF.2.2.2.2.2.1 hF.2.2.2.2.2.2.2.2.2.2.2.2.1.1 hP 0 rfl hr k hkN hlink hsame hv (mm_dec hT hf) (kk p l e R s m args below meth c H locs cells slots A ls hF hI hc hs hl)
theorem mm_putf (hT : mm_ok M T) {a ci idx k : Nat} {fs : List Value} {v : Value} {c0 : Int32} {ref : String} (ha : h a = some (ci, fs)) (hf : mm_ix T pc = some (.putfield idx, 3, c0)) (hk : mm_fok M.1.cls idx ref ci k = true)
    (hfin : mm_fin ci k = false ∨ (mm_fin ci k = true ∧ mm_decl ci k = M.1.cls ∧ M.1.name = "<init>")) (hft : mm_fit (mm_fd ci k) v)
    (kk : mm_V G M (pc + 3) L st (mm_up h a (ci, fs.set k v)) kc ks Q) : mm_V G M pc L (v :: .ref a :: st) h kc ks Q := by
  intro p l e R s m args below meth c H locs cells slots A ls hF hI hc hs hl
  have hts := hF.2.2.2.2.2.2.1
  have hown := hF.2.2.2.2.2.1
  have hKK := hF.2.2.2.2.2.2.2.2.2.2.2.2.1.1
  obtain ⟨r, hr, hkN, hlink, hsame⟩ := mm_fok_of hts hk
  have hcell := hI.1 a _ ha
  rw [mm_cell_o (mm_ci_lt hr)] at hcell
  obtain ⟨r', hr', hlen, cell, q1, q2, q3, q4⟩ := hcell
  cases hr.symm.trans hr'
  have hap := va_apart (own := M.1.cls) hts (mm_ci_in hr) (mm_ty0 r) (mm_ty0_ok hr) (mm_cl_nm r (List.mem_of_getElem? hr)) hKK hr
  obtain ⟨hS, hfc, kC, hkC, hkind⟩ := hKK.1 ci _ hr
  obtain ⟨cf, kf, fi, f, hi, hsl⟩ := hS k hkN
  have hst := (u_facts hfc hkC (u_lays hts (mm_ci_in hr) hkN) hi).1
  obtain ⟨ty, hd, hn, hfit⟩ := hft
  have hfd : mm_fd ci k = (r.2.1 k).2.2.1 := by unfold mm_fd; rw [hr]
  have hfn : mm_fin ci k = (r.2.1 k).2.2.2 := by unfold mm_fin; rw [hr]
  have hdc : mm_decl ci k = (r.2.1 k).1 := by unfold mm_decl; rw [hr]
  rw [hfd] at hd
  rw [hfn, hdc] at hfin
  have hlay := hts _ (mm_ci_in hr _ (u_in_lay hkN))
  have end9 : ∀ H' : Heap, H'[a]? = some (cell.setSlot f.slot v) → H'.size = H.size → (∀ q, q ≠ a → H'[q]? = H[q]?) → W p l e R s m args below meth c H' (locs ++ [⟨a, f.slot⟩]) cells slots (vx_MQ below (mm_Qc G Q A) (mm_XC G Q A) args s (cells + kc) (slots + ks) A) (F0 m (pc + 3) ls st) := by
    intro H' e1 e2 e3
    rw [hsl] at e1 ⊢
    refine kk p l e R s m args below meth c H' _ cells slots A ls hF ⟨mm_R_up hI.1 ?_ e3, hI.2.1.put e2 e3 (hI.2.2 a _ ha), ?_⟩ hc hs hl
    · rw [mm_cell_o (mm_ci_lt hr)]
      exact ⟨r, hr, by rw [List.length_set]; exact hlen, t_OB.to (V := updV (vp_V fs) k v) ⟨_, e1, q2, q3, t_set q4 hap hkN v⟩ (fun j _ => vp_updV_set (by rw [hlen]; exact hkN) v j)⟩
    · intro b ob hb
      by_cases eb : b = a
      · rw [eb]; exact hI.2.2 a _ ha
      · rw [mm_up_ne _ _ eb] at hb
        exact hI.2.2 b ob hb
  unfold u_lay at hlay
  rcases hfin with hfin | ⟨hfin, hdecl, hin2⟩
  · rw [if_neg (by rw [hfin]; decide)] at hlay
    have h6 := u_store hfc hkC hkind hlay hi hd hn hfit
    exact W.putK hF.1 hF.2.1 (f := f) ⟨hown, hlink, ⟨_, _, _, hsame _ hi⟩, hst⟩ (by rw [q2]; exact h6) q1 q3 (by rw [hsl]; exact k2_hasslot (q4 k hkN)) rfl rfl (mm_dec hT hf) end9
  · rw [if_pos hfin] at hlay
    have hcf : m.cls = cf := by
      obtain ⟨_, _, c', _, _, _, -, -, hf', -, -, -, hown2, -⟩ := Cond.laysFinal_spec hlay
      have e1 : c' = cf := by have := hi.symm.trans hf'; simp at this; exact this.1.symm
      rw [hdecl] at hown2
      rw [← e1]; exact Option.some.inj (hown.symm.trans hown2)
    have h6 := u_fits hfc hkC hkind (Or.inr hlay) hi hd hn hfit
    exact W.putFinK hF.1 hF.2.1 hown hlink (hsame _ hi) hst hcf (hF.2.2.2.2.2.2.2.1.trans hin2) (by rw [q2]; exact h6) q1 q3 (by rw [hsl]; exact k2_hasslot (q4 k hkN)) rfl rfl (mm_dec hT hf) end9
/-- an index -/
theorem mm_inx {i : Int32} {j n : Nat} (hi : i = nI j) (hj : j < n) (hb : j < 2147483648) : ¬ (i < 0 ∨ n ≤ i.toNatClampNeg) ∧ i.toNatClampNeg = j := by
  subst hi
  have h1 : (nI j).toNatClampNeg = j := nI_clamp hb
  refine ⟨fun q => ?_, h1⟩
  rcases q with q | q
  · exact nI_pos hb q
  · rw [h1] at q; omega
theorem mm_vsget {vs : List Value} {j : Nat} {v : Value} (hv : vs[j]? = some v) : j < vs.length ∧ vp_V vs j = v := by
  have := List.getElem?_eq_some_iff.mp hv
  exact ⟨this.1, by unfold vp_V; rw [List.getD_eq_getElem?_getD, hv]; rfl⟩
theorem mm_arr_lt {a t : Nat} {vs : List Value} {H : Heap} (hR : mm_R G h H) (ha : h a = some (t, vs)) (ht : ¬ t < 10) : H[a]? = some (arrV (G.2.1 t) vs.length (vp_V vs)) := by
  have h1 := hR a _ ha
  rwa [mm_cell_a ht] at h1

theorem mm_iald (hT : mm_ok M T) {a j : Nat} {i c0 : Int32} {vs : List Value} {v : Value} (ha : h a = some (10, vs)) (hf : mm_ix T pc = some (.iaload, 1, c0)) (hi : i = nI j) (hb : j < 2147483648) (hv : vs[j]? = some v)
    (kk : mm_V G M (pc + 1) L (v :: st) h kc ks Q) : mm_V G M pc L (.int i :: .ref a :: st) h kc ks Q := by
  intro p l e R s m args below meth c H locs cells slots A ls hF hI hc hs hl
  obtain ⟨hj, hv2⟩ := mm_vsget hv
  obtain ⟨h1, h2⟩ := mm_inx hi hj hb
  exact W.iald hF.1 hF.2.1 (v := v) (mm_arr_lt hI.1 ha (by decide)) ((hF.2.2.2.2.2.2.2.2.2.2.2.2.1.2.1 (10, .int) (by simp)).1 _ _) (fun q => by cases q) (by rw [arrV_size]; exact h1) (by rw [h2, arrV_read _ _ hj, hv2]) rfl rfl (mm_dec hT hf) (kk p l e R s m args below meth c H locs cells slots A ls hF hI hc hs hl)

theorem mm_zald (hT : mm_ok M T) {a j : Nat} {i c0 : Int32} {vs : List Value} {v : Value} (ha : h a = some (11, vs)) (hf : mm_ix T pc = some (.baload, 1, c0)) (hi : i = nI j) (hb : j < 2147483648) (hv : vs[j]? = some v)
    (kk : mm_V G M (pc + 1) L (v :: st) h kc ks Q) : mm_V G M pc L (.int i :: .ref a :: st) h kc ks Q := by
  intro p l e R s m args below meth c H locs cells slots A ls hF hI hc hs hl
  obtain ⟨hj, hv2⟩ := mm_vsget hv
  obtain ⟨h1, h2⟩ := mm_inx hi hj hb
  exact W.zald hF.1 hF.2.1 (v := v) (mm_arr_lt hI.1 ha (by decide)) ((hF.2.2.2.2.2.2.2.2.2.2.2.2.1.2.1 (11, .boolean) (by simp)).1 _ _) (fun q => by cases q) (by rw [arrV_size]; exact h1) (by rw [h2, arrV_read _ _ hj, hv2]) rfl rfl (mm_dec hT hf) (kk p l e R s m args below meth c H locs cells slots A ls hF hI hc hs hl)

theorem mm_lald (hT : mm_ok M T) {a j : Nat} {i c0 : Int32} {vs : List Value} {v : Value} (ha : h a = some (12, vs)) (hf : mm_ix T pc = some (.laload, 1, c0)) (hi : i = nI j) (hb : j < 2147483648) (hv : vs[j]? = some v)
    (kk : mm_V G M (pc + 1) L (v :: st) h kc ks Q) : mm_V G M pc L (.int i :: .ref a :: st) h kc ks Q := by
  intro p l e R s m args below meth c H locs cells slots A ls hF hI hc hs hl
  obtain ⟨hj, hv2⟩ := mm_vsget hv
  obtain ⟨h1, h2⟩ := mm_inx hi hj hb
  exact W.lald hF.1 hF.2.1 (v := v) (mm_arr_lt hI.1 ha (by decide)) ((hF.2.2.2.2.2.2.2.2.2.2.2.2.1.2.1 (12, .long) (by simp)).1 _ _) (fun q => by cases q) (by rw [arrV_size]; exact h1) (by rw [h2, arrV_read _ _ hj, hv2]) rfl rfl (mm_dec hT hf) (kk p l e R s m args below meth c H locs cells slots A ls hF hI hc hs hl)

theorem mm_aald (hT : mm_ok M T) {a j : Nat} {i c0 : Int32} {vs : List Value} {v : Value} (ha : h a = some (13, vs)) (hf : mm_ix T pc = some (.aaload, 1, c0)) (hi : i = nI j) (hb : j < 2147483648) (hv : vs[j]? = some v)
    (kk : mm_V G M (pc + 1) L (v :: st) h kc ks Q) : mm_V G M pc L (.int i :: .ref a :: st) h kc ks Q := by
  intro p l e R s m args below meth c H locs cells slots A ls hF hI hc hs hl
  obtain ⟨hj, hv2⟩ := mm_vsget hv
  obtain ⟨h1, h2⟩ := mm_inx hi hj hb
  exact W.aald hF.1 hF.2.1 (v := v) (ty := .object "java/lang/Object") (mm_arr_lt hI.1 ha (by decide)) ((hF.2.2.2.2.2.2.2.2.2.2.2.2.1.2.1 (13, .object "java/lang/Object") (by simp)).1 _ _) rfl (fun q => by cases q) (by rw [arrV_size]; exact h1) (by rw [h2, arrV_read _ _ hj, hv2]) rfl rfl (mm_dec hT hf) (kk p l e R s m args below meth c H locs cells slots A ls hF hI hc hs hl)
theorem mm_dom_up {A : Nat → Prop} {h : mm_Hp} {a : Nat} {o : mm_Ob} (hA : ∀ (a : Nat) (o : mm_Ob), h a = some o → A a) (ha : A a) : ∀ (b : Nat) (ob : mm_Ob), mm_up h a o b = some ob → A b := by
  intro b ob hb
  by_cases eb : b = a
  · rw [eb]; exact ha
  · rw [mm_up_ne _ _ eb] at hb
    exact hA b ob hb
theorem mm_arr_set {a t j : Nat} {vs : List Value} {v : Value} {H' : Heap} (ht : ¬ t < 10) (hj : j < vs.length) (e : H'[a]? = some ((arrV (G.2.1 t) vs.length (vp_V vs)).setSlot j v)) : mm_cell G a (t, vs.set j v) H' := by
  rw [mm_cell_a ht, e, arrV_store, List.length_set]
  congr 2
  funext q
  exact vp_updV_set hj v q

theorem mm_iast (hT : mm_ok M T) {a j : Nat} {i c0 : Int32} {x : Int32} {vs : List Value} (ha : h a = some (10, vs)) (hf : mm_ix T pc = some (.iastore, 1, c0)) (hi : i = nI j) (hb : j < 2147483648) (hj : j < vs.length)
    (kk : mm_V G M (pc + 1) L st (mm_up h a (10, vs.set j (.int x))) kc ks Q) : mm_V G M pc L (.int x :: .int i :: .ref a :: st) h kc ks Q := by
  intro p l e R s m args below meth c H locs cells slots A ls hF hI hc hs hl
  obtain ⟨h1, h2⟩ := mm_inx hi hj hb
  refine W.iast hF.1 hF.2.1 (mm_arr_lt hI.1 ha (by decide)) ((hF.2.2.2.2.2.2.2.2.2.2.2.2.1.2.1 (10, .int) (by simp)).1 _ _) (fun q => by cases q) (by rw [arrV_size]; exact h1) rfl rfl (mm_dec hT hf) fun H' e z oq => ?_
  rw [h2] at e ⊢
  exact kk p l _ R s m args below meth c H' _ cells slots A ls hF ⟨mm_R_up hI.1 (mm_arr_set (by decide) hj e) oq, hI.2.1.put z oq (hI.2.2 a _ ha), mm_dom_up hI.2.2 (hI.2.2 a _ ha)⟩ hc hs hl

theorem mm_zast (hT : mm_ok M T) {a j : Nat} {i c0 : Int32} {x : Int32} {vs : List Value} (ha : h a = some (11, vs)) (hf : mm_ix T pc = some (.bastore, 1, c0)) (hi : i = nI j) (hb : j < 2147483648) (hj : j < vs.length) (hz : narrow .boolean (.int x) = .int x)
    (kk : mm_V G M (pc + 1) L st (mm_up h a (11, vs.set j (.int x))) kc ks Q) : mm_V G M pc L (.int x :: .int i :: .ref a :: st) h kc ks Q := by
  intro p l e R s m args below meth c H locs cells slots A ls hF hI hc hs hl
  obtain ⟨h1, h2⟩ := mm_inx hi hj hb
  refine W.zast hF.1 hF.2.1 (mm_arr_lt hI.1 ha (by decide)) ((hF.2.2.2.2.2.2.2.2.2.2.2.2.1.2.1 (11, .boolean) (by simp)).1 _ _) (fun q => by cases q) (by rw [arrV_size]; exact h1) rfl rfl (mm_dec hT hf) fun H' e z oq => ?_
  rw [h2] at e ⊢
  rw [hz] at e
  exact kk p l _ R s m args below meth c H' _ cells slots A ls hF ⟨mm_R_up hI.1 (mm_arr_set (by decide) hj e) oq, hI.2.1.put z oq (hI.2.2 a _ ha), mm_dom_up hI.2.2 (hI.2.2 a _ ha)⟩ hc hs hl

theorem mm_last (hT : mm_ok M T) {a j : Nat} {i c0 : Int32} {x : Int64} {vs : List Value} (ha : h a = some (12, vs)) (hf : mm_ix T pc = some (.lastore, 1, c0)) (hi : i = nI j) (hb : j < 2147483648) (hj : j < vs.length)
    (kk : mm_V G M (pc + 1) L st (mm_up h a (12, vs.set j (.long x))) kc ks Q) : mm_V G M pc L (.long x :: .int i :: .ref a :: st) h kc ks Q := by
  intro p l e R s m args below meth c H locs cells slots A ls hF hI hc hs hl
  obtain ⟨h1, h2⟩ := mm_inx hi hj hb
  refine W.last hF.1 hF.2.1 (mm_arr_lt hI.1 ha (by decide)) ((hF.2.2.2.2.2.2.2.2.2.2.2.2.1.2.1 (12, .long) (by simp)).1 _ _) (fun q => by cases q) (by rw [arrV_size]; exact h1) rfl rfl (mm_dec hT hf) fun H' e z oq => ?_
  rw [h2] at e ⊢
  exact kk p l _ R s m args below meth c H' _ cells slots A ls hF ⟨mm_R_up hI.1 (mm_arr_set (by decide) hj e) oq, hI.2.1.put z oq (hI.2.2 a _ ha), mm_dom_up hI.2.2 (hI.2.2 a _ ha)⟩ hc hs hl

/-- an object of class ci laid into a row of Objects -/
theorem mm_aast (hT : mm_ok M T) {a j b ci : Nat} {i c0 : Int32} {vs fs : List Value} {r : vw_C} (ha : h a = some (13, vs)) (hbo : h b = some (ci, fs)) (hr : mm_cl[ci]? = some r) (hca : mm_in (.castable r.1 "java/lang/Object") = true) (hf : mm_ix T pc = some (.aastore, 1, c0)) (hi : i = nI j) (hb : j < 2147483648) (hj : j < vs.length)
    (kk : mm_V G M (pc + 1) L st (mm_up h a (13, vs.set j (.ref b))) kc ks Q) : mm_V G M pc L (.ref b :: .int i :: .ref a :: st) h kc ks Q := by
  intro p l e R s m args below meth c H locs cells slots A ls hF hI hc hs hl
  obtain ⟨h1, h2⟩ := mm_inx hi hj hb
  have hKK := hF.2.2.2.2.2.2.2.2.2.2.2.2.1
  obtain ⟨kA, comp, k1, k2, k3, -⟩ := (hKK.2.1 (13, .object "java/lang/Object") (by simp)).2
  obtain ⟨kE, hkE, -⟩ := Vm.findClass_spec k3
  have hcell := hI.1 b _ hbo
  rw [mm_cell_o (mm_ci_lt hr)] at hcell
  obtain ⟨r', hr', -, cv, g1, g2, g3, -⟩ := hcell
  cases hr.symm.trans hr'
  have hfc := (hKK.1.1 ci _ hr).2.1
  obtain ⟨kC, hkC, -⟩ := Vm.findClass_spec hfc
  obtain ⟨x1, t1, f1, f2, f3⟩ := Cond.castable_spec (mm_in_of hF.2.2.2.2.2.2.1 hca)
  cases hfc.symm.trans f1
  cases k3.symm.trans f2
  refine W.aast hF.1 hF.2.1 (mm_arr_lt hI.1 ha (by decide)) (fun q h => by cases h) (fun h => by cases h) k1 k2 rfl hkE ⟨fun q => h1 (Or.inl q), by show _ < (arrV _ _ _).slots.size; rw [arrV_size, h2]; exact hj⟩ g1 (fun q h => by rw [g3] at h; cases h) (by rw [g2]; exact hkC) (by rw [g2]; exact f3) rfl rfl (mm_dec hT hf) fun H1 e1 z oq => ?_
  rw [h2] at e1 ⊢
  exact kk p l e R s m args below meth c H1 _ cells slots A ls hF ⟨mm_R_up hI.1 (mm_arr_set (by decide) hj e1) oq, hI.2.1.put z oq (hI.2.2 a _ ha), mm_dom_up hI.2.2 (hI.2.2 a _ ha)⟩ hc hs hl
theorem mm_alen (hT : mm_ok M T) {a t : Nat} {c0 v : Int32} {vs : List Value} (ha : h a = some (t, vs)) (ht : t = 10 ∨ t = 13) (hf : mm_ix T pc = some (.arraylength, 1, c0)) (hv : nI vs.length = v)
    (kk : mm_V G M (pc + 1) L (.int v :: st) h kc ks Q) : mm_V G M pc L (.ref a :: st) h kc ks Q := by
  intro p l e R s m args below meth c H locs cells slots A ls hF hI hc hs hl
  have hKK := hF.2.2.2.2.2.2.2.2.2.2.2.2.1.2.1
  rcases ht with rfl | rfl
  · exact W.alen (n := v) hF.1 hF.2.1 (mm_arr_lt hI.1 ha (by decide)) ((hKK (10, .int) (by simp)).1 _ _) (by rw [arrV_size]; exact hv) rfl rfl (mm_dec hT hf) (kk p l e R s m args below meth c H locs cells slots A ls hF hI hc hs hl)
  · exact W.alen (n := v) hF.1 hF.2.1 (mm_arr_lt hI.1 ha (by decide)) ((hKK (13, .object "java/lang/Object") (by simp)).1 _ _) (by rw [arrV_size]; exact hv) rfl rfl (mm_dec hT hf) (kk p l e R s m args below meth c H locs cells slots A ls hF hI hc hs hl)
theorem mm_arrV_congr {cA : ClassId} {N : Nat} {f g : Nat → Value} (h : ∀ j, j < N → f j = g j) : arrV cA N f = arrV cA N g := by
  have h1 : (Array.ofFn (n := N) fun j => f j.val) = Array.ofFn (n := N) fun j => g j.val := by
    apply Array.ext
    · simp
    · intro j h1 h2
      simp only [Array.getElem_ofFn]
      exact h j (by simpa using h1)
  unfold arrV
  rw [h1]
/-- the static rows -/
theorem mm_gets (hT : mm_ok M T) {k idx : Nat} {c0 : Int32} {q : String × String × String × FieldType × Nat × (Nat → Value)} (hq : mm_st[k]? = some q) (hk : mm_in (.fieldLink M.1.cls idx q.1 q.2.1 q.2.2.1) = true) (hf : mm_ix T pc = some (.getstatic idx, 3, c0))
    (kk : mm_V G M (pc + 3) L (.ref (G.2.2.1 k) :: st) h kc ks Q) : mm_V G M pc L st h kc ks Q := by
  intro p l e R s m args below meth c H locs cells slots A ls hF hI hc hs hl
  exact va_gets hF.1 hF.2.1 (hF.2.2.2.2.2.2.2.2.2.2.2.2.2.1.1 k q hq).1 hI.2.1 hF.2.2.2.2.2.1 (mm_in_of hF.2.2.2.2.2.2.1 hk) (fun x hx => hx) (mm_dec hT hf) (kk p l e R s m args below meth c H locs cells slots A ls hF hI hc hs hl)
theorem mm_tald (hT : mm_ok M T) {k N : Nat} {c0 i : Int32} {j : Nat} {C n d : String} {f : Nat → Value} {v : Value} (hq : mm_st[k]? = some (C, n, d, .int, N, f)) (hf : mm_ix T pc = some (.iaload, 1, c0)) (hi : i = nI j) (hb : j < 2147483648) (hj : j < N) (hv : f j = v)
    (kk : mm_V G M (pc + 1) L (v :: st) h kc ks Q) : mm_V G M pc L (.int i :: .ref (G.2.2.1 k) :: st) h kc ks Q := by
  intro p l e R s m args below meth c H locs cells slots A ls hF hI hc hs hl
  obtain ⟨h1, h2⟩ := mm_inx hi hj hb
  exact va_ti hF.1 hF.2.1 (hF.2.2.2.2.2.2.2.2.2.2.2.2.2.1.1 k _ hq).2 hI.2.1 h1 (by rw [h2]; exact hv) (mm_dec hT hf) (kk p l e R s m args below meth c H locs cells slots A ls hF hI hc hs hl)
theorem mm_tlen (hT : mm_ok M T) {k N : Nat} {c0 v : Int32} {C n d : String} {ty : FieldType} {f : Nat → Value} (hq : mm_st[k]? = some (C, n, d, ty, N, f)) (hf : mm_ix T pc = some (.arraylength, 1, c0)) (hv : nI N = v)
    (kk : mm_V G M (pc + 1) L (.int v :: st) h kc ks Q) : mm_V G M pc L (.ref (G.2.2.1 k) :: st) h kc ks Q := by
  intro p l e R s m args below meth c H locs cells slots A ls hF hI hc hs hl
  exact va_tlen hF.1 hF.2.1 (hF.2.2.2.2.2.2.2.2.2.2.2.2.2.1.1 k _ hq).2 hI.2.1 hv (mm_dec hT hf) (kk p l e R s m args below meth c H locs cells slots A ls hF hI hc hs hl)
/-- the script -/
theorem mm_sald (hT : mm_ok M T) {c0 i : Int32} {j : Nat} (hf : mm_ix T pc = some (.iaload, 1, c0)) (hi : i = nI j) (hb : j < 2147483648) (hj : j < G.2.2.2.1)
    (kk : mm_V G M (pc + 1) L (.int (G.2.2.2.2 j) :: st) h kc ks Q) : mm_V G M pc L (.int i :: .ref (G.2.2.1 3) :: st) h kc ks Q := by
  intro p l e R s m args below meth c H locs cells slots A ls hF hI hc hs hl
  obtain ⟨h1, h2⟩ := mm_inx hi hj hb
  have hX := hF.2.2.2.2.2.2.2.2.2.2.2.2.2.1.2.2.2
  refine va_sld hF.1 hF.2.1 hX.1 hX.2.1 hX.2.2 hI.2.1 h1 (mm_dec hT hf) ?_
  rw [h2]
  exact kk p l e R s m args below meth c H locs cells slots A ls hF hI hc hs hl
theorem mm_slen (hT : mm_ok M T) {c0 : Int32} (hf : mm_ix T pc = some (.arraylength, 1, c0)) (kk : mm_V G M (pc + 1) L (.int (nI G.2.2.2.1) :: st) h kc ks Q) : mm_V G M pc L (.ref (G.2.2.1 3) :: st) h kc ks Q := by
  intro p l e R s m args below meth c H locs cells slots A ls hF hI hc hs hl
  have hX := hF.2.2.2.2.2.2.2.2.2.2.2.2.2.1.2.2.2
  exact va_slen hF.1 hF.2.1 hX.1 hX.2.1 hX.2.2 hI.2.1 (mm_dec hT hf) (kk p l e R s m args below meth c H locs cells slots A ls hF hI hc hs hl)
/-- 'checkcast' of an object of class ci -/
def mm_cok (own : String) (idx ci : Nat) : Bool := match mm_cl[ci]? with
  | some r => mm_in (.classLink own idx r.1) && mm_in (.castable r.1 r.1)
  | none => false
theorem mm_cast (hT : mm_ok M T) {a ci idx : Nat} {c0 : Int32} {fs : List Value} (ha : h a = some (ci, fs)) (hk : mm_cok M.1.cls idx ci = true) (hf : mm_ix T pc = some (.checkcast idx, 3, c0))
    (kk : mm_V G M (pc + 3) L (.ref a :: st) h kc ks Q) : mm_V G M pc L (.ref a :: st) h kc ks Q := by
  intro p l e R s m args below meth c H locs cells slots A ls hF hI hc hs hl
  unfold mm_cok at hk
  split at hk
  · rename_i r hr
    simp only [Bool.and_eq_true] at hk
    have hcell := hI.1 a _ ha
    rw [mm_cell_o (mm_ci_lt hr)] at hcell
    obtain ⟨r', hr', -, cv, g1, g2, g3, -⟩ := hcell
    cases hr.symm.trans hr'
    have hfc := (hF.2.2.2.2.2.2.2.2.2.2.2.2.1.1.1 ci _ hr).2.1
    exact va_castY hF.1 hF.2.1 (C := r.1) hF.2.2.2.2.2.1 (mm_in_of hF.2.2.2.2.2.2.1 hk.1) (va_Nw.of rfl (mm_in_of hF.2.2.2.2.2.2.1 hk.2)) ⟨cv, g1, by rw [g3]; rfl, by rw [g2]; exact hfc⟩ (mm_dec hT hf) (kk p l e R s m args below meth c H locs cells slots A ls hF hI hc hs hl)
  · cases hk
/-- the fields of a new object -/
def mm_df (ci : Nat) : List Value := match mm_cl[ci]? with
  | some r => (List.range r.2.2).map (fun k => defaultValue (mm_ty0 r k))
  | none => []
def mm_nok (own : String) (idx ci N : Nat) : Bool := match mm_cl[ci]? with
  | some r => decide (N = r.2.2) && mm_in (.classLink own idx r.1) && mm_in (.instantiable r.1 r.2.2) && mm_in (.initialized r.1)
  | none => false
theorem mm_new (hT : mm_ok M T) {ci idx N : Nat} {c0 : Int32} (hk : mm_nok M.1.cls idx ci N = true) (hf : mm_ix T pc = some (.new idx, 3, c0))
    (kk : ∀ q : Nat, h q = none → mm_V G M (pc + 3) L (.ref q :: st) (mm_up h q (ci, mm_df ci)) kc ks Q) : mm_V G M pc L st h (1 + kc) (N + ks) Q := by
  intro p l e R s m args below meth c H locs cells slots A ls hF hI hc hs hl
  unfold mm_nok at hk
  split at hk
  · rename_i r hr
    simp only [Bool.and_eq_true, decide_eq_true_eq] at hk
    obtain ⟨⟨⟨rfl, k1⟩, k2⟩, k3⟩ := hk
    have hts := hF.2.2.2.2.2.2.1
    have hKn := hF.2.2.2.2.2.2.2.2.2.2.2.2.1.1.1 ci _ hr
    refine W.newcK hF.1 hF.2.1 (C := r.1) (n := r.2.2) hF.2.2.2.2.2.1 (mm_in_of hts k1) (mm_in_of hts k2) (mm_in_of hts k3) rfl (mm_dec hT hf) (by omega) (by omega) hKn.2.1 rfl fun H1 kC hkC e1 z1 o1 => ?_
    have hcell : mm_cell G H.size (ci, mm_df ci) H1 := by
      rw [mm_cell_o (mm_ci_lt hr)]
      have hdf : mm_df ci = (List.range r.2.2).map (fun k => defaultValue (mm_ty0 r k)) := by unfold mm_df; rw [hr]
      refine ⟨r, hr, by rw [hdf]; simp, (u_born (mm_ty0 r) hts (mm_ci_in hr) hKn hkC e1 (mm_ty0_ok hr)).to fun j hj => ?_⟩
      unfold vp_V
      rw [hdf, List.getD_eq_getElem?_getD, List.getElem?_map, List.getElem?_range hj]
      rfl
    have h9 := kk H.size (mm_R_new hI.1) p l e R s m args below meth c H1 locs (cells + 1) (slots + r.2.2) A ls hF ⟨mm_R_push hI.1 hcell o1, ⟨Nat.le_trans hI.2.1.1 (by omega), fun x h1 h2 => (o1 x (Nat.lt_of_lt_of_le h1 hI.2.1.1)).trans (hI.2.1.2.1 x h1 h2), hI.2.1.2.2⟩, mm_dom_up hI.2.2 (hF.2.2.2.2.2.2.2.2.2.2.2.2.2.2 _ hI.2.1.1)⟩ (by omega) (by omega) hl
    rw [Nat.add_assoc cells, Nat.add_assoc slots] at h9
    exact h9
  · cases hk

theorem mm_newI (hT : mm_ok M T) {N : Nat} {n c0 : Int32} (hk : mm_in (.arrayClass .int) = true) (hf : mm_ix T pc = some (.newarray .int, 2, c0)) (hn : n = nI N) (hN : N < 1000000)
    (kk : ∀ q : Nat, h q = none → mm_V G M (pc + 2) L (.ref q :: st) (mm_up h q (10, List.replicate N (.int 0))) kc ks Q) : mm_V G M pc L (.int n :: st) h (1 + kc) (N + ks) Q := by
  intro p l e R s m args below meth c H locs cells slots A ls hF hI hc hs hl
  subst hn
  have hts := hF.2.2.2.2.2.2.1
  have hcl : (nI N).toNatClampNeg = N := nI_clamp (by omega)
  refine va_newaK hF.1 hF.2.1 (atype := .int) (mm_in_of hts hk) (g := F0 m pc ls (.int (nI N) :: st)) rfl (mm_dec hT hf) rfl (nI_pos (by omega)) hcl (Nat.le_trans (Nat.mul_le_mul_right _ (Nat.le_of_lt hN)) (by decide)) (by omega) (by omega) rfl fun H1 cA e1 z1 o1 hAr hNm => ?_
  have hRA := (hF.2.2.2.2.2.2.2.2.2.2.2.2.1.2.1 (10, .int) (by simp)).2
  have hid : cA = G.2.1 10 := Option.some.inj (hNm.symm.trans hRA)
  have hcell : mm_cell G H.size (10, List.replicate N (.int 0)) H1 := by
    rw [mm_cell_a (by decide), e1, hid, List.length_replicate]
    have hfun : ∀ j, j < N → vp_V (List.replicate N (.int 0)) j = (.int 0) := fun j hj => by
      unfold vp_V
      rw [List.getD_eq_getElem?_getD, List.getElem?_replicate, if_pos hj]
      rfl
    rw [mm_arrV_congr (f := fun _ => defaultValue (newarray.typeOf .int)) (g := vp_V (List.replicate N (.int 0))) (fun j hj => (hfun j hj).symm)]
  have h9 := kk H.size (mm_R_new hI.1) p l e R s m args below meth c H1 locs (cells + 1) (slots + N) A ls hF ⟨mm_R_push hI.1 hcell o1, ⟨Nat.le_trans hI.2.1.1 (by omega), fun x h1 h2 => (o1 x (Nat.lt_of_lt_of_le h1 hI.2.1.1)).trans (hI.2.1.2.1 x h1 h2), hI.2.1.2.2⟩, mm_dom_up hI.2.2 (hF.2.2.2.2.2.2.2.2.2.2.2.2.2.2 _ hI.2.1.1)⟩ (by omega) (by omega) hl
  rw [Nat.add_assoc cells, Nat.add_assoc slots] at h9
  exact h9

theorem mm_newZ (hT : mm_ok M T) {N : Nat} {n c0 : Int32} (hk : mm_in (.arrayClass .boolean) = true) (hf : mm_ix T pc = some (.newarray .boolean, 2, c0)) (hn : n = nI N) (hN : N < 1000000)
    (kk : ∀ q : Nat, h q = none → mm_V G M (pc + 2) L (.ref q :: st) (mm_up h q (11, List.replicate N (.int 0))) kc ks Q) : mm_V G M pc L (.int n :: st) h (1 + kc) (N + ks) Q := by
  intro p l e R s m args below meth c H locs cells slots A ls hF hI hc hs hl
  subst hn
  have hts := hF.2.2.2.2.2.2.1
  have hcl : (nI N).toNatClampNeg = N := nI_clamp (by omega)
  refine va_newaK hF.1 hF.2.1 (atype := .boolean) (mm_in_of hts hk) (g := F0 m pc ls (.int (nI N) :: st)) rfl (mm_dec hT hf) rfl (nI_pos (by omega)) hcl (Nat.le_trans (Nat.mul_le_mul_right _ (Nat.le_of_lt hN)) (by decide)) (by omega) (by omega) rfl fun H1 cA e1 z1 o1 hAr hNm => ?_
  have hRA := (hF.2.2.2.2.2.2.2.2.2.2.2.2.1.2.1 (11, .boolean) (by simp)).2
  have hid : cA = G.2.1 11 := Option.some.inj (hNm.symm.trans hRA)
  have hcell : mm_cell G H.size (11, List.replicate N (.int 0)) H1 := by
    rw [mm_cell_a (by decide), e1, hid, List.length_replicate]
    have hfun : ∀ j, j < N → vp_V (List.replicate N (.int 0)) j = (.int 0) := fun j hj => by
      unfold vp_V
      rw [List.getD_eq_getElem?_getD, List.getElem?_replicate, if_pos hj]
      rfl
    rw [mm_arrV_congr (f := fun _ => defaultValue (newarray.typeOf .boolean)) (g := vp_V (List.replicate N (.int 0))) (fun j hj => (hfun j hj).symm)]
  have h9 := kk H.size (mm_R_new hI.1) p l e R s m args below meth c H1 locs (cells + 1) (slots + N) A ls hF ⟨mm_R_push hI.1 hcell o1, ⟨Nat.le_trans hI.2.1.1 (by omega), fun x h1 h2 => (o1 x (Nat.lt_of_lt_of_le h1 hI.2.1.1)).trans (hI.2.1.2.1 x h1 h2), hI.2.1.2.2⟩, mm_dom_up hI.2.2 (hF.2.2.2.2.2.2.2.2.2.2.2.2.2.2 _ hI.2.1.1)⟩ (by omega) (by omega) hl
  rw [Nat.add_assoc cells, Nat.add_assoc slots] at h9
  exact h9

theorem mm_newJ (hT : mm_ok M T) {N : Nat} {n c0 : Int32} (hk : mm_in (.arrayClass .long) = true) (hf : mm_ix T pc = some (.newarray .long, 2, c0)) (hn : n = nI N) (hN : N < 1000000)
    (kk : ∀ q : Nat, h q = none → mm_V G M (pc + 2) L (.ref q :: st) (mm_up h q (12, List.replicate N (.long 0))) kc ks Q) : mm_V G M pc L (.int n :: st) h (1 + kc) (N + ks) Q := by
  intro p l e R s m args below meth c H locs cells slots A ls hF hI hc hs hl
  subst hn
  have hts := hF.2.2.2.2.2.2.1
  have hcl : (nI N).toNatClampNeg = N := nI_clamp (by omega)
  refine va_newaK hF.1 hF.2.1 (atype := .long) (mm_in_of hts hk) (g := F0 m pc ls (.int (nI N) :: st)) rfl (mm_dec hT hf) rfl (nI_pos (by omega)) hcl (Nat.le_trans (Nat.mul_le_mul_right _ (Nat.le_of_lt hN)) (by decide)) (by omega) (by omega) rfl fun H1 cA e1 z1 o1 hAr hNm => ?_
  have hRA := (hF.2.2.2.2.2.2.2.2.2.2.2.2.1.2.1 (12, .long) (by simp)).2
  have hid : cA = G.2.1 12 := Option.some.inj (hNm.symm.trans hRA)
  have hcell : mm_cell G H.size (12, List.replicate N (.long 0)) H1 := by
    rw [mm_cell_a (by decide), e1, hid, List.length_replicate]
    have hfun : ∀ j, j < N → vp_V (List.replicate N (.long 0)) j = (.long 0) := fun j hj => by
      unfold vp_V
      rw [List.getD_eq_getElem?_getD, List.getElem?_replicate, if_pos hj]
      rfl
    rw [mm_arrV_congr (f := fun _ => defaultValue (newarray.typeOf .long)) (g := vp_V (List.replicate N (.long 0))) (fun j hj => (hfun j hj).symm)]
  have h9 := kk H.size (mm_R_new hI.1) p l e R s m args below meth c H1 locs (cells + 1) (slots + N) A ls hF ⟨mm_R_push hI.1 hcell o1, ⟨Nat.le_trans hI.2.1.1 (by omega), fun x h1 h2 => (o1 x (Nat.lt_of_lt_of_le h1 hI.2.1.1)).trans (hI.2.1.2.1 x h1 h2), hI.2.1.2.2⟩, mm_dom_up hI.2.2 (hF.2.2.2.2.2.2.2.2.2.2.2.2.2.2 _ hI.2.1.1)⟩ (by omega) (by omega) hl
  rw [Nat.add_assoc cells, Nat.add_assoc slots] at h9
  exact h9

theorem mm_newO (hT : mm_ok M T) {N idx : Nat} {n c0 : Int32} (hk : mm_in (.classLink M.1.cls idx "java/lang/Object") = true) (hf : mm_ix T pc = some (.anewarray idx, 3, c0)) (hn : n = nI N) (hN : N < 1000000)
    (kk : ∀ q : Nat, h q = none → mm_V G M (pc + 3) L (.ref q :: st) (mm_up h q (13, List.replicate N .null)) kc ks Q) : mm_V G M pc L (.int n :: st) h (1 + kc) (N + ks) Q := by
  intro p l e R s m args below meth c H locs cells slots A ls hF hI hc hs hl
  subst hn
  have hts := hF.2.2.2.2.2.2.1
  have hKK := hF.2.2.2.2.2.2.2.2.2.2.2.2.1
  have hcl : (nI N).toNatClampNeg = N := nI_clamp (by omega)
  refine W.anew hF.1 hF.2.1 (C := "java/lang/Object") hF.2.2.2.2.2.1 (mm_in_of hts hk) (va_AO.use hKK.2.2.1) (g := F0 m pc ls (.int (nI N) :: st)) rfl (mm_dec hT hf) rfl (nI_pos (by omega)) (by rw [hcl]; omega) (by omega) (by rw [hcl]; omega) fun cA kA comp f1 f2 f3 f4 => ?_
  rw [hcl]
  generalize hH1 : H.push ({ cls := cA, slots := Array.replicate N .null, vm := .none } : Cell) = H1
  have z1 : H1.size = H.size + 1 := by rw [← hH1, Array.size_push]
  have e1 : H1[H.size]? = some (arrV cA N (fun _ => .null)) := by rw [← hH1, Array.getElem?_push_size, ← arrV_new]
  have o1 : ∀ q : Nat, q < H.size → H1[q]? = H[q]? := fun q hq => by rw [← hH1, Array.getElem?_push, if_neg (Nat.ne_of_lt hq)]
  obtain ⟨kA', comp', g1, g2, g3, g4⟩ := (hKK.2.1 (13, .object "java/lang/Object") (by simp)).2
  have hid : cA = G.2.1 13 := Option.some.inj (f1.symm.trans g4)
  have hcell : mm_cell G H.size (13, List.replicate N .null) H1 := by
    rw [mm_cell_a (by decide), e1, hid, List.length_replicate]
    have hfun : ∀ j, vp_V (List.replicate N .null) j = .null := fun j => by
      unfold vp_V
      rw [List.getD_eq_getElem?_getD, List.getElem?_replicate]
      split <;> rfl
    congr 2
    funext j
    exact (hfun j).symm
  have h9 := kk H.size (mm_R_new hI.1) p l e R s m args below meth c H1 locs (cells + 1) (slots + N) A ls hF ⟨mm_R_push hI.1 hcell o1, ⟨Nat.le_trans hI.2.1.1 (by omega), fun x h1 h2 => (o1 x (Nat.lt_of_lt_of_le h1 hI.2.1.1)).trans (hI.2.1.2.1 x h1 h2), hI.2.1.2.2⟩, mm_dom_up hI.2.2 (hF.2.2.2.2.2.2.2.2.2.2.2.2.2.2 _ hI.2.1.1)⟩ (by omega) (by omega) hl
  rw [Nat.add_assoc cells, Nat.add_assoc slots] at h9
  exact h9
/-- more room than is used -/
theorem mm_V_wid {k1 k2 : Nat} (h1 : k1 ≤ kc) (h2 : k2 ≤ ks) (k : mm_V G M pc L st h k1 k2 Q) : mm_V G M pc L st h kc ks Q := by
  intro p l e R s m args below meth c H locs cells slots A ls hF hI hc hs hl
  have h9 := k p l e R s m args below meth c H locs cells slots A ls hF hI (by omega) (by omega) hl
  intro T9 hT9 X9
  obtain ⟨t, a1, o9, b1, b2, b3⟩ := h9 T9 hT9 X9
  refine ⟨t, a1, o9, b1, b2, ?_⟩
  rcases b3 with ⟨q1, L9, ⟨q2, q3, q4⟩, q5⟩ | ⟨q, e9, E, ce, L9, x1, x2, x3, x4, x5, x6, x7⟩
  · exact Or.inl ⟨q1, L9, ⟨q2, q3, q4.mono (by omega) (by omega)⟩, q5⟩
  · exact Or.inr ⟨q, e9, E, ce, L9, x1, x2, x3, x4, x5, x6.mono (by omega) (by omega), x7⟩
/-- ends -/
theorem mm_iret (hT : mm_ok M T) {c0 x : Int32} (hf : mm_ix T pc = some (.ireturn, 1, c0)) (hr : M.2.2.2.1 = some .int) (hq : Q (.inl (some (.int x))) h) : mm_V G M pc L [.int x] h kc ks Q := by
  intro p l e R s m args below meth c H locs cells slots A ls hF hI hc hs hl
  refine W.widen (k := cells + kc) (n := slots + ks) (Nat.le_add_right _ _) (Nat.le_add_right _ _) (vx_ret ?_)
  exact W.iret (v := x) hF.1 hF.2.1 (hF.2.2.1.trans hr) (fun t ht hW => ⟨_, h, rfl, hq, by rw [ht]; exact hI.1, hI.2.2, hI.2.1.F ht⟩) hI.2.1.2.2 (mm_dec hT hf) hF.2.2.2.1
theorem mm_zret (hT : mm_ok M T) {c0 x : Int32} (hf : mm_ix T pc = some (.ireturn, 1, c0)) (hr : M.2.2.2.1 = some .boolean) (hn : narrow .boolean (.int x) = .int x) (hq : Q (.inl (some (.int x))) h) : mm_V G M pc L [.int x] h kc ks Q := by
  intro p l e R s m args below meth c H locs cells slots A ls hF hI hc hs hl
  refine W.widen (k := cells + kc) (n := slots + ks) (Nat.le_add_right _ _) (Nat.le_add_right _ _) (vx_ret ?_)
  exact W.zret (v := x) (ty := .boolean) hF.1 hF.2.1 (hF.2.2.1.trans hr) hn (fun t ht hW => ⟨_, h, rfl, hq, by rw [ht]; exact hI.1, hI.2.2, hI.2.1.F ht⟩) hI.2.1.2.2 (mm_dec hT hf) hF.2.2.2.1
theorem mm_vret (hT : mm_ok M T) {c0 : Int32} (hf : mm_ix T pc = some (.return_, 1, c0)) (hr : M.2.2.2.1 = none) (hq : Q (.inl none) h) : mm_V G M pc L [] h kc ks Q := by
  intro p l e R s m args below meth c H locs cells slots A ls hF hI hc hs hl
  refine W.widen (k := cells + kc) (n := slots + ks) (Nat.le_add_right _ _) (Nat.le_add_right _ _) (vx_ret ?_)
  exact W.vret hF.1 hF.2.1 (hF.2.2.1.trans hr) (fun t ht hW => ⟨_, h, rfl, hq, by rw [ht]; exact hI.1, hI.2.2, hI.2.1.F ht⟩) hI.2.1.2.2 (mm_dec hT hf) hF.2.2.2.1
theorem mm_aret (hT : mm_ok M T) {c0 : Int32} {a : Nat} {rt : FieldType} (hf : mm_ix T pc = some (.areturn, 1, c0)) (hr : M.2.2.2.1 = some rt) (hrt : (∃ n, rt = .object n) ∨ ∃ t, rt = .array t) (hq : Q (.inl (some (.ref a))) h) : mm_V G M pc L [.ref a] h kc ks Q := by
  intro p l e R s m args below meth c H locs cells slots A ls hF hI hc hs hl
  refine W.widen (k := cells + kc) (n := slots + ks) (Nat.le_add_right _ _) (Nat.le_add_right _ _) (vx_ret ?_)
  exact W.aret (v := .ref a) hF.1 hF.2.1 (hF.2.2.1.trans hr) hrt (Or.inr ⟨a, rfl⟩) (fun t ht hW => ⟨_, h, rfl, hq, by rw [ht]; exact hI.1, hI.2.2, hI.2.1.F ht⟩) hI.2.1.2.2 (mm_dec hT hf) hF.2.2.2.1
/-- Object's own constructor -/
theorem mm_oinit (hT : mm_ok M T) {c0 : Int32} {a idx : Nat} (hf : mm_ix T pc = some (.invokespecial idx, 3, c0)) (hk : (mm_in (.methodLink M.1.cls idx objectInit) && mm_in (.instanceMethod objectInit) && mm_in (.code objectInit ⟨#[0xb1]⟩ 1 none)) = true) (hw : (st.map fun v => v.category).sum ≤ 8)
    (hfr : 1 ≤ M.2.2.2.2.1) (hlo : 20 ≤ M.2.2.2.2.2.1) (kk : mm_V G M (pc + 3) L st h kc ks Q) : mm_V G M pc L (.ref a :: st) h kc ks Q := by
  intro p l e R s m args below meth c H locs cells slots A ls hF hI hc hs hl
  simp only [Bool.and_eq_true] at hk
  have hts := hF.2.2.2.2.2.2.1
  have hfr9 := hF.2.2.2.2.2.2.2.2.2.2.1
  have hlo9 := hF.2.2.2.2.2.2.2.2.2.2.2.1
  have hrm := lv_room (m := m) (pc := pc) (ls := ls) (rest := .ref a :: st) hw
  exact W.objInit hF.1 hF.2.1 hF.2.2.2.2.2.1 (mm_in_of hts hk.1.1) (mm_in_of hts hk.1.2) (mm_in_of hts hk.2) (g := F0 m pc ls (.ref a :: st)) rfl (by rw [hF.2.2.2.2.1]; exact hl.1) rfl (mm_dec hT hf) (by omega) (by omega) (kk p l e R s m args below meth c H locs cells slots A ls hF hI hc hs hl)
end MMH
