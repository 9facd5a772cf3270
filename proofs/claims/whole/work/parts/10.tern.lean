/-! exact ends; calls of methods with one; '? 1 : 0' -/
def mm_E (r : Option Value) (h1 : mm_Hp) : mm_O → mm_Hp → Prop := fun o h' => o = .inl r ∧ h' = h1
theorem mm_E_nx {r : Option Value} {h1 : mm_Hp} : ∀ E h', ¬ mm_E r h1 (.inr E) h' := fun _ _ z => by cases z.1
theorem mm_C_wk {G : mm_G} {M : mm_M} {av : List Value} {h : mm_Hp} {kc ks : Nat} {Q Q' : mm_O → mm_Hp → Prop} (hC : mm_C G M av h kc ks Q) (hQ : ∀ o h', Q o h' → Q' o h') : mm_C G M av h kc ks Q' := by
  intro l sz hl
  refine MetFree.mono (hC l sz hl) (fun _ _ z => z) (fun _ _ _ _ _ _ => trivial) (fun a s o t _ hq => ?_)
  rcases hq with ⟨⟨v, h', e1, e2, e3⟩, e4⟩ | ⟨q, e0, E, ce, L, ⟨h', hq', e3⟩, e4⟩
  · exact Or.inl ⟨⟨v, h', e1, hQ _ _ e2, e3⟩, e4⟩
  · exact Or.inr ⟨q, e0, E, ce, L, ⟨h', hQ _ _ hq', e3⟩, e4⟩
section MME
variable {G : mm_G} {M : mm_M} {pc : Nat} {L : List (Nat × Value)} {st : List Value} {h : mm_Hp} {kc ks : Nat} {Q : mm_O → mm_Hp → Prop} {T : mm_T}
theorem mm_V_wk {Q' : mm_O → mm_Hp → Prop} (hQ : ∀ o h', Q o h' → Q' o h') (k : mm_V G M pc L st h kc ks Q) : mm_V G M pc L st h kc ks Q' := by
  intro p l e R s m args below meth c H locs cells slots A ls hF hI hc hs hl
  intro T9 hT9 X9
  obtain ⟨t, a1, o9, b1, b2, b3⟩ := k p l e R s m args below meth c H locs cells slots A ls hF hI hc hs hl T9 hT9 X9
  refine ⟨t, a1, o9, b1, b2, ?_⟩
  rcases b3 with ⟨⟨v, h', e1, e2, e3⟩, e4⟩ | ⟨q, e0, E, ce, L, ⟨h', hq', e3⟩, e4⟩
  · exact Or.inl ⟨⟨v, h', e1, hQ _ _ e2, e3⟩, e4⟩
  · exact Or.inr ⟨q, e0, E, ce, L, ⟨h', hQ _ _ hq', e3⟩, e4⟩
theorem mm_cVE (hT : mm_ok M T) {Mc : mm_M} {idx b ci : Nat} {As fs stk : List Value} {c0 : Int32} {rv : Option Value} {h1 : mm_Hp} {r : vw_C} (hf : mm_ix T pc = some (.invokevirtual idx, 3, c0)) (hk : mm_vok M Mc idx As.length = true) (hb : h b = some (ci, fs)) (hr : mm_cl[ci]? = some r) (hrc : r.1 = Mc.1.cls)
    (hstk : stk = As.reverse ++ .ref b :: st) (hw : (st.map fun v => v.category).sum ≤ 8) (hC : mm_C G Mc (.ref b :: As) h 0 0 (mm_E rv h1)) (kk : mm_V G M (pc + 3) L (rv.toList ++ st) h1 kc ks Q) : mm_V G M pc L stk h kc ks Q := by
  have h9 := mm_callV (kc := kc) (ks := ks) (Q := Q) (L := L) hT hf hk hb hr hrc hstk hw hC mm_E_nx (fun v h' hq => by obtain ⟨e1, rfl⟩ := hq; cases e1; exact kk)
  rw [Nat.zero_add, Nat.zero_add] at h9
  exact h9
theorem mm_cSE (hT : mm_ok M T) {Mc : mm_M} {idx : Nat} {As stk : List Value} {c0 : Int32} {rv : Option Value} {h1 : mm_Hp} (hf : mm_ix T pc = some (.invokestatic idx, 3, c0)) (hk : mm_sok M Mc idx As.length = true)
    (hstk : stk = As.reverse ++ st) (hw : (st.map fun v => v.category).sum ≤ 8) (hC : mm_C G Mc As h 0 0 (mm_E rv h1)) (kk : mm_V G M (pc + 3) L (rv.toList ++ st) h1 kc ks Q) : mm_V G M pc L stk h kc ks Q := by
  have h9 := mm_callS (kc := kc) (ks := ks) (Q := Q) (L := L) hT hf hk hstk hw hC mm_E_nx (fun v h' hq => by obtain ⟨e1, rfl⟩ := hq; cases e1; exact kk)
  rw [Nat.zero_add, Nat.zero_add] at h9
  exact h9
theorem mm_cIE (hT : mm_ok M T) {Mc : mm_M} {idx b : Nat} {As stk : List Value} {c0 : Int32} {rv : Option Value} {h1 : mm_Hp} (hf : mm_ix T pc = some (.invokespecial idx, 3, c0)) (hk : mm_iok M Mc idx As.length = true)
    (hstk : stk = As.reverse ++ .ref b :: st) (hw : (st.map fun v => v.category).sum ≤ 8) (hC : mm_C G Mc (.ref b :: As) h 0 0 (mm_E rv h1)) (kk : mm_V G M (pc + 3) L (rv.toList ++ st) h1 kc ks Q) : mm_V G M pc L stk h kc ks Q := by
  have h9 := mm_callI (kc := kc) (ks := ks) (Q := Q) (L := L) hT hf hk hstk hw hC mm_E_nx (fun v h' hq => by obtain ⟨e1, rfl⟩ := hq; cases e1; exact kk)
  rw [Nat.zero_add, Nat.zero_add] at h9
  exact h9

theorem mm_ti_eq (hT : mm_ok M T) {x c0 c1 c2 c3 : Int32} {off off2 n1 n2 : Int} (tgt : Nat) (hf : mm_ix T pc = some (.ifCond .eq off, 3, c0)) (ht : (pc : Int) + off = (tgt : Int)) (h1 : mm_ix T (pc + 3) = some (.iconst n1, 1, c1)) (h2 : mm_ix T (pc + 4) = some (.goto off2, 3, c3)) (h3 : mm_ix T tgt = some (.iconst n2, 1, c2)) (he : ((pc + 4 : Nat) : Int) + off2 = ((tgt + 1 : Nat) : Int))
    (kk : mm_V G M (tgt + 1) L (.int (if x = 0 then c2 else c1) :: st) h kc ks Q) : mm_V G M pc L (.int x :: st) h kc ks Q := by
  have e1 : mm_cst (.iconst n1) = c1 := (hT _ (mm_ix_mem h1)).2
  have e2 : mm_cst (.iconst n2) = c2 := (hT _ (mm_ix_mem h3)).2
  refine mm_if_eq hT tgt hf ht (fun c => ?_) (fun c => ?_)
  · rw [if_pos c] at kk
    exact mm_ps_ok (mm_dec hT h3) (by rw [e2]; rfl) kk
  · rw [if_neg c] at kk
    refine mm_ps_ok (len := 1) (mm_dec hT h1) (by rw [e1]; rfl) (mm_goto (mm_dec hT h2) (by omega) ?_)
    rw [show (((pc + 3 + 1 : Nat) : Int) + off2).toNat = tgt + 1 by omega]
    exact kk

theorem mm_tc_eq (hT : mm_ok M T) {x y c0 c1 c2 c3 : Int32} {off off2 n1 n2 : Int} (tgt : Nat) (hf : mm_ix T pc = some (.if_icmp .eq off, 3, c0)) (ht : (pc : Int) + off = (tgt : Int)) (h1 : mm_ix T (pc + 3) = some (.iconst n1, 1, c1)) (h2 : mm_ix T (pc + 4) = some (.goto off2, 3, c3)) (h3 : mm_ix T tgt = some (.iconst n2, 1, c2)) (he : ((pc + 4 : Nat) : Int) + off2 = ((tgt + 1 : Nat) : Int))
    (kk : mm_V G M (tgt + 1) L (.int (if x = y then c2 else c1) :: st) h kc ks Q) : mm_V G M pc L (.int y :: .int x :: st) h kc ks Q := by
  have e1 : mm_cst (.iconst n1) = c1 := (hT _ (mm_ix_mem h1)).2
  have e2 : mm_cst (.iconst n2) = c2 := (hT _ (mm_ix_mem h3)).2
  refine mm_ic_eq hT tgt hf ht (fun c => ?_) (fun c => ?_)
  · rw [if_pos c] at kk
    exact mm_ps_ok (mm_dec hT h3) (by rw [e2]; rfl) kk
  · rw [if_neg c] at kk
    refine mm_ps_ok (len := 1) (mm_dec hT h1) (by rw [e1]; rfl) (mm_goto (mm_dec hT h2) (by omega) ?_)
    rw [show (((pc + 3 + 1 : Nat) : Int) + off2).toNat = tgt + 1 by omega]
    exact kk

theorem mm_ti_ne (hT : mm_ok M T) {x c0 c1 c2 c3 : Int32} {off off2 n1 n2 : Int} (tgt : Nat) (hf : mm_ix T pc = some (.ifCond .ne off, 3, c0)) (ht : (pc : Int) + off = (tgt : Int)) (h1 : mm_ix T (pc + 3) = some (.iconst n1, 1, c1)) (h2 : mm_ix T (pc + 4) = some (.goto off2, 3, c3)) (h3 : mm_ix T tgt = some (.iconst n2, 1, c2)) (he : ((pc + 4 : Nat) : Int) + off2 = ((tgt + 1 : Nat) : Int))
    (kk : mm_V G M (tgt + 1) L (.int (if x = 0 then c1 else c2) :: st) h kc ks Q) : mm_V G M pc L (.int x :: st) h kc ks Q := by
  have e1 : mm_cst (.iconst n1) = c1 := (hT _ (mm_ix_mem h1)).2
  have e2 : mm_cst (.iconst n2) = c2 := (hT _ (mm_ix_mem h3)).2
  refine mm_if_ne hT tgt hf ht (fun c => ?_) (fun c => ?_)
  · rw [if_neg c] at kk
    exact mm_ps_ok (mm_dec hT h3) (by rw [e2]; rfl) kk
  · rw [if_pos c] at kk
    refine mm_ps_ok (len := 1) (mm_dec hT h1) (by rw [e1]; rfl) (mm_goto (mm_dec hT h2) (by omega) ?_)
    rw [show (((pc + 3 + 1 : Nat) : Int) + off2).toNat = tgt + 1 by omega]
    exact kk

theorem mm_tc_ne (hT : mm_ok M T) {x y c0 c1 c2 c3 : Int32} {off off2 n1 n2 : Int} (tgt : Nat) (hf : mm_ix T pc = some (.if_icmp .ne off, 3, c0)) (ht : (pc : Int) + off = (tgt : Int)) (h1 : mm_ix T (pc + 3) = some (.iconst n1, 1, c1)) (h2 : mm_ix T (pc + 4) = some (.goto off2, 3, c3)) (h3 : mm_ix T tgt = some (.iconst n2, 1, c2)) (he : ((pc + 4 : Nat) : Int) + off2 = ((tgt + 1 : Nat) : Int))
    (kk : mm_V G M (tgt + 1) L (.int (if x = y then c1 else c2) :: st) h kc ks Q) : mm_V G M pc L (.int y :: .int x :: st) h kc ks Q := by
  have e1 : mm_cst (.iconst n1) = c1 := (hT _ (mm_ix_mem h1)).2
  have e2 : mm_cst (.iconst n2) = c2 := (hT _ (mm_ix_mem h3)).2
  refine mm_ic_ne hT tgt hf ht (fun c => ?_) (fun c => ?_)
  · rw [if_neg c] at kk
    exact mm_ps_ok (mm_dec hT h3) (by rw [e2]; rfl) kk
  · rw [if_pos c] at kk
    refine mm_ps_ok (len := 1) (mm_dec hT h1) (by rw [e1]; rfl) (mm_goto (mm_dec hT h2) (by omega) ?_)
    rw [show (((pc + 3 + 1 : Nat) : Int) + off2).toNat = tgt + 1 by omega]
    exact kk

theorem mm_ti_lt (hT : mm_ok M T) {x c0 c1 c2 c3 : Int32} {off off2 n1 n2 : Int} (tgt : Nat) (hf : mm_ix T pc = some (.ifCond .lt off, 3, c0)) (ht : (pc : Int) + off = (tgt : Int)) (h1 : mm_ix T (pc + 3) = some (.iconst n1, 1, c1)) (h2 : mm_ix T (pc + 4) = some (.goto off2, 3, c3)) (h3 : mm_ix T tgt = some (.iconst n2, 1, c2)) (he : ((pc + 4 : Nat) : Int) + off2 = ((tgt + 1 : Nat) : Int))
    (kk : mm_V G M (tgt + 1) L (.int (if x < 0 then c2 else c1) :: st) h kc ks Q) : mm_V G M pc L (.int x :: st) h kc ks Q := by
  have e1 : mm_cst (.iconst n1) = c1 := (hT _ (mm_ix_mem h1)).2
  have e2 : mm_cst (.iconst n2) = c2 := (hT _ (mm_ix_mem h3)).2
  refine mm_if_lt hT tgt hf ht (fun c => ?_) (fun c => ?_)
  · rw [if_pos c] at kk
    exact mm_ps_ok (mm_dec hT h3) (by rw [e2]; rfl) kk
  · rw [if_neg c] at kk
    refine mm_ps_ok (len := 1) (mm_dec hT h1) (by rw [e1]; rfl) (mm_goto (mm_dec hT h2) (by omega) ?_)
    rw [show (((pc + 3 + 1 : Nat) : Int) + off2).toNat = tgt + 1 by omega]
    exact kk

theorem mm_tc_lt (hT : mm_ok M T) {x y c0 c1 c2 c3 : Int32} {off off2 n1 n2 : Int} (tgt : Nat) (hf : mm_ix T pc = some (.if_icmp .lt off, 3, c0)) (ht : (pc : Int) + off = (tgt : Int)) (h1 : mm_ix T (pc + 3) = some (.iconst n1, 1, c1)) (h2 : mm_ix T (pc + 4) = some (.goto off2, 3, c3)) (h3 : mm_ix T tgt = some (.iconst n2, 1, c2)) (he : ((pc + 4 : Nat) : Int) + off2 = ((tgt + 1 : Nat) : Int))
    (kk : mm_V G M (tgt + 1) L (.int (if x < y then c2 else c1) :: st) h kc ks Q) : mm_V G M pc L (.int y :: .int x :: st) h kc ks Q := by
  have e1 : mm_cst (.iconst n1) = c1 := (hT _ (mm_ix_mem h1)).2
  have e2 : mm_cst (.iconst n2) = c2 := (hT _ (mm_ix_mem h3)).2
  refine mm_ic_lt hT tgt hf ht (fun c => ?_) (fun c => ?_)
  · rw [if_pos c] at kk
    exact mm_ps_ok (mm_dec hT h3) (by rw [e2]; rfl) kk
  · rw [if_neg c] at kk
    refine mm_ps_ok (len := 1) (mm_dec hT h1) (by rw [e1]; rfl) (mm_goto (mm_dec hT h2) (by omega) ?_)
    rw [show (((pc + 3 + 1 : Nat) : Int) + off2).toNat = tgt + 1 by omega]
    exact kk

theorem mm_ti_ge (hT : mm_ok M T) {x c0 c1 c2 c3 : Int32} {off off2 n1 n2 : Int} (tgt : Nat) (hf : mm_ix T pc = some (.ifCond .ge off, 3, c0)) (ht : (pc : Int) + off = (tgt : Int)) (h1 : mm_ix T (pc + 3) = some (.iconst n1, 1, c1)) (h2 : mm_ix T (pc + 4) = some (.goto off2, 3, c3)) (h3 : mm_ix T tgt = some (.iconst n2, 1, c2)) (he : ((pc + 4 : Nat) : Int) + off2 = ((tgt + 1 : Nat) : Int))
    (kk : mm_V G M (tgt + 1) L (.int (if 0 ≤ x then c2 else c1) :: st) h kc ks Q) : mm_V G M pc L (.int x :: st) h kc ks Q := by
  have e1 : mm_cst (.iconst n1) = c1 := (hT _ (mm_ix_mem h1)).2
  have e2 : mm_cst (.iconst n2) = c2 := (hT _ (mm_ix_mem h3)).2
  refine mm_if_ge hT tgt hf ht (fun c => ?_) (fun c => ?_)
  · rw [if_pos c] at kk
    exact mm_ps_ok (mm_dec hT h3) (by rw [e2]; rfl) kk
  · rw [if_neg c] at kk
    refine mm_ps_ok (len := 1) (mm_dec hT h1) (by rw [e1]; rfl) (mm_goto (mm_dec hT h2) (by omega) ?_)
    rw [show (((pc + 3 + 1 : Nat) : Int) + off2).toNat = tgt + 1 by omega]
    exact kk

theorem mm_tc_ge (hT : mm_ok M T) {x y c0 c1 c2 c3 : Int32} {off off2 n1 n2 : Int} (tgt : Nat) (hf : mm_ix T pc = some (.if_icmp .ge off, 3, c0)) (ht : (pc : Int) + off = (tgt : Int)) (h1 : mm_ix T (pc + 3) = some (.iconst n1, 1, c1)) (h2 : mm_ix T (pc + 4) = some (.goto off2, 3, c3)) (h3 : mm_ix T tgt = some (.iconst n2, 1, c2)) (he : ((pc + 4 : Nat) : Int) + off2 = ((tgt + 1 : Nat) : Int))
    (kk : mm_V G M (tgt + 1) L (.int (if y ≤ x then c2 else c1) :: st) h kc ks Q) : mm_V G M pc L (.int y :: .int x :: st) h kc ks Q := by
  have e1 : mm_cst (.iconst n1) = c1 := (hT _ (mm_ix_mem h1)).2
  have e2 : mm_cst (.iconst n2) = c2 := (hT _ (mm_ix_mem h3)).2
  refine mm_ic_ge hT tgt hf ht (fun c => ?_) (fun c => ?_)
  · rw [if_pos c] at kk
    exact mm_ps_ok (mm_dec hT h3) (by rw [e2]; rfl) kk
  · rw [if_neg c] at kk
    refine mm_ps_ok (len := 1) (mm_dec hT h1) (by rw [e1]; rfl) (mm_goto (mm_dec hT h2) (by omega) ?_)
    rw [show (((pc + 3 + 1 : Nat) : Int) + off2).toNat = tgt + 1 by omega]
    exact kk

theorem mm_ti_gt (hT : mm_ok M T) {x c0 c1 c2 c3 : Int32} {off off2 n1 n2 : Int} (tgt : Nat) (hf : mm_ix T pc = some (.ifCond .gt off, 3, c0)) (ht : (pc : Int) + off = (tgt : Int)) (h1 : mm_ix T (pc + 3) = some (.iconst n1, 1, c1)) (h2 : mm_ix T (pc + 4) = some (.goto off2, 3, c3)) (h3 : mm_ix T tgt = some (.iconst n2, 1, c2)) (he : ((pc + 4 : Nat) : Int) + off2 = ((tgt + 1 : Nat) : Int))
    (kk : mm_V G M (tgt + 1) L (.int (if 0 < x then c2 else c1) :: st) h kc ks Q) : mm_V G M pc L (.int x :: st) h kc ks Q := by
  have e1 : mm_cst (.iconst n1) = c1 := (hT _ (mm_ix_mem h1)).2
  have e2 : mm_cst (.iconst n2) = c2 := (hT _ (mm_ix_mem h3)).2
  refine mm_if_gt hT tgt hf ht (fun c => ?_) (fun c => ?_)
  · rw [if_pos c] at kk
    exact mm_ps_ok (mm_dec hT h3) (by rw [e2]; rfl) kk
  · rw [if_neg c] at kk
    refine mm_ps_ok (len := 1) (mm_dec hT h1) (by rw [e1]; rfl) (mm_goto (mm_dec hT h2) (by omega) ?_)
    rw [show (((pc + 3 + 1 : Nat) : Int) + off2).toNat = tgt + 1 by omega]
    exact kk

theorem mm_tc_gt (hT : mm_ok M T) {x y c0 c1 c2 c3 : Int32} {off off2 n1 n2 : Int} (tgt : Nat) (hf : mm_ix T pc = some (.if_icmp .gt off, 3, c0)) (ht : (pc : Int) + off = (tgt : Int)) (h1 : mm_ix T (pc + 3) = some (.iconst n1, 1, c1)) (h2 : mm_ix T (pc + 4) = some (.goto off2, 3, c3)) (h3 : mm_ix T tgt = some (.iconst n2, 1, c2)) (he : ((pc + 4 : Nat) : Int) + off2 = ((tgt + 1 : Nat) : Int))
    (kk : mm_V G M (tgt + 1) L (.int (if y < x then c2 else c1) :: st) h kc ks Q) : mm_V G M pc L (.int y :: .int x :: st) h kc ks Q := by
  have e1 : mm_cst (.iconst n1) = c1 := (hT _ (mm_ix_mem h1)).2
  have e2 : mm_cst (.iconst n2) = c2 := (hT _ (mm_ix_mem h3)).2
  refine mm_ic_gt hT tgt hf ht (fun c => ?_) (fun c => ?_)
  · rw [if_pos c] at kk
    exact mm_ps_ok (mm_dec hT h3) (by rw [e2]; rfl) kk
  · rw [if_neg c] at kk
    refine mm_ps_ok (len := 1) (mm_dec hT h1) (by rw [e1]; rfl) (mm_goto (mm_dec hT h2) (by omega) ?_)
    rw [show (((pc + 3 + 1 : Nat) : Int) + off2).toNat = tgt + 1 by omega]
    exact kk

theorem mm_ti_le (hT : mm_ok M T) {x c0 c1 c2 c3 : Int32} {off off2 n1 n2 : Int} (tgt : Nat) (hf : mm_ix T pc = some (.ifCond .le off, 3, c0)) (ht : (pc : Int) + off = (tgt : Int)) (h1 : mm_ix T (pc + 3) = some (.iconst n1, 1, c1)) (h2 : mm_ix T (pc + 4) = some (.goto off2, 3, c3)) (h3 : mm_ix T tgt = some (.iconst n2, 1, c2)) (he : ((pc + 4 : Nat) : Int) + off2 = ((tgt + 1 : Nat) : Int))
    (kk : mm_V G M (tgt + 1) L (.int (if x ≤ 0 then c2 else c1) :: st) h kc ks Q) : mm_V G M pc L (.int x :: st) h kc ks Q := by
  have e1 : mm_cst (.iconst n1) = c1 := (hT _ (mm_ix_mem h1)).2
  have e2 : mm_cst (.iconst n2) = c2 := (hT _ (mm_ix_mem h3)).2
  refine mm_if_le hT tgt hf ht (fun c => ?_) (fun c => ?_)
  · rw [if_pos c] at kk
    exact mm_ps_ok (mm_dec hT h3) (by rw [e2]; rfl) kk
  · rw [if_neg c] at kk
    refine mm_ps_ok (len := 1) (mm_dec hT h1) (by rw [e1]; rfl) (mm_goto (mm_dec hT h2) (by omega) ?_)
    rw [show (((pc + 3 + 1 : Nat) : Int) + off2).toNat = tgt + 1 by omega]
    exact kk

theorem mm_tc_le (hT : mm_ok M T) {x y c0 c1 c2 c3 : Int32} {off off2 n1 n2 : Int} (tgt : Nat) (hf : mm_ix T pc = some (.if_icmp .le off, 3, c0)) (ht : (pc : Int) + off = (tgt : Int)) (h1 : mm_ix T (pc + 3) = some (.iconst n1, 1, c1)) (h2 : mm_ix T (pc + 4) = some (.goto off2, 3, c3)) (h3 : mm_ix T tgt = some (.iconst n2, 1, c2)) (he : ((pc + 4 : Nat) : Int) + off2 = ((tgt + 1 : Nat) : Int))
    (kk : mm_V G M (tgt + 1) L (.int (if x ≤ y then c2 else c1) :: st) h kc ks Q) : mm_V G M pc L (.int y :: .int x :: st) h kc ks Q := by
  have e1 : mm_cst (.iconst n1) = c1 := (hT _ (mm_ix_mem h1)).2
  have e2 : mm_cst (.iconst n2) = c2 := (hT _ (mm_ix_mem h3)).2
  refine mm_ic_le hT tgt hf ht (fun c => ?_) (fun c => ?_)
  · rw [if_pos c] at kk
    exact mm_ps_ok (mm_dec hT h3) (by rw [e2]; rfl) kk
  · rw [if_neg c] at kk
    refine mm_ps_ok (len := 1) (mm_dec hT h1) (by rw [e1]; rfl) (mm_goto (mm_dec hT h2) (by omega) ?_)
    rw [show (((pc + 3 + 1 : Nat) : Int) + off2).toNat = tgt + 1 by omega]
    exact kk

end MME
