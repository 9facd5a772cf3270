/-! calls -/
abbrev mm_rm (M : mm_M) (kc ks : Nat) : Room := { frames := M.2.2.2.2.1, cells := kc, slots := ks, locals := M.2.2.2.2.2.1 }
/-- a contract that never throws, as the kit has it -/
theorem mm_met {G : mm_G} {Mc : mm_M} {av : List Value} {h : mm_Hp} {mc ms : Nat} {Qm : mm_O → mm_Hp → Prop} (hc : mm_C G Mc av h mc ms Qm) (hx : ∀ E h', ¬ Qm (.inr E) h') (l : Launch) (sz : Nat) (hl : l.stackTraces = false) :
    Met l Mc.1 (Cond.code Mc.1 Mc.2.1 Mc.2.2.1 Mc.2.2.2.1 :: mm_W) (mm_rm Mc mc ms) (mm_Pc G av h sz) (mm_Qc G Qm (mm_A h sz)) mc ms (mm_A h sz) := by
  refine MetFree.mono (hc l sz hl) (fun _ _ z => z) (fun _ _ _ _ _ _ => trivial) (fun a s o t _ hq => ?_)
  rcases hq with hq | ⟨q, -, E, ce, L, ⟨h', hq', -⟩, -⟩
  · exact hq
  · exact absurd hq' (hx E h')
def mm_rok (M Mc : mm_M) (n : Nat) : Bool := decide (Mc.1.cls ≠ "java/lang/invoke/MethodHandle") && decide (Mc.1.cls ≠ "java/lang/invoke/VarHandle") && decide ((parseMethodDescriptor Mc.1.desc).map (fun d => d.parameters.length) = some n) && decide (Mc.2.2.2.2.1 + 1 ≤ M.2.2.2.2.1) && decide (8 + (Mc.2.2.1 + 11) + Mc.2.2.2.2.2.1 ≤ M.2.2.2.2.2.1)
def mm_cdok (Mc : mm_M) : Bool := mm_in (.initialized Mc.1.cls) && mm_in (.code Mc.1 Mc.2.1 Mc.2.2.1 Mc.2.2.2.1)
def mm_vok (M Mc : mm_M) (idx n : Nat) : Bool := mm_in (.methodLink M.1.cls idx Mc.1) && mm_in (.instanceMethod Mc.1) && mm_in (.selects Mc.1.cls Mc.1 Mc.1) && mm_cdok Mc && mm_rok M Mc n
def mm_sok (M Mc : mm_M) (idx n : Nat) : Bool := mm_in (.methodLink M.1.cls idx Mc.1) && mm_in (.static Mc.1) && mm_cdok Mc && mm_rok M Mc n
def mm_iok (M Mc : mm_M) (idx n : Nat) : Bool := mm_in (.methodLink M.1.cls idx Mc.1) && mm_in (.instanceMethod Mc.1) && mm_cdok Mc && mm_rok M Mc n && decide (Mc.1.name = "<init>") && decide (Mc.2.2.2.1 = none)
theorem mm_callB {M Mc : mm_M} {idx n mc ms : Nat} {R : Room} {s : State} {args : Array Value} (hts : ∀ w ∈ mm_W, w.before args s = true) (hfr : M.2.2.2.2.1 ≤ R.frames) (hlo : M.2.2.2.2.2.1 ≤ R.locals) (h1 : mm_in (.methodLink M.1.cls idx Mc.1) = true) (h2 : mm_cdok Mc = true) (h3 : mm_rok M Mc n = true) :
    CallB R s args M.1.cls idx Mc.1 Mc.2.1 Mc.2.2.1 Mc.2.2.2.1 (Cond.code Mc.1 Mc.2.1 Mc.2.2.1 Mc.2.2.2.1 :: mm_W) (mm_rm Mc mc ms) mc ms n := by
  simp only [mm_cdok, Bool.and_eq_true] at h2
  simp only [mm_rok, Bool.and_eq_true, decide_eq_true_eq] at h3
  obtain ⟨⟨⟨⟨a1, a2⟩, a3⟩, a4⟩, a5⟩ := h3
  refine ⟨rfl, rfl, Nat.le_trans a4 hfr, Nat.le_trans a5 hlo, fun w hw a' U hW => ?_, List.mem_cons_self, mm_in_of hts h2.2, mm_in_of hts h2.1, ⟨a1, a2⟩, fun sig hsig => ?_, mm_in_of hts h1⟩
  · rcases List.mem_cons.mp hw with e | e
    · rw [e]
      exact mm_word hW (mm_W_good _ (mm_in_mem h2.2)) (mm_in_of hts h2.2)
    · exact mm_word hW (mm_W_good _ e) (hts w e)
  · rw [hsig] at a3
    exact (Option.some.inj a3).symm
section MML
variable {G : mm_G} {M : mm_M} {pc : Nat} {L : List (Nat × Value)} {st : List Value} {h : mm_Hp} {kc ks : Nat} {Q : mm_O → mm_Hp → Prop} {T : mm_T}
/-- the callee's start holds in every state that the call may meet -/
theorem mm_pre {p : Program} {l : Launch} {R : Room} {s : State} {m : MethodId} {args : Array Value} {meth : Method} {c : Code} {A : Nat → Prop} {H : Heap} {locs : List Loc} {av : List Value} (hF : mm_F G M p l R s m args meth c A) (hI : mm_I G h H A s locs) :
    ∀ U : State, U.heap = H → s.WarmedH U.vm → mm_Pc G av h H.size av.toArray U := by
  intro U hU hW
  have hAB : ∀ q, mm_A h H.size q → A q := fun q hq => by
    rcases hq with ⟨o, ho⟩ | hq
    · exact hI.2.2 q o ho
    · exact hF.2.2.2.2.2.2.2.2.2.2.2.2.2.2 q (Nat.le_trans hI.2.1.1 hq)
  refine ⟨rfl, by rw [hU], by rw [hU]; exact hI.1, mm_K_moved hW.alike hF.2.2.2.2.2.2.2.2.2.2.2.2.1, ?_⟩
  rw [hU]
  exact mm_Sx_moved hW.alike (mm_Sx_narrow (mm_Sx_kept hF.2.2.2.2.2.2.2.2.2.2.2.2.2.1 hI.2.1.1 hI.2.1.2.1) hAB)
/-- what holds behind a call -/
theorem mm_post {p : Program} {l : Launch} {R : Room} {s : State} {m : MethodId} {args : Array Value} {meth : Method} {c : Code} {A : Nat → Prop} {H : Heap} {locs L9 : List Loc} {h' : mm_Hp} {st₀ t T' : State} (hF : mm_F G M p l R s m args meth c A) (hI : mm_I G h H A s locs)
    (h0 : st₀.heap = H) (e1 : T'.heap = t.heap) (hL : ∀ q ∈ L9, mm_A h H.size q.base) (hB : mm_B G h' (mm_A h H.size) st₀ t) : mm_I G h' T'.heap A s (locs ++ L9) := by
  have hAB : ∀ q, mm_A h H.size q → A q := fun q hq => by
    rcases hq with ⟨o, ho⟩ | hq
    · exact hI.2.2 q o ho
    · exact hF.2.2.2.2.2.2.2.2.2.2.2.2.2.2 q (Nat.le_trans hI.2.1.1 hq)
  obtain ⟨b1, b2, b3⟩ := hB
  exact ⟨by rw [e1]; exact b1, (vx_keep (free := mm_A h H.size) h0 e1 hI.2.1 (fun q _ z => hAB q z) hAB hL b3).2.2, fun a o ha => hAB a (b2 a o ha)⟩
theorem mm_on {p : Program} {l : Launch} {e : Env} {R : Room} {s : State} {m : MethodId} {args : Array Value} {below : List Frame} {meth : Method} {c : Code} {A : Nat → Prop} {H : Heap} {locs : List Loc} {cells slots mc ms : Nat} {ls : Array Slot} {stk : List Value} {av : Array Value} {Qm : mm_O → mm_Hp → Prop}
    (hr : va_Run p l e R s m args below meth c H locs cells slots mc ms (F0 m pc ls stk) st (mm_Qc G Qm (mm_A h H.size) av) (mm_A h H.size)) (hF : mm_F G M p l R s m args meth c A) (hI : mm_I G h H A s locs) (hc : cells + (mc + kc) ≤ R.cells) (hs : slots + (ms + ks) ≤ R.slots) (hl : lv_has ls M.2.2.1 L)
    (kk : ∀ (v : Option Value) (h' : mm_Hp), Qm (.inl v) h' → mm_V G M (pc + 3) L (v.toList ++ st) h' kc ks Q) :
    W p l e R s m args below meth c H locs cells slots (vx_MQ below (mm_Qc G Q A) (mm_XC G Q A) args s (cells + (mc + kc)) (slots + (ms + ks)) A) (F0 m pc ls stk) := by
  intro T9 hT9 X9
  obtain ⟨v, st₀, t, T', L9, h0, X', hL, e1, e2, ⟨v', h', hv, hq, hB⟩, st1⟩ := hr T9 hT9 X9
  cases hv
  have h9 := kk v h' hq p l e R s m args below meth c T'.heap (locs ++ L9) (cells + mc) (slots + ms) A ls hF (mm_post hF hI h0 e1 hL hB) (by omega) (by omega) hl
  rw [Nat.add_assoc cells, Nat.add_assoc slots] at h9
  obtain ⟨t2, a1, b1⟩ := h9 T' rfl X'
  exact ⟨t2, st1 t2 a1, b1⟩
theorem mm_callV (hT : mm_ok M T) {Mc : mm_M} {idx mc ms b ci : Nat} {As fs stk : List Value} {c0 : Int32} {Qm : mm_O → mm_Hp → Prop} {r : vw_C} (hf : mm_ix T pc = some (.invokevirtual idx, 3, c0)) (hk : mm_vok M Mc idx As.length = true) (hb : h b = some (ci, fs)) (hr : mm_cl[ci]? = some r) (hrc : r.1 = Mc.1.cls)
    (hstk : stk = As.reverse ++ .ref b :: st) (hw : (st.map fun v => v.category).sum ≤ 8) (hC : mm_C G Mc (.ref b :: As) h mc ms Qm) (hx : ∀ E h', ¬ Qm (.inr E) h')
    (kk : ∀ (v : Option Value) (h' : mm_Hp), Qm (.inl v) h' → mm_V G M (pc + 3) L (v.toList ++ st) h' kc ks Q) : mm_V G M pc L stk h (mc + kc) (ms + ks) Q := by
  intro p l e R s m args below meth c H locs cells slots A ls hF hI hc hs hl
  simp only [mm_vok, Bool.and_eq_true] at hk
  obtain ⟨⟨⟨⟨k1, k2⟩, k3⟩, k4⟩, k5⟩ := hk
  have hts := hF.2.2.2.2.2.2.1
  have hcell := hI.1 b _ hb
  rw [mm_cell_o (mm_ci_lt hr)] at hcell
  obtain ⟨r', hr', -, cv, g1, g2, g3, -⟩ := hcell
  cases hr.symm.trans hr'
  have hfc := (hF.2.2.2.2.2.2.2.2.2.2.2.2.1.1.1 ci _ hr).2.1
  rw [hrc] at hfc
  refine mm_on (va_runV (C := Mc.1.cls) (As := As) (rest := st) (nL := M.2.2.1) ⟨hF.1, hF.2.1, hF.2.2.2.2.1, hF.2.2.2.2.2.1, hts⟩ (mm_met hC hx l H.size hF.2.2.2.2.2.2.2.2.2.1) ⟨mm_callB hts hF.2.2.2.2.2.2.2.2.2.2.1 hF.2.2.2.2.2.2.2.2.2.2.2.1 k1 k4 k5, mm_in_of hts k2, mm_in_of hts k3⟩ ⟨mm_Pc_blind, ⟨cv, g1, by rw [g3]; rfl, by rw [g2]; exact hfc⟩, mm_pre hF hI⟩ rfl rfl hl.1 hstk (lv_room hw) (mm_dec hT hf) ⟨by omega, by omega⟩) hF hI hc hs hl kk
theorem mm_callS (hT : mm_ok M T) {Mc : mm_M} {idx mc ms : Nat} {As stk : List Value} {c0 : Int32} {Qm : mm_O → mm_Hp → Prop} (hf : mm_ix T pc = some (.invokestatic idx, 3, c0)) (hk : mm_sok M Mc idx As.length = true)
    (hstk : stk = As.reverse ++ st) (hw : (st.map fun v => v.category).sum ≤ 8) (hC : mm_C G Mc As h mc ms Qm) (hx : ∀ E h', ¬ Qm (.inr E) h')
    (kk : ∀ (v : Option Value) (h' : mm_Hp), Qm (.inl v) h' → mm_V G M (pc + 3) L (v.toList ++ st) h' kc ks Q) : mm_V G M pc L stk h (mc + kc) (ms + ks) Q := by
  intro p l e R s m args below meth c H locs cells slots A ls hF hI hc hs hl
  simp only [mm_sok, Bool.and_eq_true] at hk
  obtain ⟨⟨⟨k1, k2⟩, k4⟩, k5⟩ := hk
  have hts := hF.2.2.2.2.2.2.1
  refine mm_on (va_runS (As := As) (rest := st) (nL := M.2.2.1) ⟨hF.1, hF.2.1, hF.2.2.2.2.1, hF.2.2.2.2.2.1, hts⟩ (mm_met hC hx l H.size hF.2.2.2.2.2.2.2.2.2.1) ⟨mm_callB hts hF.2.2.2.2.2.2.2.2.2.2.1 hF.2.2.2.2.2.2.2.2.2.2.2.1 k1 k4 k5, mm_in_of hts k2⟩ ⟨mm_Pc_blind, mm_pre hF hI⟩ rfl rfl hl.1 hstk (lv_room hw) (mm_dec hT hf) ⟨by omega, by omega⟩) hF hI hc hs hl kk
theorem mm_callI (hT : mm_ok M T) {Mc : mm_M} {idx mc ms b : Nat} {As stk : List Value} {c0 : Int32} {Qm : mm_O → mm_Hp → Prop} (hf : mm_ix T pc = some (.invokespecial idx, 3, c0)) (hk : mm_iok M Mc idx As.length = true)
    (hstk : stk = As.reverse ++ .ref b :: st) (hw : (st.map fun v => v.category).sum ≤ 8) (hC : mm_C G Mc (.ref b :: As) h mc ms Qm) (hx : ∀ E h', ¬ Qm (.inr E) h')
    (kk : ∀ (v : Option Value) (h' : mm_Hp), Qm (.inl v) h' → mm_V G M (pc + 3) L (v.toList ++ st) h' kc ks Q) : mm_V G M pc L stk h (mc + kc) (ms + ks) Q := by
  intro p l e R s m args below meth c H locs cells slots A ls hF hI hc hs hl
  simp only [mm_iok, Bool.and_eq_true, decide_eq_true_eq] at hk
  obtain ⟨⟨⟨⟨⟨k1, k2⟩, k4⟩, k5⟩, k6⟩, k7⟩ := hk
  have hts := hF.2.2.2.2.2.2.1
  have hM := mm_met hC hx l H.size hF.2.2.2.2.2.2.2.2.2.1
  have hB := mm_callB (mc := mc) (ms := ms) hts hF.2.2.2.2.2.2.2.2.2.2.1 hF.2.2.2.2.2.2.2.2.2.2.2.1 k1 k4 k5
  rw [k7] at hM hB
  refine mm_on (va_runI (As := As) (b := b) (rest := st) (nL := M.2.2.1) ⟨hF.1, hF.2.1, hF.2.2.2.2.1, hF.2.2.2.2.2.1, hts⟩ hM ⟨hB, k6, mm_in_of hts k2⟩ ⟨mm_Pc_blind, mm_pre hF hI⟩ rfl rfl hl.1 hstk (lv_room hw) (mm_dec hT hf) ⟨by omega, by omega⟩) hF hI hc hs hl kk
/-- 'throw new E()' out of a method without a table -/
def mm_tok (own : String) (ik ic : Nat) (cls : String) (names : List String) : Bool := Bundle.fit cls && names.all Bundle.fit && (Cond.classLink own ik cls :: Cond.initialized cls :: vx_at0 own ic cls names).all (fun w => mm_in w && vx_ot w)
theorem mm_throw (hT : mm_ok M T) {ik ic : Nat} {c0 c1 c2 c3 : Int32} {cls : String} {names : List String} (hf0 : mm_ix T pc = some (.new ik, 3, c0)) (hf3 : mm_ix T (pc + 3) = some (.dup, 1, c1)) (hf4 : mm_ix T (pc + 4) = some (.invokespecial ic, 3, c2)) (hf7 : mm_ix T (pc + 7) = some (.athrow, 1, c3))
    (hk : mm_tok M.1.cls ik ic cls names = true) (hh : M.2.2.2.2.2.2 = []) (hfr : names.length + 3 < M.2.2.2.2.1) (hlo : (st.map fun v => v.category).sum + (13 * (names.length + 1) + 42) ≤ M.2.2.2.2.2.1) (hq : Q (.inr cls) h) : mm_V G M pc L st h (1 + kc) (6 + ks) Q := by
  intro p l e R s m args below meth c H locs cells slots A ls hF hI hc hs hl
  simp only [mm_tok, Bool.and_eq_true, List.all_eq_true] at hk
  obtain ⟨⟨k1, k2⟩, k3⟩ := hk
  have hts := hF.2.2.2.2.2.2.1
  have hX := hF.2.2.2.2.2.2.2.2.2.2.2.2.2.1
  have hfr9 := hF.2.2.2.2.2.2.2.2.2.2.1
  have hlo9 := hF.2.2.2.2.2.2.2.2.2.2.2.1
  refine vx_throw0 (A := A) hF.1 hF.2.1 hF.2.2.2.2.2.2.2.2.2.1 (own := M.1.cls) (cls := cls) (names := names) (ik := ik) (ic := ic) hF.2.2.2.2.2.1 k1 k2 (mm_in_of hts (k3 _ List.mem_cons_self).1) (mm_in_of hts (k3 _ (List.mem_cons_of_mem _ List.mem_cons_self)).1)
    (fun w hw => mm_in_of hts (k3 _ (List.mem_cons_of_mem _ (List.mem_cons_of_mem _ hw))).1) (fun w hw => (k3 w hw).2) hX.2.1 hX.2.2.1 hI.2.1 (by rw [hF.2.2.2.2.1]; exact hl.1) (mm_dec hT hf0) (mm_dec hT hf3) (mm_dec hT hf4) (mm_dec hT hf7)
    (fun x hx => by rw [hF.2.2.2.2.2.2.2.2.1, hh] at hx; cases hx) (by omega) (by omega) (by omega) (by omega) hF.2.2.2.1
    (fun t ht hz ho => ⟨h, hq, mm_R_grow hI.1 ho, hI.2.2, Nat.le_trans hI.2.1.1 hz, fun q h1 h2 => (ho q (Nat.lt_of_lt_of_le h1 hI.2.1.1)).trans (hI.2.1.2.1 q h1 h2)⟩) hI.2.1.2.2 (by omega) (by omega)
/-- which row of the method's table takes an E that comes at pc -/
def mm_hx (M : mm_M) (pc : Nat) (E : String) (hp : Nat) : Prop := ∃ (pre : List ExceptionTableEntry) (x : ExceptionTableEntry) (suf : List ExceptionTableEntry) (name : String), tableOf M.2.2.2.2.2.2 = pre ++ x :: suf ∧ x.handlerPc = hp ∧
  (∀ z ∈ pre, covers z pc = false ∨ (z.catchType ≠ 0 ∧ E = "java/lang/IllegalStateException" ∧ mm_in (.classLink M.1.cls z.catchType "java/lang/IllegalArgumentException") = true)) ∧ covers x pc = true ∧ x.catchType ≠ 0 ∧ mm_in (.classLink M.1.cls x.catchType name) = true ∧ mm_in (.castable E name) = true
/-- a call whose throws are caught here -/
theorem mm_callVX (hT : mm_ok M T) {Mc : mm_M} {idx mc ms b ci : Nat} {As fs stk : List Value} {c0 : Int32} {Qm : mm_O → mm_Hp → Prop} {r : vw_C} (hf : mm_ix T pc = some (.invokevirtual idx, 3, c0)) (hk : mm_vok M Mc idx As.length = true) (hb : h b = some (ci, fs)) (hr : mm_cl[ci]? = some r) (hrc : r.1 = Mc.1.cls)
    (hstk : stk = As.reverse ++ .ref b :: st) (hw : (st.map fun v => v.category).sum ≤ 8) (hC : mm_C G Mc (.ref b :: As) h mc ms Qm)
    (kx : ∀ (E : String) (h' : mm_Hp) (q : Nat), Qm (.inr E) h' → ∃ hp, mm_hx M pc E hp ∧ mm_V G M hp L [.ref q] h' kc ks Q)
    (kk : ∀ (v : Option Value) (h' : mm_Hp), Qm (.inl v) h' → mm_V G M (pc + 3) L (v.toList ++ st) h' kc ks Q) : mm_V G M pc L stk h (mc + kc) (ms + ks) Q := by
  intro p l e R s m args below meth c H locs cells slots A ls hF hI hc hs hl
  simp only [mm_vok, Bool.and_eq_true] at hk
  obtain ⟨⟨⟨⟨k1, k2⟩, k3⟩, k4⟩, k5⟩ := hk
  have hts := hF.2.2.2.2.2.2.1
  have hcell := hI.1 b _ hb
  rw [mm_cell_o (mm_ci_lt hr)] at hcell
  obtain ⟨r', hr', -, cv, g1, g2, g3, -⟩ := hcell
  cases hr.symm.trans hr'
  have hfc := (hF.2.2.2.2.2.2.2.2.2.2.2.2.1.1.1 ci _ hr).2.1
  rw [hrc] at hfc
  have hrun := vx_runV (e := e) (below := below) (meth := meth) (locs := locs) (cells := cells) (slots := slots) (C := Mc.1.cls) (b := b) (As := As) (rest := st) (nL := M.2.2.1) (g := F0 m pc ls stk) ⟨hF.1, hF.2.1, hF.2.2.2.2.1, hF.2.2.2.2.2.1, hts⟩ (hC l H.size hF.2.2.2.2.2.2.2.2.2.1) ⟨mm_callB hts hF.2.2.2.2.2.2.2.2.2.2.1 hF.2.2.2.2.2.2.2.2.2.2.2.1 k1 k4 k5, mm_in_of hts k2, mm_in_of hts k3⟩ (H := H) ⟨mm_Pc_blind, ⟨cv, g1, by rw [g3]; rfl, by rw [g2]; exact hfc⟩, mm_pre hF hI⟩ rfl rfl hl.1 hstk (lv_room hw) (mm_dec hT hf) ⟨by omega, by omega⟩
  intro T9 hT9 X9
  rcases hrun T9 hT9 X9 with ⟨v, st₀, t, T', L9, h0, X', hL, e1, e2, ⟨v', h', hv, hq, hB⟩, st1⟩ | ⟨q, st₀, t, T', L9, E, ce, h0, X', hL, e1, e2, ⟨h', hq, hB⟩, hce, hcv, hcl, st1⟩
  · cases hv
    have h9 := kk v h' hq p l e R s m args below meth c T'.heap (locs ++ L9) (cells + mc) (slots + ms) A ls hF (mm_post hF hI h0 e1 hL hB) (by omega) (by omega) hl
    rw [Nat.add_assoc cells, Nat.add_assoc slots] at h9
    obtain ⟨t2, a1, b1⟩ := h9 T' rfl X'
    exact ⟨t2, st1 t2 a1, b1⟩
  · obtain ⟨hp, ⟨pre, x, suf, name, w1, w2, w3, w4, w5, w6, w7⟩, hV⟩ := kx E h' q hq
    have h9 := hV p l e R s m args below meth c T'.heap (locs ++ L9) (cells + mc) (slots + ms) A ls hF (mm_post hF hI h0 e1 hL hB) (by omega) (by omega) hl
    rw [Nat.add_assoc cells, Nat.add_assoc slots, ← w2] at h9
    obtain ⟨t2, a1, b1⟩ := mm_catch (rest := st) hF.2.2.2.2.2.1 pre x suf (by rw [hF.2.2.2.2.2.2.2.2.1]; exact w1) (fun z hz => by
      rcases w3 z hz with u | ⟨u1, u2, u3⟩
      · exact Or.inl u
      · exact Or.inr ⟨u1, _, mm_in_of hts u3, by rw [u2]; exact hF.2.2.2.2.2.2.2.2.2.2.2.2.1.2.2.2⟩) w4 w5 (mm_in_of hts w6) (mm_in_of hts w7) (by rw [e1]; exact hce) hcv hcl h9 T' rfl X'
    exact ⟨t2, st1.trans a1, b1⟩
/-- a method with a table, called by its name -/
def mm_CH (G : mm_G) (M : mm_M) (av : List Value) (h : mm_Hp) (kc ks : Nat) (Q : mm_O → mm_Hp → Prop) : Prop :=
  ∀ (l : Launch) (sz : Nat), l.stackTraces = false → vx_Met l M.1 (Cond.codeWith M.1 M.2.1 M.2.2.1 M.2.2.2.1 M.2.2.2.2.2.2 :: mm_W) (mm_rm M kc ks) (mm_Pc G av h sz) (mm_Qc G Q (mm_A h sz)) (mm_XC G Q (mm_A h sz)) kc ks (mm_A h sz)
set_option maxHeartbeats 1000000 in
theorem mm_CH_of {av : List Value} (hy : plainName M.1.cls = true) (hn : (lg_sl av).length ≤ M.2.2.1) (hL : lv_args 0 av = L)
    (k : mm_V G M 0 L [] h kc ks Q) : mm_CH G M av h kc ks Q := by
  intro l sz hl
  refine MetFree.of_bodyS (code := M.2.1) (maxLocals := M.2.2.1) (ret := M.2.2.2.1) hy ?_ ?_
  · intro args s m h hn
    obtain ⟨m9, meth, c, hn9, h1, h2, h3, h4, -, h5, h6, -⟩ := Cond.codeWith_spec (atoms_spec (ws := Cond.codeWith M.1 M.2.1 M.2.2.1 M.2.2.2.1 M.2.2.2.2.2.2 :: mm_W) h _ List.mem_cons_self)
    cases hn.symm.trans hn9
    exact ⟨meth, c, h1, h2, h3, h4, h5, h6⟩
  · intro p e s m args below meth c s₁ B hml hP _
    obtain ⟨rfl, hsz, hR, hK, hX⟩ := hP
    subst hsz
    have hts := atoms_spec (ws := Cond.codeWith M.1 M.2.1 M.2.2.1 M.2.2.2.1 M.2.2.2.2.2.2 :: mm_W) B.pre
    have hA : ∀ q : Nat, s.heap.size ≤ q → mm_A h s.heap.size q := fun q z => Or.inr z
    have hl2 := lv_entry av (n := M.2.2.1) hn
    have hh0 : s₁.heap = s.heap := by rw [B.state]; rfl
    have hF : mm_F G M p l (mm_rm M kc ks) s m av.toArray meth c (mm_A h s.heap.size) :=
      ⟨B.exec, B.bytes, B.returns, B.notSynchronized, hml, findClass_of_methodNamed B.named, fun w hw => hts w (List.mem_cons_of_mem _ hw), (name_of_methodNamed B.named B.method).1, vx_table (x := M.1) B (hts _ List.mem_cons_self), hl, Nat.le_refl _, Nat.le_refl _, hK, hX, hA⟩
    have hI : mm_I G h s.heap (mm_A h s.heap.size) s [] := ⟨hR, va_S.rf, fun a o z => Or.inl ⟨o, z⟩⟩
    have h9 := k p l e (mm_rm M kc ks) s m av.toArray below meth c s.heap [] 0 0 (mm_A h s.heap.size) _ hF hI (by rw [Nat.zero_add]; exact Nat.le_refl _) (by rw [Nat.zero_add]; exact Nat.le_refl _) (hL ▸ hl2)
    rw [Nat.zero_add, Nat.zero_add, ← lg_entry_eq] at h9
    obtain ⟨t, a1, o, b1, b2, b3⟩ := h9 s₁ hh0 (Stand.of_body B)
    exact ⟨t, o, a1, b1, b2, b3⟩
def mm_hok (M Mc : mm_M) (idx n : Nat) : Bool := mm_in (.methodLink M.1.cls idx Mc.1) && mm_in (.static Mc.1) && mm_in (.initialized Mc.1.cls) && mm_in (.codeWith Mc.1 Mc.2.1 Mc.2.2.1 Mc.2.2.2.1 Mc.2.2.2.2.2.2) && mm_rok M Mc n
theorem mm_callH (hT : mm_ok M T) {Mc : mm_M} {idx mc ms : Nat} {As stk : List Value} {c0 : Int32} {Qm : mm_O → mm_Hp → Prop} (hf : mm_ix T pc = some (.invokestatic idx, 3, c0)) (hk : mm_hok M Mc idx As.length = true)
    (hstk : stk = As.reverse ++ st) (hw : (st.map fun v => v.category).sum ≤ 8) (hC : mm_CH G Mc As h mc ms Qm) (hx : ∀ E h', ¬ Qm (.inr E) h')
    (kk : ∀ (v : Option Value) (h' : mm_Hp), Qm (.inl v) h' → mm_V G M (pc + 3) L (v.toList ++ st) h' kc ks Q) : mm_V G M pc L stk h (mc + kc) (ms + ks) Q := by
  intro p l e R s m args below meth c H locs cells slots A ls hF hI hc hs hl
  simp only [mm_hok, mm_rok, Bool.and_eq_true, decide_eq_true_eq] at hk
  obtain ⟨⟨⟨⟨k1, k2⟩, k3⟩, k4⟩, ⟨⟨⟨⟨a1, a2⟩, a3⟩, a4⟩, a5⟩⟩ := hk
  have hts := hF.2.2.2.2.2.2.1
  have hfr := hF.2.2.2.2.2.2.2.2.2.2.1
  have hlo := hF.2.2.2.2.2.2.2.2.2.2.2.1
  have hM : Met l Mc.1 (Cond.codeWith Mc.1 Mc.2.1 Mc.2.2.1 Mc.2.2.2.1 Mc.2.2.2.2.2.2 :: mm_W) (mm_rm Mc mc ms) (mm_Pc G As h H.size) (mm_Qc G Qm (mm_A h H.size)) mc ms (mm_A h H.size) := by
    refine MetFree.mono (hC l H.size hF.2.2.2.2.2.2.2.2.2.1) (fun _ _ z => z) (fun _ _ _ _ _ _ => trivial) (fun a s o t _ hq => ?_)
    rcases hq with hq | ⟨q, -, E, ce, L, ⟨h', hq', -⟩, -⟩
    · exact hq
    · exact absurd hq' (hx E h')
  refine mm_on (vx_runSW (hh := Mc.2.2.2.2.2.2) (bytes := Mc.2.1) (maxL := Mc.2.2.1) (ret := Mc.2.2.2.1) (As := As) (rest := st) (nL := M.2.2.1) ⟨hF.1, hF.2.1, hF.2.2.2.2.1, hF.2.2.2.2.2.1, hts⟩ hM ⟨⟨rfl, rfl, Nat.le_trans a4 hfr, Nat.le_trans a5 hlo, fun w hw a' U hW => ?_, List.mem_cons_self⟩, mm_in_of hts k4, mm_in_of hts k3, ⟨a1, a2⟩, fun sig hsig => ?_, mm_in_of hts k1, mm_in_of hts k2⟩ ⟨mm_Pc_blind, mm_pre hF hI⟩ rfl rfl hl.1 hstk (lv_room hw) (mm_dec hT hf) ⟨by omega, by omega⟩) hF hI hc hs hl kk
  · rcases List.mem_cons.mp hw with e | e
    · rw [e]
      exact mm_word hW (mm_W_good _ (mm_in_mem k4)) (mm_in_of hts k4)
    · exact mm_word hW (mm_W_good _ e) (hts w e)
  · rw [hsig] at a3
    exact (Option.some.inj a3).symm
end MML
