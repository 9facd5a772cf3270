/-! THE JUDGEMENT mm_V: the machine in a method of ours, over a heap of things at addresses; mm_C: a method's contract -/
/-- a thing: its kind (0 .. 4: an object of that class of mm_cl; 10 int[], 11 boolean[], 12 long[], 13 Object[]) and its contents -/
abbrev mm_Ob : Type := Nat × List Value
abbrev mm_Hp : Type := Nat → Option mm_Ob
/-- what is fixed for a run: classes and slots; array classes by kind; addresses of the static rows (3: the script); the script -/
abbrev mm_G : Type := va_G × (Nat → ClassId) × (Nat → Nat) × Nat × (Nat → Int32)
abbrev mm_at : List (Nat × FieldType) := [(10, .int), (11, .boolean), (12, .long), (13, .object "java/lang/Object")]
/-- how a call ends: a value, or an exception by its class's name -/
abbrev mm_O : Type := Option Value ⊕ String
/-- a method: its name, bytes, locals, answer's type, frames and words of locals that it needs, its table -/
abbrev mm_M : Type := MethodName × ByteArray × Nat × Option FieldType × Nat × Nat × List (Nat × Nat × Nat × Nat)
def mm_up (h : mm_Hp) (a : Nat) (o : mm_Ob) : mm_Hp := fun b => if b = a then some o else h b
theorem mm_up_self (h : mm_Hp) (a : Nat) (o : mm_Ob) : mm_up h a o a = some o := if_pos rfl
theorem mm_up_ne (h : mm_Hp) {a b : Nat} (o : mm_Ob) (hb : b ≠ a) : mm_up h a o b = h b := if_neg hb
theorem mm_up_up (h : mm_Hp) (a : Nat) (o o' : mm_Ob) : mm_up (mm_up h a o) a o' = mm_up h a o' := by
  funext b
  unfold mm_up
  by_cases hb : b = a
  · rw [if_pos hb, if_pos hb]
  · rw [if_neg hb, if_neg hb, if_neg hb]
def mm_cell (G : mm_G) (a : Nat) (o : mm_Ob) (H : Heap) : Prop :=
  if o.1 < 10 then ∃ r : vw_C, mm_cl[o.1]? = some r ∧ o.2.length = r.2.2 ∧ t_OB a (G.1.1 o.1) r.2.2 (G.1.2 o.1) H (vp_V o.2)
  else H[a]? = some (arrV (G.2.1 o.1) o.2.length (vp_V o.2))
theorem mm_cell_o {G : mm_G} {a ci : Nat} {fs : List Value} {H : Heap} (hci : ci < 10) : mm_cell G a (ci, fs) H ↔ ∃ r : vw_C, mm_cl[ci]? = some r ∧ fs.length = r.2.2 ∧ t_OB a (G.1.1 ci) r.2.2 (G.1.2 ci) H (vp_V fs) := by
  unfold mm_cell
  rw [if_pos hci]
theorem mm_cell_a {G : mm_G} {a t : Nat} {vs : List Value} {H : Heap} (ht : ¬ t < 10) : mm_cell G a (t, vs) H ↔ H[a]? = some (arrV (G.2.1 t) vs.length (vp_V vs)) := by
  unfold mm_cell
  rw [if_neg ht]
theorem mm_cell_some {G : mm_G} {a : Nat} {o : mm_Ob} {H : Heap} (h : mm_cell G a o H) : ∃ cell : Cell, H[a]? = some cell ∧ cell.vm = .none := by
  unfold mm_cell at h
  split at h
  · obtain ⟨r, -, -, cell, h1, -, h3, -⟩ := h
    exact ⟨cell, h1, h3⟩
  · exact ⟨_, h, rfl⟩
theorem mm_cell_lt {G : mm_G} {a : Nat} {o : mm_Ob} {H : Heap} (h : mm_cell G a o H) : a < H.size := by
  obtain ⟨cell, h1, -⟩ := mm_cell_some h
  exact (Array.getElem?_eq_some_iff.mp h1).1
theorem mm_cell_kept {G : mm_G} {a : Nat} {o : mm_Ob} {H H1 : Heap} (h : mm_cell G a o H) (hq : H1[a]? = H[a]?) : mm_cell G a o H1 := by
  unfold mm_cell at h ⊢
  split
  · rename_i hlt
    rw [if_pos hlt] at h
    obtain ⟨r, h1, h2, h3⟩ := h
    exact ⟨r, h1, h2, h3.kept hq⟩
  · rename_i hlt
    rw [if_neg hlt] at h
    rw [hq]; exact h
/-- the heap holds the things -/
def mm_R (G : mm_G) (h : mm_Hp) (H : Heap) : Prop := ∀ (a : Nat) (o : mm_Ob), h a = some o → mm_cell G a o H
theorem mm_R_up {G : mm_G} {h : mm_Hp} {H H1 : Heap} {a : Nat} {o : mm_Ob} (hR : mm_R G h H) (h1 : mm_cell G a o H1) (hq : ∀ q : Nat, q ≠ a → H1[q]? = H[q]?) : mm_R G (mm_up h a o) H1 := by
  intro b ob hb
  by_cases e : b = a
  · subst e
    rw [mm_up_self] at hb
    cases hb
    exact h1
  · rw [mm_up_ne _ _ e] at hb
    exact mm_cell_kept (hR b ob hb) (hq b e)
theorem mm_R_push {G : mm_G} {h : mm_Hp} {H H1 : Heap} {o : mm_Ob} (hR : mm_R G h H) (h1 : mm_cell G H.size o H1) (hq : ∀ q : Nat, q < H.size → H1[q]? = H[q]?) : mm_R G (mm_up h H.size o) H1 := by
  intro b ob hb
  by_cases e : b = H.size
  · subst e
    rw [mm_up_self] at hb
    cases hb
    exact h1
  · rw [mm_up_ne _ _ e] at hb
    exact mm_cell_kept (hR b ob hb) (hq b (mm_cell_lt (hR b ob hb)))
theorem mm_R_grow {G : mm_G} {h : mm_Hp} {H H1 : Heap} (hR : mm_R G h H) (hq : ∀ q : Nat, q < H.size → H1[q]? = H[q]?) : mm_R G h H1 := fun b ob hb => mm_cell_kept (hR b ob hb) (hq b (mm_cell_lt (hR b ob hb)))
theorem mm_R_new {G : mm_G} {h : mm_Hp} {H : Heap} (hR : mm_R G h H) : h H.size = none := by
  cases e : h H.size with
  | none => rfl
  | some o => exact absurd (mm_cell_lt (hR _ _ e)) (Nat.lt_irrefl _)
/-- what the tables say -/
def mm_K (G : mm_G) (U : State) : Prop := va_K G.1 mm_cl [] U ∧ (∀ q ∈ mm_at, ArrOfT U (G.2.1 q.1) q.2 ∧ va_RA U (G.2.1 q.1) q.2) ∧ va_AO "java/lang/Object" U ∧ va_Nc "java/lang/IllegalStateException" "java/lang/IllegalArgumentException" U
theorem mm_K_moved {G : mm_G} {u U : State} (hvm : u.vm.Alike U.vm) (h : mm_K G u) : mm_K G U :=
  ⟨va_K.moved hvm h.1, fun q hq => ⟨arrOfT_moved hvm (h.2.1 q hq).1, (h.2.1 q hq).2.moved hvm⟩, va_AO.moved hvm h.2.2.1, va_Nc.moved hvm h.2.2.2⟩
/-- what stands outside the things that a run may write: the static rows, the script, what a throw reads -/
def mm_Sx (G : mm_G) (A : Nat → Prop) (U : State) (H : Heap) : Prop :=
  (∀ (k : Nat) (q : String × String × String × FieldType × Nat × (Nat → Value)), mm_st[k]? = some q → va_Z q.1 q.2.1 q.2.2.1 (.ref (G.2.2.1 k)) A U H ∧ va_T q.2.2.2.1 (G.2.2.1 k) q.2.2.2.2.1 q.2.2.2.2.2 A U H) ∧
  vx_Zq Bundle.tN "UNASSIGNED_STACK" Bundle.steD A U H ∧ vx_Zq Bundle.tN "SUPPRESSED_SENTINEL" Bundle.listD A U H ∧ va_X (G.2.2.1 3) G.2.2.2.1 G.2.2.2.2 U H ∧ G.2.2.1 3 < H.size ∧ ¬ A (G.2.2.1 3)
theorem mm_Sx_moved {G : mm_G} {A : Nat → Prop} {u U : State} {H : Heap} (hvm : u.vm.Alike U.vm) (h : mm_Sx G A u H) : mm_Sx G A U H :=
  ⟨fun k q hq => ⟨va_Z.moved hvm (h.1 k q hq).1, va_T.moved hvm (h.1 k q hq).2⟩, vx_Zq.moved hvm h.2.1, vx_Zq.moved hvm h.2.2.1, va_X.moved hvm h.2.2.2.1, h.2.2.2.2⟩
theorem mm_Sx_kept {G : mm_G} {A : Nat → Prop} {U : State} {H H1 : Heap} (h : mm_Sx G A U H) (hz : H.size ≤ H1.size) (hq : ∀ a : Nat, a < H.size → ¬ A a → H1[a]? = H[a]?) : mm_Sx G A U H1 :=
  ⟨fun k q hk => ⟨va_Z.kept (h.1 k q hk).1 hq, va_T.kept (h.1 k q hk).2 hq⟩, vx_Zq.kept h.2.1 hq, vx_Zq.kept h.2.2.1 hq, va_X.kept h.2.2.2.1 (hq _ h.2.2.2.2.1 h.2.2.2.2.2), Nat.lt_of_lt_of_le h.2.2.2.2.1 hz, h.2.2.2.2.2⟩
theorem mm_Sx_narrow {G : mm_G} {A B : Nat → Prop} {U : State} {H : Heap} (h : mm_Sx G A U H) (hAB : ∀ q, B q → A q) : mm_Sx G B U H :=
  ⟨fun k q hk => ⟨va_Z.narrow (h.1 k q hk).1 hAB, va_T.narrow (h.1 k q hk).2 hAB⟩, vx_Zq.narrow h.2.1 hAB, vx_Zq.narrow h.2.2.1 hAB, h.2.2.2.1, h.2.2.2.2.1, fun z => h.2.2.2.2.2 (hAB _ z)⟩
/-- the facts that stay through a method's body -/
def mm_F (G : mm_G) (M : mm_M) (p : Program) (l : Launch) (R : Room) (s : State) (m : MethodId) (args : Array Value) (meth : Method) (c : Code) (A : Nat → Prop) : Prop :=
  p.tables.exec = Jvm.exec ∧ c.code = M.2.1 ∧ meth.sig.returnType = M.2.2.2.1 ∧ meth.locks = false ∧ c.maxLocals = M.2.2.1 ∧ s.vm.findClass M.1.cls = some m.cls ∧ (∀ w ∈ mm_W, w.before args s = true) ∧ meth.name = M.1.name ∧
  c.exceptionTable.toList = tableOf M.2.2.2.2.2.2 ∧ l.stackTraces = false ∧ M.2.2.2.2.1 ≤ R.frames ∧ M.2.2.2.2.2.1 ≤ R.locals ∧ mm_K G s ∧ mm_Sx G A s s.heap ∧ (∀ q : Nat, s.heap.size ≤ q → A q)
/-- .. and what holds of the heap -/
def mm_I (G : mm_G) (h : mm_Hp) (H : Heap) (A : Nat → Prop) (s : State) (locs : List Loc) : Prop := mm_R G h H ∧ va_S A s.heap H locs ∧ ∀ (a : Nat) (o : mm_Ob), h a = some o → A a
/-- the world behind a method -/
def mm_B (G : mm_G) (h' : mm_Hp) (A : Nat → Prop) (st t : State) : Prop := mm_R G h' t.heap ∧ (∀ (a : Nat) (o : mm_Ob), h' a = some o → A a) ∧ va_F A st t
def mm_Qc (G : mm_G) (Q : mm_O → mm_Hp → Prop) (A : Nat → Prop) : Array Value → State → Outcome → State → Prop := fun _ st o t => ∃ (v : Option Value) (h' : mm_Hp), o = .returned v ∧ Q (.inl v) h' ∧ mm_B G h' A st t
def mm_XC (G : mm_G) (Q : mm_O → mm_Hp → Prop) (A : Nat → Prop) : String → State → State → Prop := fun E st t => ∃ h' : mm_Hp, Q (.inr E) h' ∧ mm_B G h' A st t
def mm_V (G : mm_G) (M : mm_M) (pc : Nat) (L : List (Nat × Value)) (st : List Value) (h : mm_Hp) (kc ks : Nat) (Q : mm_O → mm_Hp → Prop) : Prop :=
  ∀ (p : Program) (l : Launch) (e : Env) (R : Room) (s : State) (m : MethodId) (args : Array Value) (below : List Frame) (meth : Method) (c : Code) (H : Heap) (locs : List Loc) (cells slots : Nat) (A : Nat → Prop) (ls : Array Slot),
    mm_F G M p l R s m args meth c A → mm_I G h H A s locs → cells + kc ≤ R.cells → slots + ks ≤ R.slots → lv_has ls M.2.2.1 L →
    W p l e R s m args below meth c H locs cells slots (vx_MQ below (mm_Qc G Q A) (mm_XC G Q A) args s (cells + kc) (slots + ks) A) (F0 m pc ls st)
/-- the things that a callee may write -/
def mm_A (h : mm_Hp) (sz : Nat) : Nat → Prop := fun q => (∃ o, h q = some o) ∨ sz ≤ q
def mm_Pc (G : mm_G) (av : List Value) (h : mm_Hp) (sz : Nat) : Array Value → State → Prop := fun a U => a = av.toArray ∧ U.heap.size = sz ∧ mm_R G h U.heap ∧ mm_K G U ∧ mm_Sx G (mm_A h sz) U U.heap
/-- a method's contract: called with av in the heap h it ends as Q says, with at most kc cells of ks slots new -/
def mm_C (G : mm_G) (M : mm_M) (av : List Value) (h : mm_Hp) (kc ks : Nat) (Q : mm_O → mm_Hp → Prop) : Prop :=
  ∀ (l : Launch) (sz : Nat), l.stackTraces = false → vx_Met l M.1 (Cond.code M.1 M.2.1 M.2.2.1 M.2.2.2.1 :: mm_W) { frames := M.2.2.2.2.1, cells := kc, slots := ks, locals := M.2.2.2.2.2.1 } (mm_Pc G av h sz) (mm_Qc G Q (mm_A h sz)) (mm_XC G Q (mm_A h sz)) kc ks (mm_A h sz)
theorem mm_Pc_blind {G : mm_G} {av : List Value} {h : mm_Hp} {sz : Nat} : FrameBlind (mm_Pc G av h sz) := by
  intro a U g mk q
  obtain ⟨q1, q2, q3, q4, q5⟩ := q
  exact ⟨q1, q2, q3, mm_K_moved (u := U) (U := U.calling g mk a) (Vm.Alike.refl U.vm) q4, mm_Sx_moved (u := U) (U := U.calling g mk a) (Vm.Alike.refl U.vm) q5⟩
set_option maxHeartbeats 1000000 in
/-- a contract out of the walk of the body -/
theorem mm_C_of {G : mm_G} {M : mm_M} {av : List Value} {h : mm_Hp} {kc ks : Nat} {Q : mm_O → mm_Hp → Prop} (hy : plainName M.1.cls = true) (hh : M.2.2.2.2.2.2 = []) (hn : (lg_sl av).length ≤ M.2.2.1) {L : List (Nat × Value)} (hL : lv_args 0 av = L)
    (k : mm_V G M 0 L [] h kc ks Q) : mm_C G M av h kc ks Q := by
  intro l sz hl
  refine vx_ofW (cc := M.2.1) (maxL := M.2.2.1) (ret := M.2.2.2.1) hy rfl ?_
  intro p e s m args below meth c s₁ B hml ht hP
  obtain ⟨rfl, hsz, hR, hK, hX⟩ := hP
  subst hsz
  have hts := atoms_spec (ws := Cond.code M.1 M.2.1 M.2.2.1 M.2.2.2.1 :: mm_W) B.pre
  have hA : ∀ q : Nat, s.heap.size ≤ q → mm_A h s.heap.size q := fun q z => Or.inr z
  have hl2 := lv_entry av (n := M.2.2.1) hn
  rw [lg_entry_eq]
  have htab : c.exceptionTable.toList = tableOf M.2.2.2.2.2.2 := by
    rw [hh]
    cases e9 : c.exceptionTable.toList with
    | nil => rfl
    | cons x t => exact absurd (ht x (by rw [e9]; exact List.mem_cons_self)) id
  have hF : mm_F G M p l ({ frames := M.2.2.2.2.1, cells := kc, slots := ks, locals := M.2.2.2.2.2.1 } : Room) s m av.toArray meth c (mm_A h s.heap.size) :=
    ⟨B.exec, B.bytes, B.returns, B.notSynchronized, hml, findClass_of_methodNamed B.named, fun w hw => hts w (List.mem_cons_of_mem _ hw), (name_of_methodNamed B.named B.method).1, htab, hl, Nat.le_refl _, Nat.le_refl _, hK, hX, hA⟩
  have hI : mm_I G h s.heap (mm_A h s.heap.size) s [] := ⟨hR, va_S.rf, fun a o z => Or.inl ⟨o, z⟩⟩
  have h9 := k p l e ({ frames := M.2.2.2.2.1, cells := kc, slots := ks, locals := M.2.2.2.2.2.1 } : Room) s m av.toArray below meth c s.heap [] 0 0 (mm_A h s.heap.size) _ hF hI (by rw [Nat.zero_add]; exact Nat.le_refl _) (by rw [Nat.zero_add]; exact Nat.le_refl _) (hL ▸ hl2)
  rw [Nat.zero_add, Nat.zero_add] at h9
  exact h9
