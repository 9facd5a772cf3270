/-! locals by their places, in order -/
def mm_get (L : List (Nat × Value)) (i : Nat) : Option Value := match L with
  | [] => none
  | q :: L => if q.1 == i then some q.2 else mm_get L i
theorem mm_get_mem : ∀ {L : List (Nat × Value)} {i : Nat} {v : Value}, mm_get L i = some v → (i, v) ∈ L := by
  intro L
  induction L with
  | nil => intro i v h; cases h
  | cons q L ih =>
    intro i v h
    unfold mm_get at h
    by_cases e : (q.1 == i) = true
    · rw [if_pos e] at h
      cases h
      have e1 : q.1 = i := by simpa using e
      rw [← e1]
      exact List.mem_cons_self
    · rw [if_neg e] at h
      exact List.mem_cons_of_mem _ (ih h)
def mm_ins (x : Nat × Value) (L : List (Nat × Value)) : List (Nat × Value) := match L with
  | [] => [x]
  | q :: L => if x.1 < q.1 then x :: q :: L else q :: mm_ins x L
theorem mm_ins_mem {x q : Nat × Value} : ∀ {L : List (Nat × Value)}, q ∈ mm_ins x L → q = x ∨ q ∈ L := by
  intro L
  induction L with
  | nil => intro h; exact Or.inl (List.mem_singleton.mp h)
  | cons y L ih =>
    intro h
    unfold mm_ins at h
    split at h
    · exact List.mem_cons.mp h
    · rcases List.mem_cons.mp h with h | h
      · exact Or.inr (by rw [h]; exact List.mem_cons_self)
      · rcases ih h with h | h
        · exact Or.inl h
        · exact Or.inr (List.mem_cons_of_mem _ h)
def mm_set (L : List (Nat × Value)) (i : Nat) (v : Value) : List (Nat × Value) := mm_ins (i, v) (L.filter (fun q => !(q.1 == i) && !(q.1 + 1 == i && q.2.category == 2)))
theorem mm_set_has {ls : Array Slot} {nL i : Nat} {v : Value} {L : List (Nat × Value)} (h : lv_has ls nL ((i, v) :: L.filter (fun q => !(q.1 == i) && !(q.1 + 1 == i && q.2.category == 2)))) : lv_has ls nL (mm_set L i v) :=
  ⟨h.1, h.2.1, fun q hq => h.2.2 q ((mm_ins_mem hq).elim (fun e => by rw [e]; exact List.mem_cons_self) (fun e => List.mem_cons_of_mem _ e))⟩
theorem mm_at_loc {ls : Array Slot} {nL i : Nat} {v : Value} {L : List (Nat × Value)} (h : lv_has ls nL L) (hg : mm_get L i = some v) : ls[i]? = some (.val v) := h.2.2 _ (mm_get_mem hg)
def mm_ushr (x y : Int32) : Int32 := (x.toUInt32 >>> (y.toUInt32 &&& Int32.toUInt32 31)).toInt32
/-- the literal of an instruction -/
def mm_cst (i : Instr) : Int32 := match i with
  | .iconst n => Int32.ofInt n
  | .bipush n => (Int8.ofInt n).toInt32
  | .sipush n => (Int16.ofInt n).toInt32
  | .iinc _ n => Int32.ofInt n
  | _ => 0
/-- what an instruction of numbers, locals and stack does; none: not one of them -/
def mm_ps (nL : Nat) (i : Instr) (len : Nat) (c : Int32) (L : List (Nat × Value)) (st : List Value) : Option (List (Nat × Value) × List Value) :=
  match i, len, st with
  | .iconst _, 1, st => some (L, .int c :: st)
  | .bipush _, 2, st => some (L, .int c :: st)
  | .sipush _, 3, st => some (L, .int c :: st)
  | .lconst n, 1, st => some (L, .long (Int64.ofNat (n : Nat)) :: st)
  | .aconst_null, 1, st => some (L, .null :: st)
  | .iload_n k, 1, st => match mm_get L k with | some (.int x) => some (L, .int x :: st) | _ => none
  | .iload k, 2, st => match mm_get L k with | some (.int x) => some (L, .int x :: st) | _ => none
  | .aload_n k, 1, st => match mm_get L k with | some (.ref x) => some (L, .ref x :: st) | some .null => some (L, .null :: st) | _ => none
  | .aload k, 2, st => match mm_get L k with | some (.ref x) => some (L, .ref x :: st) | some .null => some (L, .null :: st) | _ => none
  | .istore_n k, 1, .int x :: st => if (k : Nat) < nL then some (mm_set L k (.int x), st) else none
  | .istore k, 2, .int x :: st => if k < nL then some (mm_set L k (.int x), st) else none
  | .astore_n k, 1, .ref x :: st => if (k : Nat) < nL then some (mm_set L k (.ref x), st) else none
  | .astore_n k, 1, .null :: st => if (k : Nat) < nL then some (mm_set L k .null, st) else none
  | .astore k, 2, .ref x :: st => if k < nL then some (mm_set L k (.ref x), st) else none
  | .astore k, 2, .null :: st => if k < nL then some (mm_set L k .null, st) else none
  | .iinc k _, 3, st => match mm_get L k with | some (.int x) => (if k < nL then some (mm_set L k (.int (x + c)), st) else none) | _ => none
  | .iadd, 1, .int y :: .int x :: st => some (L, .int (x + y) :: st)
  | .isub, 1, .int y :: .int x :: st => some (L, .int (x - y) :: st)
  | .imul, 1, .int y :: .int x :: st => some (L, .int (x * y) :: st)
  | .iand, 1, .int y :: .int x :: st => some (L, .int (x &&& y) :: st)
  | .ior, 1, .int y :: .int x :: st => some (L, .int (x ||| y) :: st)
  | .ixor, 1, .int y :: .int x :: st => some (L, .int (x ^^^ y) :: st)
  | .ishl, 1, .int y :: .int x :: st => some (L, .int (x <<< (y &&& 31)) :: st)
  | .ishr, 1, .int y :: .int x :: st => some (L, .int (x >>> (y &&& 31)) :: st)
  | .iushr, 1, .int y :: .int x :: st => some (L, .int (mm_ushr x y) :: st)
  | .i2l, 1, .int x :: st => some (L, .long x.toInt64 :: st)
  | .lcmp, 1, .long y :: .long x :: st => some (L, .int (lg_cmp x y) :: st)
  | .dup, 1, .int x :: st => some (L, .int x :: .int x :: st)
  | .dup, 1, .ref x :: st => some (L, .ref x :: .ref x :: st)
  | .dup_x1, 1, .int x :: .ref y :: st => some (L, .int x :: .ref y :: .int x :: st)
  | .dup_x1, 1, .ref x :: .ref y :: st => some (L, .ref x :: .ref y :: .ref x :: st)
  | .pop, 1, .int _ :: st => some (L, st)
  | .pop, 1, .ref _ :: st => some (L, st)
  | _, _, _ => none
/-- a row of a method's code: place, instruction, length, literal -/
abbrev mm_T : Type := List (Nat × Instr × Nat × Int32)
def mm_ok (M : mm_M) (T : mm_T) : Prop := ∀ q ∈ T, decode M.2.1 q.1 = .ok (q.2.1, q.2.2.1) ∧ mm_cst q.2.1 = q.2.2.2
def mm_ix (T : mm_T) (pc : Nat) : Option (Instr × Nat × Int32) := match T with
  | [] => none
  | q :: T => if q.1 == pc then some q.2 else mm_ix T pc
theorem mm_ix_mem : ∀ {T : mm_T} {pc : Nat} {x : Instr × Nat × Int32}, mm_ix T pc = some x → (pc, x) ∈ T := by
  intro T
  induction T with
  | nil => intro i v h; cases h
  | cons q L ih =>
    intro i v h
    unfold mm_ix at h
    by_cases e : (q.1 == i) = true
    · rw [if_pos e] at h
      cases h
      have e1 : q.1 = i := by simpa using e
      rw [← e1]
      exact List.mem_cons_self
    · rw [if_neg e] at h
      exact List.mem_cons_of_mem _ (ih h)
theorem mm_dec {M : mm_M} {T : mm_T} (hT : mm_ok M T) {pc : Nat} {i : Instr} {len : Nat} {c : Int32} (h : mm_ix T pc = some (i, len, c)) : decode M.2.1 pc = .ok (i, len) := (hT _ (mm_ix_mem h)).1
/-- n instructions of numbers, locals, stack, and jumps -/
def mm_run (nL : Nat) (T : mm_T) : Nat → Nat → List (Nat × Value) → List Value → Option (Nat × List (Nat × Value) × List Value)
  | 0, pc, L, st => some (pc, L, st)
  | n + 1, pc, L, st => match mm_ix T pc with
    | some (i, len, c) => (match i, len with
      | .goto off, 3 => if 0 ≤ (pc : Int) + off then mm_run nL T n ((pc : Int) + off).toNat L st else none
      | i, len => (match mm_ps nL i len c L st with
        | some (L', st') => mm_run nL T n (pc + len) L' st'
        | none => none))
    | none => none
section MMP
variable {G : mm_G} {M : mm_M} {pc : Nat} {L : List (Nat × Value)} {st : List Value} {h : mm_Hp} {kc ks : Nat} {Q : mm_O → mm_Hp → Prop}
set_option maxHeartbeats 4000000 in
theorem mm_ps_ok {i : Instr} {len : Nat} {L' : List (Nat × Value)} {st' : List Value} (hd : decode M.2.1 pc = .ok (i, len)) (hp : mm_ps M.2.2.1 i len (mm_cst i) L st = some (L', st')) (k : mm_V G M (pc + len) L' st' h kc ks Q) : mm_V G M pc L st h kc ks Q := by
  intro p l e R s m args below meth c H locs cells slots A ls hF hI hc hs hl
  have kk := fun ls hl => k p l e R s m args below meth c H locs cells slots A ls hF hI hc hs hl
  clear k
  have hx := hF.1
  have hb := hF.2.1
  unfold mm_ps at hp
  split at hp

  · cases hp; exact lv_iconst hx hb hd rfl (kk ls hl)
  · cases hp; exact lv_bipush hx hb hd rfl (kk ls hl)
  · cases hp; exact lv_sipush hx hb hd rfl (kk ls hl)
  · cases hp; exact lv_lconst hx hb hd rfl (kk ls hl)
  · cases hp; exact lv_null hx hb hd (kk ls hl)
  · split at hp
    · rename_i x hg; cases hp; exact lv_iload_n hx hb hd rfl (mm_at_loc hl hg) (kk ls hl)
    · cases hp
  · split at hp
    · rename_i x hg; cases hp; exact lv_iload hx hb hd (mm_at_loc hl hg) (kk ls hl)
    · cases hp
  · split at hp
    · rename_i x hg; cases hp; exact lv_aload_n hx hb hd rfl (mm_at_loc hl hg) (kk ls hl)
    · rename_i hg; cases hp; exact lv_aload_nN hx hb hd rfl (mm_at_loc hl hg) (kk ls hl)
    · cases hp
  · split at hp
    · rename_i x hg; cases hp; exact lv_aload hx hb hd (mm_at_loc hl hg) (kk ls hl)
    · rename_i hg; cases hp; exact lv_aloadN hx hb hd (mm_at_loc hl hg) (kk ls hl)
    · cases hp
  · split at hp
    · rename_i hlt; cases hp; exact lv_istore_n hx hb hd rfl hl hlt rfl (fun ls hl => kk ls (mm_set_has hl))
    · cases hp
  · split at hp
    · rename_i hlt; cases hp; exact lv_istore hx hb hd hl hlt rfl (fun ls hl => kk ls (mm_set_has hl))
    · cases hp
  · split at hp
    · rename_i hlt; cases hp; exact lv_astore_n hx hb hd rfl hl hlt rfl (fun ls hl => kk ls (mm_set_has hl))
    · cases hp
  · split at hp
    · rename_i hlt; cases hp; exact lv_astore_nN hx hb hd rfl hl hlt rfl (fun ls hl => kk ls (mm_set_has hl))
    · cases hp
  · split at hp
    · rename_i hlt; cases hp; exact lv_astore hx hb hd hl hlt rfl (fun ls hl => kk ls (mm_set_has hl))
    · cases hp
  · split at hp
    · rename_i hlt; cases hp; exact lv_astoreN hx hb hd hl hlt rfl (fun ls hl => kk ls (mm_set_has hl))
    · cases hp
  · split at hp
    · rename_i x hg
      split at hp
      · rename_i hlt
        cases hp
        obtain ⟨j, hj⟩ := List.getElem?_of_mem (mm_get_mem hg)
        exact lv_iinc hx hb hd hl hj rfl hlt rfl (fun ls hl => kk ls (mm_set_has hl))
      · cases hp
    · cases hp
  · cases hp; exact lv_iadd hx hb hd (kk ls hl)
  · cases hp; exact lv_isub hx hb hd (kk ls hl)
  · cases hp; exact lv_imul hx hb hd (kk ls hl)
  · cases hp; exact lv_iand hx hb hd (kk ls hl)
  · cases hp; exact lv_ior hx hb hd (kk ls hl)
  · cases hp; exact lv_ixor hx hb hd (kk ls hl)
  · cases hp; exact lv_ishl hx hb hd (kk ls hl)
  · cases hp; exact lv_ishr hx hb hd (kk ls hl)
  · cases hp; exact lv_iushr hx hb hd rfl (kk ls hl)
  · cases hp; exact lv_i2l hx hb hd rfl (kk ls hl)
  · cases hp; exact W.lcmp hx hb hd (kk ls hl)
  · cases hp; exact lv_dup hx hb hd rfl (kk ls hl)
  · cases hp; exact lv_dup hx hb hd rfl (kk ls hl)
  · cases hp; exact lv_dup_x1 hx hb hd rfl rfl (kk ls hl)
  · cases hp; exact lv_dup_x1 hx hb hd rfl rfl (kk ls hl)
  · cases hp; exact lv_pop hx hb hd rfl (kk ls hl)
  · cases hp; exact lv_pop hx hb hd rfl (kk ls hl)
  · cases hp

theorem mm_goto {off : Int} (hd : decode M.2.1 pc = .ok (.goto off, 3)) (h0 : 0 ≤ (pc : Int) + off) (k : mm_V G M ((pc : Int) + off).toNat L st h kc ks Q) : mm_V G M pc L st h kc ks Q := by
  intro p l e R s m args below meth c H locs cells slots A ls hF hI hc hs hl
  exact lv_goto hF.1 hF.2.1 hd (by omega) (k p l e R s m args below meth c H locs cells slots A ls hF hI hc hs hl)
/-- n pure instructions at once -/
theorem mm_blk {T : mm_T} (hT : mm_ok M T) : ∀ (n pc : Nat) (L : List (Nat × Value)) (st : List Value) {pc' : Nat} {L' : List (Nat × Value)} {st' : List Value}, mm_run M.2.2.1 T n pc L st = some (pc', L', st') → mm_V G M pc' L' st' h kc ks Q → mm_V G M pc L st h kc ks Q := by
  intro n
  induction n with
  | zero =>
    intro pc L st pc' L' st' hr k
    cases hr
    exact k
  | succ n ih =>
    intro pc L st pc' L' st' hr k
    unfold mm_run at hr
    split at hr
    · rename_i i len c hix
      have hd := mm_dec hT hix
      have hc := (hT _ (mm_ix_mem hix)).2
      dsimp only at hc
      split at hr
      · split at hr
        · rename_i h0
          exact mm_goto hd h0 (ih _ _ _ hr k)
        · cases hr
      · split at hr
        · rename_i hp
          rw [← hc] at hp
          exact mm_ps_ok hd hp (ih _ _ _ hr k)
        · cases hr
    · cases hr
/-- fewer locals -/
theorem mm_V_pick {L' : List (Nat × Value)} (ks' : List Nat) (hL : lv_pick L ks' = L') (k : mm_V G M pc L' st h kc ks Q) : mm_V G M pc L st h kc ks Q := by
  intro p l e R s m args below meth c H locs cells slots A ls hF hI hc hs hl
  exact k p l e R s m args below meth c H locs cells slots A ls hF hI hc hs (lv_sub hl ks' hL)

theorem mm_if_eq {T : mm_T} (hT : mm_ok M T) {x c0 : Int32} {off : Int} (tgt : Nat) (hf : mm_ix T pc = some (.ifCond .eq off, 3, c0)) (ht : (pc : Int) + off = (tgt : Int)) (kt : x = 0 → mm_V G M tgt L st h kc ks Q) (kf : ¬ x = 0 → mm_V G M (pc + 3) L st h kc ks Q) : mm_V G M pc L (.int x :: st) h kc ks Q := by
  intro p l e R s m args below meth c H locs cells slots A ls hF hI hc hs hl
  exact lv_if_eq hF.1 hF.2.1 (mm_dec hT hf) ht (fun z => kt z p l e R s m args below meth c H locs cells slots A ls hF hI hc hs hl) (fun z => kf z p l e R s m args below meth c H locs cells slots A ls hF hI hc hs hl)
theorem mm_ic_eq {T : mm_T} (hT : mm_ok M T) {x y c0 : Int32} {off : Int} (tgt : Nat) (hf : mm_ix T pc = some (.if_icmp .eq off, 3, c0)) (ht : (pc : Int) + off = (tgt : Int)) (kt : x = y → mm_V G M tgt L st h kc ks Q) (kf : ¬ x = y → mm_V G M (pc + 3) L st h kc ks Q) : mm_V G M pc L (.int y :: .int x :: st) h kc ks Q := by
  intro p l e R s m args below meth c H locs cells slots A ls hF hI hc hs hl
  exact lv_icmp_eq hF.1 hF.2.1 (mm_dec hT hf) ht (fun z => kt z p l e R s m args below meth c H locs cells slots A ls hF hI hc hs hl) (fun z => kf z p l e R s m args below meth c H locs cells slots A ls hF hI hc hs hl)

theorem mm_if_ne {T : mm_T} (hT : mm_ok M T) {x c0 : Int32} {off : Int} (tgt : Nat) (hf : mm_ix T pc = some (.ifCond .ne off, 3, c0)) (ht : (pc : Int) + off = (tgt : Int)) (kt : ¬ x = 0 → mm_V G M tgt L st h kc ks Q) (kf : x = 0 → mm_V G M (pc + 3) L st h kc ks Q) : mm_V G M pc L (.int x :: st) h kc ks Q := by
  intro p l e R s m args below meth c H locs cells slots A ls hF hI hc hs hl
  exact lv_if_ne hF.1 hF.2.1 (mm_dec hT hf) ht (fun z => kt z p l e R s m args below meth c H locs cells slots A ls hF hI hc hs hl) (fun z => kf z p l e R s m args below meth c H locs cells slots A ls hF hI hc hs hl)
theorem mm_ic_ne {T : mm_T} (hT : mm_ok M T) {x y c0 : Int32} {off : Int} (tgt : Nat) (hf : mm_ix T pc = some (.if_icmp .ne off, 3, c0)) (ht : (pc : Int) + off = (tgt : Int)) (kt : ¬ x = y → mm_V G M tgt L st h kc ks Q) (kf : x = y → mm_V G M (pc + 3) L st h kc ks Q) : mm_V G M pc L (.int y :: .int x :: st) h kc ks Q := by
  intro p l e R s m args below meth c H locs cells slots A ls hF hI hc hs hl
  exact lv_icmp_ne hF.1 hF.2.1 (mm_dec hT hf) ht (fun z => kt z p l e R s m args below meth c H locs cells slots A ls hF hI hc hs hl) (fun z => kf z p l e R s m args below meth c H locs cells slots A ls hF hI hc hs hl)

theorem mm_if_lt {T : mm_T} (hT : mm_ok M T) {x c0 : Int32} {off : Int} (tgt : Nat) (hf : mm_ix T pc = some (.ifCond .lt off, 3, c0)) (ht : (pc : Int) + off = (tgt : Int)) (kt : x < 0 → mm_V G M tgt L st h kc ks Q) (kf : ¬ x < 0 → mm_V G M (pc + 3) L st h kc ks Q) : mm_V G M pc L (.int x :: st) h kc ks Q := by
  intro p l e R s m args below meth c H locs cells slots A ls hF hI hc hs hl
  exact lv_if_lt hF.1 hF.2.1 (mm_dec hT hf) ht (fun z => kt z p l e R s m args below meth c H locs cells slots A ls hF hI hc hs hl) (fun z => kf z p l e R s m args below meth c H locs cells slots A ls hF hI hc hs hl)
theorem mm_ic_lt {T : mm_T} (hT : mm_ok M T) {x y c0 : Int32} {off : Int} (tgt : Nat) (hf : mm_ix T pc = some (.if_icmp .lt off, 3, c0)) (ht : (pc : Int) + off = (tgt : Int)) (kt : x < y → mm_V G M tgt L st h kc ks Q) (kf : ¬ x < y → mm_V G M (pc + 3) L st h kc ks Q) : mm_V G M pc L (.int y :: .int x :: st) h kc ks Q := by
  intro p l e R s m args below meth c H locs cells slots A ls hF hI hc hs hl
  exact lv_icmp_lt hF.1 hF.2.1 (mm_dec hT hf) ht (fun z => kt z p l e R s m args below meth c H locs cells slots A ls hF hI hc hs hl) (fun z => kf z p l e R s m args below meth c H locs cells slots A ls hF hI hc hs hl)

theorem mm_if_ge {T : mm_T} (hT : mm_ok M T) {x c0 : Int32} {off : Int} (tgt : Nat) (hf : mm_ix T pc = some (.ifCond .ge off, 3, c0)) (ht : (pc : Int) + off = (tgt : Int)) (kt : 0 ≤ x → mm_V G M tgt L st h kc ks Q) (kf : ¬ 0 ≤ x → mm_V G M (pc + 3) L st h kc ks Q) : mm_V G M pc L (.int x :: st) h kc ks Q := by
  intro p l e R s m args below meth c H locs cells slots A ls hF hI hc hs hl
  exact lv_if_ge hF.1 hF.2.1 (mm_dec hT hf) ht (fun z => kt z p l e R s m args below meth c H locs cells slots A ls hF hI hc hs hl) (fun z => kf z p l e R s m args below meth c H locs cells slots A ls hF hI hc hs hl)
theorem mm_ic_ge {T : mm_T} (hT : mm_ok M T) {x y c0 : Int32} {off : Int} (tgt : Nat) (hf : mm_ix T pc = some (.if_icmp .ge off, 3, c0)) (ht : (pc : Int) + off = (tgt : Int)) (kt : y ≤ x → mm_V G M tgt L st h kc ks Q) (kf : ¬ y ≤ x → mm_V G M (pc + 3) L st h kc ks Q) : mm_V G M pc L (.int y :: .int x :: st) h kc ks Q := by
  intro p l e R s m args below meth c H locs cells slots A ls hF hI hc hs hl
  exact lv_icmp_ge hF.1 hF.2.1 (mm_dec hT hf) ht (fun z => kt z p l e R s m args below meth c H locs cells slots A ls hF hI hc hs hl) (fun z => kf z p l e R s m args below meth c H locs cells slots A ls hF hI hc hs hl)

theorem mm_if_gt {T : mm_T} (hT : mm_ok M T) {x c0 : Int32} {off : Int} (tgt : Nat) (hf : mm_ix T pc = some (.ifCond .gt off, 3, c0)) (ht : (pc : Int) + off = (tgt : Int)) (kt : 0 < x → mm_V G M tgt L st h kc ks Q) (kf : ¬ 0 < x → mm_V G M (pc + 3) L st h kc ks Q) : mm_V G M pc L (.int x :: st) h kc ks Q := by
  intro p l e R s m args below meth c H locs cells slots A ls hF hI hc hs hl
  exact lv_if_gt hF.1 hF.2.1 (mm_dec hT hf) ht (fun z => kt z p l e R s m args below meth c H locs cells slots A ls hF hI hc hs hl) (fun z => kf z p l e R s m args below meth c H locs cells slots A ls hF hI hc hs hl)
theorem mm_ic_gt {T : mm_T} (hT : mm_ok M T) {x y c0 : Int32} {off : Int} (tgt : Nat) (hf : mm_ix T pc = some (.if_icmp .gt off, 3, c0)) (ht : (pc : Int) + off = (tgt : Int)) (kt : y < x → mm_V G M tgt L st h kc ks Q) (kf : ¬ y < x → mm_V G M (pc + 3) L st h kc ks Q) : mm_V G M pc L (.int y :: .int x :: st) h kc ks Q := by
  intro p l e R s m args below meth c H locs cells slots A ls hF hI hc hs hl
  exact lv_icmp_gt hF.1 hF.2.1 (mm_dec hT hf) ht (fun z => kt z p l e R s m args below meth c H locs cells slots A ls hF hI hc hs hl) (fun z => kf z p l e R s m args below meth c H locs cells slots A ls hF hI hc hs hl)

theorem mm_if_le {T : mm_T} (hT : mm_ok M T) {x c0 : Int32} {off : Int} (tgt : Nat) (hf : mm_ix T pc = some (.ifCond .le off, 3, c0)) (ht : (pc : Int) + off = (tgt : Int)) (kt : x ≤ 0 → mm_V G M tgt L st h kc ks Q) (kf : ¬ x ≤ 0 → mm_V G M (pc + 3) L st h kc ks Q) : mm_V G M pc L (.int x :: st) h kc ks Q := by
  intro p l e R s m args below meth c H locs cells slots A ls hF hI hc hs hl
  exact lv_if_le hF.1 hF.2.1 (mm_dec hT hf) ht (fun z => kt z p l e R s m args below meth c H locs cells slots A ls hF hI hc hs hl) (fun z => kf z p l e R s m args below meth c H locs cells slots A ls hF hI hc hs hl)
theorem mm_ic_le {T : mm_T} (hT : mm_ok M T) {x y c0 : Int32} {off : Int} (tgt : Nat) (hf : mm_ix T pc = some (.if_icmp .le off, 3, c0)) (ht : (pc : Int) + off = (tgt : Int)) (kt : x ≤ y → mm_V G M tgt L st h kc ks Q) (kf : ¬ x ≤ y → mm_V G M (pc + 3) L st h kc ks Q) : mm_V G M pc L (.int y :: .int x :: st) h kc ks Q := by
  intro p l e R s m args below meth c H locs cells slots A ls hF hI hc hs hl
  exact lv_icmp_le hF.1 hF.2.1 (mm_dec hT hf) ht (fun z => kt z p l e R s m args below meth c H locs cells slots A ls hF hI hc hs hl) (fun z => kf z p l e R s m args below meth c H locs cells slots A ls hF hI hc hs hl)

theorem mm_idiv {T : mm_T} (hT : mm_ok M T) {x y c0 : Int32} (hf : mm_ix T pc = some (.idiv, 1, c0)) (hne : ¬ y = 0) (k : mm_V G M (pc + 1) L (.int (x / y) :: st) h kc ks Q) : mm_V G M pc L (.int y :: .int x :: st) h kc ks Q := by
  intro p l e R s m args below meth c H locs cells slots A ls hF hI hc hs hl
  exact lv_idiv hF.1 hF.2.1 (mm_dec hT hf) hne (k p l e R s m args below meth c H locs cells slots A ls hF hI hc hs hl)
theorem mm_irem {T : mm_T} (hT : mm_ok M T) {x y c0 : Int32} (hf : mm_ix T pc = some (.irem, 1, c0)) (hne : ¬ y = 0) (k : mm_V G M (pc + 1) L (.int (x - x / y * y) :: st) h kc ks Q) : mm_V G M pc L (.int y :: .int x :: st) h kc ks Q := by
  intro p l e R s m args below meth c H locs cells slots A ls hF hI hc hs hl
  exact lv_irem hF.1 hF.2.1 (mm_dec hT hf) hne (k p l e R s m args below meth c H locs cells slots A ls hF hI hc hs hl)
theorem mm_acmp_eq {T : mm_T} (hT : mm_ok M T) {x y : Nat} {c0 : Int32} {off : Int} (tgt : Nat) (hf : mm_ix T pc = some (.if_acmp .eq off, 3, c0)) (ht : (pc : Int) + off = (tgt : Int)) (kt : x = y → mm_V G M tgt L st h kc ks Q) (kf : ¬ x = y → mm_V G M (pc + 3) L st h kc ks Q) : mm_V G M pc L (.ref y :: .ref x :: st) h kc ks Q := by
  intro p l e R s m args below meth c H locs cells slots A ls hF hI hc hs hl
  exact lv_acmp_eq (rx := some x) (ry := some y) hF.1 hF.2.1 (mm_dec hT hf) ht (fun z => kt (Option.some.inj z) p l e R s m args below meth c H locs cells slots A ls hF hI hc hs hl) (fun z => kf (fun q => z (by rw [q])) p l e R s m args below meth c H locs cells slots A ls hF hI hc hs hl)
theorem mm_acmp_ne {T : mm_T} (hT : mm_ok M T) {x y : Nat} {c0 : Int32} {off : Int} (tgt : Nat) (hf : mm_ix T pc = some (.if_acmp .ne off, 3, c0)) (ht : (pc : Int) + off = (tgt : Int)) (kt : ¬ x = y → mm_V G M tgt L st h kc ks Q) (kf : x = y → mm_V G M (pc + 3) L st h kc ks Q) : mm_V G M pc L (.ref y :: .ref x :: st) h kc ks Q := by
  intro p l e R s m args below meth c H locs cells slots A ls hF hI hc hs hl
  exact lv_acmp_ne (rx := some x) (ry := some y) hF.1 hF.2.1 (mm_dec hT hf) ht (fun z => kt (fun q => z (by rw [q])) p l e R s m args below meth c H locs cells slots A ls hF hI hc hs hl) (fun z => kf (Option.some.inj z) p l e R s m args below meth c H locs cells slots A ls hF hI hc hs hl)
theorem mm_ifnonnull {T : mm_T} (hT : mm_ok M T) {x : Nat} {c0 : Int32} {off : Int} (tgt : Nat) (hf : mm_ix T pc = some (.ifnonnull off, 3, c0)) (ht : (pc : Int) + off = (tgt : Int)) (k : mm_V G M tgt L st h kc ks Q) : mm_V G M pc L (.ref x :: st) h kc ks Q := by
  intro p l e R s m args below meth c H locs cells slots A ls hF hI hc hs hl
  exact lv_ifnonnull hF.1 hF.2.1 (mm_dec hT hf) ht (k p l e R s m args below meth c H locs cells slots A ls hF hI hc hs hl)
theorem mm_ifnonnullN {T : mm_T} (hT : mm_ok M T) {c0 : Int32} {off : Int} (hf : mm_ix T pc = some (.ifnonnull off, 3, c0)) (k : mm_V G M (pc + 3) L st h kc ks Q) : mm_V G M pc L (.null :: st) h kc ks Q := by
  intro p l e R s m args below meth c H locs cells slots A ls hF hI hc hs hl
  exact lv_ifnonnullN hF.1 hF.2.1 (mm_dec hT hf) (k p l e R s m args below meth c H locs cells slots A ls hF hI hc hs hl)
theorem mm_ifnull {T : mm_T} (hT : mm_ok M T) {x : Nat} {c0 : Int32} {off : Int} (hf : mm_ix T pc = some (.ifnull off, 3, c0)) (k : mm_V G M (pc + 3) L st h kc ks Q) : mm_V G M pc L (.ref x :: st) h kc ks Q := by
  intro p l e R s m args below meth c H locs cells slots A ls hF hI hc hs hl
  exact lv_ifnull hF.1 hF.2.1 (mm_dec hT hf) (k p l e R s m args below meth c H locs cells slots A ls hF hI hc hs hl)
theorem mm_ifnullN {T : mm_T} (hT : mm_ok M T) {c0 : Int32} {off : Int} (tgt : Nat) (hf : mm_ix T pc = some (.ifnull off, 3, c0)) (ht : (pc : Int) + off = (tgt : Int)) (k : mm_V G M tgt L st h kc ks Q) : mm_V G M pc L (.null :: st) h kc ks Q := by
  intro p l e R s m args below meth c H locs cells slots A ls hF hI hc hs hl
  exact lv_ifnullN hF.1 hF.2.1 (mm_dec hT hf) ht (k p l e R s m args below meth c H locs cells slots A ls hF hI hc hs hl)
theorem mm_tabIn {T : mm_T} (hT : mm_ok M T) {x c0 : Int32} {dflt lo hi off : Int} {offs : Array Int} {len : Nat} (tgt : Nat) (hf : mm_ix T pc = some (.tableswitch dflt lo hi offs, len, c0)) (h1 : ¬ x.toInt < lo) (h2 : ¬ hi < x.toInt) (ho : offs[(x.toInt - lo).toNat]? = some off) (ht : (pc : Int) + off = (tgt : Int)) (k : mm_V G M tgt L st h kc ks Q) : mm_V G M pc L (.int x :: st) h kc ks Q := by
  intro p l e R s m args below meth c H locs cells slots A ls hF hI hc hs hl
  exact lv_tableIn hF.1 hF.2.1 (mm_dec hT hf) h1 h2 ho ht (k p l e R s m args below meth c H locs cells slots A ls hF hI hc hs hl)
theorem mm_tabOut {T : mm_T} (hT : mm_ok M T) {x c0 : Int32} {dflt lo hi : Int} {offs : Array Int} {len : Nat} (tgt : Nat) (hf : mm_ix T pc = some (.tableswitch dflt lo hi offs, len, c0)) (h1 : x.toInt < lo ∨ hi < x.toInt) (ht : (pc : Int) + dflt = (tgt : Int)) (k : mm_V G M tgt L st h kc ks Q) : mm_V G M pc L (.int x :: st) h kc ks Q := by
  intro p l e R s m args below meth c H locs cells slots A ls hF hI hc hs hl
  exact lv_tableOut hF.1 hF.2.1 (mm_dec hT hf) h1 ht (k p l e R s m args below meth c H locs cells slots A ls hF hI hc hs hl)
end MMP
