/-! THE LAW'S BODY OUT OF THE WALK -/
theorem lt_kn {args : Array Value} {s : State} (hts : ∀ w ∈ lw_tbl, w.before args s = true) : ∃ D : va_G, va_K D mm_cl [] s := by
  have hw : ∀ w ∈ mm_W, w.before args s = true := fun w h => hts w (List.mem_filter.mp h).1
  obtain ⟨c0, i0, h0⟩ := u_known (n := 3) hw (mm_cl_in (RJx4a65c, TJx4a65c, 3) (by simp)) (hts (.instantiable "java/util/ArrayList" 3) (by decide +kernel))
  obtain ⟨c1, i1, h1⟩ := u_known (n := 10) hw (mm_cl_in (RX0, TX0, 10) (by simp)) (hts (.instantiable "ChainBench$Device" 10) (by decide +kernel))
  obtain ⟨c2, i2, h2⟩ := u_known (n := 7) hw (mm_cl_in (RX1, TX1, 7) (by simp)) (hts (.instantiable "ChainBench$Net" 7) (by decide +kernel))
  obtain ⟨c3, i3, h3⟩ := u_known (n := 8) hw (mm_cl_in (RX2, TX2, 8) (by simp)) (hts (.instantiable "ChainBench" 8) (by decide +kernel))
  obtain ⟨c4, i4, h4⟩ := u_known (n := 24) hw (mm_cl_in (RX3, TX3, 24) (by simp)) (hts (.instantiable "ChainBenchModel" 24) (by decide +kernel))
  refine ⟨(fun k => if k = 0 then c0 else if k = 1 then c1 else if k = 2 then c2 else if k = 3 then c3 else c4, fun k => if k = 0 then i0 else if k = 1 then i1 else if k = 2 then i2 else if k = 3 then i3 else i4), fun c q hq => ?_, fun k q hq => by cases hq⟩
  have hc : c < 5 := (List.getElem?_eq_some_iff.mp hq).1
  rcases (show c = 0 ∨ c = 1 ∨ c = 2 ∨ c = 3 ∨ c = 4 by omega) with rfl | rfl | rfl | rfl | rfl
  · cases hq; exact h0
  · cases hq; exact h1
  · cases hq; exact h2
  · cases hq; exact h3
  · cases hq; exact h4
theorem lt_arr {args : Array Value} {s : State} {ty : FieldType} (h : (Cond.arrayClass ty).before args s = true) (hr : ∀ c, s.vm.findClass ("[" ++ ty.toString) = some c → va_RA s c ty) : ∃ c, ArrOfT s c ty ∧ va_RA s c ty := by
  obtain ⟨c, k, comp, h1, h2, h3⟩ := Cond.arrayClass_spec h
  exact ⟨c, fun N z => ⟨(fun k h => by cases h), k, h2, comp, h3⟩, hr c h1⟩
theorem lt_obj {args : Array Value} {s : State} {C : String} (h : (Cond.arrayOver (.object C)).before args s = true) : ∃ c, ArrOfT s c (.object C) ∧ va_RA s c (.object C) := by
  obtain ⟨comp, c, k, h1, -, h3, h4, h5⟩ := Cond.arrayOver_spec h
  exact ⟨c, fun N z => ⟨(fun k h => by cases h), k, h3, comp, h4⟩, k, comp, h3, h4, h1, h5⟩
def lt_g : Cond := Jvm.Cond.and given_1 narrow_1
theorem lt_e0 : ∀ j, j < 16 → Cond.eq (.elem (.static "ChainBench" "AFTER_TMS_0" "[I") (.int (Int32.ofNat j))) (.int (mm_t0.getD j 0)) ∈ flatC lt_g := by decide +kernel
theorem lt_e1 : ∀ j, j < 16 → Cond.eq (.elem (.static "ChainBench" "AFTER_TMS_1" "[I") (.int (Int32.ofNat j))) (.int (mm_t1.getD j 0)) ∈ flatC lt_g := by decide +kernel
/-- the static rows -/
theorem lt_st {args : Array Value} {s : State} {A : Nat → Prop} (hts : ∀ w ∈ lw_tbl, w.before args s = true) (hg : ∀ w ∈ flatC lt_g, w.before args s = true) (hA : ∀ a : Nat, a < s.heap.size → ¬ A a) :
    ∃ t0 t1 t2 : Nat, ∀ (ad : Nat → Nat), ad 0 = t0 → ad 1 = t1 → ad 2 = t2 → ∀ (k : Nat) (q : String × String × String × FieldType × Nat × (Nat → Value)), mm_st[k]? = some q → va_Z q.1 q.2.1 q.2.2.1 (.ref (ad k)) A s s.heap ∧ va_T q.2.2.2.1 (ad k) q.2.2.2.2.1 q.2.2.2.2.2 A s s.heap := by
  obtain ⟨t0, e0, T0⟩ := va_Tof (tm := .static "ChainBench" "AFTER_TMS_0" "[I") (ty := .int) (N := 16) (f := fun k => .int (mm_t0.getD k 0)) (A := A) (by decide) (hg _ (by decide +kernel)) (va_eqt (hg _ (by decide +kernel))) (fun j hj => va_eqt (hg _ (lt_e0 j hj))) hA
  obtain ⟨t1, e1, T1⟩ := va_Tof (tm := .static "ChainBench" "AFTER_TMS_1" "[I") (ty := .int) (N := 16) (f := fun k => .int (mm_t1.getD k 0)) (A := A) (by decide) (hg _ (by decide +kernel)) (va_eqt (hg _ (by decide +kernel))) (fun j hj => va_eqt (hg _ (lt_e1 j hj))) hA
  obtain ⟨t2, e2, T2⟩ := va_Tof (tm := .static "java/util/ArrayList" "DEFAULTCAPACITY_EMPTY_ELEMENTDATA" "[Ljava/lang/Object;") (ty := .object "java/lang/Object") (N := 0) (f := fun _ => .null) (A := A) (by decide) (hg _ (by decide +kernel)) (va_eqt (hg _ (by decide +kernel))) (fun j hj => absurd hj (Nat.not_lt_zero j)) hA
  refine ⟨t0, t1, t2, fun ad a0 a1 a2 k q hq => ?_⟩
  have hk : k < 3 := (List.getElem?_eq_some_iff.mp hq).1
  rcases (show k = 0 ∨ k = 1 ∨ k = 2 by omega) with rfl | rfl | rfl
  · cases hq; rw [a0]; exact ⟨va_Zof (hts _ (by decide +kernel)) (hts _ (by decide +kernel)) e0 hA, T0⟩
  · cases hq; rw [a1]; exact ⟨va_Zof (hts _ (by decide +kernel)) (hts _ (by decide +kernel)) e1 hA, T1⟩
  · cases hq; rw [a2]; exact ⟨va_Zof (hts _ (by decide +kernel)) (hts _ (by decide +kernel)) e2 hA, T2⟩
def R_law : String := "ChainBenchLaw"
def lw_P (b : Addr) (xs : List Int32) (args : Array Value) (s : State) : Prop := args = #[.ref b] ∧ s.IntsAt b xs ∧ xs.length ≤ 2560 ∧ (Jvm.Cond.and given_1 narrow_1).before args s = true
def lw_Q (_ : Array Value) (s : State) (o : Outcome) (t : State) : Prop := o = .returned (some (.int 1)) ∧ Framed s o t [] 601024 7293034
def lw_Z (below : List Frame) (a : Array Value) (s : State) : State → Prop := fun t => ∃ o, t.status = .running ∧ Ended t below o ∧ lw_Q a s o t
/-- what holds at the law's entry: the machine, the code, the tables' words (any of lw_tbl by 'hts w (by decide +kernel)'), the script of L ints xs at the cell b, what the Statement gives of the start (any of its parts by flat_of_before) -/
def lw_At (p : Program) (s : State) (m : MethodId) (meth : Method) (c : Code) (b L : Nat) (xs : Nat → Int32) : Prop :=
  p.tables.exec = Jvm.exec ∧ c.code = code ∧ meth.sig.returnType = ret ∧ c.maxLocals = 7 ∧ s.vm.findClass R_law = some m.cls ∧ (∀ w ∈ lw_tbl, w.before #[Value.ref b] s = true) ∧ va_X b L xs s s.heap ∧ b < s.heap.size ∧ meth.locks = false ∧ (Jvm.Cond.and given_1 narrow_1).before #[Value.ref b] s = true
/-- from the entry, for every script of at most 2560 ints, the law comes to its end with true -/
theorem whole_start {p : Program} {e : Env} {s : State} {m : MethodId} {below : List Frame} {meth : Method} {c : Code} (l : Launch) (hl : l.stackTraces = false) {b L : Nat} {xs : Nat → Int32} (hL : L ≤ 2560) (hnm : meth.name = "law") (htab : c.exceptionTable.toList = []) (C0 : lw_At p s m meth c b L xs) : W p l e room_1 s m #[Value.ref b] below meth c s.heap [] 0 0 (lw_Z below #[Value.ref b] s) (entryFrame m ([Value.ref b] : List Value).toArray 7) := by
  obtain ⟨hx, hb, hr, hml, hown, hts, hX, hbl, hlocks, hgv⟩ := C0
  have hg : ∀ w ∈ flatC lt_g, w.before #[Value.ref b] s = true := flat_of_before _ hgv
  obtain ⟨A, hAd⟩ : ∃ A : Nat → Prop, A = mm_A (fun _ => none) s.heap.size := ⟨_, rfl⟩
  have hA : ∀ a : Nat, a < s.heap.size → ¬ A a := fun a ha z => by
    rw [hAd] at z
    rcases z with ⟨o, z⟩ | z
    · cases z
    · omega
  obtain ⟨D, hD⟩ := lt_kn hts
  obtain ⟨cI, hI1, hI2⟩ := lt_arr (ty := .int) (hts _ (by decide +kernel)) (fun c h => h)
  obtain ⟨cZ, hZ1, hZ2⟩ := lt_arr (ty := .boolean) (hts _ (by decide +kernel)) (fun c h => h)
  obtain ⟨cJ, hJ1, hJ2⟩ := lt_arr (ty := .long) (hts _ (by decide +kernel)) (fun c h => h)
  obtain ⟨cO, hO1, hO2⟩ := lt_obj (C := "java/lang/Object") (hts _ (by decide +kernel))
  obtain ⟨t0, t1, t2, hst⟩ := lt_st (A := A) hts hg hA
  obtain ⟨ad, hd0, hd1, hd2, hd3⟩ : ∃ ad : Nat → Nat, ad 0 = t0 ∧ ad 1 = t1 ∧ ad 2 = t2 ∧ ad 3 = b := ⟨fun k => if k = 0 then t0 else if k = 1 then t1 else if k = 2 then t2 else b, rfl, rfl, rfl, rfl⟩
  obtain ⟨ar, ha0, ha1, ha2, ha3⟩ : ∃ ar : Nat → ClassId, ar 10 = cI ∧ ar 11 = cZ ∧ ar 12 = cJ ∧ ar 13 = cO := ⟨fun k => if k = 10 then cI else if k = 11 then cZ else if k = 12 then cJ else cO, rfl, rfl, rfl, rfl⟩
  have hK : mm_K (D, ar, ad, L, xs) s := by
    refine ⟨hD, ?_, va_AO.of (hts _ (by decide +kernel)), va_Nc.of (hg _ (by decide +kernel))⟩
    intro q hq
    rcases List.mem_cons.mp hq with rfl | hq
    · show ArrOfT s (ar 10) .int ∧ va_RA s (ar 10) .int
      rw [ha0]; exact ⟨hI1, hI2⟩
    rcases List.mem_cons.mp hq with rfl | hq
    · show ArrOfT s (ar 11) .boolean ∧ va_RA s (ar 11) .boolean
      rw [ha1]; exact ⟨hZ1, hZ2⟩
    rcases List.mem_cons.mp hq with rfl | hq
    · show ArrOfT s (ar 12) .long ∧ va_RA s (ar 12) .long
      rw [ha2]; exact ⟨hJ1, hJ2⟩
    rcases List.mem_cons.mp hq with rfl | hq
    · show ArrOfT s (ar 13) (.object "java/lang/Object") ∧ va_RA s (ar 13) (.object "java/lang/Object")
      rw [ha3]; exact ⟨hO1, hO2⟩
    cases hq
  have hSx : mm_Sx (D, ar, ad, L, xs) A s s.heap := by
    refine ⟨hst ad hd0 hd1 hd2, vx_Zqof (hts _ (by decide +kernel)) (hts _ (by decide +kernel)) (hg _ (by decide +kernel)) hA, vx_Zqof (hts _ (by decide +kernel)) (hts _ (by decide +kernel)) (hg _ (by decide +kernel)) hA, ?_⟩
    show va_X (ad 3) L xs s s.heap ∧ ad 3 < s.heap.size ∧ ¬ A (ad 3)
    rw [hd3]
    exact ⟨hX, hbl, hA b hbl⟩
  have hV : mm_V (D, ar, ad, L, xs) M_Lw_law 0 [(0, .ref (ad 3))] [] (fun _ => none) (1 + (4 + (1 + (17 + (1 + 2 * 512))))) (8 + (15 + (24 + (320 + (1 + 20 * 512))))) lwq_1 := lw_start (G := (D, ar, ad, L, xs)) (h := fun _ => none) (show L < 5 * 512 + 5 by omega)
  rw [hd3] at hV
  have h9 := hV p l e room_1 s m #[Value.ref b] below meth c s.heap [] 0 0 A _ ⟨hx, hb, hr, hlocks, hml, hown, fun w hw => hts w (List.mem_filter.mp hw).1, hnm, htab, hl, Nat.le_of_ble_eq_true rfl, Nat.le_of_ble_eq_true rfl, hK, hSx, fun q hq => by rw [hAd]; exact Or.inr hq⟩ ⟨(fun a o z => by cases z), va_S.rf, (fun a o z => by cases z)⟩ (Nat.le_of_ble_eq_true rfl) (Nat.le_of_ble_eq_true rfl) (lv_entry [Value.ref b] (n := 7) (Nat.le_of_ble_eq_true rfl))
  rw [lg_entry_eq]
  intro T hT X
  obtain ⟨t, a1, o, b1, b2, b3⟩ := h9 T hT X
  refine ⟨t, a1, o, b1, b2, ?_⟩
  rcases b3 with ⟨⟨v, h', e1, e2, -⟩, L9, hfe, hfree⟩ | ⟨q, -, E, ce, L9, ⟨h', hq, -⟩, -⟩
  · have e3 : v = some (.int 1) := Sum.inl.inj e2
    exact ⟨by rw [e1, e3], hfe.1, hfe.2.1, State.sameButNew.weaken hfe.2.2 (fun x hx h => absurd (hfree x hx) (hA _ h)) (Nat.le_of_ble_eq_true rfl) (Nat.le_of_ble_eq_true rfl)⟩
  · cases hq
set_option maxHeartbeats 4000000 in
theorem lw_walk (l : Launch) (hl : l.stackTraces = false) (b : Addr) (xs : List Int32) : MetFree l x (headSpec (Jvm.Cond.code x code maxLocals ret :: tables_1) room_1) (lw_P b xs) (fun _ _ _ _ _ => True) lw_Q := by
  refine MetFree.of_bodyS (code := code) (maxLocals := maxLocals) (ret := ret) (by decide) ?_ ?_
  · intro args s m h hn
    obtain ⟨meth, c, h1, h2, h3, h4, h5, h6, -, -⟩ := Cond.code_spec hn (atoms_spec (ws := Jvm.Cond.code x code maxLocals ret :: tables_1) h _ List.mem_cons_self)
    exact ⟨meth, c, h1, h2, h3, h4, h5, h6⟩
  · intro p e s m args below meth c s₁ B hml0 hP _
    obtain ⟨rfl, hx, hbd, hgv⟩ := hP
    obtain ⟨scr, harrAt, hlist, hof, hsmall⟩ := hx
    obtain ⟨hcb, hkn, -, -⟩ := State.arrayAt?_spec harrAt
    have hown : s.vm.findClass R_law = some m.cls := findClass_of_methodNamed B.named
    have hts0 : ∀ c ∈ (Jvm.Cond.code x code maxLocals ret :: tables_1), c.before #[Value.ref b] s = true := atoms_spec (ws := Jvm.Cond.code x code maxLocals ret :: tables_1) B.pre
    have hts : ∀ w ∈ lw_tbl, w.before #[Value.ref b] s = true := k2_hts_sels lw_privs (fun w hw => hts0 w (List.mem_cons_of_mem _ hw)) lw_privs_ok
    have hml : c.maxLocals = 7 := B.maxLocals_eq (hts0 _ List.mem_cons_self)
    have X₀ : Stand p l e room_1 s m #[Value.ref b] below meth c s₁ [] 0 0 := Stand.of_body B
    have hh0 : s₁.heap = s.heap := by rw [B.state]; rfl
    have htab : c.exceptionTable.toList = [] := by
      obtain ⟨meth9, c9, h1, h2, -, -, -, -, h7, -⟩ := Cond.code_spec B.named (hts0 _ List.mem_cons_self)
      cases Option.some.inj (h1.symm.trans B.method)
      cases Option.some.inj (h2.symm.trans X₀.code)
      rw [Array.isEmpty_iff.mp h7]
    have hsz : scr.slots.size = xs.length := by rw [← Array.length_toList, hlist, List.length_map]
    have hval : ∀ j : Nat, j < xs.length → scr.slots[j]? = some (.int (xs.getD j 0)) := fun j hj => by
      rw [← Array.getElem?_toList, hlist]
      simp [hj]
    have hbl : b < s.heap.size := (Array.getElem?_eq_some_iff.mp hcb).1
    have hX : va_X b xs.length (fun j => xs.getD j 0) s s.heap := ⟨scr, hcb, hof, hkn, hsz, hval⟩
    have K : W p l e room_1 s m #[Value.ref b] below meth c s₁.heap [] 0 0 (lw_Z below #[Value.ref b] s) (entryFrame m ([Value.ref b] : List Value).toArray 7) := by
      rw [hh0]
      exact whole_start l hl hbd (name_of_methodNamed B.named B.method).1 htab ⟨B.exec, B.bytes, B.returns, hml, hown, hts, hX, hbl, B.notSynchronized, hgv⟩
    obtain ⟨t, a1, o, b1, b2, b3⟩ := K s₁ rfl X₀
    exact ⟨t, o, a1, b1, b2, b3⟩
theorem lw_pre_spec {args : Array Value} {s : State} (h : (Jvm.Cond.and given_1 narrow_1).before args s = true) (hr : rest_1_c.before args s = true) : ∃ (b : Addr) (xs : List Int32), lw_P b xs args s := by
  have hs := flat_of_before _ h
  have hq := flat_of_before _ hr
  have hc : (Cond.count 1).before args s = true := hs _ (by decide +kernel)
  have harr : (Cond.arrayOf (.arg 0) .int).before args s = true := hs _ (by decide +kernel)
  have hle : (Cond.le (.length (.arg 0)) (.int 2560)).before args s = true := hs _ (by decide +kernel)
  have hlen : (Cond.isInt (.length (.arg 0))).before args s = true := hq _ (by decide +kernel)
  have hall : (Cond.all (.arg 0) (.isInt (.elem (.arg 0) (.index 0)))).before args s = true := hq _ (by decide +kernel)
  obtain ⟨b, xs, hb, hx⟩ := State.ints_of_pre rfl harr hlen hall
  have hsm : xs.length < 2 ^ 31 := hx.choose_spec.2.2.2
  have hev : (Term.length (.arg 0)).eval args s none [] s = some (.int xs.length.toInt32) := hx.length_eval hb
  have hv := Cond.le_ints hev (show (Term.int 2560).eval args s none [] s = some (.int 2560) from rfl)
  have hd : xs.length.toInt32 ≤ 2560 := by
    simpa [Cond.before, Cond.holds, hv] using hle
  have hN : xs.length ≤ 2560 := (Int32.ofNat_le_ofNat hsm (by decide)).mp (show Int32.ofNat xs.length ≤ Int32.ofNat 2560 from hd)
  exact ⟨b, xs, Cond.one_arg hc (show args[0]? = some (.ref b) from hb), hx, hN, h⟩
theorem lw_comes (l : Launch) (hl : l.stackTraces = false) : Comes l x (Jvm.Cond.code x code maxLocals ret :: tables_1) room_1 (fun tb e args s => Calls_1 tb e args s ∧ rest_1 tb e args s ∧ Pre_1 tb e args s)
    (fun _ _ args s o t => lw_Q args s o t) := by
  intro p e ha hc hk s m args below hf hfit hheap happ hpre
  obtain ⟨b, xs, hP⟩ := lw_pre_spec hpre.2.2 hpre.2.1
  obtain ⟨k, o, h1, h2, h3, hQ⟩ := lw_walk l hl b xs p e ha hc hk s m args below hf ((Spec.applies_iff_loose hf).mp happ).1 hP trivial
  exact ⟨k, o, h1, h2, h3, hQ⟩
theorem lw_frame {s t : State} {o : Outcome} {args : Array Value} (h : Framed s o t [] 601024 7293034) :
    Framed s o t (fieldLocs frame_1_writes args s ++ arrayLocs frame_1_arrays args s ++ staticLocs frame_1_statics s) 601024 7293034 := h
theorem lw_limb (L : Cond) (hL : ∀ (args : Array Value) (s t : State), L.after args s (.returned (some (.int 1))) t = true) :
    ArmFor flags0 classFile x code maxLocals ret World_1 tables_1 room_1 Calls_1 rest_1 Pre_1
      (fun tb e a s o t => postC L tb e a s o t ∧ Framed s o t (fieldLocs frame_1_writes a s ++ arrayLocs frame_1_arrays a s ++ staticLocs frame_1_statics s) 601024 7293034) := by
  intro l hfl _ _ p e ha hc hk s m args below hf hfit hheap happ hpre
  have hl : l.stackTraces = false := by unfold Launch.stackTraces; rw [hfl]; decide
  obtain ⟨k, o, h1, h2, h3, rfl, hF⟩ := lw_comes l hl p e ha hc hk s m args below hf hfit hheap happ hpre
  exact ⟨k, _, h1, h2, h3, hL args s _, lw_frame hF⟩
theorem i_vc : Claimed_1_1 ∧ Claimed_1_2 := ⟨lw_limb limb_1_1 (fun args s t => by simp [limb_1_1, Cond.after, Cond.holds, Cond.value]), lw_limb limb_1_2 (fun args s t => Cond.after_iff.mpr (by
  first | (rw [show limb_1_2 = Cond.eq .result (.int 1) from rfl, Cond.eq_ints (x := 1) (y := 1) rfl rfl]; simp; done) | (simp [limb_1_2, Cond.value, Term.eval]; done)))⟩
