/-! a device added on both sides; a new bench -/
def RU (nd : Nat) (t : mS) : Prop := ∀ x, 4 * nd ≤ x → t 6 x = 0
section DEV
variable {S : cS} {t : mS} {nd nn : Nat}
theorem sh1_RU {data : Int32} {d : Nat} {x : Int32 × mS} (hd : d < nd) (hw : 1 ≤ m_wd x.2 d ∧ m_wd x.2 d ≤ 4) (u : RU nd x.2) : RU nd (m_sh1 data d x).2 := by
  unfold m_sh1
  repeat' split
  · intro y hy
    show m_w x.2 6 (dn (x.2 6) (4 * d) (m_wd x.2 d) x.1) 6 y = 0
    rw [m_w_self, dn_off _ _ _ _ hw.1 (by omega)]
    exact u y hy
  · intro y hy; exact u y hy
  · intro y hy; exact u y hy
  · intro y hy; exact u y hy
theorem sh_RU (data : Int32) : ∀ (n i : Nat) (x : Int32 × mS), i + n = nd → m_ok nd nn x.2 → RU nd x.2 → RU nd (up (m_sh1 data) n i x).2 := by
  intro n
  induction n with
  | zero => intro i x _ _ u; exact u
  | succ n ih =>
    intro i x hi ok u
    have hw := ok.2.2.2.2.2.1 i (by omega)
    exact ih (i + 1) _ (by omega) (same_ok (same_sh1 data i x) ok) (sh1_RU (by omega) ⟨by omega, hw.2.1⟩ u)
theorem up_6 {f : Nat → mS → mS} (hf : ∀ i t, f i t 6 = t 6) : ∀ (n i : Nat) (t : mS), up f n i t 6 = t 6 := by
  intro n
  induction n with
  | zero => intro i t; rfl
  | succ n ih => intro i t; exact (ih _ _).trans (hf i t)
theorem cap_6 (d : Nat) (t : mS) : m_cap d t 6 = t 6 := by
  unfold m_cap m_cp7 m_cp8
  split
  · refine Eq.trans (up_6 ?_ _ _ _) (Eq.trans (up_6 ?_ _ _ _) ?_)
    · intro _ _; exact m_s_ne _ _ _ (by decide)
    · intro _ _; exact m_s_ne _ _ _ (by decide)
    · exact m_s_ne _ _ _ (by decide)
  · refine Eq.trans (up_6 ?_ _ _ _) ?_
    · intro _ _; exact m_s_ne _ _ _ (by decide)
    · exact m_s_ne _ _ _ (by decide)
theorem upd_6 (d : Nat) (t : mS) : m_upd d t 6 = t 6 := by
  unfold m_upd
  split
  · refine up_6 ?_ _ _ _
    intro _ _; exact m_s_ne _ _ _ (by decide)
  · rfl
theorem tk1_RU {p : Int32} {d : Nat} (hd : d < nd) (u : RU nd t) : RU nd (m_tk1 p d t) := by
  unfold m_tk1
  repeat' split
  · intro y hy; rw [cap_6]; exact u y hy
  · intro y hy; rw [upd_6]; exact u y hy
  · intro y hy; rw [m_s_ne _ _ _ (by decide)]; exact u y hy
  · intro y hy
    obtain ⟨-, -, d3⟩ := up_set (n0 := 6) (a := 4 * d) (g := fun k _ => if k = 0 then 1 else 0) (fun b t t' h => rfl) 4 0 t
    exact (d3 y (by omega)).trans (u y hy)
  · exact u
theorem tks_RU {p : Int32} : ∀ (n i : Nat) (t : mS), i + n = nd → RU nd t → RU nd (up (m_tk1 p) n i t) := by
  intro n
  induction n with
  | zero => intro i t _ u; exact u
  | succ n ih => intro i t hi u; exact ih (i + 1) _ (by omega) (tk1_RU (by omega) u)
theorem rst_6 (nd : Nat) (t : mS) : m_rst nd t 6 = t 6 := by
  refine up_6 ?_ _ _ _
  intro _ _; exact m_s_ne _ _ _ (by decide)
theorem tick_RU (ok : m_ok nd nn t) (u : RU nd t) (b x : Int32) : RU nd (m_tk nd b x t) := by
  have h1 : RU nd (m_shf nd (m_ps t) x t).2 := by
    unfold m_shf
    repeat' split
    · exact sh_RU 1 nd 0 (x, t) (by omega) ok u
    · exact sh_RU 0 nd 0 (x, t) (by omega) ok u
    · exact u
  have h2 := tks_RU (p := nI (m_ps t)) nd 0 _ (by omega) h1
  intro y hy
  show m_fin nd (m_ps t) b _ 6 y = 0
  unfold m_fin
  split
  · rw [m_s_ne _ _ _ (by decide), rst_6, m_s_ne _ _ _ (by decide)]; exact h2 y hy
  · rw [m_s_ne _ _ _ (by decide), m_s_ne _ _ _ (by decide)]; exact h2 y hy
theorem upD_at {f : (Nat → Int32) → Nat → Int32} : ∀ (n i : Nat) (S : cS) (d : Nat), c_D (up (fun i S => s_D S i (f (c_D S i))) n i S) d = if i ≤ d ∧ d < i + n then f (c_D S d) else c_D S d := by
  intro n
  induction n with
  | zero => intro i S d; rw [if_neg (by omega)]; rfl
  | succ n ih =>
    intro i S d
    show c_D (up _ n (i + 1) (s_D S i (f (c_D S i)))) d = _
    rw [ih]
    show (if _ then f (va_up (c_D S) i (f (c_D S i)) d) else va_up (c_D S) i (f (c_D S i)) d) = _
    by_cases e : d = i
    · rw [if_neg (by omega), if_pos (by omega), e, va_up_self]
    · rw [va_up_ne _ _ e]
      by_cases e2 : i + 1 ≤ d ∧ d < i + 1 + n
      · rw [if_pos e2, if_pos (by omega)]
      · rw [if_neg e2, if_neg (by omega)]
theorem dv1_at {d : Nat} {dr : Int32} : ∀ (n i : Nat) (t : mS), (∀ m, m ≠ 10 → m ≠ 13 → m_dv1 d dr n i t m = t m) ∧ (∀ k, i ≤ k → k < i + n → m_dv1 d dr n i t 10 (6 * d + k) = (if ((dr >>> (nI k &&& 31)) &&& 1) = 1 then 1 else 0) ∧ m_dv1 d dr n i t 13 (6 * d + k) = -1) ∧ ∀ x, (x < 6 * d + i ∨ 6 * d + i + n ≤ x) → m_dv1 d dr n i t 10 x = t 10 x ∧ m_dv1 d dr n i t 13 x = t 13 x := by
  intro n
  induction n with
  | zero => intro i t; exact ⟨fun _ _ _ => rfl, fun k h1 h2 => by omega, fun _ _ => ⟨rfl, rfl⟩⟩
  | succ n ih =>
    intro i t
    obtain ⟨h1, h2, h3⟩ := ih (i + 1) (m_s (m_s t 10 (6 * d + i) (if ((dr >>> (nI i &&& 31)) &&& 1) = 1 then 1 else 0)) 13 (6 * d + i) (-1))
    refine ⟨fun m a b => (h1 m a b).trans ((m_s_ne _ _ _ b).trans (m_s_ne _ _ _ a)), fun k a b => ?_, fun x hx => ?_⟩
    · by_cases e : k = i
      · obtain ⟨u, v⟩ := h3 (6 * d + k) (by omega)
        refine ⟨u.trans ?_, v.trans ?_⟩
        · rw [m_s_ne _ _ _ (by decide), e, m_s_at]
        · rw [e, m_s_at]
      · exact h2 k (by omega) (by omega)
    · obtain ⟨u, v⟩ := h3 x (by omega)
      refine ⟨u.trans ?_, v.trans ?_⟩
      · rw [m_s_ne _ _ _ (by decide), m_s_off _ _ _ (by omega)]
      · rw [m_s_off _ _ _ (by omega), m_s_ne _ _ _ (by decide)]
theorem dv2_at : ∀ (n i : Nat) (t : mS), (∀ m, m ≠ 11 → m ≠ 12 → m_dv2 n i t m = t m) ∧ (∀ k, i ≤ k → k < i + n → m_dv2 n i t 11 k = 0 ∧ m_dv2 n i t 12 k = 0) ∧ ∀ x, (x < i ∨ i + n ≤ x) → m_dv2 n i t 11 x = t 11 x ∧ m_dv2 n i t 12 x = t 12 x := by
  intro n
  induction n with
  | zero => intro i t; exact ⟨fun _ _ _ => rfl, fun k h1 h2 => by omega, fun _ _ => ⟨rfl, rfl⟩⟩
  | succ n ih =>
    intro i t
    obtain ⟨h1, h2, h3⟩ := ih (i + 1) (m_s (m_s t 11 i 0) 12 i 0)
    refine ⟨fun m a b => (h1 m a b).trans ((m_s_ne _ _ _ b).trans (m_s_ne _ _ _ a)), fun k a b => ?_, fun x hx => ?_⟩
    · by_cases e : k = i
      · obtain ⟨u, v⟩ := h3 k (by omega)
        refine ⟨u.trans ?_, v.trans ?_⟩
        · rw [m_s_ne _ _ _ (by decide), e, m_s_at]
        · rw [e, m_s_at]
      · exact h2 k (by omega) (by omega)
    · obtain ⟨u, v⟩ := h3 x (by omega)
      refine ⟨u.trans ?_, v.trans ?_⟩
      · rw [m_s_ne _ _ _ (by decide), m_s_off _ _ _ (by omega)]
      · rw [m_s_off _ _ _ (by omega), m_s_ne _ _ _ (by decide)]
theorem rst_at : ∀ (n i : Nat) (t : mS), (∀ m, m ≠ 5 → up (fun d t => m_s t 5 d 1) n i t m = t m) ∧ ∀ x, i ≤ x → x < i + n → up (fun d t => m_s t 5 d 1) n i t 5 x = 1 := by
  intro n
  induction n with
  | zero => intro i t; exact ⟨fun _ _ => rfl, fun k h1 h2 => by omega⟩
  | succ n ih =>
    intro i t
    obtain ⟨h1, h2⟩ := ih (i + 1) (m_s t 5 i 1)
    refine ⟨fun m a => (h1 m a).trans (m_s_ne _ _ _ a), fun x a b => ?_⟩
    by_cases e : x = i
    · have key : ∀ (n j : Nat) (t : mS), i < j → up (fun d t => m_s t 5 d 1) n j t 5 i = t 5 i := by
        intro n
        induction n with
        | zero => intro j t _; rfl
        | succ n ih => intro j t hj; exact (ih (j + 1) _ (by omega)).trans (m_s_off _ _ _ (by omega))
      rw [e]
      exact (key n (i + 1) _ (by omega)).trans (m_s_at _ _ _ _)
    · exact h2 x (by omega) (by omega)
theorem device_r (h : Rel S t) (hu : RU (c_nd S) t) (hn : c_nd S < 4) {wd cl : Nat} (hw : 2 ≤ wd ∧ wd ≤ 4) (hc : 1 ≤ cl ∧ cl ≤ 6) (id dr : Int32) : Rel (c_dev S (nI wd) id (nI cl) dr) (m_dev t (c_nd S) (nI wd) id cl dr) ∧ RU (c_nd S + 1) (m_dev t (c_nd S) (nI wd) id cl dr) := by
  obtain ⟨⟨g, ⟨p, hp, e1, e2, r⟩, e3⟩, h2, h3, f, h4, h5, h6, h7⟩ := h
  have g8 := g.2.1
  obtain ⟨N, hN⟩ : ∃ N, N = c_nd S := ⟨_, rfl⟩
  rw [← hN] at hu hn ⊢
  obtain ⟨t', ht'⟩ : ∃ t', t' = m_dev t N (nI wd) id cl dr := ⟨_, rfl⟩
  obtain ⟨S', hS'⟩ : ∃ S', S' = c_dev S (nI wd) id (nI cl) dr := ⟨_, rfl⟩
  -- the reference's arrays
  obtain ⟨a1, a2, a3⟩ := dv1_at (d := N) (dr := dr) cl 0 (m_dvA t N (nI wd) id cl)
  obtain ⟨b1, b2, -⟩ := dv2_at 24 0 (m_s (m_dv1 N dr cl 0 (m_dvA t N (nI wd) id cl)) 0 1 (nI (N + 1)))
  obtain ⟨c1, c2⟩ := rst_at (N + 1) 0 (m_dv2 24 0 (m_s (m_dv1 N dr cl 0 (m_dvA t N (nI wd) id cl)) 0 1 (nI (N + 1))))
  have tz : ∀ m, m ≠ 0 → t' m = m_rst (N + 1) (m_dv2 24 0 (m_s (m_dv1 N dr cl 0 (m_dvA t N (nI wd) id cl)) 0 1 (nI (N + 1)))) m := fun m hm => by
    rw [ht']; unfold m_dev
    rw [m_s_ne _ _ _ hm, m_s_ne _ _ _ hm, m_s_ne _ _ _ hm, m_s_ne _ _ _ hm]
  have tA : ∀ m, m ≠ 0 → m ≠ 5 → m ≠ 11 → m ≠ 12 → t' m = m_dv1 N dr cl 0 (m_dvA t N (nI wd) id cl) m := fun m h0 h5 h11 h12 => by
    rw [tz m h0]
    refine (c1 m h5).trans ((b1 m h11 h12).trans (m_s_ne _ _ _ h0))
  have tB : ∀ m, m ≠ 0 → m ≠ 5 → m ≠ 11 → m ≠ 12 → m ≠ 10 → m ≠ 13 → t' m = m_dvA t N (nI wd) id cl m := fun m h0 h5 h11 h12 h10 h13 => (tA m h0 h5 h11 h12).trans (a1 m h10 h13)
  have t5 : ∀ x, x < N + 1 → t' 5 x = 1 := fun x hx => by rw [tz 5 (by decide)]; exact c2 x (by omega) (by omega)
  have t11 : ∀ x, x < 24 → t' 11 x = 0 ∧ t' 12 x = 0 := fun x hx => by
    rw [tz 11 (by decide), tz 12 (by decide)]
    have u := b2 x (by omega) (by omega)
    exact ⟨(congrFun (c1 11 (by decide)) x).trans u.1, (congrFun (c1 12 (by decide)) x).trans u.2⟩
  have t10 : ∀ k, k < cl → t' 10 (6 * N + k) = b01 (bt dr k) ∧ t' 13 (6 * N + k) = -1 := fun k hk => by
    rw [tA 10 (by decide) (by decide) (by decide) (by decide), tA 13 (by decide) (by decide) (by decide) (by decide)]
    obtain ⟨u, v⟩ := a2 k (by omega) (by omega)
    exact ⟨by rw [u, sh_and1 (by omega), b01_if], v⟩
  have t10o : ∀ x, x < 6 * N → t' 10 x = t 10 x ∧ t' 13 x = t 13 x := fun x hx => by
    rw [tA 10 (by decide) (by decide) (by decide) (by decide), tA 13 (by decide) (by decide) (by decide) (by decide)]
    obtain ⟨u, v⟩ := a3 x (by omega)
    exact ⟨u, v⟩
  have tm : ∀ m, m ∈ [6, 7, 8, 9, 15, 16, 17, 18, 22] → t' m = t m := fun m hm => by
    simp only [List.mem_cons, List.not_mem_nil, or_false] at hm
    rw [tB m (by omega) (by omega) (by omega) (by omega) (by omega) (by omega)]
    unfold m_dvA
    rw [m_s_ne _ _ _ (by omega), m_s_ne _ _ _ (by omega), m_s_ne _ _ _ (by omega), m_s_ne _ _ _ (by omega)]
  have t2N : t' 2 N = nI wd ∧ t' 3 N = id ∧ t' 4 N = nI cl := by
    rw [tB 2 (by decide) (by decide) (by decide) (by decide) (by decide) (by decide), tB 3 (by decide) (by decide) (by decide) (by decide) (by decide) (by decide), tB 4 (by decide) (by decide) (by decide) (by decide) (by decide) (by decide)]
    unfold m_dvA
    refine ⟨?_, ?_, ?_⟩
    · rw [m_s_ne _ _ _ (by decide), m_s_ne _ _ _ (by decide), m_s_at]
    · rw [m_s_ne _ _ _ (by decide), m_s_at]
    · rw [m_s_at]
  have t2o : ∀ x, x ≠ N → t' 2 x = t 2 x ∧ t' 3 x = t 3 x ∧ t' 4 x = t 4 x := fun x hx => by
    rw [tB 2 (by decide) (by decide) (by decide) (by decide) (by decide) (by decide), tB 3 (by decide) (by decide) (by decide) (by decide) (by decide) (by decide), tB 4 (by decide) (by decide) (by decide) (by decide) (by decide) (by decide)]
    unfold m_dvA
    refine ⟨?_, ?_, ?_⟩
    · rw [m_s_ne _ _ _ (by decide), m_s_ne _ _ _ (by decide), m_s_off _ _ _ hx, m_s_ne _ _ _ (by decide)]
    · rw [m_s_ne _ _ _ (by decide), m_s_off _ _ _ hx, m_s_ne _ _ _ (by decide), m_s_ne _ _ _ (by decide)]
    · rw [m_s_off _ _ _ hx, m_s_ne _ _ _ (by decide), m_s_ne _ _ _ (by decide), m_s_ne _ _ _ (by decide)]
  have t0 : t' 0 1 = nI (N + 1) ∧ t' 0 14 = t 0 14 ∧ t' 0 19 = 0 ∧ t' 0 20 = 0 ∧ t' 0 21 = 0 ∧ t' 0 23 = 0 := by
    have z1 : m_rst (N + 1) (m_dv2 24 0 (m_s (m_dv1 N dr cl 0 (m_dvA t N (nI wd) id cl)) 0 1 (nI (N + 1)))) 0 = m_s (m_dv1 N dr cl 0 (m_dvA t N (nI wd) id cl)) 0 1 (nI (N + 1)) 0 := (c1 0 (by decide)).trans (b1 0 (by decide) (by decide))
    have z2 : m_dv1 N dr cl 0 (m_dvA t N (nI wd) id cl) 0 = m_dvA t N (nI wd) id cl 0 := a1 0 (by decide) (by decide)
    rw [ht']
    unfold m_dev
    refine ⟨?_, ?_, ?_, ?_, ?_, ?_⟩
    · rw [m_s_off _ _ _ (by decide), m_s_off _ _ _ (by decide), m_s_off _ _ _ (by decide), m_s_off _ _ _ (by decide), z1, m_s_at]
    · rw [m_s_off _ _ _ (by decide), m_s_off _ _ _ (by decide), m_s_off _ _ _ (by decide), m_s_off _ _ _ (by decide), z1, m_s_off _ _ _ (by decide), z2]; rfl
    · rw [m_s_off _ _ _ (by decide), m_s_off _ _ _ (by decide), m_s_off _ _ _ (by decide), m_s_at]
    · rw [m_s_off _ _ _ (by decide), m_s_off _ _ _ (by decide), m_s_at]
    · rw [m_s_off _ _ _ (by decide), m_s_at]
    · rw [m_s_at]
  -- the class's fields
  obtain ⟨S1, hS1⟩ : ∃ S1, S1 = c_devA S (dv_new (nI wd) id (nI cl) dr) := ⟨_, rfl⟩
  have n1 : c_nd S1 = N + 1 := by rw [hS1, hN]; rfl
  have hent : c_ent S1 0 = up (fun i S => s_D S i ((fun d => upd d 7 1) (c_D S i))) (N + 1) 0 (s_Z S1 0 2 0) := by
    unfold c_ent
    rw [if_pos rfl, n1]
  have hkE := upD_keep (f := fun d => upd d 7 1) (N + 1) 0 (s_Z S1 0 2 0)
  rw [← hent] at hkE
  have hkR := upD_keep (f := fun d => upd (upd d 5 0) 6 0) (c_nd S1) 0 (c_ent S1 0)
  have hSr : S' = s_Z (s_Z (s_Z (up (fun i S => s_D S i ((fun d => upd (upd d 5 0) 6 0) (c_D S i))) (c_nd S1) 0 (c_ent S1 0)) 0 3 0) 0 6 0) 0 7 0 := by rw [hS', hS1]; rfl
  have sD : ∀ d, d < N + 1 → c_D S' d = upd (upd (upd (c_D S1 d) 7 1) 5 0) 6 0 := fun d hd => by
    rw [hSr]
    show c_D (up (fun i S => s_D S i ((fun d => upd (upd d 5 0) 6 0) (c_D S i))) (c_nd S1) 0 (c_ent S1 0)) d = _
    have hE : c_D (c_ent S1 0) d = upd (c_D S1 d) 7 1 := by
      rw [hent]
      refine (upD_at (f := fun d => upd d 7 1) (N + 1) 0 (s_Z S1 0 2 0) d).trans ?_
      rw [if_pos (by omega)]; rfl
    refine (upD_at (f := fun d => upd (upd d 5 0) 6 0) (c_nd S1) 0 (c_ent S1 0) d).trans ?_
    rw [n1, if_pos (by omega), hE]
  have s1 : S'.1 = (N + 1, c_nn S) := by
    rw [hSr]
    show (up (fun i S => s_D S i ((fun d => upd (upd d 5 0) 6 0) (c_D S i))) (c_nd S1) 0 (c_ent S1 0)).1 = _
    rw [hkR.1.1, hkE.1.1, hS1, hN]; rfl
  have sR : c_R S' = c_R S := by
    rw [hSr]
    show c_R (up (fun i S => s_D S i ((fun d => upd (upd d 5 0) 6 0) (c_D S i))) (c_nd S1) 0 (c_ent S1 0)) = _
    rw [hkR.1.2.1, hkE.1.2.1, hS1]; rfl
  have sN : c_N S' = c_N S := by
    rw [hSr]
    show c_N (up (fun i S => s_D S i ((fun d => upd (upd d 5 0) 6 0) (c_D S i))) (c_nd S1) 0 (c_ent S1 0)) = _
    rw [hkR.1.2.2, hkE.1.2.2, hS1]; rfl
  have sZ : c_Z S' 0 2 = 0 ∧ c_Z S' 0 3 = 0 ∧ c_Z S' 0 6 = 0 ∧ c_Z S' 0 7 = 0 := by
    have z : c_Z (up (fun i S => s_D S i ((fun d => upd (upd d 5 0) 6 0) (c_D S i))) (c_nd S1) 0 (c_ent S1 0)) = c_Z (s_Z S1 0 2 0) := hkR.2.trans hkE.2
    rw [hSr]
    generalize up (fun i S => s_D S i ((fun d => upd (upd d 5 0) 6 0) (c_D S i))) (c_nd S1) 0 (c_ent S1 0) = U at z ⊢
    refine ⟨?_, rfl, rfl, rfl⟩
    show c_Z U 0 2 = 0
    rw [z]; rfl
  have sDo : ∀ d, d < N → c_D S1 d = c_D S d := fun d hd => by
    rw [hS1]
    show va_up (c_D S) (c_nd S) _ d = _
    rw [va_up_ne _ _ (by omega)]
  have sDn : c_D S1 N = dv_new (nI wd) id (nI cl) dr := by
    rw [hS1, hN]
    show va_up (c_D S) (c_nd S) _ (c_nd S) = _
    rw [va_up_self]
  have snd : c_nd S' = N + 1 := by
    show S'.1.1 = _
    rw [s1]
  have snn : c_nn S' = c_nn S := by
    show S'.1.2 = _
    rw [s1]
  have mcl : ∀ d, d < N → m_cl t' d = m_cl t d := fun d hd => by unfold m_cl; rw [(t2o d (by omega)).2.2]
  have mwd : ∀ d, d < N → m_wd t' d = m_wd t d := fun d hd => by unfold m_wd; rw [(t2o d (by omega)).1]
  have mclN : m_cl t' N = cl := by unfold m_cl; rw [t2N.2.2]; exact nI_clamp (by omega)
  have mwdN : m_wd t' N = wd := by unfold m_wd; rw [t2N.1]; exact nI_clamp (by omega)
  rw [← ht', ← hS']
  clear ht' hS' hSr hent hkE hkR c1 c2 b1 b2 a1 a2 a3 tz tA tB
  have zreg : ∀ (n : Nat) (z : Nat → Int32), (∀ k, k < n → z k = 0) → reg n 0 z := fun n z hz => ⟨fun k hk => by rw [hz k hk, b_0]; rfl, fun k _ => b_0 k⟩
  have zsub : ∀ y, sub 0 y := fun y k hk => by rw [b_0] at hk; cases hk
  refine ⟨⟨⟨⟨by rw [snd]; omega, by rw [snn]; exact g8, by rw [snd]; exact t0.1, by rw [snn, t0.2.1]; exact g.2.2.2.1, fun x hx => ?_, fun d k hd hk => ?_⟩, ⟨0, by decide, sZ.1, t0.2.2.1, fun d hd => ?_⟩, by rw [sZ.2.1]; exact t0.2.2.2.1⟩, fun x hx => ?_, by rw [sZ.2.2.2]; exact t0.2.2.2.2.2, 0, by omega, t0.2.2.2.2.1, sZ.2.2.1, fun k hk => by omega⟩, fun x hx => ?_⟩
  · rw [snn] at hx
    obtain ⟨⟨a, b, q1, q2, q3, q4, q5, q6, q7, q8, q9, q10, q11⟩, hf⟩ := g.2.2.2.2.1 x hx
    rw [← hN] at q3 q4
    have h6f := (r _ (by rw [← hN]; exact q3)).2.2.1.2.1
    have h6t := (r _ (by rw [← hN]; exact q4)).2.2.1.2.1
    constructor
    · refine ⟨a, b, ?_⟩
      rw [sR, sN, snd, mcl _ q3, mcl _ q4, tm 15 (by decide), (t10o (6 * (c_R S x).1 + a) (by omega)).1, (t10o (6 * (c_R S x).1 + a) (by omega)).2, (t10o (6 * (c_R S x).2.1 + b) (by omega)).1, (t10o (6 * (c_R S x).2.1 + b) (by omega)).2]
      exact ⟨q1, q2, by omega, by omega, q5, q6, q7, q8, q9, q10, q11⟩
    · unfold RF
      rw [sR, sN, snn, tm 16 (by decide), tm 17 (by decide)]
      exact hf
  · rw [snd] at hd
    by_cases e : d = N
    · rw [e, mclN] at hk
      rw [e]
      exact Or.inl (t10 k hk).2
    · have hd9 : d < N := by omega
      rw [mcl d hd9] at hk
      have h6 := (r d (by omega)).2.2.1.2.1
      rw [(t10o (6 * d + k) (by omega)).2, sR, sN, snn]
      exact g.2.2.2.2.2 d k (by omega) hk
  · rw [snd] at hd
    rw [sD d hd]
    have u0 : ∀ f, f ≠ 5 → f ≠ 6 → f ≠ 7 → upd (upd (upd (c_D S1 d) 7 1) 5 0) 6 0 f = c_D S1 d f := fun f h5 h6 h7 => by rw [pk_un h6, pk_un h5, pk_un h7]
    have u5 : upd (upd (upd (c_D S1 d) 7 1) 5 0) 6 0 5 = 0 := by rw [pk_un (by decide), pk_us]
    have u6 : upd (upd (upd (c_D S1 d) 7 1) 5 0) 6 0 6 = 0 := pk_us
    have u7 : upd (upd (upd (c_D S1 d) 7 1) 5 0) 6 0 7 = 1 := by rw [pk_un (by decide), pk_un (by decide), pk_us]
    by_cases e : d = N
    · subst e
      have hb3 : ∀ k, bt (dr &&& (1 <<< (nI cl &&& 31) - 1)) k = (bt dr k && decide (k < cl)) := fun k => by rw [b_and, b_msk hc.2]
      refine ⟨?_, ?_, ?_, ?_, ?_, ?_, ?_, ?_, ?_, ?_, fun z => absurd z.1 (by decide)⟩
      · rw [u0 0 (by decide) (by decide) (by decide), u0 1 (by decide) (by decide) (by decide), u0 2 (by decide) (by decide) (by decide), u7, sDn, t5 d hd]
        exact ⟨t2N.1, t2N.2.1, t2N.2.2, rfl⟩
      · rw [mwdN]; exact ⟨hw.1, hw.2, t2N.1⟩
      · rw [mclN]; exact ⟨hc.1, hc.2, t2N.2.2⟩
      · rw [mclN, u0 3 (by decide) (by decide) (by decide), sDn]
        show reg cl (dr &&& (1 <<< (nI cl &&& 31) - 1)) _
        refine ⟨fun k hk => ?_, fun k hk => ?_⟩
        · show t' 10 (6 * d + k) = _
          rw [(t10 k hk).1, hb3, decide_eq_true hk, Bool.and_true]
        · rw [hb3, decide_eq_false (by omega), Bool.and_false]
      · intro k hk
        rw [mclN] at hk
        rw [u0 4 (by decide) (by decide) (by decide), sDn, (t10 k hk).2]
        show bt 0 k = true ↔ _
        rw [b_0]
        exact ⟨fun z => (by cases z), fun z => absurd (show (-1 : Int32) < 0 by decide) z⟩
      · rw [mwdN, u0 8 (by decide) (by decide) (by decide), sDn]
        refine zreg _ _ (fun k hk => ?_)
        rw [tm 6 (by decide)]
        exact hu _ (by omega)
      · rw [mclN, u5]
        exact zreg _ _ (fun k hk => (t11 _ (by omega)).1)
      · rw [u5]; exact zsub _
      · rw [mclN, u6]
        exact zreg _ _ (fun k hk => (t11 _ (by omega)).2)
      · rw [u6]; exact zsub _
    · have hd9 : d < N := by omega
      have hr := r d (by omega)
      have h6 := hr.2.2.1.2.1
      rw [sDo d hd9] at u0 u5 u6 u7 ⊢
      refine ⟨?_, ?_, ?_, ?_, ?_, ?_, ?_, ?_, ?_, ?_, fun z => absurd z.1 (by decide)⟩
      · rw [u0 0 (by decide) (by decide) (by decide), u0 1 (by decide) (by decide) (by decide), u0 2 (by decide) (by decide) (by decide), u7, t5 d hd, (t2o d e).1, (t2o d e).2.1, (t2o d e).2.2]
        exact ⟨hr.1.1, hr.1.2.1, hr.1.2.2.1, rfl⟩
      · rw [mwd d hd9, (t2o d e).1]; exact hr.2.1
      · rw [mcl d hd9, (t2o d e).2.2]; exact hr.2.2.1
      · rw [mcl d hd9, u0 3 (by decide) (by decide) (by decide)]
        exact reg_congr hr.2.2.2.1 (fun k hk => (t10o _ (by omega)).1)
      · intro k hk
        rw [mcl d hd9] at hk
        rw [u0 4 (by decide) (by decide) (by decide), (t10o (6 * d + k) (by omega)).2]
        exact hr.2.2.2.2.1 k hk
      · rw [mwd d hd9, u0 8 (by decide) (by decide) (by decide), tm 6 (by decide)]
        exact hr.2.2.2.2.2.1
      · rw [mcl d hd9, u5]
        exact zreg _ _ (fun k hk => (t11 _ (by omega)).1)
      · rw [u5]; exact zsub _
      · rw [mcl d hd9, u6]
        exact zreg _ _ (fun k hk => (t11 _ (by omega)).2)
      · rw [u6]; exact zsub _
  · rw [snn] at hx
    rw [tm 18 (by decide), sN]
    exact h2 x hx
  · rw [tm 6 (by decide)]
    exact hu x (by omega)
/-- a new bench -/
theorem Rel_new : Rel c_new m_new ∧ RU 0 m_new := by
  refine ⟨⟨⟨⟨by decide, by decide, rfl, rfl, fun j hj => absurd hj (Nat.not_lt_zero _), fun d k hd => absurd hd (Nat.not_lt_zero _)⟩, ⟨0, by decide, rfl, rfl, fun d hd => absurd hd (Nat.not_lt_zero _)⟩, rfl⟩, fun j hj => absurd hj (Nat.not_lt_zero _), rfl, 0, by decide, rfl, rfl, fun k hk => absurd hk (Nat.not_lt_zero _)⟩, fun x _ => rfl⟩
end DEV
