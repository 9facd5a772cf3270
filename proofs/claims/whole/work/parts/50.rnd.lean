/-! rounds and test on both sides -/
theorem up_congr_lt {α : Type} {f g : Nat → α → α} {m : Nat} (h : ∀ i a, i < m → f i a = g i a) : ∀ (n i : Nat) (a : α), i + n ≤ m → up f n i a = up g n i a := by
  intro n
  induction n with
  | zero => intro i a _; rfl
  | succ n ih =>
    intro i a hi
    show up f n (i + 1) (f i a) = up g n (i + 1) (g i a)
    rw [h i a (by omega)]
    exact ih _ _ (by omega)
section RND
variable {S : cS} {t : mS} {nd : Nat}
theorem RelU_18 (h : RelU nd S t) (k : Nat) (x : Int32) : RelU nd S (m_s t 18 k x) := by
  obtain ⟨⟨g, ⟨p, hp, q1, q2, r⟩, q3⟩, h2, h3, h4⟩ := h
  refine ⟨⟨RG_keep g (fun n hn => m_s_ne _ _ _ (fun e => by rw [e] at hn; exact absurd hn (by decide))) rfl rfl rfl rfl (fun _ _ _ => rfl), ⟨p, hp, q1, q2, fun d hd => ?_⟩, q3⟩, h2, h3, h4⟩
  exact rD_blk (blk_of (n := 18) (fun m hm => m_s_ne _ _ _ hm) (by decide) (fun e => absurd e (by decide)) (fun e => absurd e (by decide)) (fun e => absurd e (by decide)) (fun e => absurd e (by decide)) (fun e => absurd e (by decide))) (r d hd)
theorem RelU_N6 {S' : cS} (h : RelU nd S t) (h1 : S'.1 = S.1) (hR : c_R S' = c_R S) (hD : c_D S' = c_D S) (hZ : c_Z S' = c_Z S) (hN : ∀ j f, f ≠ 6 → c_N S' j f = c_N S j f) : RelU nd S' t := by
  obtain ⟨⟨g, ⟨p, hp, q1, q2, r⟩, q3⟩, h2, h3, h4⟩ := h
  have hnd : c_nd S' = c_nd S := congrArg Prod.fst h1
  refine ⟨⟨RG_keep g (fun _ _ => rfl) rfl rfl h1 hR hN, ⟨p, hp, by rw [hZ]; exact q1, q2, fun d hd => ?_⟩, by rw [hZ]; exact q3⟩, by rw [hZ]; exact h2, h3, hnd.trans h4⟩
  rw [hD]; exact r d (by rw [← hnd]; exact hd)
theorem fix_place {S S' : cS} (hf : c_fix S S') (o : Nat) : ∀ (n : Nat) (a : Int32), c_place S' o n a = c_place S o n a := by
  intro n
  induction n with
  | zero => intro a; rfl
  | succ n ih =>
    intro a
    unfold c_place
    split
    · rfl
    · rw [hf.2.2.1 n 2 (by omega)]; exact ih _
theorem fix_pat {S S' : cS} (hf : c_fix S S') (r : Int32) : c_pat S' r = c_pat S r := by
  unfold c_pat
  rw [show c_nn S' = c_nn S from congrArg Prod.snd hf.1, show c_nd S' = c_nd S from congrArg Prod.fst hf.1]
  exact up_congr (fun i a => by rw [hf.2.1, hf.2.2.2 i 1 (by decide), fix_place hf]) _ _ _
/-- where net j's receiver stands -/
def posT (cl : Nat → Nat) (nd : Nat) (S : cS) (j : Nat) : Nat := pos cl nd (c_R S j).2.1 (c_N S j 3).toNatClampNeg
/-- in a round, behind i bits: what the row holds, what the reference has seen -/
def HI (nd : Nat) (S0 : cS) (cl : Nat → Nat) (p : Int32) (r : Nat) (takes : Int32) (S : cS) (t : mS) (i : Nat) : Prop :=
  RelU nd S t ∧ c_fix S0 S ∧ m_cl t = cl ∧ (∀ k, i ≤ k → k < 32 → bt (c_Z S 1 0) k = bt p k) ∧ (∀ j, j < c_nn S0 → c_N S j 6 = c_N S0 j 6) ∧
  ∀ j, j < c_nn S0 → t 18 j = if ¬ takes = 0 ∧ posT cl nd S0 j < i then c_N S0 j 6 ||| b01 (bt (c_Z S 1 0) (posT cl nd S0 j)) <<< (nI r &&& 31) else c_N S0 j 6
theorem HI_step {S0 : cS} {cl : Nat → Nat} {p : Int32} {r : Nat} {takes : Int32} {d c : Nat} (hr : r < 32) (hp : c_pat S0 (nI r) = p) (hd : d < nd) (hc : c < cl d) (h : HI nd S0 cl p r takes S t (pos cl nd d c)) :
    HI nd S0 cl p r takes (c_scb S (if pos cl nd d c + 1 = tot cl nd then 1 else 0) (pos cl nd d c)) (m_rc nd (nI r) takes d c t) (pos cl nd d c + 1) := by
  obtain ⟨h1, h2, h3, h4, h5, h6⟩ := h
  subst h3
  have hTR := h1.1
  have hnd := h1.2.2.2
  have hnn : c_nn S = c_nn S0 := congrArg Prod.snd h2.1
  have hc6 := TR_c6 hTR
  have ht24 := tot24 hTR
  rw [hnd] at hc6 ht24
  have h8 := hTR.1.2.1
  obtain ⟨i, hi⟩ : ∃ i, i = pos (m_cl t) nd d c := ⟨_, rfl⟩
  have hi24 : i < 24 := by have := pos_lt hd hc; omega
  have htt : i + 1 = tot (m_cl t) nd ↔ d = 0 ∧ c + 1 = m_cl t 0 := by
    have e1 := tot_mono (cl := m_cl t) (show d + 1 ≤ nd by omega)
    have e2 : tot (m_cl t) (d + 1) = tot (m_cl t) d + m_cl t d := rfl
    unfold pos at hi
    constructor
    · intro z
      have hd0 : d = 0 := by
        by_cases y : d = 0
        · exact y
        · have e3 := tot_mono (cl := m_cl t) (show 1 ≤ d by omega)
          have e4 : tot (m_cl t) 1 = 0 + m_cl t 0 := rfl
          have := (hc6 0 (by omega)).1
          omega
      subst hd0
      have e4 : tot (m_cl t) 0 = 0 := rfl
      exact ⟨rfl, by omega⟩
    · rintro ⟨rfl, z⟩
      have e4 : tot (m_cl t) 0 = 0 := rfl
      omega
  have hrt : (if i + 1 = tot (m_cl t) nd then (1 : Int32) else 0) = m_rt t d c := by
    unfold m_rt
    by_cases e : d = 0 ∧ c + 1 = m_cl t 0
    · rw [if_pos (htt.mpr e), if_pos e]
    · rw [if_neg (fun z => e (htt.mp z)), if_neg e]
  have hrb : m_rbit t (nI r) (6 * d + c) = b01 (bt p i) := by
    rw [hi, ← hp, ← fix_pat h2, ← hnd]
    exact rbit_pat hTR hr (by rw [hnd]; exact hd) hc
  rw [← hi] at h4 h6 ⊢
  rw [hrt]
  have i32 : i / 32 = 0 := by omega
  have im : i % 32 = i := by omega
  have hq : bt (c_Z S 1 (i / 32)) (i % 32) = bt p i := by rw [i32, im]; exact h4 i (Nat.le_refl _) (by omega)
  obtain ⟨g1, a, g2, g3⟩ := RelU_scb h1 (m_rt t d c) i hq
  rw [i32] at g3
  have hfx : c_fix S (c_scb S (m_rt t d c) i) := fix_tr (fix_stp S _ _) (fix_sZ _ _ _ _)
  have hN6 : ∀ j, c_N (c_scb S (m_rt t d c) i) j = c_N S j := fun j => congrFun (stp_keep S (m_rt t d c) (c_din S i)).2.2 j
  generalize c_scb S (m_rt t d c) i = S1 at g1 g3 hfx hN6 ⊢
  have zb : ∀ k, k < 32 → bt (c_Z S1 1 0) k = if k = i then a else bt (c_Z S 1 0) k := fun k hk => by rw [g3, pk_us, wrd_b hk, im]
  unfold m_rc
  rw [hrb, g2]
  have hs := same_tick nd (m_rt t d c) (b01 (bt p i)) t
  have e13 : m_tk nd (m_rt t d c) (b01 (bt p i)) t 18 = t 18 := hs.1 18 (by decide)
  have e4 : m_tk nd (m_rt t d c) (b01 (bt p i)) t 4 = t 4 := hs.1 4 (by decide)
  generalize m_tk nd (m_rt t d c) (b01 (bt p i)) t = t1 at g1 e13 e4 ⊢
  have hcl1 : m_cl t1 = m_cl t := by unfold m_cl; rw [e4]
  have hTo : ∀ j, j < c_nn S0 → posT (m_cl t) nd S0 j < 24 ∧ (posT (m_cl t) nd S0 j = i → t 13 (6 * d + c) = nI j ∧ t 10 (6 * d + c) = 0) := fun j hj => by
    obtain ⟨a', b', q1, q2, q3, q4, q5, q6, q7, q8, q9, q10, q11⟩ := (hTR.1.2.2.2.2.1 j (by rw [hnn]; exact hj)).1
    rw [hnd] at q4
    have hb6 := (hc6 _ q4).2
    have hpt : posT (m_cl t) nd S0 j = pos (m_cl t) nd (c_R S j).2.1 b' := by
      unfold posT
      rw [← h2.2.1, ← h2.2.2.2 j 3 (by decide), q6, nI_clamp (by omega)]
    rw [hpt]
    refine ⟨by have := pos_lt q4 q2; omega, fun e => ?_⟩
    rw [hi] at e
    obtain ⟨z1, z2⟩ := pos_inj q4 q2 hd hc e
    rw [z1, z2] at q9 q11
    exact ⟨q9, q11⟩
  have hback : ∀ j, j < c_nn S0 → t 13 (6 * d + c) = nI j → t 10 (6 * d + c) = 0 → posT (m_cl t) nd S0 j = i := fun j hj e13 e10 => by
    rcases hTR.1.2.2.2.2.2 d c (by rw [hnd]; exact hd) hc with z | ⟨j2, hj2, z, hw⟩
    · rw [e13] at z; exact absurd z (nI_m1 (by omega))
    · rw [e13] at z
      have : j = j2 := (nI_eq (by omega) (by omega)).mp z
      subst this
      have hc9 := (hc6 d hd).2
      rcases hw with ⟨w1, w2⟩ | ⟨w1, w2⟩
      · exfalso
        obtain ⟨a', b', q1, q2, q3, q4, q5, q6, q7, q8, q9, q10, q11⟩ := (hTR.1.2.2.2.2.1 j (by rw [hnn]; exact hj)).1
        rw [hnd] at q3
        have := (hc6 _ q3).2
        have ea : a' = c := (nI_eq (by omega) (by omega)).mp (q5.symm.trans w2)
        rw [← w1, ea] at q10
        exact q10 e10
      · unfold posT
        rw [← h2.2.1, ← h2.2.2.2 j 3 (by decide), w2, nI_clamp (by omega), ← w1, hi]
  have hbits : ∀ k, i + 1 ≤ k → k < 32 → bt (c_Z S1 1 0) k = bt p k := fun k hk hk2 => by
    rw [zb k hk2, if_neg (by omega)]; exact h4 k (by omega) hk2
  -- the seen bits, where nothing is taken at this cell
  have keep : (∀ j, j < c_nn S0 → ¬ takes = 0 → posT (m_cl t) nd S0 j ≠ i) → ∀ j, j < c_nn S0 → t1 18 j = if ¬ takes = 0 ∧ posT (m_cl t) nd S0 j < i + 1 then c_N S0 j 6 ||| b01 (bt (c_Z S1 1 0) (posT (m_cl t) nd S0 j)) <<< (nI r &&& 31) else c_N S0 j 6 := by
    intro hno j hj
    rw [e13, h6 j hj]
    by_cases e : ¬ takes = 0 ∧ posT (m_cl t) nd S0 j < i
    · rw [if_pos e, if_pos ⟨e.1, by omega⟩, zb _ (by have := (hTo j hj).1; omega), if_neg (by omega)]
    · rw [if_neg e, if_neg (fun z => e ⟨z.1, by have := hno j hj z.1; omega⟩)]
  unfold m_rs
  by_cases k0 : takes = 0
  · rw [if_pos k0]
    exact ⟨g1, fix_tr h2 hfx, hcl1, hbits, fun j hj => by rw [hN6]; exact h5 j hj, keep (fun j _ z => absurd k0 z)⟩
  · rw [if_neg k0]
    by_cases k1 : t 13 (6 * d + c) < 0
    · rw [if_pos k1]
      refine ⟨g1, fix_tr h2 hfx, hcl1, hbits, fun j hj => by rw [hN6]; exact h5 j hj, keep (fun j hj _ z => ?_)⟩
      have := ((hTo j hj).2 z).1
      rw [this] at k1
      exact nI_pos (by omega) k1
    · rw [if_neg k1]
      by_cases k2 : t 10 (6 * d + c) = 0
      · rw [if_pos k2]
        obtain ⟨j0, hj0, e0⟩ : ∃ j0, j0 < c_nn S0 ∧ t 13 (6 * d + c) = nI j0 := by
          rcases hTR.1.2.2.2.2.2 d c (by rw [hnd]; exact hd) hc with z | ⟨j2, hj2, z, -⟩
          · rw [z] at k1; exact absurd (by decide) k1
          · exact ⟨j2, by omega, z⟩
        have hcl0 : (t 13 (6 * d + c)).toNatClampNeg = j0 := by rw [e0]; exact nI_clamp (by omega)
        rw [hcl0]
        have hpj := hback j0 hj0 e0 k2
        refine ⟨RelU_18 g1 _ _, fix_tr h2 hfx, by unfold m_cl; rw [m_s_ne _ _ _ (by decide), e4], hbits, fun j hj => by rw [hN6]; exact h5 j hj, fun j hj => ?_⟩
        by_cases e : j = j0
        · rw [e, m_s_at, if_pos ⟨k0, by omega⟩, hpj, zb i (by omega), if_pos rfl, e13, h6 j0 hj0, if_neg (fun z => by omega)]
        · rw [m_s_off _ _ _ e, e13, h6 j hj]
          have hne : posT (m_cl t) nd S0 j ≠ i := fun z => by
            have := ((hTo j hj).2 z).1
            rw [e0] at this
            exact e ((nI_eq (by omega) (by omega)).mp this).symm
          by_cases e9 : ¬ takes = 0 ∧ posT (m_cl t) nd S0 j < i
          · rw [if_pos e9, if_pos ⟨e9.1, by omega⟩, zb _ (by have := (hTo j hj).1; omega), if_neg (by omega)]
          · rw [if_neg e9, if_neg (fun z => e9 ⟨z.1, by omega⟩)]
      · rw [if_neg k2]
        exact ⟨g1, fix_tr h2 hfx, hcl1, hbits, fun j hj => by rw [hN6]; exact h5 j hj, keep (fun j hj _ z => absurd ((hTo j hj).2 z).2 k2)⟩
theorem HI_dev {S0 : cS} {cl : Nat → Nat} {p : Int32} {r : Nat} {takes : Int32} {d : Nat} (hr : r < 32) (hp : c_pat S0 (nI r) = p) (hd : d < nd) : ∀ (n c : Nat) (S : cS) (t : mS), c + n = cl d → HI nd S0 cl p r takes S t (pos cl nd d c) → HI nd S0 cl p r takes (c_scl (tot cl nd) n (pos cl nd d c) S) (up (m_rc nd (nI r) takes d) n c t) (pos cl nd d c + n) := by
  intro n
  induction n with
  | zero => intro c S t _ h; exact h
  | succ n ih =>
    intro c S t hc h
    have h1 := HI_step hr hp hd (by omega) h
    have e : pos cl nd d c + 1 = pos cl nd d (c + 1) := by unfold pos; omega
    have h2 := ih (c + 1) _ _ (by omega) (e ▸ h1)
    have e2 : c_scl (tot cl nd) (n + 1) (pos cl nd d c) S = c_scl (tot cl nd) n (pos cl nd d (c + 1)) (c_scb S (if pos cl nd d c + 1 = tot cl nd then 1 else 0) (pos cl nd d c)) := by
      rw [← e]; rfl
    rw [e2, show pos cl nd d c + (n + 1) = pos cl nd d (c + 1) + n by rw [← e]; omega]
    exact h2
theorem HI_all {S0 : cS} {cl : Nat → Nat} {p : Int32} {r : Nat} {takes : Int32} (hr : r < 32) (hp : c_pat S0 (nI r) = p) : ∀ (d : Nat) (S : cS) (t : mS), d ≤ nd → HI nd S0 cl p r takes S t (tot cl nd - tot cl d) → HI nd S0 cl p r takes (c_scl (tot cl nd) (tot cl d) (tot cl nd - tot cl d) S) (m_rd nd (nI r) takes d t) (tot cl nd) := by
  intro d
  induction d with
  | zero => intro S t _ h; exact h
  | succ d ih =>
    intro S t hd h
    have e1 := tot_mono (cl := cl) (show d + 1 ≤ nd by omega)
    have e2 : tot cl (d + 1) = cl d + tot cl d := Nat.add_comm _ _
    have e3 : pos cl nd d 0 = tot cl nd - tot cl (d + 1) := rfl
    have hcl : m_cl t d = cl d := congrFun h.2.2.1 d
    have h1 := HI_dev hr hp (show d < nd by omega) (cl d) 0 S t (by omega) (e3 ▸ h)
    have h2 := ih _ _ (by omega) (show HI nd S0 cl p r takes _ _ (tot cl nd - tot cl d) from (show pos cl nd d 0 + cl d = tot cl nd - tot cl d by omega) ▸ h1)
    have e4 : c_scl (tot cl nd) (tot cl (d + 1)) (tot cl nd - tot cl (d + 1)) S = c_scl (tot cl nd) (tot cl d) (tot cl nd - tot cl d) (c_scl (tot cl nd) (cl d) (pos cl nd d 0) S) := by
      rw [e3, e2]
      unfold c_scl
      rw [up_add, show tot cl nd - (cl d + tot cl d) + cl d = tot cl nd - tot cl d by omega]
    rw [e4]
    show HI nd S0 cl p r takes _ (m_rd nd (nI r) takes d (up (m_rc nd (nI r) takes d) (m_cl t d) 0 t)) (tot cl nd)
    rw [hcl]
    exact h2
theorem half_sim (h : RelU nd S t) (hs : ∀ j, j < c_nn S → t 18 j = c_N S j 6) {r : Nat} (hr : r < 32) (takes : Int32) {p : Int32} (hp : c_pat S (nI r) = p) :
    RelU nd (c_half (tot (m_cl t) nd) p S) (m_rnd nd (nI r) takes t) ∧ c_fix S (c_half (tot (m_cl t) nd) p S) ∧ m_cl (m_rnd nd (nI r) takes t) = m_cl t ∧ (∀ j, j < c_nn S → c_N (c_half (tot (m_cl t) nd) p S) j 6 = c_N S j 6) ∧
    ∀ j, j < c_nn S → m_rnd nd (nI r) takes t 18 j = if ¬ takes = 0 then c_N S j 6 ||| b01 (bt (c_Z (c_half (tot (m_cl t) nd) p S) 1 0) (posT (m_cl t) nd S j)) <<< (nI r &&& 31) else c_N S j 6 := by
  have h0 := RelU_in (RelU_sZ h 1 0 p (by decide))
  have f0 : c_fix S (c_in3 (s_Z S 1 0 p)) := fix_tr (fix_sZ S 1 0 p) (fix_tr (fix_tr (fix_stp _ 1 0) (fix_stp _ 0 0)) (fix_stp _ 0 0))
  have z0 : c_Z (c_in3 (s_Z S 1 0 p)) 1 0 = p := by
    have e : c_Z (c_in3 (s_Z S 1 0 p)) 1 = c_Z (s_Z S 1 0 p) 1 := by
      unfold c_in3
      rw [(stp_Z _ 0 0).2.2.2.2.1, (stp_Z _ 0 0).2.2.2.2.1, (stp_Z _ 1 0).2.2.2.2.1]
    rw [e]; rfl
  have n0 : c_N (c_in3 (s_Z S 1 0 p)) = c_N S := by
    unfold c_in3
    rw [(stp_keep _ 0 0).2.2, (stp_keep _ 0 0).2.2, (stp_keep _ 1 0).2.2]; rfl
  have t18 : m_com nd t 18 = t 18 := by
    unfold m_com
    exact ((same_tick nd 0 0 _).1 18 (by decide)).trans (((same_tick nd 0 0 _).1 18 (by decide)).trans ((same_tick nd 1 0 t).1 18 (by decide)))
  have t4 : m_com nd t 4 = t 4 := by
    unfold m_com
    exact ((same_tick nd 0 0 _).1 4 (by decide)).trans (((same_tick nd 0 0 _).1 4 (by decide)).trans ((same_tick nd 1 0 t).1 4 (by decide)))
  have hsc : c_half (tot (m_cl t) nd) p S = c_lv2 (c_scl (tot (m_cl t) nd) (tot (m_cl t) nd) 0 (c_in3 (s_Z S 1 0 p))) := by unfold c_half c_scan; rw [if_pos rfl]
  have hI : HI nd S (m_cl t) p r takes (c_in3 (s_Z S 1 0 p)) (m_com nd t) (tot (m_cl t) nd - tot (m_cl t) nd) := by
    rw [Nat.sub_self]
    exact ⟨h0, f0, by unfold m_cl; rw [t4], fun k _ _ => by rw [z0], fun j _ => by rw [n0], fun j hj => by rw [if_neg (fun z => absurd z.2 (by omega)), t18]; exact hs j hj⟩
  have h1 := HI_all hr hp nd _ _ (Nat.le_refl _) hI
  rw [Nat.sub_self] at h1
  rw [hsc]
  unfold m_rnd
  have hp32 : ∀ j, j < c_nn S → posT (m_cl t) nd S j < tot (m_cl t) nd := fun j hj => by
    obtain ⟨a', b', q1, q2, q3, q4, q5, q6, q7, q8, q9, q10, q11⟩ := (h.1.1.2.2.2.2.1 j hj).1
    rw [h.2.2.2] at q4
    have := (TR_c6 h.1 _ (by rw [h.2.2.2]; exact q4)).2
    unfold posT
    rw [q6, nI_clamp (by omega)]
    exact pos_lt q4 q2
  generalize c_scl (tot (m_cl t) nd) (tot (m_cl t) nd) 0 (c_in3 (s_Z S 1 0 p)) = S3 at h1 ⊢
  generalize m_rd nd (nI r) takes nd (m_com nd t) = t3 at h1 ⊢
  obtain ⟨k1, k2, k3, k4, k5, k6⟩ := h1
  have l18 : m_lv nd t3 18 = t3 18 := by
    unfold m_lv
    exact ((same_tick nd 0 0 _).1 18 (by decide)).trans ((same_tick nd 1 0 t3).1 18 (by decide))
  have l4 : m_lv nd t3 4 = t3 4 := by
    unfold m_lv
    exact ((same_tick nd 0 0 _).1 4 (by decide)).trans ((same_tick nd 1 0 t3).1 4 (by decide))
  have ln : c_N (c_lv2 S3) = c_N S3 := by
    unfold c_lv2
    rw [(stp_keep _ 0 0).2.2, (stp_keep _ 1 0).2.2]
  refine ⟨RelU_lv k1, fix_tr k2 (fix_tr (fix_stp _ 1 0) (fix_stp _ 0 0)), by unfold m_cl at k3 ⊢; rw [l4]; exact k3, fun j hj => by rw [ln]; exact k5 j hj, fun j hj => ?_⟩
  rw [l18, k6 j hj, lv_Z]
  by_cases e : takes = 0
  · rw [if_neg (fun z => z.1 e), if_neg (fun z => z e)]
  · rw [if_pos ⟨e, hp32 j hj⟩, if_pos e]
theorem note_at {r came : Int32} : ∀ (n i : Nat) (S : cS), (∀ j, ((j < i ∨ i + n ≤ j) → c_N (up (fun j S => s_N S j (upd (c_N S j) 6 (c_N S j 6 ||| ((mm_ushr came (c_place S (c_R S j).2.1 (c_nd S) (c_N S j 3)) &&& 1) <<< (r &&& 31))))) n i S) j 6 = c_N S j 6) ∧ (i ≤ j → j < i + n → c_N (up (fun j S => s_N S j (upd (c_N S j) 6 (c_N S j 6 ||| ((mm_ushr came (c_place S (c_R S j).2.1 (c_nd S) (c_N S j 3)) &&& 1) <<< (r &&& 31))))) n i S) j 6 = c_N S j 6 ||| ((mm_ushr came (c_place S (c_R S j).2.1 (c_nd S) (c_N S j 3)) &&& 1) <<< (r &&& 31)))) ∧ c_D (up (fun j S => s_N S j (upd (c_N S j) 6 (c_N S j 6 ||| ((mm_ushr came (c_place S (c_R S j).2.1 (c_nd S) (c_N S j 3)) &&& 1) <<< (r &&& 31))))) n i S) = c_D S := by
  intro n
  induction n with
  | zero => intro i S; exact ⟨fun j => ⟨fun _ => rfl, fun h1 h2 => by omega⟩, rfl⟩
  | succ n ih =>
    intro i S
    obtain ⟨S1, hS1⟩ : ∃ S1, S1 = s_N S i (upd (c_N S i) 6 (c_N S i 6 ||| ((mm_ushr came (c_place S (c_R S i).2.1 (c_nd S) (c_N S i 3)) &&& 1) <<< (r &&& 31)))) := ⟨_, rfl⟩
    have hf : c_fix S S1 := by rw [hS1]; exact fix_sN S i _
    have hD : c_D S1 = c_D S := by rw [hS1]; rfl
    have hi6 : c_N S1 i 6 = c_N S i 6 ||| ((mm_ushr came (c_place S (c_R S i).2.1 (c_nd S) (c_N S i 3)) &&& 1) <<< (r &&& 31)) := by
      rw [hS1]
      show va_up (c_N S) i _ i 6 = _
      rw [va_up_self, pk_us]
    have ho6 : ∀ j, j ≠ i → c_N S1 j 6 = c_N S j 6 := fun j hj => by
      rw [hS1]
      show va_up (c_N S) i _ j 6 = _
      rw [va_up_ne _ _ hj]
    obtain ⟨h1, h2⟩ := ih (i + 1) S1
    show (∀ j, (_ → c_N (up _ n (i + 1) (s_N S i _)) j 6 = _) ∧ (_ → _ → c_N (up _ n (i + 1) (s_N S i _)) j 6 = _)) ∧ c_D (up _ n (i + 1) (s_N S i _)) = _
    rw [← hS1]
    refine ⟨fun j => ⟨fun hj => ?_, fun a b => ?_⟩, h2.trans hD⟩
    · rw [(h1 j).1 (by omega), ho6 j (by omega)]
    · by_cases e : j = i
      · rw [e, (h1 i).1 (by omega), hi6]
      · rw [(h1 j).2 (by omega) (by omega), ho6 j e, fix_place hf, hf.2.1, hf.2.2.2 j 3 (by decide), show c_nd S1 = c_nd S from congrArg Prod.fst hf.1]
theorem round_sim (h : RelT nd S t) {r : Nat} (hr : r < 32) : RelT nd (c_tbody (tot (m_cl t) nd) r S) (m_rnd nd (nI r) 1 (m_rnd nd (nI r) 0 t)) ∧ c_fix S (c_tbody (tot (m_cl t) nd) r S) ∧ m_cl (m_rnd nd (nI r) 1 (m_rnd nd (nI r) 0 t)) = m_cl t := by
  unfold c_tbody
  obtain ⟨p, hp⟩ : ∃ p, c_pat S (nI r) = p := ⟨_, rfl⟩
  rw [hp]
  obtain ⟨a1, a2, a3, a4, a5⟩ := half_sim h.1 h.2 hr 0 hp
  generalize c_half (tot (m_cl t) nd) p S = S1 at a1 a2 a4 a5 ⊢
  generalize m_rnd nd (nI r) 0 t = t1 at a1 a3 a5 ⊢
  have n1 : c_nn S1 = c_nn S := congrArg Prod.snd a2.1
  have s1 : ∀ j, j < c_nn S1 → t1 18 j = c_N S1 j 6 := fun j hj => by rw [a5 j (by rw [← n1]; exact hj), if_neg (fun z => z rfl), a4 j (by rw [← n1]; exact hj)]
  obtain ⟨b1, b2, b3, b4, b5⟩ := half_sim a1 s1 hr 1 ((fix_pat a2 (nI r)).trans hp)
  rw [a3] at b1 b2 b3 b4 b5
  generalize c_half (tot (m_cl t) nd) p S1 = S2 at b1 b2 b4 b5 ⊢
  generalize m_rnd nd (nI r) 1 t1 = t2 at b1 b3 b5 ⊢
  have n2 : c_nn S2 = c_nn S1 := congrArg Prod.snd b2.1
  have hnd2 := b1.2.2.2
  refine ⟨⟨?_, fun j hj => ?_⟩, fix_tr (fix_tr a2 b2) (fix_note S2 _ _), b3⟩
  · have hfn := fix_note S2 (nI r) (c_Z S2 1 0)
    exact RelU_N6 b1 hfn.1 hfn.2.1 (note_at (c_nn S2) 0 S2).2 (note_Z S2 _ _) (fun j f hf => hfn.2.2.2 j f hf)
  · have hj2 : j < c_nn S2 := by rw [← show c_nn (c_note S2 (nI r) (c_Z S2 1 0)) = c_nn S2 from congrArg Prod.snd (fix_note S2 _ _).1]; exact hj
    have hj1 : j < c_nn S1 := by rw [← n2]; exact hj2
    have e1 : c_N (c_note S2 (nI r) (c_Z S2 1 0)) j 6 = _ := ((note_at (r := nI r) (came := c_Z S2 1 0) (c_nn S2) 0 S2).1 j).2 (by omega) (by omega)
    rw [e1, b5 j hj1, if_pos (by decide), b4 j hj1]
    obtain ⟨a', b', q1, q2, q3, q4, q5, q6, q7, q8, q9, q10, q11⟩ := (b1.1.1.2.2.2.2.1 j hj2).1
    have hcl2 : m_cl t2 = m_cl t := b3
    rw [hnd2] at q4
    have hc6 := (TR_c6 b1.1 _ (by rw [hnd2]; exact q4)).2
    have hpt : posT (m_cl t) nd S1 j = pos (m_cl t) nd (c_R S2 j).2.1 b' := by
      unfold posT
      rw [← b2.2.1, ← b2.2.2.2 j 3 (by decide), q6, nI_clamp (by omega)]
    have hpl : c_place S2 (c_R S2 j).2.1 (c_nd S2) (c_N S2 j 3) = nI (posT (m_cl t) nd S1 j) := by
      rw [q6, place_tot (TR_cl b1.1) (c_nd S2) b' (by rw [hnd2]; exact q4) (Nat.le_refl _), hpt, hcl2, hnd2]
      unfold pos
      rw [Nat.add_comm]
    have h32 : posT (m_cl t) nd S1 j < 32 := by
      rw [hcl2] at q2
      have := tot24 b1.1
      rw [hcl2, hnd2] at this
      rw [hpt]
      have := pos_lt q4 q2
      omega
    rw [hpl, mu_and1 h32]
theorem tl_sim {cl : Nat → Nat} {nn : Nat} : ∀ (n r : Nat) (S : cS) (t : mS), r + n ≤ 4 → RelT nd S t → m_cl t = cl → c_nn S = nn → RelT nd (c_tl (tot cl nd) n r S) (m_tl nd nn n r t) ∧ (c_tl (tot cl nd) n r S).1 = S.1 := by
  intro n
  induction n with
  | zero => intro r S t _ h _ _; exact ⟨h, rfl⟩
  | succ n ih =>
    intro r S t hr h hc hn
    unfold c_tl m_tl
    rw [hn]
    by_cases e : 2 ^ r ≤ nn + 1
    · rw [if_pos e, if_pos e]
      obtain ⟨a1, a2, a3⟩ := round_sim h (r := r) (by omega)
      rw [hc] at a1 a2 a3
      obtain ⟨b1, b2⟩ := ih (r + 1) _ _ (by omega) a1 a3 ((congrArg Prod.snd a2.1).trans hn)
      exact ⟨b1, b2.trans a2.1⟩
    · rw [if_neg e, if_neg e]
      exact ⟨h, rfl⟩
end RND
