/-! a clock on both sides -/
def blk (t t' : mS) (d : Nat) : Prop := (t' 2 d = t 2 d ∧ t' 3 d = t 3 d ∧ t' 4 d = t 4 d ∧ t' 5 d = t 5 d) ∧ (∀ k, k < 4 → t' 6 (4 * d + k) = t 6 (4 * d + k)) ∧ (∀ k, k < 6 → t' 7 (6 * d + k) = t 7 (6 * d + k)) ∧ (∀ k, k < 32 → t' 8 (32 * d + k) = t 8 (32 * d + k)) ∧ t' 9 d = t 9 d ∧ (∀ k, k < 6 → t' 10 (6 * d + k) = t 10 (6 * d + k)) ∧ (∀ k, k < 6 → t' 11 (6 * d + k) = t 11 (6 * d + k)) ∧ (∀ k, k < 6 → t' 12 (6 * d + k) = t 12 (6 * d + k)) ∧ ∀ k, k < 6 → t' 13 (6 * d + k) = t 13 (6 * d + k)
theorem blk_rf (t : mS) (d : Nat) : blk t t d := ⟨⟨rfl, rfl, rfl, rfl⟩, fun _ _ => rfl, fun _ _ => rfl, fun _ _ => rfl, rfl, fun _ _ => rfl, fun _ _ => rfl, fun _ _ => rfl, fun _ _ => rfl⟩
theorem blk_tr {a b c : mS} {d : Nat} (h : blk a b d) (g : blk b c d) : blk a c d :=
  ⟨⟨g.1.1.trans h.1.1, g.1.2.1.trans h.1.2.1, g.1.2.2.1.trans h.1.2.2.1, g.1.2.2.2.trans h.1.2.2.2⟩, fun k hk => (g.2.1 k hk).trans (h.2.1 k hk), fun k hk => (g.2.2.1 k hk).trans (h.2.2.1 k hk), fun k hk => (g.2.2.2.1 k hk).trans (h.2.2.2.1 k hk), g.2.2.2.2.1.trans h.2.2.2.2.1, fun k hk => (g.2.2.2.2.2.1 k hk).trans (h.2.2.2.2.2.1 k hk), fun k hk => (g.2.2.2.2.2.2.1 k hk).trans (h.2.2.2.2.2.2.1 k hk), fun k hk => (g.2.2.2.2.2.2.2.1 k hk).trans (h.2.2.2.2.2.2.2.1 k hk), fun k hk => (g.2.2.2.2.2.2.2.2 k hk).trans (h.2.2.2.2.2.2.2.2 k hk)⟩
/-- one array differs, and not in this device's part -/
theorem blk_of {t t' : mS} {n d : Nat} (ho : ∀ m, m ≠ n → t' m = t m) (hn : n ≠ 2 ∧ n ≠ 3 ∧ n ≠ 4) (h5 : n = 5 → t' 5 d = t 5 d) (h6 : n = 6 → ∀ k, k < 4 → t' 6 (4 * d + k) = t 6 (4 * d + k)) (h8 : n = 8 → ∀ k, k < 32 → t' 8 (32 * d + k) = t 8 (32 * d + k)) (h9 : n = 9 → t' 9 d = t 9 d) (hk : n = 7 ∨ n = 10 ∨ n = 11 ∨ n = 12 ∨ n = 13 → ∀ k, k < 6 → t' n (6 * d + k) = t n (6 * d + k)) : blk t t' d := by
  have h7 : ∀ m, (m = 7 ∨ m = 10 ∨ m = 11 ∨ m = 12 ∨ m = 13) → ∀ k, k < 6 → t' m (6 * d + k) = t m (6 * d + k) := fun m hm k hk2 => by
    by_cases e : m = n
    · rw [e] at hm ⊢; exact hk hm k hk2
    · rw [ho m e]
  refine ⟨⟨by rw [ho 2 (Ne.symm hn.1)], by rw [ho 3 (Ne.symm hn.2.1)], by rw [ho 4 (Ne.symm hn.2.2)], ?_⟩, ?_, h7 7 (by decide), ?_, ?_, h7 10 (by decide), h7 11 (by decide), h7 12 (by decide), h7 13 (by decide)⟩
  · by_cases e : n = 5
    · exact h5 e
    · rw [ho 5 (Ne.symm e)]
  · by_cases e : n = 6
    · exact h6 e
    · intro k _; rw [ho 6 (Ne.symm e)]
  · by_cases e : n = 8
    · exact h8 e
    · intro k _; rw [ho 8 (Ne.symm e)]
  · by_cases e : n = 9
    · exact h9 e
    · rw [ho 9 (Ne.symm e)]
theorem reg_eq {n : Nat} {x : Int32} {z z' : Nat → Int32} (h : ∀ k, k < n → z' k = z k) : reg n x z → reg n x z' := fun r => reg_congr r h
theorem rD_blk {t t' : mS} {d : Nat} {Pp : Prop} {D : Nat → Int32} (b : blk t t' d) (r : rD Pp D t d) : rD Pp D t' d := by
  have ew : m_wd t' d = m_wd t d := by unfold m_wd; rw [b.1.1]
  have ec : m_cl t' d = m_cl t d := by unfold m_cl; rw [b.1.2.2.1]
  have h6 := r.2.2.1.2.1
  have h4 := r.2.1.2.1
  unfold rD
  rw [ew, ec, b.1.1, b.1.2.1, b.1.2.2.1, b.1.2.2.2]
  refine ⟨r.1, r.2.1, r.2.2.1, reg_congr r.2.2.2.1 (fun k hk => b.2.2.2.2.2.1 k (by omega)), fun k hk => ?_, reg_congr r.2.2.2.2.2.1 (fun k hk => b.2.1 k (by omega)), reg_congr r.2.2.2.2.2.2.1 (fun k hk => b.2.2.2.2.2.2.1 k (by omega)), r.2.2.2.2.2.2.2.1, reg_congr r.2.2.2.2.2.2.2.2.1 (fun k hk => b.2.2.2.2.2.2.2.1 k (by omega)), r.2.2.2.2.2.2.2.2.2.1, fun p => ?_⟩
  · rw [b.2.2.2.2.2.2.2.2 k (by omega)]; exact r.2.2.2.2.1 k hk
  · have h := r.2.2.2.2.2.2.2.2.2.2 p
    unfold dat at h ⊢
    rw [ec]
    split
    · rename_i e; rw [if_pos e] at h
      exact reg_congr h (fun k hk => b.2.2.1 k (by omega))
    · rename_i e; rw [if_neg e] at h
      split
      · rename_i e1; rw [if_pos e1] at h
        exact reg_congr h (fun k hk => b.2.2.2.1 k hk)
      · rename_i e1; rw [if_neg e1] at h
        refine reg_congr h (fun k hk => ?_)
        have : k = 0 := by omega
        subst this
        exact b.2.2.2.2.1
theorem rD_wk {t : mS} {d : Nat} {P1 P2 : Prop} {D : Nat → Int32} (h : P2 → P1) (r : rD P1 D t d) : rD P2 D t d :=
  ⟨r.1, r.2.1, r.2.2.1, r.2.2.2.1, r.2.2.2.2.1, r.2.2.2.2.2.1, r.2.2.2.2.2.2.1, r.2.2.2.2.2.2.2.1, r.2.2.2.2.2.2.2.2.1, r.2.2.2.2.2.2.2.2.2.1, fun p => r.2.2.2.2.2.2.2.2.2.2 (h p)⟩
theorem RG_keep {S S' : cS} {t t' : mS} (g : RG S t) (hs : ∀ n, n ∈ [4, 10, 13, 15, 16, 17] → t' n = t n) (e1 : t' 0 1 = t 0 1) (e14 : t' 0 14 = t 0 14) (h1 : S'.1 = S.1) (hR : c_R S' = c_R S) (hN : ∀ j f, f ≠ 6 → c_N S' j f = c_N S j f) : RG S' t' := by
  have hnd : c_nd S' = c_nd S := congrArg Prod.fst h1
  have hnn : c_nn S' = c_nn S := congrArg Prod.snd h1
  have a1 : ∀ j, c_N S' j 1 = c_N S j 1 := fun j => hN j 1 (by decide)
  have a3 : ∀ j, c_N S' j 3 = c_N S j 3 := fun j => hN j 3 (by decide)
  have a4 : ∀ j, c_N S' j 4 = c_N S j 4 := fun j => hN j 4 (by decide)
  unfold RG RN RF RO m_cl at *
  rw [hnd, hnn, e1, e14, hR, hs 4 (by decide), hs 10 (by decide), hs 13 (by decide), hs 15 (by decide), hs 16 (by decide), hs 17 (by decide)]
  simp only [a1, a3, a4]
  exact g
/-- one device set -/
theorem RD_set {S : cS} {t t' : mS} {P P' : Nat → Prop} {i : Nat} {D' : Nat → Int32} (r : RD P S t) (hi : rD (P' i) D' t' i) (ho : ∀ d, d ≠ i → blk t t' d) (hP : ∀ d, d ≠ i → P' d → P d) : RD P' (s_D S i D') t' := by
  intro d hd
  have hd : d < c_nd S := hd
  show rD (P' d) (va_up (c_D S) i D' d) t' d
  by_cases e : d = i
  · rw [e, va_up_self]; exact hi
  · rw [va_up_ne _ _ e]
    exact rD_wk (hP d e) (rD_blk (ho d e) (r d hd))
theorem up_set {n0 a : Nat} {g : Nat → mS → Int32} (hg : ∀ b (t t' : mS), (∀ m, m ≠ n0 → t' m = t m) → g b t' = g b t) : ∀ (N i : Nat) (t : mS), (∀ m, m ≠ n0 → up (fun b t => m_s t n0 (a + b) (g b t)) N i t m = t m) ∧ (∀ b, i ≤ b → b < i + N → up (fun b t => m_s t n0 (a + b) (g b t)) N i t n0 (a + b) = g b t) ∧ ∀ x, (x < a + i ∨ a + i + N ≤ x) → up (fun b t => m_s t n0 (a + b) (g b t)) N i t n0 x = t n0 x := by
  intro N
  induction N with
  | zero => intro i t; exact ⟨fun _ _ => rfl, fun b h1 h2 => by omega, fun _ _ => rfl⟩
  | succ N ih =>
    intro i t
    obtain ⟨h1, h2, h3⟩ := ih (i + 1) (m_s t n0 (a + i) (g i t))
    have ho : ∀ m, m ≠ n0 → m_s t n0 (a + i) (g i t) m = t m := fun m hm => m_s_ne _ _ _ hm
    refine ⟨fun m hm => (h1 m hm).trans (ho m hm), fun b hb1 hb2 => ?_, fun x hx => ?_⟩
    · by_cases e : b = i
      · show up _ N (i + 1) (m_s t n0 (a + i) (g i t)) n0 (a + b) = _
        rw [h3 (a + b) (by omega), e, m_s_at]
      · show up _ N (i + 1) (m_s t n0 (a + i) (g i t)) n0 (a + b) = _
        rw [h2 b (by omega) (by omega)]
        exact hg b _ _ ho
    · show up _ N (i + 1) (m_s t n0 (a + i) (g i t)) n0 x = _
      rw [h3 x (by omega), m_s_off _ _ _ (by omega)]
theorem m_out_congr {t t' : mS} (h5 : t' 5 = t 5) (h11 : t' 11 = t 11) (h12 : t' 12 = t 12) (c : Nat) : m_out t' c = m_out t c := by unfold m_out; rw [h5, h11, h12]
theorem m_sg_congr {t t' : mS} (h : ∀ n, n ∈ [5, 10, 11, 12, 13, 15, 16, 17] → t' n = t n) (c : Nat) : m_sg t' c = m_sg t c := by
  unfold m_sg m_val m_out m_dr m_pt m_no
  rw [h 5 (by decide), h 10 (by decide), h 11 (by decide), h 12 (by decide), h 13 (by decide), h 15 (by decide), h 16 (by decide), h 17 (by decide)]
theorem rD_9 {D D' : Nat → Int32} {t t' : mS} {d : Nat} {P1 P2 : Prop} (hD : ∀ f, f ≠ 9 → D' f = D f) (ht : ∀ m, m ≠ 7 → m ≠ 8 → m ≠ 9 → t' m = t m) (r : rD P1 D t d) (h : P2 → dat D' t' d) : rD P2 D' t' d := by
  unfold rD m_wd m_cl at *
  rw [hD 0 (by decide), hD 1 (by decide), hD 2 (by decide), hD 3 (by decide), hD 4 (by decide), hD 5 (by decide), hD 6 (by decide), hD 7 (by decide), hD 8 (by decide), ht 2 (by decide) (by decide) (by decide), ht 3 (by decide) (by decide) (by decide), ht 4 (by decide) (by decide) (by decide), ht 5 (by decide) (by decide) (by decide), ht 6 (by decide) (by decide) (by decide), ht 10 (by decide) (by decide) (by decide), ht 11 (by decide) (by decide) (by decide), ht 12 (by decide) (by decide) (by decide), ht 13 (by decide) (by decide) (by decide)]
  exact ⟨r.1, r.2.1, r.2.2.1, r.2.2.2.1, r.2.2.2.2.1, r.2.2.2.2.2.1, r.2.2.2.2.2.2.1, r.2.2.2.2.2.2.2.1, r.2.2.2.2.2.2.2.2.1, r.2.2.2.2.2.2.2.2.2.1, h⟩
theorem dat_eq {D D' : Nat → Int32} {t t' : mS} {d : Nat} (h7 : D' 7 = D 7) (h9 : D' 9 = D 9) (a4 : t' 4 = t 4) (a7 : t' 7 = t 7) (a8 : t' 8 = t 8) (a9 : t' 9 = t 9) (h : dat D t d) : dat D' t' d := by
  unfold dat m_cl at *
  rw [h7, h9, a4, a7, a8, a9]
  exact h
theorem rD_8 {D D' : Nat → Int32} {t t' : mS} {d : Nat} {P1 : Prop} (hD : ∀ f, f ≠ 8 → D' f = D f) (ht : ∀ m, m ≠ 6 → t' m = t m) (r : rD P1 D t d) (h : reg (m_wd t d) (D' 8) (fun k => t' 6 (4 * d + k))) : rD P1 D' t' d := by
  refine ⟨?_, ?_, ?_, ?_, ?_, ?_, ?_, ?_, ?_, ?_, fun p => dat_eq (hD 7 (by decide)) (hD 9 (by decide)) (ht 4 (by decide)) (ht 7 (by decide)) (ht 8 (by decide)) (ht 9 (by decide)) (r.2.2.2.2.2.2.2.2.2.2 p)⟩
  all_goals unfold rD m_wd m_cl at *
  · rw [hD 0 (by decide), hD 1 (by decide), hD 2 (by decide), hD 7 (by decide), ht 2 (by decide), ht 3 (by decide), ht 4 (by decide), ht 5 (by decide)]; exact r.1
  · rw [ht 2 (by decide)]; exact r.2.1
  · rw [ht 4 (by decide)]; exact r.2.2.1
  · rw [hD 3 (by decide), ht 4 (by decide), ht 10 (by decide)]; exact r.2.2.2.1
  · rw [hD 4 (by decide), ht 4 (by decide), ht 13 (by decide)]; exact r.2.2.2.2.1
  · rw [ht 2 (by decide)]; exact h
  · rw [hD 5 (by decide), ht 4 (by decide), ht 11 (by decide)]; exact r.2.2.2.2.2.2.1
  · rw [hD 5 (by decide), hD 3 (by decide)]; exact r.2.2.2.2.2.2.2.1
  · rw [hD 6 (by decide), ht 4 (by decide), ht 12 (by decide)]; exact r.2.2.2.2.2.2.2.2.1
  · rw [hD 6 (by decide), hD 3 (by decide)]; exact r.2.2.2.2.2.2.2.2.2.1
theorem rD_5 {D D' : Nat → Int32} {t t' : mS} {d : Nat} {P1 : Prop} (hD : ∀ f, f ≠ 5 → D' f = D f) (ht : ∀ m, m ≠ 11 → t' m = t m) (r : rD P1 D t d) (h : reg (m_cl t d) (D' 5) (fun k => t' 11 (6 * d + k))) (hs : sub (D' 5) (D 3)) : rD P1 D' t' d := by
  refine ⟨?_, ?_, ?_, ?_, ?_, ?_, ?_, ?_, ?_, ?_, fun p => dat_eq (hD 7 (by decide)) (hD 9 (by decide)) (ht 4 (by decide)) (ht 7 (by decide)) (ht 8 (by decide)) (ht 9 (by decide)) (r.2.2.2.2.2.2.2.2.2.2 p)⟩
  all_goals unfold rD m_wd m_cl at *
  · rw [hD 0 (by decide), hD 1 (by decide), hD 2 (by decide), hD 7 (by decide), ht 2 (by decide), ht 3 (by decide), ht 4 (by decide), ht 5 (by decide)]; exact r.1
  · rw [ht 2 (by decide)]; exact r.2.1
  · rw [ht 4 (by decide)]; exact r.2.2.1
  · rw [hD 3 (by decide), ht 4 (by decide), ht 10 (by decide)]; exact r.2.2.2.1
  · rw [hD 4 (by decide), ht 4 (by decide), ht 13 (by decide)]; exact r.2.2.2.2.1
  · rw [hD 8 (by decide), ht 2 (by decide), ht 6 (by decide)]; exact r.2.2.2.2.2.1
  · rw [ht 4 (by decide)]; exact h
  · rw [hD 3 (by decide)]; exact hs
  · rw [hD 6 (by decide), ht 4 (by decide), ht 12 (by decide)]; exact r.2.2.2.2.2.2.2.2.1
  · rw [hD 6 (by decide), hD 3 (by decide)]; exact r.2.2.2.2.2.2.2.2.2.1
theorem rD_7 {D D' : Nat → Int32} {t t' : mS} {d : Nat} {P1 P2 : Prop} (hD : ∀ f, f ≠ 7 → D' f = D f) (ht : ∀ m, m ≠ 5 → t' m = t m) (r : rD P1 D t d) (h : t' 5 d = D' 7) (hn : ¬ P2) : rD P2 D' t' d := by
  refine ⟨?_, ?_, ?_, ?_, ?_, ?_, ?_, ?_, ?_, ?_, fun p => absurd p hn⟩
  all_goals unfold rD m_wd m_cl at *
  · rw [hD 0 (by decide), hD 1 (by decide), hD 2 (by decide), ht 2 (by decide), ht 3 (by decide), ht 4 (by decide)]; exact ⟨r.1.1, r.1.2.1, r.1.2.2.1, h⟩
  · rw [ht 2 (by decide)]; exact r.2.1
  · rw [ht 4 (by decide)]; exact r.2.2.1
  · rw [hD 3 (by decide), ht 4 (by decide), ht 10 (by decide)]; exact r.2.2.2.1
  · rw [hD 4 (by decide), ht 4 (by decide), ht 13 (by decide)]; exact r.2.2.2.2.1
  · rw [hD 8 (by decide), ht 2 (by decide), ht 6 (by decide)]; exact r.2.2.2.2.2.1
  · rw [hD 5 (by decide), ht 4 (by decide), ht 11 (by decide)]; exact r.2.2.2.2.2.2.1
  · rw [hD 5 (by decide), hD 3 (by decide)]; exact r.2.2.2.2.2.2.2.1
  · rw [hD 6 (by decide), ht 4 (by decide), ht 12 (by decide)]; exact r.2.2.2.2.2.2.2.2.1
  · rw [hD 6 (by decide), hD 3 (by decide)]; exact r.2.2.2.2.2.2.2.2.2.1
theorem upd_ne (D : Nat → Int32) (f : Nat) (x : Int32) : ∀ g, g ≠ f → upd D f x g = D g := fun _ h => pk_un h
/-- a part of an array set: which devices see it -/
theorem blk_7 {t t' : mS} {n i d : Nat} (hn : n = 7 ∨ n = 11) (ho : ∀ m, m ≠ n → t' m = t m) (hx : ∀ x, (x < 6 * i ∨ 6 * i + 6 ≤ x) → t' n x = t n x) (hd : d ≠ i) : blk t t' d := by
  have h5 : n ≠ 5 := by omega
  have h6 : n ≠ 6 := by omega
  have h8 : n ≠ 8 := by omega
  have h9 : n ≠ 9 := by omega
  exact blk_of ho (by omega) (fun e => absurd e h5) (fun e => absurd e h6) (fun e => absurd e h8) (fun e => absurd e h9) (fun _ k hk => hx _ (by omega))
theorem blk_8 {t t' : mS} {i d : Nat} (ho : ∀ m, m ≠ 8 → t' m = t m) (hx : ∀ x, (x < 32 * i ∨ 32 * i + 32 ≤ x) → t' 8 x = t 8 x) (hd : d ≠ i) : blk t t' d :=
  blk_of ho (by decide) (fun e => absurd e (by decide)) (fun e => absurd e (by decide)) (fun _ k hk => hx _ (by omega)) (fun e => absurd e (by decide)) (fun e => absurd e (by decide))
theorem blk_6 {t t' : mS} {i d : Nat} (ho : ∀ m, m ≠ 6 → t' m = t m) (hx : ∀ x, (x < 4 * i ∨ 4 * i + 4 ≤ x) → t' 6 x = t 6 x) (hd : d ≠ i) : blk t t' d :=
  blk_of ho (by decide) (fun e => absurd e (by decide)) (fun _ k hk => hx _ (by omega)) (fun e => absurd e (by decide)) (fun e => absurd e (by decide)) (fun e => absurd e (by decide))
theorem blk_9 {t t' : mS} {i d : Nat} (ho : ∀ m, m ≠ 9 → t' m = t m) (hx : ∀ x, x ≠ i → t' 9 x = t 9 x) (hd : d ≠ i) : blk t t' d :=
  blk_of ho (by decide) (fun e => absurd e (by decide)) (fun e => absurd e (by decide)) (fun e => absurd e (by decide)) (fun _ => hx _ hd) (fun e => absurd e (by decide))
theorem blk_5 {t t' : mS} {i d : Nat} (ho : ∀ m, m ≠ 5 → t' m = t m) (hx : ∀ x, x ≠ i → t' 5 x = t 5 x) (hd : d ≠ i) : blk t t' d :=
  blk_of ho (by decide) (fun _ => hx _ hd) (fun e => absurd e (by decide)) (fun e => absurd e (by decide)) (fun e => absurd e (by decide)) (fun e => absurd e (by decide))
section SIM
variable {S : cS} {t : mS} {P : Nat → Prop} {i : Nat}
theorem step_3 (g : RG S t) (r : RD (fun d => d < i) S t) (hi : i < c_nd S) : RD (fun d => d < i + 1) (s_D S i (upd (c_D S i) 9 (dv_cap (c_D S i) (c_sig S i)))) (m_cap i t) := by
  have hr := r i hi
  have hsg := sig_reg g r hi
  have h6 := hr.2.2.1.2.1
  obtain ⟨a1, a2, a3⟩ := up_set (n0 := 8) (a := 32 * i) (g := fun b t => (t 3 i >>> (nI b &&& 31)) &&& 1) (fun b t t' h => by show (t' 3 i >>> (nI b &&& 31)) &&& 1 = (t 3 i >>> (nI b &&& 31)) &&& 1; rw [h 3 (by decide)]) 32 0 (m_s t 9 i 0)
  obtain ⟨t1, ht1⟩ : ∃ t1, t1 = m_cp8 i (m_s t 9 i 0) := ⟨_, rfl⟩
  have b1 : ∀ m, m ≠ 8 → t1 m = m_s t 9 i 0 m := fun m hm => by rw [ht1]; exact a1 m hm
  have b2 : ∀ k, k < 32 → t1 8 (32 * i + k) = b01 (bt (c_D S i 1) k) := fun k hk => by
    rw [ht1]
    refine (a2 k (by omega) (by omega)).trans ?_
    show (t 3 i >>> (nI k &&& 31)) &&& 1 = _
    rw [hr.1.2.1, sh_and1 hk]
  have b3 : ∀ x, (x < 32 * i ∨ 32 * i + 32 ≤ x) → t1 8 x = t 8 x := fun x hx => by rw [ht1]; exact a3 x (by omega)
  have hcap : m_cap i t = if t 5 i = 0 ∨ t 5 i = 2 then m_cp7 i (m_cl t i) 0 t1 else t1 := by unfold m_cap; rw [ht1]
  have hbk1 : ∀ d, d ≠ i → blk t t1 d := fun d hd => blk_tr (b := m_s t 9 i 0) (blk_9 (fun m hm => m_s_ne _ _ _ hm) (fun x hx => m_s_off _ _ _ hx) hd) (blk_8 b1 b3 hd)
  have c1 : ∀ m, m ≠ 8 → m ≠ 9 → t1 m = t m := fun m h8 h9 => (b1 m h8).trans (m_s_ne _ _ _ h9)
  have c9 : t1 9 i = 0 := by rw [b1 9 (by decide), m_s_at]
  have e5 := hr.1.2.2.2
  rw [hcap]
  by_cases h02 : t 5 i = 0 ∨ t 5 i = 2
  · rw [if_pos h02]
    obtain ⟨d1, d2, d3⟩ := up_set (n0 := 7) (a := 6 * i) (g := fun c t => m_sg t (6 * i + c)) (fun b t t' h => m_sg_congr (fun n hn => h n (fun e => by rw [e] at hn; exact absurd hn (by decide))) _) (m_cl t i) 0 t1
    refine RD_set r (rD_9 (upd_ne _ _ _) (fun m h7 h8 h9 => (d1 m h7).trans (c1 m h8 h9)) hr (fun _ => ?_)) (fun d hd => blk_tr (hbk1 d hd) (blk_7 (Or.inl rfl) d1 (fun x hx => d3 x (by omega)) hd)) (fun d hd h => by omega)
    have h02' : c_D S i 7 = 0 ∨ c_D S i 7 = 2 := by rw [← e5]; exact h02
    unfold dat dv_cap
    have u7 : upd (c_D S i) 9 (if c_D S i 7 = 0 ∨ c_D S i 7 = 2 then c_sig S i else if c_D S i 7 = 1 then c_D S i 1 else 0) 7 = c_D S i 7 := pk_un (by decide)
    rw [u7, if_pos h02', pk_us, if_pos h02']
    have ec : m_cl (m_cp7 i (m_cl t i) 0 t1) i = m_cl t i := by
      have e4 : m_cp7 i (m_cl t i) 0 t1 4 = t 4 := (d1 4 (by decide)).trans (c1 4 (by decide) (by decide))
      show (m_cp7 i (m_cl t i) 0 t1 4 i).toNatClampNeg = _
      rw [e4]; rfl
    rw [ec]
    refine reg_congr hsg (fun k hk => ?_)
    refine (d2 k (by omega) (by omega)).trans ?_
    exact m_sg_congr (fun n hn => c1 n (fun e => by rw [e] at hn; exact absurd hn (by decide)) (fun e => by rw [e] at hn; exact absurd hn (by decide))) _
  · rw [if_neg h02]
    have h02' : ¬ (c_D S i 7 = 0 ∨ c_D S i 7 = 2) := by rw [← e5]; exact h02
    refine RD_set r (rD_9 (upd_ne _ _ _) (fun m h7 h8 h9 => c1 m h8 h9) hr (fun _ => ?_)) hbk1 (fun d hd h => by omega)
    unfold dat dv_cap
    have u7 : upd (c_D S i) 9 (if c_D S i 7 = 0 ∨ c_D S i 7 = 2 then c_sig S i else if c_D S i 7 = 1 then c_D S i 1 else 0) 7 = c_D S i 7 := pk_un (by decide)
    rw [u7, if_neg h02', pk_us, if_neg h02']
    by_cases h1 : c_D S i 7 = 1
    · rw [if_pos h1, if_pos h1]
      exact ⟨fun k hk => b2 k hk, fun k hk => b_big hk⟩
    · rw [if_neg h1, if_neg h1]
      refine ⟨fun k hk => ?_, fun k hk => b_0 k⟩
      have : k = 0 := by omega
      subst this
      show t1 9 (i + 0) = _
      rw [Nat.add_zero, c9, b_0]; rfl
theorem step_8 (r : RD (fun _ => True) S t) (hi : i < c_nd S) : RD (fun _ => True) (s_D S i (upd (c_D S i) 5 (if c_D S i 7 = 0 ∨ c_D S i 7 = 2 then c_D S i 9 &&& c_D S i 3 else c_D S i 5))) (m_upd i t) := by
  have hr := r i hi
  have h6 := hr.2.2.1.2.1
  have e5 := hr.1.2.2.2
  unfold m_upd
  rw [e5]
  by_cases h02 : c_D S i 7 = 0 ∨ c_D S i 7 = 2
  · rw [if_pos h02, if_pos h02]
    obtain ⟨d1, d2, d3⟩ := up_set (n0 := 11) (a := 6 * i) (g := fun c t => if t 10 (6 * i + c) = 0 then 0 else t 7 (6 * i + c)) (fun b t t' h => by show (if t' 10 (6 * i + b) = 0 then 0 else t' 7 (6 * i + b)) = (if t 10 (6 * i + b) = 0 then 0 else t 7 (6 * i + b)); rw [h 10 (by decide), h 7 (by decide)]) (m_cl t i) 0 t
    have hdat := hr.2.2.2.2.2.2.2.2.2.2 trivial
    unfold dat at hdat
    rw [if_pos h02] at hdat
    refine RD_set r (rD_5 (upd_ne _ _ _) d1 hr ?_ ?_) (fun d hd => blk_7 (Or.inr rfl) d1 (fun x hx => d3 x (by omega)) hd) (fun _ _ h => h)
    · rw [pk_us]
      refine ⟨fun k hk => ?_, fun k hk => by rw [b_and, hdat.2 k hk, Bool.false_and]⟩
      refine (d2 k (by omega) (by omega)).trans ?_
      have e10 : t 10 (6 * i + k) = b01 (bt (c_D S i 3) k) := hr.2.2.2.1.1 k hk
      have e7 : t 7 (6 * i + k) = b01 (bt (c_D S i 9) k) := hdat.1 k hk
      rw [e10, e7, b_and]
      cases bt (c_D S i 3) k
      · rw [if_pos (by decide), Bool.and_false]; rfl
      · rw [if_neg (by decide), Bool.and_true]
    · rw [pk_us]
      intro k hk
      rw [b_and, Bool.and_eq_true] at hk
      exact hk.2
  · rw [if_neg h02, if_neg h02]
    refine RD_set r (rD_5 (upd_ne _ _ _) (fun _ _ => rfl) hr ?_ ?_) (fun d hd => blk_rf t d) (fun _ _ h => h)
    · rw [pk_us]; exact hr.2.2.2.2.2.2.1
    · rw [pk_us]; exact hr.2.2.2.2.2.2.2.1
theorem step_10 (r : RD P S t) (hi : i < c_nd S) : RD P (s_D S i (upd (c_D S i) 8 1)) (m_one i t) := by
  have hr := r i hi
  have h4 := hr.2.1
  obtain ⟨d1, d2, d3⟩ := up_set (n0 := 6) (a := 4 * i) (g := fun k _ => if k = 0 then 1 else 0) (fun b t t' h => rfl) 4 0 t
  refine RD_set r (rD_8 (upd_ne _ _ _) d1 hr ?_) (fun d hd => blk_6 d1 (fun x hx => d3 x (by omega)) hd) (fun _ _ h => h)
  rw [pk_us]
  refine ⟨fun k hk => ?_, fun k hk => by rw [b_1, decide_eq_false (by omega)]⟩
  refine (d2 k (by omega) (by omega)).trans ?_
  rw [b_1]
  by_cases e : k = 0
  · rw [if_pos e, decide_eq_true e]; rfl
  · rw [if_neg e, decide_eq_false e]; rfl
theorem step_15 (r : RD (fun _ => False) S t) (hi : i < c_nd S) : RD (fun _ => False) (s_D S i (upd (c_D S i) 7 (c_D S i 8))) (m_s t 5 i (m_num t i)) := by
  have hr := r i hi
  have h4 := hr.2.1
  have en : m_num t i = c_D S i 8 := dwn_reg (by omega) hr.2.2.2.2.2.1
  exact RD_set r (rD_7 (upd_ne _ _ _) (fun m hm => m_s_ne _ _ _ hm) hr (by rw [m_s_at, pk_us, en]) (fun h => h)) (fun d hd => blk_5 (fun m hm => m_s_ne _ _ _ hm) (fun x hx => m_s_off _ _ _ hx) hd) (fun _ _ h => h)
theorem step_11 (r : RD P S t) (hi : i < c_nd S) (q : Bool) : RD P (s_D S i (upd (c_D S i) 8 (dv_sd (c_D S i 8) (c_D S i 0) (b01 q)))) (m_sh1 0 i (b01 q, t)).2 ∧ ∃ a : Bool, (if (c_D S i 8 &&& 1) = 1 then (1 : Int32) else 0) = b01 a ∧ (m_sh1 0 i (b01 q, t)).1 = b01 a := by
  have hr := r i hi
  have h4 := hr.2.1
  have h8 := hr.2.2.2.2.2.1
  have e0 : c_D S i 0 = nI (m_wd t i) := hr.1.1.symm.trans h4.2.2
  have e : m_sh1 0 i (b01 q, t) = (t 6 (4 * i), m_w t 6 (dn (t 6) (4 * i) (m_wd t i) (b01 q))) := by unfold m_sh1; rw [if_pos rfl]
  rw [e]
  refine ⟨RD_set r (rD_8 (upd_ne _ _ _) (fun m hm => m_w_ne _ _ hm) hr ?_) (fun d hd => blk_6 (fun m hm => m_w_ne _ _ hm) (fun x hx => ?_) hd) (fun _ _ h => h), ?_⟩
  · rw [pk_us, e0]
    refine reg_congr (reg_sd (by omega) (by omega) h8 q) (fun k hk => ?_)
    show m_w t 6 _ 6 (4 * i + k) = _
    rw [m_w_self]
    exact dn_at _ _ _ _ (by omega) hk
  · show m_w t 6 _ 6 x = _
    rw [m_w_self]; exact dn_off _ _ _ _ (by omega) (by omega)
  · refine ⟨bt (c_D S i 8) 0, ?_, h8.1 0 (by omega)⟩
    rw [and_1, b01_if]
theorem step_4 (r : RD (fun _ => True) S t) (hi : i < c_nd S) (q : Bool) : RD (fun _ => True) (s_D S i (upd (c_D S i) 9 (dv_sd (c_D S i 9) (dv_len (c_D S i)) (b01 q)))) (m_sh1 1 i (b01 q, t)).2 ∧ ∃ a : Bool, (if (c_D S i 9 &&& 1) = 1 then (1 : Int32) else 0) = b01 a ∧ (m_sh1 1 i (b01 q, t)).1 = b01 a := by
  have hr := r i hi
  have h6 := hr.2.2.1
  have hdat := hr.2.2.2.2.2.2.2.2.2.2 trivial
  have e5 := hr.1.2.2.2
  have e2 : c_D S i 2 = nI (m_cl t i) := hr.1.2.2.1.symm.trans h6.2.2
  have out : ∀ z : Int32, z = b01 (bt (c_D S i 9) 0) → ∃ a : Bool, (if (c_D S i 9 &&& 1) = 1 then (1 : Int32) else 0) = b01 a ∧ z = b01 a := fun z hz => ⟨_, by rw [and_1, b01_if], hz⟩
  have u7 : ∀ x, upd (c_D S i) 9 x 7 = c_D S i 7 := fun x => pk_un (by decide)
  have e : m_sh1 1 i (b01 q, t) = if c_D S i 7 = 0 ∨ c_D S i 7 = 2 then (t 7 (6 * i), m_w t 7 (dn (t 7) (6 * i) (m_cl t i) (b01 q))) else if c_D S i 7 = 1 then (t 8 (32 * i), m_w t 8 (dn (t 8) (32 * i) 32 (b01 q))) else (t 9 i, m_w t 9 (dn (t 9) i 1 (b01 q))) := by
    unfold m_sh1
    rw [if_neg (show ¬ (1 : Int32) = 0 by decide), ← e5]
  rw [e]
  unfold dv_len
  unfold dat at hdat
  by_cases h02 : c_D S i 7 = 0 ∨ c_D S i 7 = 2
  · rw [if_pos h02] at hdat
    rw [if_pos h02, if_pos h02]
    refine ⟨RD_set r (rD_9 (upd_ne _ _ _) (fun m a b c => m_w_ne _ _ a) hr (fun _ => ?_)) (fun d hd => blk_7 (Or.inl rfl) (fun m hm => m_w_ne _ _ hm) (fun x hx => ?_) hd) (fun _ _ h => h), ?_⟩
    · unfold dat
      rw [u7, if_pos h02, pk_us, e2]
      refine reg_congr (reg_sd (by omega) (by omega) hdat q) (fun k hk => ?_)
      show m_w t 7 _ 7 (6 * i + k) = _
      rw [m_w_self]
      exact dn_at _ _ _ _ (by omega) hk
    · show m_w t 7 _ 7 x = _
      rw [m_w_self]; exact dn_off _ _ _ _ (by omega) (by omega)
    · exact out _ (hdat.1 0 (by omega))
  · rw [if_neg h02] at hdat
    rw [if_neg h02, if_neg h02]
    by_cases h1 : c_D S i 7 = 1
    · rw [if_pos h1] at hdat
      rw [if_pos h1, if_pos h1]
      refine ⟨RD_set r (rD_9 (upd_ne _ _ _) (fun m a b c => m_w_ne _ _ b) hr (fun _ => ?_)) (fun d hd => blk_8 (fun m hm => m_w_ne _ _ hm) (fun x hx => ?_) hd) (fun _ _ h => h), ?_⟩
      · unfold dat
        rw [u7, if_neg h02, if_pos h1, pk_us]
        refine reg_congr (reg_sd (n := 32) (by omega) (by omega) hdat q) (fun k hk => ?_)
        show m_w t 8 _ 8 (32 * i + k) = _
        rw [m_w_self]
        exact dn_at _ _ _ _ (by omega) hk
      · show m_w t 8 _ 8 x = _
        rw [m_w_self]; exact dn_off _ _ _ _ (by omega) (by omega)
      · exact out _ (hdat.1 0 (by omega))
    · rw [if_neg h1] at hdat
      rw [if_neg h1, if_neg h1]
      refine ⟨RD_set r (rD_9 (upd_ne _ _ _) (fun m a b c => m_w_ne _ _ c) hr (fun _ => ?_)) (fun d hd => blk_9 (fun m hm => m_w_ne _ _ hm) (fun x hx => ?_) hd) (fun _ _ h => h), ?_⟩
      · unfold dat
        rw [u7, if_neg h02, if_neg h1, pk_us]
        refine reg_congr (reg_sd (n := 1) (by omega) (by omega) hdat q) (fun k hk => ?_)
        show m_w t 9 _ 9 (i + k) = _
        rw [m_w_self]
        exact dn_at _ _ _ _ (by omega) hk
      · show m_w t 9 _ 9 x = _
        rw [m_w_self]; exact dn_off _ _ _ _ (by omega) (by omega)
      · exact out _ (hdat.1 0 (by omega))
end SIM
