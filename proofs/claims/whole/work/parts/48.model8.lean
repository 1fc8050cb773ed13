theorem m_well_nI {p : Nat} (h : p < 2 ^ 31) : m_well (nI p) = 0 := by
  unfold m_well
  rw [if_pos (show (0 : Int32) ≤ nI p from nI_le (a := 0) (Nat.zero_le _) h)]
/-- what holds of the model's reader between its steps -/
def m_I (ln fu nx tk pl vl : Nat) (fa : Int32) (M : Nat → Nat → Nat) : Prop := (nx ≤ ln ∧ pl ≤ nx ∧ vl ≤ 999 ∧ tk ≤ 4 ∧ (¬ tk = 0 → pl < nx)) ∧ (M 9 2 ≤ 9 ∧ M 9 3 ≤ 6) ∧ 1 ≤ fu ∧ (¬ m_well fa = 0 → ln + 2 ≤ pl + fu)
def m_J (ln : Nat) (R : Nat × Nat × Nat × Nat × Nat × Int32) : Prop := R.2.1 ≤ ln ∧ R.2.2.2.1 ≤ R.2.1 ∧ R.2.2.2.2.1 ≤ 999 ∧ R.2.2.1 ≤ 4 ∧ (¬ R.2.2.1 = 0 → R.2.2.2.1 < R.2.1)
theorem m_skip_ge (tx : Nat → Nat) (ln : Nat) : ∀ u p, p ≤ m_skip tx ln u p
  | 0, _ => Nat.le_refl _
  | u + 1, p => by
    rw [m_skip_s]
    split
    · exact Nat.le_trans (Nat.le_succ p) (m_skip_ge tx ln u (p + 1))
    · exact Nat.le_refl _
theorem m_num_gt (tx : Nat → Nat) (ln : Nat) (htx : ∀ j, tx j < 256) (hln : ln ≤ 180) (u p : Nat) (hp : p ≤ ln) (h : ¬ jin (m_lt tx ln p) 48 57 = 0) : p < (m_num tx ln (u + 1) 0 p).2 := by
  have hd := m_lt_dig htx hln (by omega) h
  rw [m_num_s, if_neg h, if_pos (show nI 0 ≤ 99 from by decide)]
  exact (m_num_le tx ln htx hln u _ (p + 1) (by omega) (by omega)).2.2
theorem m_T_J (tx : Nat → Nat) (ln nx vl : Nat) (htx : ∀ j, tx j < 256) (hln : ln ≤ 180) (hnx : nx ≤ ln) (hvl : vl ≤ 999) : (m_T tx ln nx vl).2.2.1 ≤ (m_T tx ln nx vl).1 ∧ (¬ (m_T tx ln nx vl).2.1 = 0 → (m_T tx ln nx vl).2.2.1 < (m_T tx ln nx vl).1) ∧ nx ≤ (m_T tx ln nx vl).2.2.1 := by
  have h1 := m_skip_le tx ln hln (ln + 1) nx hnx
  have h2 := m_skip_ge tx ln (ln + 1) nx
  have h3 := m_num_le tx ln htx hln (ln + 1) 0 _ (by omega) h1
  unfold m_T m_U
  split
  · rename_i hc
    split
    · exact ⟨Nat.le_succ _, fun _ => Nat.lt_succ_self _, h2⟩
    · rename_i hd
      rw [← (m_lt_ge hln (by omega) hc).2] at hd
      exact ⟨h3.2.2, fun _ => m_num_gt tx ln htx hln ln _ h1 hd, h2⟩
  · exact ⟨Nat.le_refl _, fun z => absurd rfl z, h2⟩
theorem m_tk_J (tx : Nat → Nat) (ln b nx tk pl vl : Nat) (fa : Int32) (htx : ∀ j, tx j < 256) (hln : ln ≤ 180) (h : m_J ln (0, nx, tk, pl, vl, fa)) : m_J ln (m_tk tx ln b nx tk pl vl fa) ∧ pl ≤ (m_tk tx ln b nx tk pl vl fa).2.2.2.1 ∧ (¬ m_well (m_tk tx ln b nx tk pl vl fa).2.2.2.2.2 = 0 → nx ≤ (m_tk tx ln b nx tk pl vl fa).2.2.2.1 ∧ ¬ m_well fa = 0 ∧ ¬ nI b = 0) := by
  obtain ⟨h1, h2, h3, h4, h5⟩ := h
  simp only at h1 h2 h3 h4 h5
  have t1 := m_T_le tx ln nx vl htx hln h1 h3
  have t2 := m_T_J tx ln nx vl htx hln h1 h3
  unfold m_tk
  split
  · rename_i hc
    exact ⟨⟨h1, h2, h3, h4, h5⟩, Nat.le_refl _, fun z => absurd hc z⟩
  · rename_i hc
    split
    · exact ⟨⟨h1, h2, h3, h4, h5⟩, Nat.le_refl _, fun z => absurd (m_well_nI (p := pl) (by omega)) z⟩
    · rename_i hb
      exact ⟨⟨t1.1, t2.1, t1.2.2.2, t1.2.1, t2.2.1⟩, Nat.le_trans h2 t2.2.2, fun _ => ⟨t2.2.2, hc, hb⟩⟩
theorem m_nb_J (tx : Nat → Nat) (ln lo hi : Nat) (R : Nat × Nat × Nat × Nat × Nat × Int32) (htx : ∀ j, tx j < 256) (hln : ln ≤ 180) (h : m_J ln R) : m_J ln (m_nbR tx ln lo hi R) ∧ R.2.2.2.1 ≤ (m_nbR tx ln lo hi R).2.2.2.1 ∧ (¬ m_well (m_nbR tx ln lo hi R).2.2.2.2.2 = 0 → ¬ m_well R.2.2.2.2.2 = 0) := by
  have h0 := m_tk_J tx ln 0 R.2.1 R.2.2.1 R.2.2.2.1 R.2.2.2.2.1 R.2.2.2.2.2 htx hln h
  have h1 := m_tk_J tx ln 1 R.2.1 R.2.2.1 R.2.2.2.1 R.2.2.2.2.1 R.2.2.2.2.2 htx hln h
  unfold m_nbR m_nb
  split
  · split
    · exact ⟨h0.1, h0.2.1, fun z => (h0.2.2 z).2.1⟩
    · exact ⟨h1.1, h1.2.1, fun z => (h1.2.2 z).2.1⟩
  · exact ⟨h0.1, h0.2.1, fun z => (h0.2.2 z).2.1⟩
theorem m_tkR_J (tx : Nat → Nat) (ln b : Nat) (R : Nat × Nat × Nat × Nat × Nat × Int32) (htx : ∀ j, tx j < 256) (hln : ln ≤ 180) (h : m_J ln R) : m_J ln (m_tkR tx ln b R) ∧ R.2.2.2.1 ≤ (m_tkR tx ln b R).2.2.2.1 ∧ (¬ m_well (m_tkR tx ln b R).2.2.2.2.2 = 0 → ¬ m_well R.2.2.2.2.2 = 0) := by
  have h0 := m_tk_J tx ln b R.2.1 R.2.2.1 R.2.2.2.1 R.2.2.2.2.1 R.2.2.2.2.2 htx hln h
  exact ⟨h0.1, h0.2.1, fun z => (h0.2.2 z).2.1⟩
theorem m_fdR_J (tx : Nat → Nat) (ln nx tk pl vl : Nat) (fa : Int32) (htx : ∀ j, tx j < 256) (hln : ln ≤ 180) (h : m_J ln (0, nx, tk, pl, vl, fa)) : m_J ln (m_fdR tx ln nx tk pl vl fa) ∧ pl ≤ (m_fdR tx ln nx tk pl vl fa).2.2.2.1 ∧ (¬ m_well (m_fdR tx ln nx tk pl vl fa).2.2.2.2.2 = 0 → ¬ m_well fa = 0) := by
  have h1 := m_nb_J tx ln 0 4 (0, nx, tk, pl, vl, fa) htx hln h
  have e1 : m_nbR tx ln 0 4 (0, nx, tk, pl, vl, fa) = m_nb tx ln 0 4 nx tk pl vl fa := rfl
  rw [e1] at h1
  have h2 : ∀ b, m_J ln (m_tkR tx ln b (m_nb tx ln 0 4 nx tk pl vl fa)) ∧ pl ≤ (m_tkR tx ln b (m_nb tx ln 0 4 nx tk pl vl fa)).2.2.2.1 ∧ (¬ m_well (m_tkR tx ln b (m_nb tx ln 0 4 nx tk pl vl fa)).2.2.2.2.2 = 0 → ¬ m_well fa = 0) := by
    intro b
    have h3 := m_tkR_J tx ln b _ htx hln h1.1
    exact ⟨h3.1, Nat.le_trans h1.2.1 h3.2.1, fun z => h1.2.2 (h3.2.2 z)⟩
  unfold m_fdR
  split
  · split
    · exact h2 0
    · split
      · exact h2 0
      · exact h2 1
  · exact h2 0
theorem m_itR_J (tx : Nat → Nat) (ln wh nx tk pl vl : Nat) (fa : Int32) (htx : ∀ j, tx j < 256) (hln : ln ≤ 180) (h : m_J ln (0, nx, tk, pl, vl, fa)) : m_J ln (m_itR tx ln wh nx tk pl vl fa) ∧ pl ≤ (m_itR tx ln wh nx tk pl vl fa).2.2.2.1 ∧ (¬ m_well (m_itR tx ln wh nx tk pl vl fa).2.2.2.2.2 = 0 → ¬ m_well fa = 0) := by
  have h3 : ∀ a1 a2 b1 b2 c1 c2, m_J ln (m_nbR tx ln c1 c2 (m_nbR tx ln b1 b2 (m_nbR tx ln a1 a2 (0, nx, tk, pl, vl, fa)))) ∧ pl ≤ (m_nbR tx ln c1 c2 (m_nbR tx ln b1 b2 (m_nbR tx ln a1 a2 (0, nx, tk, pl, vl, fa)))).2.2.2.1 ∧ (¬ m_well (m_nbR tx ln c1 c2 (m_nbR tx ln b1 b2 (m_nbR tx ln a1 a2 (0, nx, tk, pl, vl, fa)))).2.2.2.2.2 = 0 → ¬ m_well fa = 0) := by
    intro a1 a2 b1 b2 c1 c2
    have k1 := m_nb_J tx ln a1 a2 _ htx hln h
    have k2 := m_nb_J tx ln b1 b2 _ htx hln k1.1
    have k3 := m_nb_J tx ln c1 c2 _ htx hln k2.1
    exact ⟨k3.1, Nat.le_trans k1.2.1 (Nat.le_trans k2.2.1 k3.2.1), fun z => k1.2.2 (k2.2.2 (k3.2.2 z))⟩
  unfold m_itR
  split
  · exact h3 _ _ _ _ _ _
  · split
    · exact h3 _ _ _ _ _ _
    · split
      · exact m_fdR_J tx ln nx tk pl vl fa htx hln h
      · have k1 := m_nb_J tx ln 0 4 _ htx hln h
        have k2 := m_nb_J tx ln 0 9 _ htx hln k1.1
        exact ⟨k2.1, Nat.le_trans k1.2.1 k2.2.1, fun z => k1.2.2 (k2.2.2 z)⟩
theorem m_may_k {tx : Nat → Nat} {ln nx tk pl vl : Nat} {fa : Int32} {M : Nat → Nat → Nat} (hvl : vl ≤ 999) (hM : M 9 2 ≤ 9 ∧ M 9 3 ≤ 6) (h : ¬ m_may M vl = 0) (hw : ¬ m_well fa = 0) : ((m_tk tx ln 1 nx tk pl vl fa).1 = 107 → M 9 2 < 9) ∧ ((m_tk tx ln 1 nx tk pl vl fa).1 = 112 → M 9 3 < 6) := by
  have e : (m_tk tx ln 1 nx tk pl vl fa).1 = vl := by
    unfold m_tk
    rw [if_neg hw, if_neg (by decide)]
  rw [e]
  refine ⟨fun z => ?_, fun z => ?_⟩
  · subst z
    unfold m_may at h
    rw [if_pos (show nI 107 = 107 from rfl)] at h
    by_cases c : M 9 2 < 9
    · exact c
    · rw [if_pos (show (9 : Int32) ≤ nI (M 9 2) from nI_le (a := 9) (by omega) (by omega))] at h
      exact absurd rfl h
  · subst z
    unfold m_may at h
    rw [if_neg (by decide), if_pos (show nI 112 = 112 from rfl)] at h
    by_cases c : M 9 3 < 6
    · exact c
    · rw [if_pos (show (6 : Int32) ≤ nI (M 9 3) from nI_le (a := 6) (by omega) (by omega))] at h
      exact absurd rfl h
theorem m_itM_9 (tx : Nat → Nat) (ln wh nx tk pl vl : Nat) (fa : Int32) (M : Nat → Nat → Nat) (hM : M 9 2 ≤ 9 ∧ M 9 3 ≤ 6) (h1 : wh = 107 → M 9 2 < 9) (h2 : wh = 112 → M 9 3 < 6) : m_itM tx ln wh nx tk pl vl fa M 9 2 ≤ 9 ∧ m_itM tx ln wh nx tk pl vl fa M 9 3 ≤ 6 := by
  unfold m_itM
  split
  · rename_i h
    exact ⟨h1 h, hM.2⟩
  · split
    · rename_i h
      exact ⟨hM.1, h2 h⟩
    · split <;> exact hM

theorem m_invA {tx : Nat → Nat} {ln u nx tk pl vl b2 wh : Nat} {fa : Int32} {M : Nat → Nat → Nat} (htx : ∀ j, tx j < 256) (hln : ln ≤ 180) (hi : m_I ln (u + 1) nx tk pl vl fa M) (hw : ¬ m_well fa = 0) (htk : ¬ nI tk = 0) (hm : ¬ m_may M vl = 0) (hwh : wh = (m_tk tx ln 1 nx tk pl vl fa).1) (R1 R2 R3 : Nat × Nat × Nat × Nat × Nat × Int32) (e1 : R1 = m_tk tx ln 1 nx tk pl vl fa) (e2 : R2 = m_itR tx ln wh R1.2.1 R1.2.2.1 R1.2.2.2.1 R1.2.2.2.2.1 R1.2.2.2.2.2) (e3 : R3 = m_tk tx ln b2 R2.2.1 R2.2.2.1 R2.2.2.2.1 R2.2.2.2.2.1 R2.2.2.2.2.2) : m_I ln u R3.2.1 R3.2.2.1 R3.2.2.2.1 R3.2.2.2.2.1 R3.2.2.2.2.2 (m_itM tx ln wh R1.2.1 R1.2.2.1 R1.2.2.2.1 R1.2.2.2.2.1 R1.2.2.2.2.2 M) := by
  obtain ⟨h1, h2, h3, h4⟩ := hi
  have k1 := m_tk_J tx ln 1 nx tk pl vl fa htx hln h1
  rw [← e1] at k1
  have k2 := m_itR_J tx ln wh R1.2.1 R1.2.2.1 R1.2.2.2.1 R1.2.2.2.2.1 R1.2.2.2.2.2 htx hln k1.1
  rw [← e2] at k2
  have k3 := m_tk_J tx ln b2 R2.2.1 R2.2.2.1 R2.2.2.2.1 R2.2.2.2.2.1 R2.2.2.2.2.2 htx hln k2.1
  rw [← e3] at k3
  have hmk := m_may_k (tx := tx) (ln := ln) (nx := nx) (tk := tk) (pl := pl) h1.2.2.1 h2 hm hw
  have htk0 : ¬ tk = 0 := fun z => htk (by rw [z]; rfl)
  have hlt := h1.2.2.2.2 htk0
  have hf := h4 hw
  have h1a := h1.1
  refine ⟨k3.1, m_itM_9 tx ln wh _ _ _ _ _ M h2 (fun z => hmk.1 (by rw [← hwh]; exact z)) (fun z => hmk.2 (by rw [← hwh]; exact z)), by omega, fun z => ?_⟩
  have z1 := (k1.2.2 (k2.2.2 (k3.2.2 z).2.1)).1
  have z2 := k2.2.1
  have z3 := k3.2.1
  omega
theorem m_invB {tx : Nat → Nat} {ln u nx tk pl vl b b2 : Nat} {fa : Int32} {M : Nat → Nat → Nat} (htx : ∀ j, tx j < 256) (hln : ln ≤ 180) (hi : m_I ln (u + 1) nx tk pl vl fa M) (hw : ¬ m_well fa = 0) (htk : ¬ nI tk = 0) (R1 R3 : Nat × Nat × Nat × Nat × Nat × Int32) (e1 : R1 = m_tk tx ln b nx tk pl vl fa) (hn : m_well R1.2.2.2.2.2 = 0) (e3 : R3 = m_tk tx ln b2 R1.2.1 R1.2.2.1 R1.2.2.2.1 R1.2.2.2.2.1 R1.2.2.2.2.2) : m_I ln u R3.2.1 R3.2.2.1 R3.2.2.2.1 R3.2.2.2.2.1 R3.2.2.2.2.2 M := by
  obtain ⟨h1, h2, h3, h4⟩ := hi
  have k1 := m_tk_J tx ln b nx tk pl vl fa htx hln h1
  rw [← e1] at k1
  have k3 := m_tk_J tx ln b2 R1.2.1 R1.2.2.1 R1.2.2.2.1 R1.2.2.2.2.1 R1.2.2.2.2.2 htx hln k1.1
  rw [← e3] at k3
  have htk0 : ¬ tk = 0 := fun z => htk (by rw [z]; rfl)
  have hlt := h1.2.2.2.2 htk0
  have hf := h4 hw
  have h1a := h1.1
  exact ⟨k3.1, h2, by omega, fun z => absurd hn (k3.2.2 z).2.1⟩
theorem m_itR_le (tx : Nat → Nat) (ln wh nx tk pl vl : Nat) (fa : Int32) (htx : ∀ j, tx j < 256) (hln : ln ≤ 180) (h1 : nx ≤ ln) (h2 : vl ≤ 999) : (m_itR tx ln wh nx tk pl vl fa).2.1 ≤ ln ∧ (m_itR tx ln wh nx tk pl vl fa).2.2.2.2.1 ≤ 999 := by
  have h3 : ∀ (R : Nat × Nat × Nat × Nat × Nat × Int32) (lo hi : Nat), lo ≤ hi → hi ≤ 100 → R.2.1 ≤ ln → R.2.2.2.2.1 ≤ 999 → (m_nbR tx ln lo hi R).2.1 ≤ ln ∧ (m_nbR tx ln lo hi R).2.2.2.2.1 ≤ 999 := by
    intro R lo hi a b c d
    have := m_nb_le tx ln lo hi R.2.1 R.2.2.1 R.2.2.2.1 R.2.2.2.2.1 R.2.2.2.2.2 htx hln c d a b
    exact ⟨this.1, this.2.1⟩
  have h4 : ∀ (R : Nat × Nat × Nat × Nat × Nat × Int32) (b : Nat), R.2.1 ≤ ln → R.2.2.2.2.1 ≤ 999 → (m_tkR tx ln b R).2.1 ≤ ln ∧ (m_tkR tx ln b R).2.2.2.2.1 ≤ 999 := by
    intro R b c d
    have := m_tk_le tx ln b R.2.1 R.2.2.1 R.2.2.2.1 R.2.2.2.2.1 R.2.2.2.2.2 htx hln c d
    exact ⟨this.1, this.2.1⟩
  unfold m_itR
  split
  · have a1 := h3 (0, nx, tk, pl, vl, fa) 0 1 (by decide) (by decide) h1 h2
    have a2 := h3 _ 0 4 (by decide) (by decide) a1.1 a1.2
    exact h3 _ 1 60 (by decide) (by decide) a2.1 a2.2
  · split
    · have a1 := h3 (0, nx, tk, pl, vl, fa) 1 3 (by decide) (by decide) h1 h2
      have a2 := h3 _ 0 20 (by decide) (by decide) a1.1 a1.2
      exact h3 _ 0 20 (by decide) (by decide) a2.1 a2.2
    · split
      · have a1 := m_nb_le tx ln 0 4 nx tk pl vl fa htx hln h1 h2 (by decide) (by decide)
        have a2 := fun b => h4 (m_nb tx ln 0 4 nx tk pl vl fa) b a1.1 a1.2.1
        unfold m_fdR
        split
        · split
          · exact a2 0
          · split
            · exact a2 0
            · exact a2 1
        · exact a2 0
      · have a1 := h3 (0, nx, tk, pl, vl, fa) 0 4 (by decide) (by decide) h1 h2
        exact h3 _ 0 9 (by decide) (by decide) a1.1 a1.2
