/-! the most who can go; who would have which knee -/
theorem mLp_zero (M : Nat → Nat → Nat) : ∀ u q us, mLp M (lb_S 0) u q us = 0
  | 0, _, _ => rfl
  | u + 1, q, us => by
    rw [mLp_s, show lb_S 0 q = false from Nat.zero_testBit q, if_neg (by decide)]
    exact mLp_zero M u (q + 1) us
section MO
variable {g M : Nat → Nat → Nat} {d ho le : Nat → Nat} {lf rf : Nat → Int32}
theorem mi_at (G : gOK g) (P : pR g M) {sz : Nat} (hsz : sz ≤ 6) {o0 : Nat → Nat} {o1 o2 : Nat} : ∀ i, i ≤ 2 ^ g 0 1 →
    ((m_mi M (2 ^ g 0 0) sz 0 1000000 o0 o1 o2 i).2.1 = 1000000 ∧ (m_mi M (2 ^ g 0 0) sz 0 1000000 o0 o1 o2 i).1 = 0 ∧ ∀ j, j < i → cnt j 9 = sz → ¬ mLp M (lb_S j) (g 0 1) 0 0 < 1000000)
    ∨ ((m_mi M (2 ^ g 0 0) sz 0 1000000 o0 o1 o2 i).2.1 < 1000000 ∧ ∃ t, t < i ∧ (m_mi M (2 ^ g 0 0) sz 0 1000000 o0 o1 o2 i).1 = t + 1 ∧ cnt t 9 = sz ∧ mLp M (lb_S t) (g 0 1) 0 0 = (m_mi M (2 ^ g 0 0) sz 0 1000000 o0 o1 o2 i).2.1 ∧ ∀ j, j < i → cnt j 9 = sz → mLp M (lb_S t) (g 0 1) 0 0 < mLp M (lb_S j) (g 0 1) 0 0 ∨ (mLp M (lb_S t) (g 0 1) 0 0 = mLp M (lb_S j) (g 0 1) 0 0 ∧ t ≤ j))
  | 0, _ => Or.inl ⟨rfl, rfl, fun j h => absurd h (Nat.not_lt_zero _)⟩
  | i + 1, hi => by
    have hK := G.1
    have h64 := (pow6 hK.2).2
    have ih := mi_at G P hsz (o0 := o0) (o1 := o1) (o2 := o2) i (by omega)
    have hc6 := (rain_c1 i (by omega)).1
    have hmo : m_ones (nI i) 9 = nI (cnt i 9) := ones_cnt (by omega) 9 (Nat.le_refl _)
    have hle := mLp_le G P (lb_S i) (g 0 1) 0 0 (Nat.two_pow_pos _)
    have hs : m_mi M (2 ^ g 0 0) sz 0 1000000 o0 o1 o2 (i + 1) = m_miB M (2 ^ g 0 0) sz 0 1000000 o0 o1 o2 i (m_mi M (2 ^ g 0 0) sz 0 1000000 o0 o1 o2 i).1 (m_mi M (2 ^ g 0 0) sz 0 1000000 o0 o1 o2 i).2.1 (m_mi M (2 ^ g 0 0) sz 0 1000000 o0 o1 o2 i).2.2.1 (m_mi M (2 ^ g 0 0) sz 0 1000000 o0 o1 o2 i).2.2.2.1 (m_mi M (2 ^ g 0 0) sz 0 1000000 o0 o1 o2 i).2.2.2.2 := rfl
    rw [hs]
    generalize m_mi M (2 ^ g 0 0) sz 0 1000000 o0 o1 o2 i = A at ih
    have hA : A.2.1 ≤ 1000000 := by rcases ih with ⟨a, -⟩ | ⟨a, -⟩ <;> omega
    unfold m_miB
    rw [hmo, me_eq G P]
    by_cases c : cnt i 9 = sz
    · rw [if_pos (show nI (cnt i 9) = nI sz by rw [c])]
      by_cases c2 : A.2.1 ≤ mLp M (lb_S i) (g 0 1) 0 0
      · rw [if_pos (nI_le c2 (by omega))]
        rcases ih with ⟨a1, a2, a3⟩ | ⟨a1, t, a2, a3, a4, a5, a6⟩
        · refine Or.inl ⟨a1, a2, fun j hj hc => ?_⟩
          by_cases e : j = i
          · rw [e]; omega
          · exact a3 j (by omega) hc
        · refine Or.inr ⟨a1, t, by omega, a3, a4, a5, fun j hj hc => ?_⟩
          by_cases e : j = i
          · rw [e]; omega
          · exact a6 j (by omega) hc
      · rw [if_neg (fun z => c2 ((nI_leI (by omega) (by omega)).mp z))]
        refine Or.inr ⟨by show mLp M (lb_S i) (g 0 1) 0 0 < 1000000; omega, i, by omega, rfl, c, rfl, fun j hj hc => ?_⟩
        by_cases e : j = i
        · rw [e]; exact Or.inr ⟨rfl, Nat.le_refl _⟩
        · rcases ih with ⟨a1, a2, a3⟩ | ⟨a1, t, a2, a3, a4, a5, a6⟩
          · have := a3 j (by omega) hc
            omega
          · have := a6 j (by omega) hc
            omega
    · rw [if_neg (fun z => c ((nI_eq (by omega) (by omega)).mp z)), if_pos (show nI A.2.1 ≤ 1000000 from (nI_leI (a := A.2.1) (b := 1000000) (by omega) (by omega)).mpr hA)]
      rcases ih with ⟨a1, a2, a3⟩ | ⟨a1, t, a2, a3, a4, a5, a6⟩
      · refine Or.inl ⟨a1, a2, fun j hj hc => ?_⟩
        by_cases e : j = i
        · rw [e] at hc; exact absurd hc c
        · exact a3 j (by omega) hc
      · refine Or.inr ⟨a1, t, by omega, a3, a4, a5, fun j hj hc => ?_⟩
        by_cases e : j = i
        · rw [e] at hc; exact absurd hc c
        · exact a6 j (by omega) hc
theorem mo_stop {N1 N6 u v0 t c : Nat} {lz : Nat → Nat} {w1 w2 : Nat} (ht : t < 64) : (m_mo M N1 N6 u v0 (t + 1) c lz w1 w2).2.1 = t + 1 ∧ (m_mo M N1 N6 u v0 (t + 1) c lz w1 w2).2.2.1 = c := by
  cases u with
  | zero => exact ⟨rfl, rfl⟩
  | succ u =>
    rw [m_mo_s]
    split
    · exact ⟨rfl, rfl⟩
    · rw [if_neg (fun z => by have := (ly_h_9 (by omega)).mp z; omega)]
      exact ⟨rfl, rfl⟩
theorem mo_at (G : gOK g) (P : pR g M) : ∀ u s (lz : Nat → Nat) (w1 w2 : Nat), s < u → s ≤ g 0 1 + 1 → (∀ j, j < 2 ^ g 0 1 → s ≤ cnt j 9 → ¬ mLp M (lb_S j) (g 0 1) 0 0 < 1000000) →
    ∃ t, t < 2 ^ g 0 1 ∧ (m_mo M (2 ^ g 0 0) (2 ^ g 0 1) u s 0 1000000 lz w1 w2).2.1 = t + 1 ∧ (m_mo M (2 ^ g 0 0) (2 ^ g 0 1) u s 0 1000000 lz w1 w2).2.2.1 = mLp M (lb_S t) (g 0 1) 0 0 ∧ mLp M (lb_S t) (g 0 1) 0 0 < 1000000 ∧ ∀ j, j < 2 ^ g 0 1 → mLp M (lb_S j) (g 0 1) 0 0 < 1000000 → cnt j 9 < cnt t 9 ∨ (cnt j 9 = cnt t 9 ∧ (mLp M (lb_S t) (g 0 1) 0 0 < mLp M (lb_S j) (g 0 1) 0 0 ∨ (mLp M (lb_S t) (g 0 1) 0 0 = mLp M (lb_S j) (g 0 1) 0 0 ∧ t ≤ j)))
  | 0, _, _, _, _, h, _, _ => absurd h (Nat.not_lt_zero _)
  | u + 1, s, lz, w1, w2, h, hm, hno => by
    have hK := G.1
    have h64 := (pow6 hK.2).2
    rw [m_mo_s]
    by_cases c : s = 0
    · exact absurd (show mLp M (lb_S 0) (g 0 1) 0 0 < 1000000 by rw [mLp_zero]; decide) (hno 0 (Nat.two_pow_pos _) (by omega))
    · rw [if_neg (show ¬ nI s - 1 < 0 by rw [nI_m1 (by omega)]; exact nI_pos (by omega)), if_pos (show ly_h 0 = -9 from rfl)]
      have hi := mi_at G P (show s - 1 ≤ 6 by omega) (o0 := lz) (o1 := w1) (o2 := w2) (2 ^ g 0 1) (Nat.le_refl _)
      rcases hi with ⟨a1, a2, a3⟩ | ⟨a1, t, a2, a3, a4, a5, a6⟩
      · rw [a1, a2]
        refine mo_at G P u (s - 1) _ _ _ (by omega) (by omega) (fun j hj hc => ?_)
        by_cases e : cnt j 9 = s - 1
        · exact a3 j hj e
        · exact hno j hj (by omega)
      · rw [a3]
        have hst := mo_stop (M := M) (N1 := 2 ^ g 0 0) (N6 := 2 ^ g 0 1) (u := u) (v0 := s - 1) (t := t) (c := (m_mi M (2 ^ g 0 0) (s - 1) 0 1000000 lz w1 w2 (2 ^ g 0 1)).2.1) (lz := (m_mi M (2 ^ g 0 0) (s - 1) 0 1000000 lz w1 w2 (2 ^ g 0 1)).2.2.1) (w1 := (m_mi M (2 ^ g 0 0) (s - 1) 0 1000000 lz w1 w2 (2 ^ g 0 1)).2.2.2.1) (w2 := (m_mi M (2 ^ g 0 0) (s - 1) 0 1000000 lz w1 w2 (2 ^ g 0 1)).2.2.2.2) (by omega)
        refine ⟨t, a2, hst.1, by rw [hst.2, a5], by omega, fun j hj hf => ?_⟩
        by_cases e : cnt j 9 = s - 1
        · exact Or.inr ⟨by omega, a6 j hj e⟩
        · refine Or.inl ?_
          have := hno j hj
          by_cases e2 : s ≤ cnt j 9
          · exact absurd hf (this e2)
          · omega
theorem val_at (hK : g 0 1 ≤ 6) {τ : Nat → Bool} : ∃ j, j < 2 ^ g 0 1 ∧ ∀ u0, u0 = g 0 1 → mLp M τ u0 0 0 = mLp M (lb_S j) u0 0 0 ∧ pcb τ u0 0 = cnt j 9 ∧ rbb τ u0 0 = j := by
  have h64 := (pow6 hK).2
  have hlt := rbb_lt τ (g 0 1) 0
  rw [Nat.zero_add] at hlt
  have hj : rbb τ (g 0 1) 0 < 2 ^ g 0 1 := by omega
  refine ⟨rbb τ (g 0 1) 0, hj, fun u0 e => ?_⟩
  subst e
  have hs := rbb_self (g 0 1) hK (rbb τ (g 0 1) 0) (by omega) hj
  have he := rbb_inj (g 0 1) 0 hs.1.symm
  exact ⟨mLp_congr (g 0 1) 0 0 he, by rw [pcb_congr (g 0 1) 0 he]; exact hs.2.1, rfl⟩
/-- the most who can go, as both find them -/
theorem most_at (G : gOK g) (P : pR g M) (N : nR g d ho le (M 20)) (hlf : ∀ q, q < g 0 1 → lf q = w_off g d ho le q 0) (hrf : ∀ q, q < g 0 1 → rf q = w_off g d ho le q 1) (lz : Nat → Nat) (w1 w2 : Nat) : ∃ t, t < 2 ^ g 0 1 ∧ (m_mo M (2 ^ g 0 0) (2 ^ g 0 1) (g 0 1 + 2) (g 0 1 + 1) 0 1000000 lz w1 w2).2.1 = t + 1 ∧ nI (w_wv g lf rf (2 ^ g 0 1 - 1) (g 0 1) 0 0) &&& 63 = nI t ∧ nI (w_wv g lf rf (2 ^ g 0 1 - 1) (g 0 1) 0 0) / 64 &&& 127 = nI (m_mo M (2 ^ g 0 0) (2 ^ g 0 1) (g 0 1 + 2) (g 0 1 + 1) 0 1000000 lz w1 w2).2.2.1 := by
  have hK := G.1
  have h64 := (pow6 hK.2).2
  have hcm : ∀ j, j < 2 ^ g 0 1 → cnt j 9 ≤ g 0 1 := fun j hj => by
    have h1 := rbb_self (g 0 1) hK.2 j (by omega) hj
    have h2 := pcb_le (g 0 1) 0 (τ := lb_S j) (S := lb_S (2 ^ g 0 1 - 1)) (fun i _ h3 _ => by
      show (2 ^ g 0 1 - 1).testBit i = true
      rw [Nat.testBit_two_pow_sub_one]
      exact decide_eq_true (by omega))
    omega
  obtain ⟨t, a1, a2, a3, a4, a5⟩ := mo_at G P (g 0 1 + 2) (g 0 1 + 1) lz w1 w2 (by omega) (Nat.le_refl _) (fun j hj hc => by have := hcm j hj; omega)
  refine ⟨t, a1, a2, ?_⟩
  rw [a3]
  have hw := wv_small (g := g) lf rf (2 ^ g 0 1 - 1) hK.2
  rw [w63 hw, w127 hw]
  obtain ⟨h1, τ, h2, h3, h4⟩ := wv_min G P N hlf hrf (2 ^ g 0 1 - 1) (g 0 1) 0 0 (Nat.zero_add _) (Nat.two_pow_pos _)
  have hpa : pcb (fun i => (2 ^ g 0 1 - 1).testBit i) (g 0 1) 0 = g 0 1 := (rbb_self (g 0 1) hK.2 0 (by omega) (Nat.two_pow_pos _)).2.2
  have hst := rbb_self (g 0 1) hK.2 t (by omega) a1
  have h5 := h1 (lb_S t) (fun i _ hi _ => by
    show (2 ^ g 0 1 - 1).testBit i = true
    rw [Nat.testBit_two_pow_sub_one]
    exact decide_eq_true (by omega)) a4
  obtain ⟨j, j1, j2⟩ := val_at (M := M) hK.2 (τ := τ)
  obtain ⟨j3, j4, j5⟩ := j2 (g 0 1) rfl
  have h6 := a5 j j1 (by rw [← j3]; exact h3)
  unfold lb_val at h4 h5
  rw [hpa, j3, j4, j5] at h4
  rw [hpa, hst.1, hst.2.1] at h5
  have hb := mLp_b G P N (lb_S t) (g 0 1) 0 0 (Nat.zero_add _) (Nat.two_pow_pos _) a4
  have c1 := hcm t a1
  have c2 := hcm j j1
  have e : w_wv g lf rf (2 ^ g 0 1 - 1) (g 0 1) 0 0 = 8192 * (g 0 1 - cnt t 9) + 64 * mLp M (lb_S t) (g 0 1) 0 0 + t := by omega
  rw [e]
  exact ⟨congrArg nI (by omega), congrArg nI (by omega)⟩
/-! knees -/
def lb_gd (g M : Nat → Nat → Nat) (d ho le : Nat → Nat) (sS u q us l r : Nat) : Prop := lb_V g d ho le q us l r ∧ lb_c g l r + mLp M (lb_S sS) u (q + 1) (lb_u us l r) = mLp M (lb_S sS) (u + 1) q us
theorem fr_cond (G : gOK g) (P : pR g M) (N : nR g d ho le (M 20)) (hlf : ∀ q, q < g 0 1 → lf q = w_off g d ho le q 0) (hrf : ∀ q, q < g 0 1 → rf q = w_off g d ho le q 1) {sS u q us l r : Nat} (hm : q + (u + 1) = g 0 1) (hus : us < 2 ^ g 0 0) (hb : sS.testBit q = true) (hL : mLp M (lb_S sS) (u + 1) q us < 1000000) (hV : lb_V g d ho le q us l r) : nI (lb_c g l r * 64 + 2 ^ q + w_wv g lf rf sS u (q + 1) (lb_u us l r)) = nI (w_wv g lf rf sS (u + 1) q us) ↔ lb_c g l r + mLp M (lb_S sS) u (q + 1) (lb_u us l r) = mLp M (lb_S sS) (u + 1) q us := by
  have hK := G.1
  have hu := u_ltV hK.1 hus hV
  have l1 := w_wv_le g lf rf sS u (q + 1) (lb_u us l r)
  have l2 := w_wv_le g lf rf sS (u + 1) q us
  have hc : lb_c g l r ≤ 18 := by
    have h8 : ∀ j, g 8 j ≤ 9 := fun j => (G.2 j).2.2.2.2.2.2.2
    have h1 := w_oil_le h8 l
    have h2 := w_oil_le h8 r
    unfold lb_c
    omega
  have hq0 : 0 < 2 ^ q := Nat.two_pow_pos q
  have hq2 : 2 ^ q ≤ 64 := Nat.pow_le_pow_right (n := 2) (by decide) (show q ≤ 6 by omega)
  rw [nI_eq (by omega) (by omega)]
  rcases wv_all G P N hlf hrf sS hm hus with ⟨-, a2, a3⟩ | ⟨a1, -⟩
  · have e1 : w_wv g lf rf sS (u + 1) q us = 64 * mLp M (lb_S sS) (u + 1) q us + (2 ^ q + rbb (lb_S sS) u (q + 1)) := by
      rw [a2]
      show 64 * mLp M (lb_S sS) (u + 1) q us + ((if sS.testBit q = true then 2 ^ q else 0) + rbb (lb_S sS) u (q + 1)) = _
      rw [if_pos hb]
    rw [a2] at e1
    rcases wv_all G P N hlf hrf sS (show q + 1 + u = g 0 1 by omega) hu with ⟨-, b2, b3⟩ | ⟨b1, b2⟩
    · have e2 : w_wv g lf rf sS u (q + 1) (lb_u us l r) = 64 * mLp M (lb_S sS) u (q + 1) (lb_u us l r) + rbb (lb_S sS) u (q + 1) := b2
      rw [a2, e1, e2]
      omega
    · have e3 : mLp M (lb_S sS) u (q + 1) (lb_u us l r) = 1000000 := b1
      rw [e1] at a3
      rw [a2, e1]
      omega
  · have : mLp M (lb_S sS) (u + 1) q us = 1000000 := a1
    omega
theorem fr_at (G : gOK g) (P : pR g M) (N : nR g d ho le (M 20)) (hlf : ∀ q, q < g 0 1 → lf q = w_off g d ho le q 0) (hrf : ∀ q, q < g 0 1 → rf q = w_off g d ho le q 1) {sS u q us l : Nat} (hm : q + (u + 1) = g 0 1) (hus : us < 2 ^ g 0 0) (hb : sS.testBit q = true) (hL : mLp M (lb_S sS) (u + 1) q us < 1000000) (hl : l ≤ 9) : ∀ k i, i + k = 10 → (w_fr g lf rf sS u q us l k i = -1 ∧ ∀ r, i ≤ r → r < 10 → ¬ lb_gd g M d ho le sS u q us l r) ∨ (∃ r, i ≤ r ∧ r < 10 ∧ w_fr g lf rf sS u q us l k i = nI r ∧ lb_gd g M d ho le sS u q us l r ∧ ∀ x, i ≤ x → x < r → ¬ lb_gd g M d ho le sS u q us l x)
  | 0, i, h => Or.inl ⟨rfl, fun r h1 h2 => by omega⟩
  | k + 1, i, h => by
    have hK := G.1
    have ih := fr_at G P N hlf hrf hm hus hb hL hl k (i + 1) (by omega)
    have skip : ¬ lb_gd g M d ho le sS u q us l i → w_fr g lf rf sS u q us l (k + 1) i = w_fr g lf rf sS u q us l k (i + 1) → ((w_fr g lf rf sS u q us l (k + 1) i = -1 ∧ ∀ r, i ≤ r → r < 10 → ¬ lb_gd g M d ho le sS u q us l r) ∨ (∃ r, i ≤ r ∧ r < 10 ∧ w_fr g lf rf sS u q us l (k + 1) i = nI r ∧ lb_gd g M d ho le sS u q us l r ∧ ∀ x, i ≤ x → x < r → ¬ lb_gd g M d ho le sS u q us l x)) := fun hn he => by
      rw [he]
      rcases ih with ⟨a1, a2⟩ | ⟨r, a1, a2, a3, a4, a5⟩
      · refine Or.inl ⟨a1, fun r h1 h2 => ?_⟩
        by_cases e : r = i
        · rw [e]; exact hn
        · exact a2 r (by omega) h2
      · refine Or.inr ⟨r, by omega, a2, a3, a4, fun x h1 h2 => ?_⟩
        by_cases e : x = i
        · rw [e]; exact hn
        · exact a5 x (by omega) h2
    rcases may_V (d := d) (ho := ho) (le := le) G (hlf q (by omega)) (hrf q (by omega)) hl (show i ≤ 9 by omega) (pow9 hK.1 hus) with ⟨b1, b2⟩ | ⟨b1, b2⟩
    · have hc := fr_cond G P N hlf hrf hm hus hb hL b2
      by_cases c : nI (lb_c g l i * 64 + 2 ^ q + w_wv g lf rf sS u (q + 1) (lb_u us l i)) = nI (w_wv g lf rf sS (u + 1) q us)
      · refine Or.inr ⟨i, Nat.le_refl _, by omega, ?_, ⟨b2, hc.mp c⟩, fun x h1 h2 => by omega⟩
        rw [w_fr_s, if_neg b1]
        exact if_pos c
      · refine skip (fun z => c (hc.mpr z.2)) ?_
        rw [w_fr_s, if_neg b1]
        exact if_neg c
    · refine skip (fun z => b2 z.1) ?_
      rw [w_fr_s, if_pos b1]
theorem fl_at (G : gOK g) (P : pR g M) (N : nR g d ho le (M 20)) (hlf : ∀ q, q < g 0 1 → lf q = w_off g d ho le q 0) (hrf : ∀ q, q < g 0 1 → rf q = w_off g d ho le q 1) {sS u q us : Nat} (hm : q + (u + 1) = g 0 1) (hus : us < 2 ^ g 0 0) (hb : sS.testBit q = true) (hL : mLp M (lb_S sS) (u + 1) q us < 1000000) : ∀ k i, i + k = 9 → (w_fl g lf rf sS u q us k i = 9 ∧ ∀ l, i ≤ l → l < 9 → ∀ r, r < 10 → ¬ lb_gd g M d ho le sS u q us l r) ∨ (∃ l r, i ≤ l ∧ l < 9 ∧ w_fl g lf rf sS u q us k i = l ∧ r < 10 ∧ lb_gd g M d ho le sS u q us l r ∧ ∀ x, i ≤ x → x < l → ∀ r, r < 10 → ¬ lb_gd g M d ho le sS u q us x r)
  | 0, i, h => Or.inl ⟨rfl, fun l h1 h2 => by omega⟩
  | k + 1, i, h => by
    have ih := fl_at G P N hlf hrf hm hus hb hL k (i + 1) (by omega)
    rw [w_fl_s]
    rcases fr_at G P N hlf hrf hm hus hb hL (show i ≤ 9 by omega) 10 0 rfl with ⟨a1, a2⟩ | ⟨r, a1, a2, a3, a4, a5⟩
    · rw [if_pos a1]
      rcases ih with ⟨b1, b2⟩ | ⟨l, r, b1, b2, b3, b4, b5, b6⟩
      · refine Or.inl ⟨b1, fun l h1 h2 r hr => ?_⟩
        by_cases e : l = i
        · rw [e]; exact a2 r (Nat.zero_le _) hr
        · exact b2 l (by omega) h2 r hr
      · refine Or.inr ⟨l, r, by omega, b2, b3, b4, b5, fun x h1 h2 r hr => ?_⟩
        by_cases e : x = i
        · rw [e]; exact a2 r (Nat.zero_le _) hr
        · exact b6 x (by omega) h2 r hr
    · rw [if_neg (fun z => by rw [a3] at z; exact absurd (show (-1 : Int32) < 0 by decide) (by rw [← z]; exact nI_pos (by omega)))]
      exact Or.inr ⟨i, r, Nat.le_refl _, by omega, rfl, a2, a4, fun x h1 h2 => by omega⟩
/-- of one who goes: the first pair by which it is least, as both choose it -/
theorem kf_pick (G : gOK g) (P : pR g M) (N : nR g d ho le (M 20)) (hlf : ∀ q, q < g 0 1 → lf q = w_off g d ho le q 0) (hrf : ∀ q, q < g 0 1 → rf q = w_off g d ho le q 1) {sS u q us w1 w2 : Nat} {o0 : Nat → Nat} (hm : q + (u + 1) = g 0 1) (hus : us < 2 ^ g 0 0) (hb : sS.testBit q = true) (hL : mLp M (lb_S sS) (u + 1) q us < 1000000) (ht : tb_ok g M sS o0 (q + 1)) : ∃ a b, (m_lf M o0 sS q us w1 w2).2 = (a, b) ∧ a ≤ g 0 0 ∧ b ≤ g 0 0 ∧ w_fl g lf rf sS u q us 9 0 = lb_cd a ∧ w_fr g lf rf sS u q us (lb_cd a) 10 0 = nI (lb_cd b) ∧ lb_u us (lb_cd a) (lb_cd b) < 2 ^ g 0 0 ∧ mLp M (lb_S sS) u (q + 1) (lb_u us (lb_cd a) (lb_cd b)) < 1000000 := by
  have hK := G.1
  have hq : q < g 0 1 := by omega
  have eu : g 0 1 - (q + 1) = u := by omega
  have hj := jb_nat sS (show q < 32 by omega)
  have e1 : m_lf M o0 sS q us w1 w2 = m_lfL M (fun j => mLp M (lb_S sS) u (q + 1) (j - 512 * (q + 1))) q us w1 w2 (M 9 0 + 1) := by
    have := lf_tab (w1 := w1) (w2 := w2) G P hq hus ht
    rw [eu] at this
    unfold m_lf
    rw [hj, hb, if_neg (show ¬ (if true = true then (1 : Int32) else 0) = 0 by decide)]
    exact this
  have hfin := lf_fin (w1 := w1) (w2 := w2) (q := q) (us := us) (lz := fun j => mLp M (lb_S sS) u (q + 1) (j - 512 * (q + 1))) G P hus (fun x hx => by
    show mLp M (lb_S sS) u (q + 1) (512 * (q + 1) + x - 512 * (q + 1)) ≤ 1000000
    rw [Nat.add_sub_cancel_left]
    exact mLp_le G P (lb_S sS) u (q + 1) x hx)
  have e2 : (m_lfL M (fun j => mLp M (lb_S sS) u (q + 1) (j - 512 * (q + 1))) q us w1 w2 (M 9 0 + 1)).1 = mLp M (lb_S sS) (u + 1) q us := by
    rw [mLp_s, if_pos (show lb_S sS q = true from hb)]
    exact (lfL_ind (M 9 0 + 1)).1
  rw [e1]
  generalize m_lfL M (fun j => mLp M (lb_S sS) u (q + 1) (j - 512 * (q + 1))) q us w1 w2 (M 9 0 + 1) = S at hfin e2
  have hv : ∀ l r, l ≤ g 0 0 → r ≤ g 0 0 → lf_v M (fun j => mLp M (lb_S sS) u (q + 1) (j - 512 * (q + 1))) q us l r = lb_c g (lb_cd l) (lb_cd r) + mLp M (lb_S sS) u (q + 1) (lb_u us (lb_cd l) (lb_cd r)) := fun l r hl hr => by
    rw [v_cd G P hl hr]
    show _ + mLp M (lb_S sS) u (q + 1) (512 * (q + 1) + lb_u us (lb_cd l) (lb_cd r) - 512 * (q + 1)) = _
    rw [Nat.add_sub_cancel_left]
  obtain ⟨-, -, h3⟩ := hfin
  rcases h3 with h3 | ⟨h3, h4, h5, h6, h7⟩
  · omega
  · have ha : S.2.1 ≤ g 0 0 := Nat.lt_succ_iff.mp h4.1
    have hbb : S.2.2 ≤ g 0 0 := h4.2
    have hV := (ok_V G P N hq ha hbb).mp h5
    rw [hv _ _ ha hbb, e2] at h6
    have hgd : lb_gd g M d ho le sS u q us (lb_cd S.2.1) (lb_cd S.2.2) := ⟨hV, h6⟩
    have first : ∀ l r, lb_gd g M d ho le sS u q us l r → lb_cd S.2.1 < l ∨ (lb_cd S.2.1 = l ∧ lb_cd S.2.2 ≤ r) := fun l r hg => by
      obtain ⟨a2, ha2, rfl⟩ := cd_inv hK.1 hg.1.1
      obtain ⟨b2, hb2, rfl⟩ := cd_inv hK.1 hg.1.2.1
      have z := h7 a2 b2 ⟨by omega, hb2⟩ ((ok_V G P N hq ha2 hb2).mpr hg.1) (by rw [hv _ _ ha2 hb2, e2]; exact hg.2)
      have k1 := cd_lt hK.1 (show S.2.1 ≤ 9 by omega) (show a2 ≤ 9 by omega) hV.1 hg.1.1
      have k2 := cd_lt hK.1 (show S.2.2 ≤ 9 by omega) (show b2 ≤ 9 by omega) hV.2.1 hg.1.2.1
      rcases z with z | ⟨z1, z2⟩
      · exact Or.inl (k1.1.mp z)
      · refine Or.inr ⟨k1.2.mp z1, ?_⟩
        by_cases e : S.2.2 = b2
        · exact Nat.le_of_eq (k2.2.mp e)
        · exact Nat.le_of_lt (k2.1.mp (by omega))
    have h9 := cd_le (show S.2.1 ≤ 9 by omega)
    have h9b := cd_le (show S.2.2 ≤ 9 by omega)
    refine ⟨S.2.1, S.2.2, rfl, ha, hbb, ?_, ?_, u_ltV hK.1 hus hV, by omega⟩
    · rcases fl_at G P N hlf hrf hm hus hb hL 9 0 rfl with ⟨b1, b2⟩ | ⟨l, r, b1, b2, b3, b4, b5, b6⟩
      · rw [b1]
        by_cases e : lb_cd S.2.1 < 9
        · exact absurd hgd (b2 _ (Nat.zero_le _) e _ (by omega))
        · omega
      · rw [b3]
        have z := first l r b5
        by_cases e : lb_cd S.2.1 < l
        · exact absurd hgd (b6 _ (Nat.zero_le _) e _ (by omega))
        · omega
    · rcases fr_at G P N hlf hrf hm hus hb hL h9 10 0 rfl with ⟨b1, b2⟩ | ⟨r, b1, b2, b3, b4, b5⟩
      · exact absurd hgd (b2 _ (Nat.zero_le _) (by omega))
      · rw [b3]
        have z := first _ r b4
        by_cases e : lb_cd S.2.2 < r
        · exact absurd hgd (b5 _ (Nat.zero_le _) e)
        · exact congrArg nI (by omega)
theorem kbI_eq {l r : Nat} (hl : l ≤ 9) (hr : r ≤ 9) : w_kbI (nI l) (nI r) = w_kb l r := by
  have h1 := w_kbI_eq (nI l) (nI r)
  have h2 := w_kb_eq l hl r hr
  have h3 := w_kb_lt l r
  rw [h1.1] at h2
  exact (nI_eq (by omega) (by omega)).mp h2
/-- what is told of the model's number of a knee -/
def lb_an (k : Nat) : Int32 := if 0 ≤ nI k - 1 then nI k - 1 else -9
theorem an_cd {k : Nat} (h : k ≤ 9) : (if nI (lb_cd k) = 9 then -9 else nI (lb_cd k)) = lb_an k := by
  unfold lb_an
  rcases cd_or k with ⟨a1, a2⟩ | ⟨a1, a2⟩
  · rw [a2, a1]; rfl
  · rw [a2, nI_m1 (by omega), if_pos (nI_pos' (by omega)), if_neg (show ¬ nI (k - 1) = 9 from fun z => by have := (nI_eq (a := k - 1) (b := 9) (by omega) (by omega)).mp z; omega)]
theorem kc_eq (G : gOK g) (P : pR g M) (N : nR g d ho le (M 20)) (hlf : ∀ q, q < g 0 1 → lf q = w_off g d ho le q 0) (hrf : ∀ q, q < g 0 1 → rf q = w_off g d ho le q 1) {sS pr w1 w2 : Nat} {o0 : Nat → Nat} (hp : pr < g 0 1) (hpb : sS.testBit pr = true) (ht : ∀ q, q ≤ g 0 1 → tb_ok g M sS o0 q) : ∀ uz i, i + uz = g 0 1 → i ≤ pr → (m_kf M sS o0 w1 w2 i).1 < 2 ^ g 0 0 → mLp M (lb_S sS) uz i (m_kf M sS o0 w1 w2 i).1 < 1000000 → w_kc0 g lf rf sS pr uz i (m_kf M sS o0 w1 w2 i).1 = lb_an (m_kf M sS o0 w1 w2 (pr + 1)).2.1 ∧ w_kc1 g lf rf sS pr uz i (m_kf M sS o0 w1 w2 i).1 = lb_an (m_kf M sS o0 w1 w2 (pr + 1)).2.2
  | 0, i, h, h2, _, _ => by omega
  | uz + 1, i, h, h2, hus, hL => by
    have hK := G.1
    have eu : g 0 1 - (i + 1) = uz := by omega
    have hj := jb_nat sS (show i < 32 by omega)
    have hs : m_kf M sS o0 w1 w2 (i + 1) = m_kfB M sS o0 w1 w2 i (m_kf M sS o0 w1 w2 i).1 (m_kf M sS o0 w1 w2 i).2.1 (m_kf M sS o0 w1 w2 i).2.2 := rfl
    have hjr : (((nI sS) >>> ((nI i) &&& 31)) &&& 1) = if sS.testBit i = true then 1 else 0 := hj
    unfold m_kfB at hs
    rw [hjr] at hs
    rw [w_kc0_s, w_kc1_s, hj, eu]
    cases hb : sS.testBit i with
    | false =>
      rw [hb, if_neg (show ¬ (if false = true then (1 : Int32) else 0) = 1 by decide)] at hs
      rw [if_neg (show ¬ (if false = true then (1 : Int32) else 0) = 1 by decide), if_neg (show ¬ (if false = true then (1 : Int32) else 0) = 1 by decide)]
      have hne : ¬ i = pr := fun z => by rw [z, hpb] at hb; exact absurd hb (by decide)
      have e1 : (m_kf M sS o0 w1 w2 (i + 1)).1 = (m_kf M sS o0 w1 w2 i).1 := by rw [hs]
      have hL2 : mLp M (lb_S sS) uz (i + 1) (m_kf M sS o0 w1 w2 i).1 < 1000000 := by
        rw [mLp_s, show lb_S sS i = false from hb, if_neg (by decide)] at hL
        exact hL
      rw [← e1] at hus hL2 ⊢
      exact kc_eq G P N hlf hrf hp hpb ht uz (i + 1) (by omega) (by omega) hus hL2
    | true =>
      rw [hb, if_pos (show (if true = true then (1 : Int32) else 0) = 1 from rfl)] at hs
      rw [if_pos (show (if true = true then (1 : Int32) else 0) = 1 from rfl), if_pos (show (if true = true then (1 : Int32) else 0) = 1 from rfl)]
      obtain ⟨a, b, k1, k2, k3, k4, k5, k6, k7⟩ := kf_pick (w1 := (m_kf M sS o0 w1 w2 i).2.1) (w2 := (m_kf M sS o0 w1 w2 i).2.2) G P N hlf hrf h hus hb hL (ht (i + 1) (by omega))
      have ea : (m_lf M o0 sS i (m_kf M sS o0 w1 w2 i).1 (m_kf M sS o0 w1 w2 i).2.1 (m_kf M sS o0 w1 w2 i).2.2).2.1 = a := by rw [k1]
      have eb : (m_lf M o0 sS i (m_kf M sS o0 w1 w2 i).1 (m_kf M sS o0 w1 w2 i).2.1 (m_kf M sS o0 w1 w2 i).2.2).2.2 = b := by rw [k1]
      rw [ea, eb] at hs
      rw [k4, k5]
      by_cases e : i = pr
      · rw [if_pos (show nI i = nI pr by rw [e]), if_pos (show nI i = nI pr by rw [e]), ← e, hs]
        exact ⟨an_cd (by omega), an_cd (by omega)⟩
      · have hni : ¬ nI i = nI pr := fun z => e ((nI_eq (by omega) (by omega)).mp z)
        rw [if_neg hni, if_neg hni, kbI_eq (cd_le (by omega)) (cd_le (by omega))]
        have e1 : (m_kf M sS o0 w1 w2 (i + 1)).1 = (m_kf M sS o0 w1 w2 i).1 ||| w_kb (lb_cd a) (lb_cd b) := by
          rw [hs, kb_cd a (by omega) b (by omega)]
        have k6' : (m_kf M sS o0 w1 w2 (i + 1)).1 < 2 ^ g 0 0 := by rw [e1]; exact k6
        have k7' : mLp M (lb_S sS) uz (i + 1) (m_kf M sS o0 w1 w2 (i + 1)).1 < 1000000 := by rw [e1]; exact k7
        rw [← e1]
        exact kc_eq G P N hlf hrf hp hpb ht uz (i + 1) (by omega) (by omega) k6' k7'
end MO
