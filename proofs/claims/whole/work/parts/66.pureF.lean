/-! bits, and what is done -/
theorem jb_tb : ∀ x, x < 1024 → ∀ i, i < 10 → jbit (nI x) (nI i) = if x.testBit i then 1 else 0 := by decide +kernel
theorem bits_eq : ∀ x, x < 512 → jbits (nI x) = m_ones (nI x) 9 := by decide +kernel
theorem plg_eq : ∀ a, a < 512 → ∀ k, k < 9 → ∀ o, o < 2 → ¬ jbit (nI a) (nI k) = nI o → a ^^^ 2 ^ k = m_plg a k o ∧ m_plg a k o < 512 := by decide +kernel
def cnt (x : Nat) : Nat → Nat
  | 0 => 0
  | i + 1 => cnt x i + (if x.testBit i then 1 else 0)
theorem ones_cnt {x : Nat} (hx : x < 512) : ∀ i, i ≤ 9 → m_ones (nI x) i = nI (cnt x i)
  | 0, _ => nI_0.symm
  | i + 1, h => by
    show m_ones (nI x) i + jbit (nI x) (nI i) = nI (cnt x i + (if x.testBit i then 1 else 0))
    rw [ones_cnt hx i (by omega), jb_tb x (by omega) i (by omega)]
    split
    · exact nI_1 _
    · exact nI_add _ 0
theorem cnt_or (h k : Nat) : ∀ i, i ≤ k → cnt (h ||| 2 ^ k) i = cnt h i
  | 0, _ => rfl
  | i + 1, hi => by
    show cnt (h ||| 2 ^ k) i + _ = cnt h i + _
    rw [cnt_or h k i (by omega), Nat.testBit_or, Nat.testBit_two_pow_of_ne (by omega), Bool.or_false]
theorem cnt_hi {h n : Nat} (hz : ∀ j, n ≤ j → h.testBit j = false) : ∀ i, n ≤ i → cnt h i = cnt h n
  | 0, hi => by rw [show n = 0 by omega]
  | i + 1, hi => by
    by_cases e : n = i + 1
    · rw [e]
    · show cnt h i + (if h.testBit i then 1 else 0) = cnt h n
      rw [cnt_hi hz i (by omega), hz i (by omega), if_neg (by decide)]
      rfl
def lentN (ho : Nat → Nat) : Nat → Nat
  | 0 => 0
  | i + 1 => lentN ho i + (if ho i = 0 then 0 else 1)
theorem home_cnt (ho : Nat → Nat) {bd : Nat} (hb9 : bd ≤ 9) (hb : ∀ k, k < bd → ho k ≤ 6) : ∀ i, i ≤ bd → ∃ h, h < 512 ∧ s_home ho i = nI h ∧ cnt h i + lentN ho i = i ∧ ∀ j, i ≤ j → h.testBit j = false
  | 0, _ => ⟨0, by decide, nI_0.symm, rfl, fun j _ => Nat.zero_testBit j⟩
  | i + 1, hi => by
    obtain ⟨h, h1, h2, h3, h4⟩ := home_cnt ho hb9 hb i (by omega)
    have hbi := hb i (by omega)
    have hs : s_home ho (i + 1) = s_homeB ho i (s_home ho i) := rfl
    by_cases c : ho i = 0
    · refine ⟨h ||| 2 ^ i, Nat.or_lt_two_pow (n := 9) h1 (Nat.pow_lt_pow_right (by decide) (by omega)), ?_, ?_, fun j hj => ?_⟩
      · rw [hs]
        unfold s_homeB
        rw [if_pos ((ly_h_9 (by omega)).mpr c), ly_or1 h2 (by omega)]
      · show cnt (h ||| 2 ^ i) i + (if (h ||| 2 ^ i).testBit i then 1 else 0) + (lentN ho i + (if ho i = 0 then 0 else 1)) = i + 1
        rw [cnt_or h i i (Nat.le_refl _), if_pos c, Nat.testBit_or, Nat.testBit_two_pow_self, Bool.or_true, if_pos rfl]
        omega
      · rw [Nat.testBit_or, h4 j (by omega), Nat.testBit_two_pow_of_ne (by omega)]
        rfl
    · refine ⟨h, h1, ?_, ?_, fun j hj => h4 j (by omega)⟩
      · rw [hs]
        unfold s_homeB
        rw [if_neg (fun z => c ((ly_h_9 (by omega)).mp z))]
        exact h2
      · show cnt h i + (if h.testBit i then 1 else 0) + (lentN ho i + (if ho i = 0 then 0 else 1)) = i + 1
        rw [h4 i (Nat.le_refl _), if_neg c, if_neg (by decide)]
        omega
theorem cap_eq {a c : Nat} (ha : a < 2 ^ 31) (hc : c < 2 ^ 31) : (if nI a ≤ nI c then a else c) = min c a := by
  by_cases z : a ≤ c
  · rw [if_pos ((nI_leI ha hc).mpr z), Nat.min_eq_right z]
  · rw [if_neg (fun y => z ((nI_leI ha hc).mp y)), Nat.min_eq_left (by omega)]
section PF
variable {g M : Nat → Nat → Nat} {d ho le : Nat → Nat}
theorem lent_eq (N : nR g d ho le (M 20)) (hm : g 0 1 ≤ 6) : ∀ i, i ≤ g 0 0 → m_lent M i = lentN ho i
  | 0, _ => rfl
  | i + 1, h => by
    have ih := lent_eq N hm i (by omega)
    have h1 := N.2.2.2.2.2.1 i (by omega)
    show m_lentB M i (m_lent M i) = lentN ho i + _
    unfold m_lentB
    rw [ih, ← h1.1]
    by_cases c : ho i = 0
    · rw [if_pos ((nI_le0 (by omega)).mpr c), if_pos c]
    · rw [if_neg (fun z => c ((nI_le0 (by omega)).mp z)), if_neg c]
theorem lent_hi (N : nR g d ho le (M 20)) : ∀ i, g 0 0 ≤ i → i ≤ 9 → m_lent M i = m_lent M (g 0 0)
  | 0, hi, _ => by rw [show g 0 0 = 0 by omega]
  | i + 1, hi, h9 => by
    by_cases e : g 0 0 = i + 1
    · rw [e]
    · have hz : M 20 (1 + i) = 0 := N.2.2.2.2.2.2.1 i (by omega) (by omega)
      show m_lentB M i (m_lent M i) = m_lent M (g 0 0)
      rw [lent_hi N i (by omega) (by omega)]
      unfold m_lentB
      rw [hz, if_pos (show nI 0 ≤ 0 by decide), Nat.add_zero]
theorem lentN_le (ho : Nat → Nat) : ∀ i, lentN ho i ≤ i
  | 0 => Nat.le_refl _
  | i + 1 => by
    have ih := lentN_le ho i
    show lentN ho i + (if ho i = 0 then 0 else 1) ≤ i + 1
    split <;> omega
/-- how many are lent, as both count them -/
theorem bell_eq (G : gOK g) (N : nR g d ho le (M 20)) : nI (m_lent M 9) = nI (g 0 0) - jbits (s_home ho (g 0 0)) ∧ m_lent M 9 ≤ 9 := by
  have hK := G.1
  have hb : ∀ k, k < g 0 0 → ho k ≤ 6 := fun k hk => Nat.le_trans (N.2.2.2.2.2.1 k hk).2 hK.2
  obtain ⟨h, h1, h2, h3, h4⟩ := home_cnt ho hK.1 hb (g 0 0) (Nat.le_refl _)
  have e1 := lent_hi N 9 hK.1 (Nat.le_refl _)
  have e2 := cnt_hi h4 9 hK.1
  have e3 := lent_eq N hK.2 (g 0 0) (Nat.le_refl _)
  have e4 := lentN_le ho (g 0 0)
  refine ⟨?_, by omega⟩
  rw [h2, bits_eq h h1, ones_cnt h1 9 (Nat.le_refl _), e2, pk_sub (by omega), e1, e3]
  exact congrArg nI (by omega)
theorem n_bell (hK : g 0 0 ≤ 9) (N : nR g d ho le (M 20)) (hd : d 0 < 999) (hl : m_lent M 9 ≤ 9) : nR g (va_up (va_up d 0 (d 0 + 1)) 2 (min 9999 (d 2 + m_lent M 9))) ho le (va_up (va_up (M 20) 21 (if (nI (M 20 21 + m_lent M 9)) ≤ 9999 then M 20 21 + m_lent M 9 else 9999)) 0 ((va_up (M 20) 21 (if (nI (M 20 21 + m_lent M 9)) ≤ 9999 then M 20 21 + m_lent M 9 else 9999)) 0 + 1)) := by
  obtain ⟨c0, c1, c2, c3, c4, c5, c6, c7, c8, c9⟩ := N
  have e : (if (nI (M 20 21 + m_lent M 9)) ≤ 9999 then M 20 21 + m_lent M 9 else 9999) = min 9999 (d 2 + m_lent M 9) := by
    rw [← c2.1]
    exact cap_eq (c := 9999) (by omega) (by decide)
  rw [e]
  have hmn : min 9999 (d 2 + m_lent M 9) ≤ 9999 := Nat.min_le_left _ _
  generalize min 9999 (d 2 + m_lent M 9) = V at hmn
  have k1 : va_up (va_up d 0 (d 0 + 1)) 2 V 0 = d 0 + 1 := rfl
  have k2 : va_up (va_up d 0 (d 0 + 1)) 2 V 2 = V := rfl
  refine ⟨⟨?_, by rw [k1]; omega⟩, c1, ⟨rfl, by rw [k2]; exact hmn⟩, c3, c4, fun k hk => ?_, fun j h1 h2 => (by rw [up_ne _ _ (by omega), up_ne _ _ (by omega)]; exact c6 j h1 h2), fun k hk => ?_, c8, c9⟩
  · show d 0 + 1 = M 20 0 + 1
    rw [c0.1]
  · rw [up_ne _ _ (by omega), up_ne _ _ (by omega)]
    exact c5 k hk
  · rw [up_ne _ _ (by omega), up_ne _ _ (by omega)]
    exact c7 k hk
theorem n_brings (N : nR g d ho le (M 20)) {k : Nat} (hk : k < 9) : nR g d (va_up ho k 0) le (va_up (M 20) (1 + k) 0) := by
  obtain ⟨c0, c1, c2, c3, c4, c5, c6, c7, c8, c9⟩ := N
  refine ⟨?_, ?_, ?_, ?_, ?_, fun j hj => ?_, fun j h1 h2 => ?_, fun j hj => ?_, c8, fun k1 k2 h1 h2 h3 h4 h5 => ?_⟩
  · rw [up_ne _ _ (by omega)]; exact c0
  · rw [up_ne _ _ (by omega)]; exact c1
  · rw [up_ne _ _ (by omega)]; exact c2
  · rw [up_ne _ _ (by omega)]; exact c3
  · rw [up_ne _ _ (by omega)]; exact c4
  · by_cases h : j = k
    · rw [h, up_at, up_at]; exact ⟨rfl, Nat.zero_le _⟩
    · rw [up_ne _ _ h, up_ne _ _ (by omega)]; exact c5 j hj
  · by_cases h : j = k
    · rw [h, up_at]
    · rw [up_ne _ _ (by omega)]; exact c6 j h1 h2
  · by_cases h : 11 + j = 1 + k
    · omega
    · rw [up_ne _ _ h]; exact c7 j hj
  · by_cases e1 : k1 = k
    · rw [e1, up_at] at h4; exact absurd rfl h4
    · by_cases e2 : k2 = k
      · rw [e2, up_at] at h3; exact absurd h3 h4
      · rw [up_ne _ _ e1, up_ne _ _ e2] at h3
        rw [up_ne _ _ e1] at h4
        exact c9 k1 k2 h1 h2 h3 h4 h5
theorem n_pledges (hK : g 0 0 ≤ 9) (N : nR g d ho le (M 20)) {k o : Nat} (hk : k < 9) (ho1 : o ≤ 1) (hs : ¬ jbit (nI (d 4)) (nI k) = nI o) : nR g (va_up d 4 (d 4 ^^^ 2 ^ k)) ho le (va_up (M 20) 10 (m_plg (M 20 10) k o)) ∧ jbits (nI (d 4 ^^^ 2 ^ k)) = m_ones (nI (m_plg (M 20 10) k o)) 9 := by
  obtain ⟨c0, c1, c2, c3, c4, c5, c6, c7, c8, c9⟩ := N
  obtain ⟨e1, e2⟩ := plg_eq (d 4) c4.2 k hk o (by omega) hs
  rw [← c4.1, e1]
  refine ⟨⟨c0, c1, c2, c3, ⟨rfl, e2⟩, fun j hj => ?_, fun j h1 h2 => (by rw [up_ne _ _ (by omega)]; exact c6 j h1 h2), fun j hj => ?_, c8, c9⟩, bits_eq _ e2⟩
  · rw [up_ne _ _ (by omega)]; exact c5 j hj
  · rw [up_ne _ _ (by omega)]; exact c7 j hj
theorem held_none (hb : ∀ k, k < g 0 0 → ho k ≤ 6) (G : gOK g) {q o : Nat} (hq : q < 6) (ho1 : o ≤ 1) (h : s_held g ho q o (g 0 0) 0 = -9) : ∀ k, k < g 0 0 → ¬ (ho k = q + 1 ∧ g 1 k = o) := by
  have hK := G.1
  rcases s_held_at g ho q o hb hq ho1 (fun j => (G.2 j).1) (g 0 0) 0 (by omega) with ⟨-, h2⟩ | ⟨k, -, h2, h3, -⟩
  · exact fun k hk => h2 k (Nat.zero_le _) (by omega)
  · exact absurd (show (-9 : Int32) < 0 by decide) (by rw [← h, h3]; exact nI_pos (by omega))
theorem n_lends (G : gOK g) (P : pR g M) (N : nR g d ho le (M 20)) {k q : Nat} (hk : k < g 0 0) (hq : q < g 0 1) (hs : ¬ s_mayLend g d ho le k q = 0) :
    nR g (va_up d 1 (min 99999 (d 1 + g 8 (g 2 k)))) (va_up ho k (q + 1)) le (va_up (va_up (M 20) (1 + k) (q + 1)) 20 (if (nI ((va_up (M 20) (1 + k) (q + 1)) 20 + M 17 (M 11 k))) ≤ 99999 then (va_up (M 20) (1 + k) (q + 1)) 20 + M 17 (M 11 k) else 99999))
    ∧ min 99999 (d 1 + g 8 (g 2 k)) = (va_up (va_up (M 20) (1 + k) (q + 1)) 20 (if (nI ((va_up (M 20) (1 + k) (q + 1)) 20 + M 17 (M 11 k))) ≤ 99999 then (va_up (M 20) (1 + k) (q + 1)) 20 + M 17 (M 11 k) else 99999)) 20 := by
  have hK := G.1
  have hb : ∀ k, k < g 0 0 → ho k ≤ 6 := fun k hk => Nat.le_trans (N.2.2.2.2.2.1 k hk).2 hK.2
  have hnone : ∀ j, j < g 0 0 → ¬ (ho j = q + 1 ∧ g 1 j = g 1 k) := by
    refine held_none hb G (by omega) (G.2 k).1 ?_
    by_cases z : s_held g ho q (g 1 k) (g 0 0) 0 = -9
    · exact z
    · refine absurd ?_ hs
      unfold s_mayLend
      split
      · rfl
      · split
        · rfl
        · split
          · rfl
          · rfl
  obtain ⟨c0, c1, c2, c3, c4, c5, c6, c7, c8, c9⟩ := N
  have ho8 := (G.2 (g 2 k)).2.2.2.2.2.2.2
  have hf4 := (G.2 k).2.1
  have e : (if (nI ((va_up (M 20) (1 + k) (q + 1)) 20 + M 17 (M 11 k))) ≤ 99999 then (va_up (M 20) (1 + k) (q + 1)) 20 + M 17 (M 11 k) else 99999) = min 99999 (d 1 + g 8 (g 2 k)) := by
    rw [up_ne _ _ (by omega), ← c1.1, (P.2.2.1 k hk).2.1, (P.2.2.2.2 (g 2 k) (by omega)).2]
    exact cap_eq (c := 99999) (by omega) (by decide)
  rw [e]
  have hmn : min 99999 (d 1 + g 8 (g 2 k)) ≤ 99999 := Nat.min_le_left _ _
  generalize min 99999 (d 1 + g 8 (g 2 k)) = V at hmn
  have k1 : va_up d 1 V 1 = V := rfl
  refine ⟨⟨?_, ⟨?_, by rw [k1]; exact hmn⟩, ?_, ?_, ?_, fun j hj => ?_, fun j h1 h2 => ?_, fun j hj => ?_, c8, fun j1 j2 h1 h2 h3 h4 h5 => ?_⟩, by rw [up_at]⟩
  · show d 0 = _ ∧ d 0 ≤ 999
    rw [up_ne _ _ (by omega), up_ne _ _ (by omega)]; exact c0
  · rw [up_at, up_at]
  · show d 2 = _ ∧ d 2 ≤ 9999
    rw [up_ne _ _ (by omega), up_ne _ _ (by omega)]; exact c2
  · show d 3 = _ ∧ d 3 ≤ 999
    rw [up_ne _ _ (by omega), up_ne _ _ (by omega)]; exact c3
  · show d 4 = _ ∧ d 4 < 512
    rw [up_ne _ _ (by omega), up_ne _ _ (by omega)]; exact c4
  · rw [up_ne _ (k := 20) _ (by omega)]
    by_cases h : j = k
    · rw [h, up_at, up_at]; exact ⟨rfl, by omega⟩
    · rw [up_ne _ _ h, up_ne _ _ (by omega)]; exact c5 j hj
  · rw [up_ne _ _ (by omega), up_ne _ _ (by omega)]; exact c6 j h1 h2
  · rw [up_ne _ _ (by omega), up_ne _ _ (by omega)]; exact c7 j hj
  · by_cases e1 : j1 = k
    · by_cases e2 : j2 = k
      · rw [e1, e2]
      · rw [e1, up_at, up_ne _ _ e2] at h3
        exact absurd ⟨h3.symm, by rw [← h5, e1]⟩ (hnone j2 h2)
    · by_cases e2 : j2 = k
      · rw [e2, up_at, up_ne _ _ e1] at h3
        exact absurd ⟨h3, by rw [h5, e2]⟩ (hnone j1 h1)
      · rw [up_ne _ _ e1, up_ne _ _ e2] at h3
        rw [up_ne _ _ e1] at h4
        exact c9 j1 j2 h1 h2 h3 h4 h5
theorem walk_at (G : gOK g) (N : nR g d ho le (M 20)) {q u1 d1 : Nat} (hq : q < 6) (h1 : u1 ≤ 20) (h2 : d1 ≤ 20) : ∀ i, i ≤ g 0 0 → (s_walk ho le q (u1 + 2 * d1) i).1 = (m_wk M q u1 d1 i).1 ∧ (s_walk ho le q (u1 + 2 * d1) i).1 ≤ i ∧ (∀ j, j < g 0 0 → (s_walk ho le q (u1 + 2 * d1) i).2 j = (m_wk M q u1 d1 i).2 (11 + j)) ∧ (∀ j, j < 11 ∨ 20 ≤ j → (m_wk M q u1 d1 i).2 j = M 20 j) ∧ ∀ j, (s_walk ho le q (u1 + 2 * d1) i).2 j ≤ 60
  | 0, _ => ⟨rfl, Nat.le_refl _, N.2.2.2.2.2.2.2.1, fun _ _ => rfl, N.2.2.2.2.2.2.2.2.1⟩
  | i + 1, hi => by
    have hK := G.1
    obtain ⟨a1, a2, a3, a4, a5⟩ := walk_at G N hq h1 h2 i (by omega)
    have hsw : s_walk ho le q (u1 + 2 * d1) (i + 1) = s_walkB ho le q (u1 + 2 * d1) i (s_walk ho le q (u1 + 2 * d1) i).1 (s_walk ho le q (u1 + 2 * d1) i).2 := rfl
    have hmw : m_wk M q u1 d1 (i + 1) = m_wkB M q u1 d1 i (m_wk M q u1 d1 i).1 (m_wk M q u1 d1 i).2 := rfl
    rw [hsw, hmw]
    have hhi := N.2.2.2.2.2.1 i (by omega)
    generalize s_walk ho le q (u1 + 2 * d1) i = A at a1 a2 a3 a5
    generalize m_wk M q u1 d1 i = B at a1 a3 a4
    have ha6 := a5 i
    have hA := a3 i (by omega)
    unfold s_walkB m_wkB
    rw [a4 (1 + i) (by omega), ← hhi.1, ← hA]
    by_cases c : ho i = q + 1
    · rw [if_pos ((ly_h_q (by omega) (by omega)).mpr c), if_pos (show nI (ho i) = nI (q + 1) by rw [c]), Int32.sub_sub, nI_add]
      by_cases e : A.2 i < u1 + 2 * d1
      · have n1 : nI (A.2 i) < nI (u1 + 2 * d1) := nI_lt e (by omega)
        have n2 : ¬ 0 ≤ nI (A.2 i) - nI (u1 + 2 * d1) := fun z => by
          have := pk_sneg (a := A.2 i) (b := u1 + 2 * d1) (by omega) e
          rw [Int32.lt_iff_toInt_lt] at this
          rw [Int32.le_iff_toInt_le] at z
          omega
        have n3 : (if nI (A.2 i) < nI (u1 + 2 * d1) then (0 : Int32) else 1) = 0 := if_pos n1
        have n4 : (if nI (A.2 i) < nI (u1 + 2 * d1) then 0 else A.2 i - (u1 + 2 * d1)) = 0 := if_pos n1
        rw [if_pos n3, if_neg n2, n4]
        refine ⟨by show A.1 + 1 = B.1 + 1; rw [a1], by show A.1 + 1 ≤ i + 1; omega, fun j hj => ?_, fun j hj => ?_, fun j => ?_⟩
        · show va_up A.2 i 0 j = va_up B.2 (11 + i) 0 (11 + j)
          by_cases h : j = i
          · rw [h, up_at, up_at]
          · rw [up_ne _ _ h, up_ne _ _ (by omega)]; exact a3 j hj
        · show va_up B.2 (11 + i) 0 j = M 20 j
          rw [up_ne _ _ (by omega)]; exact a4 j hj
        · exact up_le a5 i 0 (by omega) j
      · have n1 : ¬ nI (A.2 i) < nI (u1 + 2 * d1) := fun z => e ((nI_ltI (by omega) (by omega)).mp z)
        have n3 : ¬ (if nI (A.2 i) < nI (u1 + 2 * d1) then (0 : Int32) else 1) = 0 := by rw [if_neg n1]; decide
        have n4 : (if nI (A.2 i) < nI (u1 + 2 * d1) then 0 else A.2 i - (u1 + 2 * d1)) = A.2 i - (u1 + 2 * d1) := if_neg n1
        rw [pk_sub (show u1 + 2 * d1 ≤ A.2 i by omega), if_neg n3, n4, if_pos (nI_pos' (by omega)), nI_clamp (by omega)]
        refine ⟨a1, by show A.1 ≤ i + 1; omega, fun j hj => ?_, fun j hj => ?_, fun j => ?_⟩
        · show va_up A.2 i (A.2 i - (u1 + 2 * d1)) j = va_up B.2 (11 + i) (A.2 i - (u1 + 2 * d1)) (11 + j)
          by_cases h : j = i
          · rw [h, up_at, up_at]
          · rw [up_ne _ _ h, up_ne _ _ (by omega)]; exact a3 j hj
        · show va_up B.2 (11 + i) (A.2 i - (u1 + 2 * d1)) j = M 20 j
          rw [up_ne _ _ (by omega)]; exact a4 j hj
        · exact up_le a5 i _ (by omega) j
    · rw [if_neg (fun z => c ((ly_h_q (by omega) (by omega)).mp z)), if_neg (fun z => c ((nI_eq (by omega) (by omega)).mp z))]
      exact ⟨a1, by show A.1 ≤ i + 1; omega, a3, a4, a5⟩
theorem n_walks (G : gOK g) (N : nR g d ho le (M 20)) {q u1 d1 : Nat} (hq : q < 6) (h1 : u1 ≤ 20) (h2 : d1 ≤ 20) :
    nR g (va_up d 3 (min 999 (d 3 + (s_walk ho le q (u1 + 2 * d1) (g 0 0)).1))) ho (s_walk ho le q (u1 + 2 * d1) (g 0 0)).2 (va_up (m_wk M q u1 d1 (g 0 0)).2 22 (if (nI ((m_wk M q u1 d1 (g 0 0)).2 22 + (m_wk M q u1 d1 (g 0 0)).1)) ≤ 999 then (m_wk M q u1 d1 (g 0 0)).2 22 + (m_wk M q u1 d1 (g 0 0)).1 else 999))
    ∧ (s_walk ho le q (u1 + 2 * d1) (g 0 0)).1 = (m_wk M q u1 d1 (g 0 0)).1 := by
  have hK := G.1
  obtain ⟨a1, a2, a3, a4, a5⟩ := walk_at G N hq h1 h2 (g 0 0) (Nat.le_refl _)
  obtain ⟨c0, c1, c2, c3, c4, c5, c6, c7, c8, c9⟩ := N
  refine ⟨?_, a1⟩
  rw [a4 22 (by omega), ← a1, ← c3.1]
  generalize s_walk ho le q (u1 + 2 * d1) (g 0 0) = A at a1 a2 a3 a5
  generalize m_wk M q u1 d1 (g 0 0) = B at a1 a3 a4
  have e : (if (nI (d 3 + A.1)) ≤ 999 then d 3 + A.1 else 999) = min 999 (d 3 + A.1) := by
    exact cap_eq (c := 999) (by omega) (by decide)
  rw [e]
  have hmn : min 999 (d 3 + A.1) ≤ 999 := Nat.min_le_left _ _
  generalize min 999 (d 3 + A.1) = V at hmn
  have k1 : va_up d 3 V 3 = V := rfl
  refine ⟨?_, ?_, ?_, ⟨?_, by rw [k1]; exact hmn⟩, ?_, fun j hj => ?_, fun j h1 h2 => (by rw [up_ne _ _ (by omega), a4 (1 + j) (by omega)]; exact c6 j h1 h2), fun j hj => ?_, a5, c9⟩
  · rw [up_ne _ _ (by omega), up_ne _ _ (by omega), a4 0 (by omega)]; exact c0
  · rw [up_ne _ _ (by omega), up_ne _ _ (by omega), a4 20 (by omega)]; exact c1
  · rw [up_ne _ _ (by omega), up_ne _ _ (by omega), a4 21 (by omega)]; exact c2
  · rw [up_at, up_at]
  · rw [up_ne _ _ (by omega), up_ne _ _ (by omega), a4 10 (by omega)]; exact c4
  · rw [up_ne _ _ (by omega), a4 (1 + j) (by omega)]; exact c5 j hj
  · rw [up_ne _ _ (by omega)]; exact a3 j hj
end PF
