/-! the class's words and the model's, under one relation: what reads -/
def pR (g M : Nat → Nat → Nat) : Prop := M 9 0 = g 0 0 ∧ M 9 1 = g 0 1 ∧ (∀ k, k < g 0 0 → M 10 k = g 1 k ∧ M 11 k = g 2 k ∧ M 12 k = g 3 k) ∧ (∀ q, q < g 0 1 → M 13 q = g 4 q ∧ M 14 q = g 5 q ∧ M 15 q = g 6 q) ∧ ∀ f, f < 5 → M 16 f = g 7 f ∧ M 17 f = g 8 f
/-- how things are -/
def nR (g : Nat → Nat → Nat) (d ho le f : Nat → Nat) : Prop := (d 0 = f 0 ∧ d 0 ≤ 999) ∧ (d 1 = f 20 ∧ d 1 ≤ 99999) ∧ (d 2 = f 21 ∧ d 2 ≤ 9999) ∧ (d 3 = f 22 ∧ d 3 ≤ 999) ∧ (d 4 = f 10 ∧ d 4 < 512) ∧ (∀ k, k < g 0 0 → ho k = f (1 + k) ∧ ho k ≤ g 0 1) ∧ (∀ k, g 0 0 ≤ k → k < 9 → f (1 + k) = 0) ∧ (∀ k, k < g 0 0 → le k = f (11 + k)) ∧ (∀ k, le k ≤ 60) ∧ ∀ k1 k2, k1 < g 0 0 → k2 < g 0 0 → ho k1 = ho k2 → ¬ ho k1 = 0 → g 1 k1 = g 1 k2 → k1 = k2
theorem jb_01 (x y : Int32) : jbit x y = 0 ∨ jbit x y = 1 := by
  unfold jbit
  rw [pk_and (x >>> (y &&& 31)) (m := 1) 1 (by decide)]
  rcases Nat.mod_two_eq_zero_or_one ((x >>> (y &&& 31)).toBitVec.toNat) with h | h
  · left; rw [show 2 ^ 1 = 2 from rfl, h]; rfl
  · right; rw [show 2 ^ 1 = 2 from rfl, h]; rfl
theorem jb_n0 {x y : Int32} : ¬ jbit x y = 0 ↔ jbit x y = 1 := by
  rcases jb_01 x y with h | h <;> rw [h] <;> decide
theorem jb_n1 {x y : Int32} : ¬ jbit x y = 1 ↔ jbit x y = 0 := by
  rcases jb_01 x y with h | h <;> rw [h] <;> decide
theorem ly_h_q {x q : Nat} (hx : x < 2 ^ 31) (hq : q < 2 ^ 31) : ly_h x = nI q ↔ x = q + 1 := by
  unfold ly_h
  split
  · rename_i h
    refine ⟨fun z => absurd (show (-9 : Int32) < 0 by decide) (by rw [z]; exact nI_pos hq), fun z => by omega⟩
  · rename_i h
    rw [nI_eq (by omega) hq]
    omega
theorem ly_h_9 {x : Nat} (hx : x < 2 ^ 31) : ly_h x = -9 ↔ x = 0 := by
  unfold ly_h
  split
  · rename_i h
    exact ⟨fun _ => h, fun _ => rfl⟩
  · rename_i h
    exact ⟨fun z => absurd (show (-9 : Int32) < 0 by decide) (by rw [← z]; exact nI_pos (by omega)), fun z => absurd z h⟩
theorem nI_z0 {x : Nat} (hx : x < 2 ^ 31) : nI x = 0 ↔ x = 0 := nI_eq (a := x) (b := 0) hx (by omega)
theorem nI_le0 {x : Nat} (hx : x < 2 ^ 31) : nI x ≤ 0 ↔ x = 0 := by
  rw [show (nI x ≤ 0) = (nI x ≤ nI 0) from rfl, nI_leI hx (by omega)]
  omega
theorem s_held_at (g : Nat → Nat → Nat) (ho : Nat → Nat) (q o : Nat) {bd : Nat} (hb : ∀ k, k < bd → ho k ≤ 6) (hq : q < 6) (ho1 : o ≤ 1) (hg : ∀ j, g 1 j ≤ 1) : ∀ n i, i + n ≤ bd → (s_held g ho q o n i = -9 ∧ ∀ k, i ≤ k → k < i + n → ¬ (ho k = q + 1 ∧ g 1 k = o)) ∨ ∃ k, i ≤ k ∧ k < i + n ∧ s_held g ho q o n i = nI k ∧ ho k = q + 1 ∧ g 1 k = o
  | 0, i, _ => Or.inl ⟨rfl, fun k h1 h2 => absurd h1 (by omega)⟩
  | n + 1, i, h => by
    have ih := s_held_at g ho q o hb hq ho1 hg n (i + 1) (by omega)
    have hbi := hb i (by omega)
    have hgi := hg i
    by_cases c : ho i = q + 1 ∧ g 1 i = o
    · right
      refine ⟨i, Nat.le_refl _, by omega, ?_, c⟩
      show (if _ then _ else _) = _
      rw [if_pos ((ly_h_q (by omega) (by omega)).mpr c.1), if_pos (by rw [c.2])]
    · have e : s_held g ho q o (n + 1) i = s_held g ho q o n (i + 1) := by
        show (if ly_h (ho i) = nI q then (if nI (g 1 i) = nI o then nI i else _) else _) = _
        split
        · rename_i c1
          have h1 := (ly_h_q (by omega) (by omega)).mp c1
          rw [if_neg (fun z => c ⟨h1, (nI_eq (by omega) (by omega)).mp z⟩)]
        · rfl
      rw [e]
      rcases ih with ⟨h1, h2⟩ | ⟨k, h1, h2, h3⟩
      · left
        refine ⟨h1, fun k k1 k2 => ?_⟩
        by_cases hk : k = i
        · rw [hk]; exact c
        · exact h2 k (by omega) (by omega)
      · right
        exact ⟨k, by omega, by omega, h3⟩
theorem m_on_at (M : Nat → Nat → Nat) (q o : Nat) (hq : q < 6) (ho1 : o ≤ 1) (n : Nat) (hb : ∀ k, k < n → M 20 (1 + k) ≤ 6) (hn : n ≤ 9) (hg : ∀ j, j < n → M 10 j ≤ 1) : ∀ i, i ≤ n → (m_on M q o i = 0 ∧ ∀ k, k < i → ¬ (M 20 (1 + k) = q + 1 ∧ M 10 k = o)) ∨ ∃ k, k < i ∧ m_on M q o i = k + 1 ∧ M 20 (1 + k) = q + 1 ∧ M 10 k = o
  | 0, _ => Or.inl ⟨rfl, fun k h => absurd h (Nat.not_lt_zero _)⟩
  | i + 1, h => by
    have ih := m_on_at M q o hq ho1 n hb hn hg i (by omega)
    have hbi := hb i (by omega)
    have hgi := hg i (by omega)
    by_cases c : M 20 (1 + i) = q + 1 ∧ M 10 i = o
    · right
      refine ⟨i, by omega, ?_, c⟩
      show m_onB M q o i _ = _
      unfold m_onB
      rw [if_pos (by rw [c.1]), if_pos (by rw [c.2])]
    · have e : m_on M q o (i + 1) = m_on M q o i := by
        show m_onB M q o i _ = _
        unfold m_onB
        split
        · rename_i c1
          have h1 := (nI_eq (by omega) (by omega)).mp c1
          rw [if_neg (fun z => c ⟨h1, (nI_eq (by omega) (by omega)).mp z⟩)]
        · rfl
      rw [e]
      rcases ih with ⟨h1, h2⟩ | ⟨k, h1, h2⟩
      · left
        refine ⟨h1, fun k k1 => ?_⟩
        by_cases hk : k = i
        · rw [hk]; exact c
        · exact h2 k (by omega)
      · right
        exact ⟨k, by omega, h2⟩
section PA
variable {g M : Nat → Nat → Nat} {d ho le : Nat → Nat}
theorem held_on (G : gOK g) (P : pR g M) (N : nR g d ho le (M 20)) {q o : Nat} (hq : q < g 0 1) (ho1 : o ≤ 1) : s_held g ho q o (g 0 0) 0 = ly_h (m_on M q o (M 9 0)) := by
  have hK := G.1
  have hb : ∀ k, k < g 0 0 → ho k ≤ 6 := fun k hk => Nat.le_trans (N.2.2.2.2.2.1 k hk).2 hK.2
  have h1 := s_held_at g ho q o hb (by omega) ho1 (fun j => (G.2 j).1) (g 0 0) 0 (by omega)
  have h2 := m_on_at M q o (by omega) ho1 (M 9 0) (fun k hk => by rw [P.1] at hk; rw [← (N.2.2.2.2.2.1 k hk).1]; exact hb k hk) (by rw [P.1]; exact hK.1) (fun j hj => by rw [P.1] at hj; rw [(P.2.2.1 j hj).1]; exact (G.2 j).1) (M 9 0) (Nat.le_refl _)
  rw [P.1] at h2 ⊢
  rcases h1 with ⟨e1, n1⟩ | ⟨k1, -, l1, e1, a1, b1⟩
  · rcases h2 with ⟨e2, n2⟩ | ⟨k2, l2, e2, a2, b2⟩
    · rw [e1, e2]; rfl
    · exact absurd ⟨by rw [(N.2.2.2.2.2.1 k2 (by omega)).1]; exact a2, by rw [← (P.2.2.1 k2 l2).1]; exact b2⟩ (n1 k2 (Nat.zero_le _) (by omega))
  · rw [Nat.zero_add] at l1
    rcases h2 with ⟨e2, n2⟩ | ⟨k2, l2, e2, a2, b2⟩
    · exact absurd ⟨by rw [← (N.2.2.2.2.2.1 k1 (by omega)).1]; exact a1, by rw [(P.2.2.1 k1 l1).1]; exact b1⟩ (n2 k1 l1)
    · have hk : k1 = k2 := N.2.2.2.2.2.2.2.2.2 k1 k2 l1 l2 (by rw [a1, (N.2.2.2.2.2.1 k2 (by omega)).1, a2]) (by omega) (by rw [b1, ← (P.2.2.1 k2 l2).1, b2])
      rw [e1, e2, hk]; rfl
theorem needs_wants (P : pR g M) {q : Nat} (hq : q < g 0 1) (o : Nat) : s_needs g q o = m_wants M q o := by
  unfold s_needs m_wants
  rw [(P.2.2.2.1 q hq).1]
  rfl
theorem ready_eq (G : gOK g) (P : pR g M) (N : nR g d ho le (M 20)) {q : Nat} (hq : q < g 0 1) : s_ready g ho q = m_ready M q := by
  unfold s_ready m_ready
  rw [needs_wants P hq 0, needs_wants P hq 1, held_on G P N hq (by omega), held_on G P N hq (by omega)]
theorem free_eq (N : nR g d ho le (M 20)) (hm : g 0 1 ≤ 6) {k : Nat} (hk : k < g 0 0) : s_free d ho k = m_free M k := by
  have h1 := N.2.2.2.2.2.1 k hk
  unfold s_free m_free m_pledged
  rw [← h1.1, ← N.2.2.2.2.1.1]
  by_cases c : ho k = 0
  · rw [if_pos ((ly_h_9 (by omega)).mpr c), if_pos ((nI_z0 (by omega)).mpr c)]
    show (if jbit (nI (d 4)) (nI k) = 0 then (1 : Int32) else 0) = (if (if jbit (nI (d 4)) (nI k) = 1 then (1 : Int32) else 0) = 0 then 1 else 0)
    rcases jb_01 (nI (d 4)) (nI k) with h | h <;> rw [h] <;> decide
  · rw [if_neg (fun z => c ((ly_h_9 (by omega)).mp z)), if_neg (fun z => c ((nI_z0 (by omega)).mp z))]
theorem free_01 (M : Nat → Nat → Nat) (k : Nat) : m_free M k = 0 ∨ m_free M k = 1 := by
  unfold m_free
  repeat' split
  all_goals first | exact Or.inl rfl | exact Or.inr rfl
theorem wants_01 (M : Nat → Nat → Nat) (q o : Nat) : m_wants M q o = 0 ∨ m_wants M q o = 1 := by
  unfold m_wants
  split
  · exact Or.inr rfl
  · exact Or.inl rfl
theorem offers_eq (G : gOK g) (P : pR g M) (N : nR g d ho le (M 20)) {k q : Nat} (hk : k < g 0 0) (hq : q < g 0 1) : s_offers g d ho le k q = m_mayGo M k q := by
  have hK := G.1
  unfold s_offers m_mayGo
  rw [free_eq N hK.2 (by omega), needs_wants P hq, (P.2.2.1 k hk).1, N.2.2.2.2.2.2.2.1 k hk, (P.2.2.2.1 q hq).2.1, (P.2.2.2.1 q hq).2.2]
  rcases free_01 M k with h | h <;> rcases wants_01 M q (g 1 k) with h2 | h2 <;> rw [h, h2] <;> first | rfl | (rw [if_pos rfl]; done) | (rw [if_pos rfl, if_neg (by decide), if_pos rfl]; done) | (rw [if_neg (by decide), if_pos rfl, if_pos rfl]; done)
theorem speak_eq (P : pR g M) (G : gOK g) {k o : Nat} (hk : k < g 0 0) (ho1 : o < g 0 0) : s_speak g k o = m_speak M (M 11 k) (M 11 o) := by
  unfold s_speak m_speak
  rw [(P.2.2.1 k hk).2.1, (P.2.2.1 o ho1).2.1, (P.2.2.2.2 (g 2 k) (Nat.lt_succ_of_le (G.2 k).2.1)).1]
  rfl
theorem mayL_eq (G : gOK g) (P : pR g M) (N : nR g d ho le (M 20)) {k q : Nat} (hk : k < g 0 0) (hq : q < g 0 1) : s_mayLend g d ho le k q = m_mayL M k q := by
  have hK := G.1
  have hs := (G.2 k).1
  have hl : nI (le k) = 0 ↔ nI (M 20 (11 + k)) ≤ 0 := by
    rw [← N.2.2.2.2.2.2.2.1 k hk, nI_z0 (by have := N.2.2.2.2.2.2.2.2.1 k; omega), nI_le0 (by have := N.2.2.2.2.2.2.2.2.1 k; omega)]
  unfold s_mayLend m_mayL
  rw [free_eq N hK.2 (by omega), needs_wants P hq, (P.2.2.1 k hk).1, held_on G P N hq hs, held_on G P N hq (show 1 - g 1 k ≤ 1 by omega)]
  by_cases c1 : m_free M k = 0
  · rw [if_pos c1, if_pos c1]
  · rw [if_neg c1, if_neg c1]
    by_cases c2 : nI (le k) = 0
    · rw [if_pos c2, if_pos (hl.mp c2)]
    · rw [if_neg c2, if_neg (fun z => c2 (hl.mpr z))]
      by_cases c3 : m_wants M q (g 1 k) = 0
      · rw [if_pos c3, if_pos c3]
      · rw [if_neg c3, if_neg c3]
        by_cases c4 : ly_h (m_on M q (g 1 k) (M 9 0)) = -9
        · rw [if_pos c4, if_pos c4]
          by_cases c5 : ly_h (m_on M q (1 - g 1 k) (M 9 0)) = -9
          · rw [if_pos c5, if_pos c5]
          · rw [if_neg c5, if_neg c5]
            have hle := m_on_le M q (1 - g 1 k) (M 9 0)
            have hp1 := P.1
            have hnz : ¬ m_on M q (1 - g 1 k) (M 9 0) = 0 := fun z => c5 (by rw [z]; rfl)
            have hc : (ly_h (m_on M q (1 - g 1 k) (M 9 0))).toNatClampNeg = m_on M q (1 - g 1 k) (M 9 0) - 1 := by
              unfold ly_h
              rw [if_neg hnz]
              exact nI_clamp (by omega)
            rw [hc, speak_eq P G hk (by omega)]
        · rw [if_neg c4, if_neg c4]
theorem kneesOf_eq (P : pR g M) (f : Nat) : ∀ i, i ≤ g 0 0 → s_kneesOf g f i = m_kneesOf M f i
  | 0, _ => rfl
  | i + 1, h => by
    have ih := kneesOf_eq P f i (by omega)
    show s_kneesOfB g f i _ = m_kneesOfB M f i _
    unfold s_kneesOfB m_kneesOfB
    rw [ih, (P.2.2.1 i (by omega)).2.1]
    split
    · rfl
    · exact Int32.or_zero.symm
theorem home_eq (N : nR g d ho le (M 20)) (hm : g 0 1 ≤ 6) : ∀ i, i ≤ g 0 0 → s_home ho i = m_home M i
  | 0, _ => rfl
  | i + 1, h => by
    have ih := home_eq N hm i (by omega)
    have h1 := N.2.2.2.2.2.1 i (by omega)
    show s_homeB ho i _ = m_homeB M i _
    unfold s_homeB m_homeB
    rw [ih, ← h1.1]
    by_cases c : ho i = 0
    · rw [if_pos ((ly_h_9 (by omega)).mpr c), if_pos ((nI_z0 (by omega)).mpr c)]
    · rw [if_neg (fun z => c ((ly_h_9 (by omega)).mp z)), if_neg (fun z => c ((nI_z0 (by omega)).mp z))]
      exact Int32.or_zero.symm
theorem rest_eq (N : nR g d ho le (M 20)) (hm : g 0 1 ≤ 6) (hK : g 0 0 ≤ 9) : ∀ i, i ≤ g 0 0 → s_rest d ho le i = m_rest M i
  | 0, _ => rfl
  | i + 1, h => by
    have ih := rest_eq N hm hK i (by omega)
    have hle := m_rest_le M i
    show s_restB d ho le i _ = m_restB M i _
    unfold s_restB m_restB
    rw [ih, free_eq N hm (by omega), N.2.2.2.2.2.2.2.1 i (by omega)]
    by_cases c : m_rest M i = 0
    · rw [c]
      split
      · rfl
      · rw [if_pos (show ly_h 0 = -9 from rfl), if_pos (show ly_h 0 = -9 from rfl)]
    · rw [N.2.2.2.2.2.2.2.1 (m_rest M i - 1) (by omega)]
end PA
