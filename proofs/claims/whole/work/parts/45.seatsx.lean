/-- the table of a farm in the v-th row -/
def m_dg (f v : Nat) : Nat := (if (nI f) = 0 then v / 625 else (if (nI f) = 1 then v / 125 else (if (nI f) = 2 then v / 25 else (if (nI f) = 3 then v / 5 else v)))) % 5
theorem m_dg_lt (f v : Nat) : m_dg f v < 5 := Nat.mod_lt _ (by decide)
theorem m_dg0 (v : Nat) : m_dg 0 v = v / 625 % 5 := rfl
theorem m_dg1 (v : Nat) : m_dg 1 v = v / 125 % 5 := rfl
theorem m_dg2 (v : Nat) : m_dg 2 v = v / 25 % 5 := rfl
theorem m_dg3 (v : Nat) : m_dg 3 v = v / 5 % 5 := rfl
theorem m_dg4 (v : Nat) : m_dg 4 v = v % 5 := rfl
theorem up_at (f : Nat → Nat) (k v : Nat) : va_up f k v k = v := by unfold va_up; rw [if_pos rfl]
theorem up_ne (f : Nat → Nat) {k j : Nat} (v : Nat) (h : ¬ j = k) : va_up f k v j = f j := by unfold va_up; rw [if_neg h]
def m_okAt (M : Nat → Nat → Nat) (tb v e : Nat) : Prop := (m_kneesOf M e (M 9 0) = 0 → m_dg e v = 0) ∧ (¬ m_kneesOf M e (M 9 0) = 0 → m_dg e v < tb) ∧ ∀ q, q < e → m_kneesOf M e (M 9 0) = 0 ∨ m_kneesOf M q (M 9 0) = 0 ∨ ¬ m_dg e v = m_dg q v ∨ ¬ m_speak M e q = 0
def m_ok (M : Nat → Nat → Nat) (tb v f : Nat) : Prop := ∀ e, e < f → m_okAt M tb v e
theorem m_sg_ok (M : Nat → Nat → Nat) (f b0 : Nat) (tf : Nat → Nat) (hb : b0 = 0 ∨ b0 = 1) (ht : ∀ j, j ≤ f → tf j < 5) : ∀ i, i ≤ f → (m_sg M f b0 tf i = 1 ∧ b0 = 1 ∧ ∀ q, q < i → m_kneesOf M f (M 9 0) = 0 ∨ m_kneesOf M q (M 9 0) = 0 ∨ ¬ tf f = tf q ∨ ¬ m_speak M f q = 0) ∨ (m_sg M f b0 tf i = 0 ∧ ¬ (b0 = 1 ∧ ∀ q, q < i → m_kneesOf M f (M 9 0) = 0 ∨ m_kneesOf M q (M 9 0) = 0 ∨ ¬ tf f = tf q ∨ ¬ m_speak M f q = 0))
  | 0, _ => by
    rcases hb with h | h
    · exact Or.inr ⟨h, fun z => by rw [h] at z; exact absurd z.1 (by decide)⟩
    · exact Or.inl ⟨h, h, fun q hq => absurd hq (Nat.not_lt_zero _)⟩
  | i + 1, hi => by
    have ih := m_sg_ok M f b0 tf hb ht i (by omega)
    have he : m_sg M f b0 tf (i + 1) = m_sgB M f b0 tf i (m_sg M f b0 tf i) := rfl
    rw [he]
    unfold m_sgB
    rcases ih with ⟨h1, h2, h3⟩ | ⟨h1, h2⟩
    · rw [h1, if_neg (by decide)]
      have key : ∀ b : Nat, (m_kneesOf M f (M 9 0) = 0 ∨ m_kneesOf M i (M 9 0) = 0 ∨ ¬ tf f = tf i ∨ ¬ m_speak M f i = 0) → b = 1 → (b = 1 ∧ b0 = 1 ∧ ∀ q, q < i + 1 → m_kneesOf M f (M 9 0) = 0 ∨ m_kneesOf M q (M 9 0) = 0 ∨ ¬ tf f = tf q ∨ ¬ m_speak M f q = 0) ∨ (b = 0 ∧ ¬ (b0 = 1 ∧ ∀ q, q < i + 1 → m_kneesOf M f (M 9 0) = 0 ∨ m_kneesOf M q (M 9 0) = 0 ∨ ¬ tf f = tf q ∨ ¬ m_speak M f q = 0)) := by
        intro b hc hb1
        refine Or.inl ⟨hb1, h2, fun q hq => ?_⟩
        rcases Nat.lt_succ_iff_lt_or_eq.mp hq with h | h
        · exact h3 q h
        · rw [h]; exact hc
      by_cases c1 : m_kneesOf M f (M 9 0) = 0
      · rw [if_pos c1]; exact key 1 (Or.inl c1) rfl
      · rw [if_neg c1]
        by_cases c2 : m_kneesOf M i (M 9 0) = 0
        · rw [if_pos c2]; exact key 1 (Or.inr (Or.inl c2)) rfl
        · rw [if_neg c2]
          have e1 := ht f (Nat.le_refl _)
          have e2 := ht i (by omega)
          by_cases c3 : tf f = tf i
          · rw [if_pos (by rw [c3])]
            by_cases c4 : m_speak M f i = 0
            · rw [if_pos c4]
              refine Or.inr ⟨rfl, fun z => ?_⟩
              rcases z.2 i (Nat.lt_succ_self i) with h | h | h | h
              · exact c1 h
              · exact c2 h
              · exact h c3
              · exact h c4
            · rw [if_neg c4]; exact key 1 (Or.inr (Or.inr (Or.inr c4))) rfl
          · rw [if_neg (fun z => c3 ((nI_eq (by omega) (by omega)).mp z))]
            exact key 1 (Or.inr (Or.inr (Or.inl c3))) rfl
    · rw [h1, if_pos (show nI 0 = 0 from rfl)]
      exact Or.inr ⟨rfl, fun z => h2 ⟨z.1, fun q hq => z.2 q (Nat.lt_succ_of_lt hq)⟩⟩
theorem m_sf_s (M : Nat → Nat → Nat) (tb v : Nat) (v0 : Nat → Nat) (f : Nat) : m_sf M tb v v0 (f + 1) = ((m_sg M f (if (nI ((m_sf M tb v v0 f).1)) = 0 then 0 else (if (m_kneesOf M f (M 9 0)) = 0 then (if (nI ((va_up (m_sf M tb v v0 f).2 f (m_dg f v)) f)) = 0 then 1 else 0) else (if (nI tb) ≤ (nI ((va_up (m_sf M tb v v0 f).2 f (m_dg f v)) f)) then 0 else 1))) (va_up (m_sf M tb v v0 f).2 f (m_dg f v)) f), va_up (m_sf M tb v v0 f).2 f (m_dg f v)) := rfl
theorem m_sf_tab (M : Nat → Nat → Nat) (tb v : Nat) (v0 : Nat → Nat) : ∀ f j, (m_sf M tb v v0 f).2 j = if j < f then m_dg j v else v0 j
  | 0, j => by rw [if_neg (Nat.not_lt_zero _)]; rfl
  | f + 1, j => by
    rw [m_sf_s]
    show va_up (m_sf M tb v v0 f).2 f (m_dg f v) j = _
    by_cases h : j = f
    · rw [h, up_at, if_pos (Nat.lt_succ_self f)]
    · rw [up_ne _ _ h, m_sf_tab M tb v v0 f j]
      by_cases h2 : j < f
      · rw [if_pos h2, if_pos (Nat.lt_succ_of_lt h2)]
      · rw [if_neg h2, if_neg (by omega)]
theorem m_sf_ok (M : Nat → Nat → Nat) (tb v : Nat) (htb : tb ≤ 5) (v0 : Nat → Nat) : ∀ f, f ≤ 5 → ((m_sf M tb v v0 f).1 = 1 ∧ m_ok M tb v f) ∨ ((m_sf M tb v v0 f).1 = 0 ∧ ¬ m_ok M tb v f)
  | 0, _ => Or.inl ⟨rfl, fun e he => absurd he (Nat.not_lt_zero _)⟩
  | f + 1, hf => by
    have ih := m_sf_ok M tb v htb v0 f (by omega)
    rw [m_sf_s]
    have hd := m_dg_lt f v
    have htab : ∀ j, j ≤ f → va_up (m_sf M tb v v0 f).2 f (m_dg f v) j = m_dg j v := by
      intro j hj
      by_cases h : j = f
      · rw [h, up_at]
      · rw [up_ne _ _ h, m_sf_tab, if_pos (by omega)]
    rw [htab f (Nat.le_refl _)]
    obtain ⟨b0, hb0⟩ : ∃ b0, b0 = (if (nI ((m_sf M tb v v0 f).1)) = 0 then 0 else (if (m_kneesOf M f (M 9 0)) = 0 then (if (nI (m_dg f v)) = 0 then 1 else 0) else (if (nI tb) ≤ (nI (m_dg f v)) then 0 else 1))) := ⟨_, rfl⟩
    rw [← hb0]
    have hb : (b0 = 1 ∧ m_ok M tb v f ∧ (m_kneesOf M f (M 9 0) = 0 → m_dg f v = 0) ∧ (¬ m_kneesOf M f (M 9 0) = 0 → m_dg f v < tb)) ∨ (b0 = 0 ∧ ¬ (m_ok M tb v f ∧ (m_kneesOf M f (M 9 0) = 0 → m_dg f v = 0) ∧ (¬ m_kneesOf M f (M 9 0) = 0 → m_dg f v < tb))) := by
      rw [hb0]
      rcases ih with ⟨h1, h2⟩ | ⟨h1, h2⟩
      · rw [h1, if_neg (by decide)]
        by_cases c1 : m_kneesOf M f (M 9 0) = 0
        · rw [if_pos c1]
          by_cases c2 : m_dg f v = 0
          · rw [if_pos (by rw [c2]; rfl)]
            exact Or.inl ⟨rfl, h2, fun _ => c2, fun z => absurd c1 z⟩
          · rw [if_neg (show ¬ nI (m_dg f v) = 0 from fun z => c2 ((nI_eq (a := m_dg f v) (b := 0) (by omega) (by omega)).mp z))]
            exact Or.inr ⟨rfl, fun z => c2 (z.2.1 c1)⟩
        · rw [if_neg c1]
          by_cases c2 : m_dg f v < tb
          · rw [if_neg (nI_ge c2 (by omega))]
            exact Or.inl ⟨rfl, h2, fun z => absurd z c1, fun _ => c2⟩
          · rw [if_pos (nI_le (by omega) (by omega))]
            exact Or.inr ⟨rfl, fun z => c2 (z.2.2 c1)⟩
      · rw [h1, if_pos (show nI 0 = 0 from rfl)]
        exact Or.inr ⟨rfl, fun z => h2 z.1⟩
    have hsg := m_sg_ok M f b0 (va_up (m_sf M tb v v0 f).2 f (m_dg f v)) (by rcases hb with ⟨h, _⟩ | ⟨h, _⟩ <;> omega) (fun j hj => by rw [htab j hj]; exact m_dg_lt j v) f (Nat.le_refl _)
    have hconv : (∀ q, q < f → m_kneesOf M f (M 9 0) = 0 ∨ m_kneesOf M q (M 9 0) = 0 ∨ ¬ va_up (m_sf M tb v v0 f).2 f (m_dg f v) f = va_up (m_sf M tb v v0 f).2 f (m_dg f v) q ∨ ¬ m_speak M f q = 0) ↔ (∀ q, q < f → m_kneesOf M f (M 9 0) = 0 ∨ m_kneesOf M q (M 9 0) = 0 ∨ ¬ m_dg f v = m_dg q v ∨ ¬ m_speak M f q = 0) := by
      constructor
      · intro h q hq
        have := h q hq
        rw [htab f (Nat.le_refl _), htab q (by omega)] at this
        exact this
      · intro h q hq
        rw [htab f (Nat.le_refl _), htab q (by omega)]
        exact h q hq
    rw [hconv] at hsg
    have hall : m_ok M tb v (f + 1) ↔ m_ok M tb v f ∧ m_okAt M tb v f := by
      constructor
      · intro h; exact ⟨fun e he => h e (Nat.lt_succ_of_lt he), h f (Nat.lt_succ_self f)⟩
      · intro h e he
        rcases Nat.lt_succ_iff_lt_or_eq.mp he with h1 | h1
        · exact h.1 e h1
        · rw [h1]; exact h.2
    rw [hall]
    rcases hsg with ⟨h1, h2, h3⟩ | ⟨h1, h2⟩
    · rcases hb with ⟨g1, g2, g3, g4⟩ | ⟨g1, _⟩
      · exact Or.inl ⟨h1, g2, g3, g4, h3⟩
      · omega
    · refine Or.inr ⟨h1, fun z => h2 ?_⟩
      rcases hb with ⟨g1, _⟩ | ⟨_, g2⟩
      · exact ⟨g1, z.2.2.2⟩
      · exact absurd ⟨z.1, z.2.1, z.2.2.1⟩ g2
/-- the search: the first row that is well, or none -/
theorem m_sv_ok (M : Nat → Nat → Nat) (tb : Nat) (htb : tb ≤ 5) : ∀ k v tf, (∃ u, v ≤ u ∧ u < v + k ∧ m_ok M tb u 5 ∧ (∀ x, v ≤ x → x < u → ¬ m_ok M tb x 5) ∧ (m_sv M tb k v tf).1 = 1 ∧ ∀ j, j < 5 → (m_sv M tb k v tf).2 j = m_dg j u) ∨ ((∀ x, v ≤ x → x < v + k → ¬ m_ok M tb x 5) ∧ (m_sv M tb k v tf).1 = 0)
  | 0, v, tf => Or.inr ⟨fun x h1 h2 => by omega, rfl⟩
  | k + 1, v, tf => by
    have h := m_sf_ok M tb v htb tf 5 (Nat.le_refl _)
    rw [m_sv_s]
    rcases h with ⟨h1, h2⟩ | ⟨h1, h2⟩
    · rw [if_neg (by rw [h1]; decide)]
      exact Or.inl ⟨v, Nat.le_refl _, by omega, h2, fun x a b => by omega, rfl, fun j hj => by show (m_sf M tb v tf 5).2 j = _; rw [m_sf_tab, if_pos hj]⟩
    · rw [if_pos (by rw [h1]; rfl)]
      rcases m_sv_ok M tb htb k (v + 1) (m_sf M tb v tf 5).2 with ⟨u, a1, a2, a3, a4, a5, a6⟩ | ⟨a1, a2⟩
      · refine Or.inl ⟨u, by omega, by omega, a3, fun x b1 b2 => ?_, a5, a6⟩
        by_cases hx : x = v
        · rw [hx]; exact h2
        · exact a4 x (by omega) b2
      · refine Or.inr ⟨fun x b1 b2 => ?_, a2⟩
        by_cases hx : x = v
        · rw [hx]; exact h2
        · exact a1 x (by omega) (by omega)
theorem m_sv_01 (M : Nat → Nat → Nat) (tb : Nat) (htb : tb ≤ 5) (k v : Nat) (tf : Nat → Nat) : (m_sv M tb k v tf).1 = 0 ∨ (m_sv M tb k v tf).1 = 1 := by
  rcases m_sv_ok M tb htb k v tf with ⟨u, _, _, _, _, h, _⟩ | ⟨_, h⟩
  · exact Or.inr h
  · exact Or.inl h
/-- five tables do -/
theorem m_sv_5 (M : Nat → Nat → Nat) (tf : Nat → Nat) : (m_sv M 5 3125 0 tf).1 = 1 := by
  rcases m_sv_ok M 5 (Nat.le_refl _) 3125 0 tf with ⟨u, _, _, _, _, h, _⟩ | ⟨h, _⟩
  · exact h
  · exfalso
    obtain ⟨c, hc⟩ : ∃ c : Nat → Nat, c = fun f => if m_kneesOf M f (M 9 0) = 0 then 0 else f := ⟨_, rfl⟩
    have hcl : ∀ f, f < 5 → c f < 5 := by intro f hf; rw [hc]; show (if _ then _ else _) < 5; split <;> omega
    have l0 := hcl 0 (by omega)
    have l1 := hcl 1 (by omega)
    have l2 := hcl 2 (by omega)
    have l3 := hcl 3 (by omega)
    have l4 := hcl 4 (by omega)
    have hdig : ∀ f, f < 5 → m_dg f (c 0 * 625 + c 1 * 125 + c 2 * 25 + c 3 * 5 + c 4) = c f := by
      intro f hf
      rcases (show f = 0 ∨ f = 1 ∨ f = 2 ∨ f = 3 ∨ f = 4 by omega) with e | e | e | e | e <;> subst e
      · rw [m_dg0]; omega
      · rw [m_dg1]; omega
      · rw [m_dg2]; omega
      · rw [m_dg3]; omega
      · rw [m_dg4]; omega
    refine h (c 0 * 625 + c 1 * 125 + c 2 * 25 + c 3 * 5 + c 4) (Nat.zero_le _) (by omega) (fun e he => ?_)
    have hce : ∀ f, ¬ m_kneesOf M f (M 9 0) = 0 → c f = f := by intro f hf; rw [hc]; show (if _ then _ else _) = f; rw [if_neg hf]
    refine ⟨fun z => ?_, fun _ => m_dg_lt _ _, fun q hq => ?_⟩
    · rw [hdig e he, hc]; show (if _ then _ else _) = 0; rw [if_pos z]
    · by_cases a1 : m_kneesOf M e (M 9 0) = 0
      · exact Or.inl a1
      · by_cases a2 : m_kneesOf M q (M 9 0) = 0
        · exact Or.inr (Or.inl a2)
        · refine Or.inr (Or.inr (Or.inl ?_))
          rw [hdig e he, hdig q (by omega), hce e a1, hce q a2]
          omega
