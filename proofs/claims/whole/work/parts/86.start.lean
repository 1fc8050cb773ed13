/-! how a new object of both begins -/
theorem g_0_ok : gOK g_0 := ⟨⟨Nat.zero_le _, Nat.zero_le _⟩, fun j => ⟨Nat.zero_le _, Nat.zero_le _, Nat.zero_le _, Nat.zero_le _, Nat.zero_le _, Nat.zero_le _, Nat.zero_lt_succ 31, (show (1 : Nat) ≤ 9 by decide)⟩⟩
theorem tab_0 : (s_tab g_0 7 0 (g_0 9)).1 = 0 := by decide +kernel
theorem start_rel (M0 E0 : Nat → Nat → Nat) (mi0 : Nat → Nat) (hM0 : M0 = fun _ _ => 0) (hmi0 : mi0 = fun _ => 0) (hE0 : E0 = (va_up (va_up (va_up M0 9 (va_up (va_up (M0 9) 2 0) 3 0)) 16 (va_up (va_up (va_up (va_up (va_up (M0 16) 5 0) 6 0) 7 0) 8 0) 9 0)) 17 (va_up (va_up (va_up (va_up (va_up (M0 17) 5 1) 6 1) 7 1) 8 1) 9 1))) : ∃ (S : Nat → Nat → Nat) (T : Nat), (S 9 = m_NN E0 ∧ S 10 = (m_zk E0 (m_NN E0) 9).1 ∧ S 11 = (m_zk E0 (m_NN E0) 9).2.1 ∧ S 12 = (m_zk E0 (m_NN E0) 9).2.2.1 ∧ S 13 = (m_zp E0 6).1 ∧ S 14 = (m_zp E0 6).2.1 ∧ S 15 = (m_zp E0 6).2.2 ∧ S 16 = (m_zf E0 5).1 ∧ S 17 = (m_zf E0 5).2 ∧ S 18 = (m_SZ E0).2.2 ∧ S 20 = (m_zk E0 (m_NN E0) 9).2.2.2 ∧ S 22 = (va_up (va_up (E0 22) 0 0) 1 0) ∧ T = (m_SZ E0).2.1) ∧ REL 0 ((fun j => [0, 0, 256, 0, 0, 0].getD j 0) 3) 0 0 0 (fun _ => 0) g_0 g_0 (fun _ => 0) (fun _ => 1) (fun _ => 0) (fun _ _ => 0) (fun _ _ => 1) (fun _ _ => 0) (fun _ => 0) (fun _ => 0) (fun _ _ => 0) (fun _ _ => 1) (fun _ _ => 0) (m_pG M0 S) (va_up (va_up (va_up (va_up (va_up mi0 3 0) 19 T) 24 0) 28 0) 31 0) 0 := by
  have hz : ∀ i j, M0 i j = 0 := fun i j => by rw [hM0]
  have hzi : ∀ i, mi0 i = 0 := fun i => by rw [hmi0]
  have hP : rd_P g_0 E0 := by
    rw [hE0]
    refine ⟨rfl, rfl, fun k hk => absurd (show k < 0 from hk) (Nat.not_lt_zero _), fun k hk => absurd (show k < 0 from hk) (Nat.not_lt_zero _), fun f hf => ?_⟩
    rcases (show f = 0 ∨ f = 1 ∨ f = 2 ∨ f = 3 ∨ f = 4 by omega) with rfl | rfl | rfl | rfl | rfl <;> exact ⟨rfl, rfl⟩
  have hB : ∀ j, E0 10 j ≤ 1 ∧ E0 11 j ≤ 4 := fun j => by
    rw [hE0]
    show M0 10 j ≤ 1 ∧ M0 11 j ≤ 4
    rw [hz, hz]
    exact ⟨Nat.zero_le _, Nat.zero_le _⟩
  obtain ⟨S, T, he, hp, hn, ht, hg, hb⟩ := settled2 g_0_ok hP hB
  refine ⟨S, T, he, ?_⟩
  have hE22 : ∀ i, i < 2 → S 22 i = 0 := fun i hi => by
    rw [he.2.2.2.2.2.2.2.2.2.2.2.1]
    rcases (show i = 0 ∨ i = 1 by omega) with rfl | rfl <;> rfl
  have hT : T = 0 := by
    rw [← ht.1]
    exact tab_0
  have e9 : S 9 0 = 0 := hp.1
  obtain ⟨c0, c1, c2, c3, c4, -, c6, -, -, -⟩ := hn
  refine ⟨⟨rfl, Nat.zero_le _⟩, ⟨?_, fun _ => Nat.zero_lt_succ 255⟩, rfl, ⟨Nat.zero_le _, ?_⟩, ⟨g_0_ok, g_0_ok⟩, hp, ⟨c0, c1, c2, c3, c4, fun k hk => absurd (show k < 0 from hk) (Nat.not_lt_zero _), fun k _ h2 => c6 k (Nat.zero_le _) h2, fun k hk => absurd (show k < 0 from hk) (Nat.not_lt_zero _), fun _ => Nat.zero_le _, fun k1 k2 h1 => absurd (show k1 < 0 from h1) (Nat.not_lt_zero _)⟩, ⟨?_, fun f hf => ?_⟩, hb, ⟨rfl, uR_none (by decide)⟩, fun i hi => ⟨?_, Nat.zero_le _, fun z => absurd rfl z⟩, hR_none _, ?_, ?_⟩
  · show (fun _ => 0) = M0 2
    rw [hM0]
  · show mi0 7 ≤ 999
    rw [hzi]
    exact Nat.zero_le _
  · show 0 = T
    rw [hT]
  · show 0 = if m_kneesOf (m_pG M0 S) f (S 9 0) = 0 then 0 else S 18 f + 1
    rw [e9]
    exact (if_pos rfl).symm
  · show 0 = S 22 i
    rw [hE22 i hi]
  · show mi0 33 ≤ 9
    rw [hzi]
    exact Nat.zero_le _
  · show mi0 34 ≤ 9
    rw [hzi]
    exact Nat.zero_le _
