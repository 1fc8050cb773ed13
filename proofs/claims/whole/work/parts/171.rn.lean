theorem rnL_le (tx : Nat → Nat) (ln : Nat) (htx : ∀ j, tx j < 256) (hln : ln ≤ 180) : ∀ (bs : List (Int32 × Int32)) (i : Nat) (r1 : Nat × Nat × Nat × Nat) (nm : Nat → Nat), r1.1 ≤ ln → r1.2.2.1 ≤ 100 → (rnL tx ln bs i r1 nm).2.1.1 ≤ ln ∧ (rnL tx ln bs i r1 nm).2.1.2.2.1 ≤ 100
  | [], _, _, _, h, h2 => ⟨h, h2⟩
  | b :: bs, i, r1, nm, h, h2 => by
    have e1 := tk_T_le tx ln r1.1 r1.2.2.1 htx hln h
    have e2 := tk_T_vl tx ln r1.1 r1.2.2.1 htx hln h h2
    simp only [rnL]
    split
    · split
      · exact ⟨e1, e2⟩
      · exact rnL_le tx ln htx hln bs (i + 1) _ _ e1 e2
    · exact ⟨e1, e2⟩
theorem rnL_keep (tx : Nat → Nat) (ln : Nat) : ∀ (bs : List (Int32 × Int32)) (i : Nat) (r1 : Nat × Nat × Nat × Nat) (nm : Nat → Nat) (j : Nat), j < i → (rnL tx ln bs i r1 nm).2.2 j = nm j
  | [], _, _, _, _, _ => rfl
  | b :: bs, i, r1, nm, j, hj => by
    simp only [rnL]
    split
    · split
      · rfl
      · rw [rnL_keep tx ln bs (i + 1) _ _ j (by omega), va_up_ne _ _ (by omega)]
    · rfl
theorem rnL_ok (tx : Nat → Nat) (ln : Nat) (htx : ∀ j, tx j < 256) (hln : ln ≤ 180) : ∀ (bs : List (Int32 × Int32)) (i : Nat) (r1 : Nat × Nat × Nat × Nat) (nm : Nat → Nat), r1.1 ≤ ln → r1.2.2.1 ≤ 100 → ¬ (rnL tx ln bs i r1 nm).1 = 0 →
    ∀ (j : Nat) (b : Int32 × Int32), bs[j]? = some b → ¬ jin (nI ((rnL tx ln bs i r1 nm).2.2 (i + j))) b.1 b.2 = 0 ∧ (rnL tx ln bs i r1 nm).2.2 (i + j) ≤ 100
  | [], _, _, _, _, _, _, j, b, hj => by simp at hj
  | b0 :: bs, i, r1, nm, h, h2, hne, j, b, hj => by
    have e1 := tk_T_le tx ln r1.1 r1.2.2.1 htx hln h
    have e2 := tk_T_vl tx ln r1.1 r1.2.2.1 htx hln h h2
    simp only [rnL] at hne ⊢
    split at hne
    · rename_i hc1
      rw [if_pos hc1]
      split at hne
      · exact absurd rfl hne
      · rename_i hc2
        rw [if_neg hc2]
        cases j with
        | zero =>
          simp at hj
          subst hj
          rw [show i + 0 = i from rfl, rnL_keep tx ln bs (i + 1) _ _ i (by omega), va_up_self]
          exact ⟨hc2, e2⟩
        | succ j =>
          have ih := rnL_ok tx ln htx hln bs (i + 1) _ _ e1 e2 hne j b (by simpa using hj)
          rw [show i + (j + 1) = i + 1 + j by omega]
          exact ih
    · exact absurd rfl hne
theorem jin_nat {a b c : Nat} (ha : a < 2 ^ 31) (hb : b < 2 ^ 31) (hc : c < 2 ^ 31) : jin (nI a) (nI b) (nI c) = if b ≤ a ∧ a ≤ c then 1 else 0 := by
  unfold jin
  by_cases h1 : a < b
  · rw [if_pos ((nI_ltI ha hb).mpr h1), if_neg (by omega)]
  · rw [if_neg (fun z => h1 ((nI_ltI ha hb).mp z))]
    by_cases h2 : c < a
    · rw [if_pos ((nI_ltI hc ha).mpr h2), if_neg (by omega)]
    · rw [if_neg (fun z => h2 ((nI_ltI hc ha).mp z)), if_pos (by omega)]
theorem jin_le {a b c : Nat} (ha : a ≤ 100) (hb : b < 2 ^ 31) (hc : c < 2 ^ 31) (h : ¬ jin (nI a) (nI b) (nI c) = 0) : b ≤ a ∧ a ≤ c := by
  rw [jin_nat (by omega) hb hc] at h
  by_cases h1 : b ≤ a ∧ a ≤ c
  · exact h1
  · rw [if_neg h1] at h; exact absurd rfl h
