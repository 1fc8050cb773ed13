/-! lending: what the model's search from a person on comes to -/
def lf_ok (M : Nat → Nat → Nat) (q us l r : Nat) : Prop := ¬ m_fits M q 0 l us = 0 ∧ ¬ m_fits M q 1 r us = 0 ∧ (l = 0 ∨ r = 0 ∨ ¬ m_speak M (M 11 (l - 1)) (M 11 (r - 1)) = 0)
def lf_v (M : Nat → Nat → Nat) (lz : Nat → Nat) (q us l r : Nat) : Nat := m_oilOf M l + m_oilOf M r + lz (512 * (q + 1) + ((us ||| m_bitOf l) ||| m_bitOf r))
def lf_I (M : Nat → Nat → Nat) (lz : Nat → Nat) (q us : Nat) (D : Nat → Nat → Prop) (S : Nat × Nat × Nat) : Prop := S.1 ≤ 1000000 ∧ (∀ l r, D l r → lf_ok M q us l r → S.1 ≤ lf_v M lz q us l r) ∧ (S.1 = 1000000 ∨ (S.1 < 1000000 ∧ D S.2.1 S.2.2 ∧ lf_ok M q us S.2.1 S.2.2 ∧ lf_v M lz q us S.2.1 S.2.2 = S.1 ∧ ∀ l r, D l r → lf_ok M q us l r → lf_v M lz q us l r = S.1 → S.2.1 < l ∨ (S.2.1 = l ∧ S.2.2 ≤ r)))
theorem lf_I.iff {M : Nat → Nat → Nat} {lz : Nat → Nat} {q us : Nat} {D D2 : Nat → Nat → Prop} {S : Nat × Nat × Nat} (h : lf_I M lz q us D S) (hd : ∀ l r, lf_ok M q us l r → (D2 l r ↔ D l r)) : lf_I M lz q us D2 S := by
  obtain ⟨h1, h2, h3⟩ := h
  refine ⟨h1, fun l r a b => h2 l r ((hd l r b).mp a) b, ?_⟩
  rcases h3 with h3 | ⟨h3, h4, h5, h6, h7⟩
  · exact Or.inl h3
  · exact Or.inr ⟨h3, (hd _ _ h5).mpr h4, h5, h6, fun l r a b c => h7 l r ((hd l r b).mp a) b c⟩
section LF
variable {M : Nat → Nat → Nat} {lz : Nat → Nat} {q us : Nat}
theorem lfRB_eq {l1 r1 v0 v1 v2 o0 o1 o2 : Nat} (hl : l1 ≤ 9) (hr : r1 ≤ 9) (hf : ¬ m_fits M q 0 l1 us = 0) (hv : v0 ≤ 1000000) (hw : lf_v M lz q us l1 r1 ≤ 2000000) :
    (lf_ok M q us l1 r1 ∧ m_lfRB M lz q us l1 o0 o1 o2 r1 v0 v1 v2 = if v0 ≤ lf_v M lz q us l1 r1 then (v0, v1, v2) else (lf_v M lz q us l1 r1, l1, r1)) ∨ (¬ lf_ok M q us l1 r1 ∧ m_lfRB M lz q us l1 o0 o1 o2 r1 v0 v1 v2 = (v0, v1, v2)) := by
  have nv : nI v0 ≤ 1000000 := (nI_leI (a := v0) (b := 1000000) (by omega) (by omega)).mpr hv
  have ev : (if (nI (v0)) ≤ (nI (m_oilOf M l1 + m_oilOf M r1 + lz (512 * (q + 1) + ((us ||| m_bitOf l1) ||| m_bitOf r1)))) then (v0, v1, v2) else (m_oilOf M l1 + m_oilOf M r1 + lz (512 * (q + 1) + ((us ||| m_bitOf l1) ||| m_bitOf r1)), l1, r1)) = if v0 ≤ lf_v M lz q us l1 r1 then (v0, v1, v2) else (lf_v M lz q us l1 r1, l1, r1) := by
    show (if nI v0 ≤ nI (lf_v M lz q us l1 r1) then (v0, v1, v2) else (lf_v M lz q us l1 r1, l1, r1)) = _
    by_cases z : v0 ≤ lf_v M lz q us l1 r1
    · rw [if_pos z, if_pos (nI_le z (by omega))]
    · rw [if_neg z, if_neg (fun y => z ((nI_leI (by omega) (by omega)).mp y))]
  unfold m_lfRB
  rw [ev]
  by_cases c1 : m_fits M q 1 r1 us = 0
  · rw [if_pos c1, if_pos nv]
    exact Or.inr ⟨fun z => z.2.1 c1, rfl⟩
  · rw [if_neg c1]
    by_cases c2 : l1 = 0
    · rw [if_pos (show nI l1 = 0 by rw [c2]; rfl)]
      exact Or.inl ⟨⟨hf, c1, Or.inl c2⟩, rfl⟩
    · rw [if_neg (fun z => c2 ((nI_z0 (by omega)).mp z))]
      by_cases c3 : r1 = 0
      · rw [if_pos (show nI r1 = 0 by rw [c3]; rfl)]
        exact Or.inl ⟨⟨hf, c1, Or.inr (Or.inl c3)⟩, rfl⟩
      · rw [if_neg (fun z => c3 ((nI_z0 (by omega)).mp z))]
        by_cases c4 : m_speak M (M 11 (l1 - 1)) (M 11 (r1 - 1)) = 0
        · rw [if_pos c4, if_pos nv]
          exact Or.inr ⟨fun z => z.2.2.elim c2 (fun y => y.elim c3 (fun w => w c4)), rfl⟩
        · rw [if_neg c4]
          exact Or.inl ⟨⟨hf, c1, Or.inr (Or.inr c4)⟩, rfl⟩
theorem lf_step {D : Nat → Nat → Prop} {S : Nat × Nat × Nat} {l1 r1 o0 o1 o2 : Nat} (h : lf_I M lz q us D S) (hl : l1 ≤ 9) (hr : r1 ≤ 9) (hf : ¬ m_fits M q 0 l1 us = 0) (hw : lf_v M lz q us l1 r1 ≤ 2000000) (hD : ∀ l r, D l r → l < l1 ∨ (l = l1 ∧ r < r1)) : lf_I M lz q us (fun l r => D l r ∨ (l = l1 ∧ r = r1)) (m_lfRB M lz q us l1 o0 o1 o2 r1 S.1 S.2.1 S.2.2) := by
  obtain ⟨h1, h2, h3⟩ := h
  rcases lfRB_eq (o0 := o0) (o1 := o1) (o2 := o2) (v1 := S.2.1) (v2 := S.2.2) hl hr hf h1 hw with ⟨a1, a2⟩ | ⟨a1, a2⟩
  · rw [a2]
    by_cases z : S.1 ≤ lf_v M lz q us l1 r1
    · rw [if_pos z]
      refine ⟨h1, fun l r d k => ?_, ?_⟩
      · rcases d with d | ⟨rfl, rfl⟩
        · exact h2 l r d k
        · exact z
      · rcases h3 with h3 | ⟨h3, h4, h5, h6, h7⟩
        · exact Or.inl h3
        · refine Or.inr ⟨h3, Or.inl h4, h5, h6, fun l r d k e => ?_⟩
          rcases d with d | ⟨rfl, rfl⟩
          · exact h7 l r d k e
          · have := hD _ _ h4
            show S.2.1 < l ∨ (S.2.1 = l ∧ S.2.2 ≤ r)
            omega
    · rw [if_neg z]
      refine ⟨by show lf_v M lz q us l1 r1 ≤ 1000000; omega, fun l r d k => ?_, Or.inr ⟨by show lf_v M lz q us l1 r1 < 1000000; omega, Or.inr ⟨rfl, rfl⟩, a1, rfl, fun l r d k e => ?_⟩⟩
      · rcases d with d | ⟨rfl, rfl⟩
        · have := h2 l r d k
          show lf_v M lz q us l1 r1 ≤ lf_v M lz q us l r
          omega
        · exact Nat.le_refl _
      · rcases d with d | ⟨rfl, rfl⟩
        · have := h2 l r d k
          have e2 : lf_v M lz q us l r = lf_v M lz q us l1 r1 := e
          omega
        · exact Or.inr ⟨rfl, Nat.le_refl _⟩
  · rw [a2]
    refine lf_I.iff ⟨h1, h2, h3⟩ (fun l r k => ⟨fun d => d.elim id (fun e => ?_), Or.inl⟩)
    rw [e.1, e.2] at k
    exact absurd k a1
theorem lf_R {n l1 o0 o1 o2 : Nat} (hn : n ≤ 9) (hl : l1 ≤ n) (hf : ¬ m_fits M q 0 l1 us = 0) (hw : ∀ l r, l ≤ n → r ≤ n → lf_v M lz q us l r ≤ 2000000) (h : lf_I M lz q us (fun l r => l < l1 ∧ r ≤ n) (o0, o1, o2)) : ∀ i, i ≤ n + 1 → lf_I M lz q us (fun l r => (l < l1 ∧ r ≤ n) ∨ (l = l1 ∧ r < i)) (m_lfR M lz q us l1 o0 o1 o2 i)
  | 0, _ => lf_I.iff h (fun l r _ => ⟨fun d => d.elim id (fun e => absurd e.2 (Nat.not_lt_zero _)), Or.inl⟩)
  | i + 1, hi => by
    have ih := lf_R hn hl hf hw h i (by omega)
    have hs := lf_step (o0 := o0) (o1 := o1) (o2 := o2) (l1 := l1) (r1 := i) ih (by omega) (by omega) hf (hw l1 i hl (by omega)) (fun l r d => by omega)
    refine lf_I.iff hs (fun l r _ => ?_)
    constructor
    · intro d
      rcases d with d | ⟨e, d⟩
      · exact Or.inl (Or.inl d)
      · by_cases z : r = i
        · exact Or.inr ⟨e, z⟩
        · exact Or.inl (Or.inr ⟨e, by omega⟩)
    · intro d
      rcases d with (d | ⟨e, d⟩) | ⟨e, d⟩
      · exact Or.inl d
      · exact Or.inr ⟨e, by omega⟩
      · exact Or.inr ⟨e, by omega⟩
theorem lf_L {w1 w2 : Nat} (hn : M 9 0 ≤ 9) (hw : ∀ l r, l ≤ M 9 0 → r ≤ M 9 0 → lf_v M lz q us l r ≤ 2000000) : ∀ i, i ≤ M 9 0 + 1 → lf_I M lz q us (fun l r => l < i ∧ r ≤ M 9 0) (m_lfL M lz q us w1 w2 i)
  | 0, _ => ⟨Nat.le_refl _, fun l r d => absurd d.1 (Nat.not_lt_zero _), Or.inl rfl⟩
  | i + 1, hi => by
    have ih := lf_L (w1 := w1) (w2 := w2) hn hw i (by omega)
    have hs : m_lfL M lz q us w1 w2 (i + 1) = m_lfLB M lz q us w1 w2 i (m_lfL M lz q us w1 w2 i).1 (m_lfL M lz q us w1 w2 i).2.1 (m_lfL M lz q us w1 w2 i).2.2 := rfl
    rw [hs]
    generalize m_lfL M lz q us w1 w2 i = S at ih
    unfold m_lfLB
    by_cases c : m_fits M q 0 i us = 0
    · rw [if_pos c]
      refine lf_I.iff ih (fun l r k => ⟨fun d => ⟨?_, d.2⟩, fun d => ⟨by omega, d.2⟩⟩)
      by_cases z : l = i
      · rw [z] at k; exact absurd c k.1
      · omega
    · rw [if_neg c]
      refine lf_I.iff (lf_R (o0 := S.1) (o1 := S.2.1) (o2 := S.2.2) hn (by omega) c hw ih (M 9 0 + 1) (Nat.le_refl _)) (fun l r _ => ?_)
      constructor
      · intro d
        by_cases z : l = i
        · exact Or.inr ⟨z, by omega⟩
        · exact Or.inl ⟨by omega, d.2⟩
      · intro d
        rcases d with d | d <;> exact ⟨by omega, by omega⟩
/-- only the numbers that it looks up matter -/
theorem lfR_congr {lz2 : Nat → Nat} {l1 o0 o1 o2 : Nat} {n : Nat} (hl : l1 ≤ n) (h : ∀ l r, l ≤ n → r ≤ n → lz (512 * (q + 1) + ((us ||| m_bitOf l) ||| m_bitOf r)) = lz2 (512 * (q + 1) + ((us ||| m_bitOf l) ||| m_bitOf r))) : ∀ i, i ≤ n + 1 → m_lfR M lz q us l1 o0 o1 o2 i = m_lfR M lz2 q us l1 o0 o1 o2 i
  | 0, _ => rfl
  | i + 1, hi => by
    show m_lfRB M lz q us l1 o0 o1 o2 i (m_lfR M lz q us l1 o0 o1 o2 i).1 (m_lfR M lz q us l1 o0 o1 o2 i).2.1 (m_lfR M lz q us l1 o0 o1 o2 i).2.2 = m_lfRB M lz2 q us l1 o0 o1 o2 i (m_lfR M lz2 q us l1 o0 o1 o2 i).1 (m_lfR M lz2 q us l1 o0 o1 o2 i).2.1 (m_lfR M lz2 q us l1 o0 o1 o2 i).2.2
    rw [lfR_congr hl h i (by omega)]
    unfold m_lfRB
    rw [h l1 i hl (by omega)]
theorem lfL_congr {lz2 : Nat → Nat} {w1 w2 : Nat} (h : ∀ l r, l ≤ M 9 0 → r ≤ M 9 0 → lz (512 * (q + 1) + ((us ||| m_bitOf l) ||| m_bitOf r)) = lz2 (512 * (q + 1) + ((us ||| m_bitOf l) ||| m_bitOf r))) : ∀ i, i ≤ M 9 0 + 1 → m_lfL M lz q us w1 w2 i = m_lfL M lz2 q us w1 w2 i
  | 0, _ => rfl
  | i + 1, hi => by
    show m_lfLB M lz q us w1 w2 i (m_lfL M lz q us w1 w2 i).1 (m_lfL M lz q us w1 w2 i).2.1 (m_lfL M lz q us w1 w2 i).2.2 = m_lfLB M lz2 q us w1 w2 i (m_lfL M lz2 q us w1 w2 i).1 (m_lfL M lz2 q us w1 w2 i).2.1 (m_lfL M lz2 q us w1 w2 i).2.2
    rw [lfL_congr h i (by omega)]
    unfold m_lfLB
    rw [lfR_congr (by omega) h (M 9 0 + 1) (Nat.le_refl _)]
/-- the least does not ask what was kept before; nor do the knees, where there is a least -/
theorem lfR_ind {l1 o0 o1 o2 p1 p2 : Nat} (hv : (o0 = 1000000) ∨ (o1 = p1 ∧ o2 = p2)) : ∀ i, (m_lfR M lz q us l1 o0 o1 o2 i).1 = (m_lfR M lz q us l1 o0 p1 p2 i).1 ∧ ((m_lfR M lz q us l1 o0 o1 o2 i).1 = 1000000 ∨ (m_lfR M lz q us l1 o0 o1 o2 i).2 = (m_lfR M lz q us l1 o0 p1 p2 i).2)
  | 0 => ⟨rfl, hv.elim Or.inl (fun e => Or.inr (by show (o1, o2) = (p1, p2); rw [e.1, e.2]))⟩
  | i + 1 => by
    have ih := lfR_ind (l1 := l1) hv i
    show (m_lfRB M lz q us l1 o0 o1 o2 i (m_lfR M lz q us l1 o0 o1 o2 i).1 (m_lfR M lz q us l1 o0 o1 o2 i).2.1 (m_lfR M lz q us l1 o0 o1 o2 i).2.2).1 = (m_lfRB M lz q us l1 o0 p1 p2 i (m_lfR M lz q us l1 o0 p1 p2 i).1 (m_lfR M lz q us l1 o0 p1 p2 i).2.1 (m_lfR M lz q us l1 o0 p1 p2 i).2.2).1 ∧ ((m_lfRB M lz q us l1 o0 o1 o2 i (m_lfR M lz q us l1 o0 o1 o2 i).1 (m_lfR M lz q us l1 o0 o1 o2 i).2.1 (m_lfR M lz q us l1 o0 o1 o2 i).2.2).1 = 1000000 ∨ (m_lfRB M lz q us l1 o0 o1 o2 i (m_lfR M lz q us l1 o0 o1 o2 i).1 (m_lfR M lz q us l1 o0 o1 o2 i).2.1 (m_lfR M lz q us l1 o0 o1 o2 i).2.2).2 = (m_lfRB M lz q us l1 o0 p1 p2 i (m_lfR M lz q us l1 o0 p1 p2 i).1 (m_lfR M lz q us l1 o0 p1 p2 i).2.1 (m_lfR M lz q us l1 o0 p1 p2 i).2.2).2)
    generalize m_lfR M lz q us l1 o0 o1 o2 i = A at ih
    generalize m_lfR M lz q us l1 o0 p1 p2 i = B at ih
    unfold m_lfRB
    rw [← ih.1]
    repeat' split
    all_goals first
      | exact ⟨rfl, ih.2⟩
      | exact ⟨rfl, Or.inr rfl⟩
theorem lfL_ind {w1 w2 p1 p2 : Nat} : ∀ i, (m_lfL M lz q us w1 w2 i).1 = (m_lfL M lz q us p1 p2 i).1 ∧ ((m_lfL M lz q us w1 w2 i).1 = 1000000 ∨ (m_lfL M lz q us w1 w2 i).2 = (m_lfL M lz q us p1 p2 i).2)
  | 0 => ⟨rfl, Or.inl rfl⟩
  | i + 1 => by
    have ih := lfL_ind (w1 := w1) (w2 := w2) (p1 := p1) (p2 := p2) i
    show (m_lfLB M lz q us w1 w2 i (m_lfL M lz q us w1 w2 i).1 (m_lfL M lz q us w1 w2 i).2.1 (m_lfL M lz q us w1 w2 i).2.2).1 = (m_lfLB M lz q us p1 p2 i (m_lfL M lz q us p1 p2 i).1 (m_lfL M lz q us p1 p2 i).2.1 (m_lfL M lz q us p1 p2 i).2.2).1 ∧ ((m_lfLB M lz q us w1 w2 i (m_lfL M lz q us w1 w2 i).1 (m_lfL M lz q us w1 w2 i).2.1 (m_lfL M lz q us w1 w2 i).2.2).1 = 1000000 ∨ (m_lfLB M lz q us w1 w2 i (m_lfL M lz q us w1 w2 i).1 (m_lfL M lz q us w1 w2 i).2.1 (m_lfL M lz q us w1 w2 i).2.2).2 = (m_lfLB M lz q us p1 p2 i (m_lfL M lz q us p1 p2 i).1 (m_lfL M lz q us p1 p2 i).2.1 (m_lfL M lz q us p1 p2 i).2.2).2)
    generalize m_lfL M lz q us w1 w2 i = A at ih
    generalize m_lfL M lz q us p1 p2 i = B at ih
    have hv : A.1 = 1000000 ∨ (A.2.1 = B.2.1 ∧ A.2.2 = B.2.2) := ih.2.elim Or.inl (fun e => Or.inr ⟨by rw [e], by rw [e]⟩)
    have hr := lfR_ind (M := M) (lz := lz) (q := q) (us := us) (l1 := i) hv (M 9 0 + 1)
    unfold m_lfLB
    rw [← ih.1]
    split
    · exact ⟨rfl, ih.2⟩
    · exact hr
end LF
