/-! lending: who can have what -/
theorem jb_lsb (x : Int32) {i : Nat} (h : i < 32) : jbit x (nI i) = if x.toBitVec.getLsbD i then 1 else 0 := by
  have hs : (x >>> (nI i &&& 31)).toBitVec = x.toBitVec.sshiftRight i := by
    show x.toBitVec.sshiftRight ((nI i &&& 31).toBitVec.smod 32).toNat = _
    rw [ly_shm i h]
  have hb : (x.toBitVec.sshiftRight i).toNat.testBit 0 = x.toBitVec.getLsbD i := by
    show (x.toBitVec.sshiftRight i).getLsbD 0 = _
    rw [BitVec.getLsbD_sshiftRight, Nat.add_zero, if_pos h]
    rfl
  unfold jbit
  rw [pk_and (x >>> (nI i &&& 31)) (m := 1) 1 (by decide), hs, ← hb, Nat.testBit_zero, Nat.pow_one]
  rcases Nat.mod_two_eq_zero_or_one (x.toBitVec.sshiftRight i).toNat with z | z <;> rw [z] <;> rfl
theorem lsb_nI (a : Nat) {i : Nat} (h : i < 32) : (nI a).toBitVec.getLsbD i = a.testBit i := by
  show (BitVec.ofNat 32 a).getLsbD i = _
  rw [BitVec.getLsbD_ofNat, decide_eq_true h, Bool.true_and]
theorem lsb_m1 : ∀ i, i < 32 → (-1 : Int32).toBitVec.getLsbD i = true := by decide
theorem jb_nat (a : Nat) {i : Nat} (h : i < 32) : jbit (nI a) (nI i) = if a.testBit i then 1 else 0 := by rw [jb_lsb _ h, lsb_nI a h]
theorem jb_off (a us : Nat) {i : Nat} (h : i < 32) : jbit (nI a &&& (nI us ^^^ (-1))) (nI i) = if a.testBit i = true ∧ us.testBit i = false then 1 else 0 := by
  have e : (nI a &&& (nI us ^^^ (-1))).toBitVec.getLsbD i = (a.testBit i && !us.testBit i) := by
    show ((nI a).toBitVec &&& ((nI us).toBitVec ^^^ (-1 : Int32).toBitVec)).getLsbD i = _
    rw [BitVec.getLsbD_and, BitVec.getLsbD_xor, lsb_nI a h, lsb_nI us h, lsb_m1 i h, Bool.xor_true]
  rw [jb_lsb _ h, e]
  cases a.testBit i <;> cases us.testBit i <;> rfl
def lb_sv (g : Nat → Nat → Nat) (d ho le : Nat → Nat) (q o us l : Nat) : Prop := (l = 9 ∧ s_needs g q o = 0) ∨ (l < g 0 0 ∧ ¬ s_needs g q o = 0 ∧ g 1 l = o ∧ ¬ s_offers g d ho le l q = 0 ∧ us.testBit l = false)
def lb_V (g : Nat → Nat → Nat) (d ho le : Nat → Nat) (q us l r : Nat) : Prop := lb_sv g d ho le q 0 us l ∧ lb_sv g d ho le q 1 us r ∧ (l = 9 ∨ r = 9 ∨ ¬ s_speak g l r = 0)
/-- the class's number of a knee, of the model's -/
def lb_cd (k : Nat) : Nat := if k = 0 then 9 else k - 1
theorem off_mask {g : Nat → Nat → Nat} {d ho le : Nat → Nat} (q : Nat) {o : Nat} (ho1 : o ≤ 1) (G : gOK g) : ∀ i, i ≤ 9 → ∃ x, x < 512 ∧ w_offS g d ho le q o i = nI x ∧ ∀ k, x.testBit k = true ↔ k < i ∧ g 1 k = o ∧ ¬ s_offers g d ho le k q = 0
  | 0, _ => ⟨0, by decide, nI_0.symm, fun k => ⟨fun h => by rw [Nat.zero_testBit] at h; exact absurd h (by decide), fun h => absurd h.1 (Nat.not_lt_zero _)⟩⟩
  | i + 1, hi => by
    obtain ⟨x, h1, h2, h3⟩ := off_mask (d := d) (ho := ho) (le := le) q ho1 G i (by omega)
    have hg := (G.2 i).1
    have hs : w_offS g d ho le q o (i + 1) = w_offB g d ho le q o i (w_offS g d ho le q o i) := rfl
    have keep : ¬ (g 1 i = o ∧ ¬ s_offers g d ho le i q = 0) → ∀ k, x.testBit k = true ↔ k < i + 1 ∧ g 1 k = o ∧ ¬ s_offers g d ho le k q = 0 := fun hn k => by
      rw [h3 k]
      constructor
      · exact fun z => ⟨by omega, z.2⟩
      · intro z
        by_cases e : k = i
        · rw [e] at z; exact absurd z.2 hn
        · exact ⟨by omega, z.2⟩
    rw [hs]
    unfold w_offB
    by_cases c : g 1 i = o
    · rw [if_pos (show nI (g 1 i) = nI o by rw [c])]
      by_cases c2 : s_offers g d ho le i q = 0
      · rw [if_pos c2]
        exact ⟨x, h1, h2, keep (fun z => z.2 c2)⟩
      · rw [if_neg c2, ly_or1 h2 (by omega)]
        refine ⟨x ||| 2 ^ i, Nat.or_lt_two_pow (n := 9) h1 (Nat.pow_lt_pow_right (by decide) (by omega)), rfl, fun k => ?_⟩
        rw [bit_or, h3 k]
        constructor
        · rintro (z | z)
          · exact ⟨by omega, z.2⟩
          · rw [z]; exact ⟨by omega, c, c2⟩
        · intro z
          by_cases e : k = i
          · exact Or.inr e
          · exact Or.inl ⟨by omega, z.2⟩
    · rw [if_neg (fun z => c ((nI_eq (by omega) (by omega)).mp z))]
      exact ⟨x, h1, h2, keep (fun z => c z.1)⟩
section LB
variable {g M : Nat → Nat → Nat} {d ho le : Nat → Nat}
theorem bit_sv (G : gOK g) {q o us l : Nat} (ho1 : o ≤ 1) (hl : l ≤ 9) (hus : us < 512) : (jbit (w_off g d ho le q o &&& (nI us ^^^ (-1))) (nI l) = 1 ∧ lb_sv g d ho le q o us l) ∨ (jbit (w_off g d ho le q o &&& (nI us ^^^ (-1))) (nI l) = 0 ∧ ¬ lb_sv g d ho le q o us l) := by
  have hK := G.1
  have h9 : us.testBit 9 = false := Nat.testBit_lt_two_pow hus
  unfold w_off
  by_cases c : s_needs g q o = 0
  · rw [if_pos c, show (512 : Int32) = nI (2 ^ 9) from rfl, jb_off _ _ (show l < 32 by omega)]
    by_cases e : l = 9
    · rw [if_pos ⟨by rw [e]; exact Nat.testBit_two_pow_self, by rw [e]; exact h9⟩]
      exact Or.inl ⟨rfl, Or.inl ⟨e, c⟩⟩
    · rw [if_neg (fun z => by rw [Nat.testBit_two_pow_of_ne (fun y => e y.symm)] at z; exact absurd z.1 (by decide))]
      exact Or.inr ⟨rfl, fun z => z.elim (fun y => e y.1) (fun y => y.2.1 c)⟩
  · obtain ⟨x, h1, h2, h3⟩ := off_mask (d := d) (ho := ho) (le := le) q ho1 G (g 0 0) hK.1
    rw [if_neg c, h2, jb_off _ _ (show l < 32 by omega)]
    by_cases e : x.testBit l = true ∧ us.testBit l = false
    · rw [if_pos e]
      have := (h3 l).mp e.1
      exact Or.inl ⟨rfl, Or.inr ⟨this.1, c, this.2.1, this.2.2, e.2⟩⟩
    · rw [if_neg e]
      exact Or.inr ⟨rfl, fun z => z.elim (fun y => c y.2) (fun y => e ⟨(h3 l).mpr ⟨y.1, y.2.2.1, y.2.2.2.1⟩, y.2.2.2.2⟩)⟩
theorem may_V (G : gOK g) {lf rf : Nat → Int32} {q us l r : Nat} (hlf : lf q = w_off g d ho le q 0) (hrf : rf q = w_off g d ho le q 1) (hl : l ≤ 9) (hr : r ≤ 9) (hus : us < 512) : (¬ w_may g lf rf q l r us = 0 ∧ lb_V g d ho le q us l r) ∨ (w_may g lf rf q l r us = 0 ∧ ¬ lb_V g d ho le q us l r) := by
  unfold w_may
  rw [hlf, hrf]
  rcases bit_sv (d := d) (ho := ho) (le := le) (q := q) G (show 0 ≤ 1 by decide) hl hus with ⟨a1, a2⟩ | ⟨a1, a2⟩
  · rw [a1, if_neg (by decide)]
    rcases bit_sv (d := d) (ho := ho) (le := le) (q := q) G (show 1 ≤ 1 by decide) hr hus with ⟨b1, b2⟩ | ⟨b1, b2⟩
    · rw [b1, if_neg (by decide)]
      by_cases c1 : l = 9
      · rw [if_pos (show nI l = 9 by rw [c1]; rfl)]
        exact Or.inl ⟨by decide, a2, b2, Or.inl c1⟩
      · rw [if_neg (show ¬ nI l = 9 from fun z => c1 ((nI_eq (a := l) (b := 9) (by omega) (by omega)).mp z))]
        by_cases c2 : r = 9
        · rw [if_pos (show nI r = 9 by rw [c2]; rfl)]
          exact Or.inl ⟨by decide, a2, b2, Or.inr (Or.inl c2)⟩
        · rw [if_neg (show ¬ nI r = 9 from fun z => c2 ((nI_eq (a := r) (b := 9) (by omega) (by omega)).mp z))]
          by_cases c3 : s_speak g l r = 0
          · rw [if_pos c3]
            exact Or.inr ⟨rfl, fun z => z.2.2.elim c1 (fun y => y.elim c2 (fun w => w c3))⟩
          · rw [if_neg c3]
            exact Or.inl ⟨by decide, a2, b2, Or.inr (Or.inr c3)⟩
    · rw [b1, if_pos rfl]
      exact Or.inr ⟨rfl, fun z => b2 z.2.1⟩
  · rw [a1, if_pos rfl]
    exact Or.inr ⟨rfl, fun z => a2 z.1⟩
theorem fits_sv (G : gOK g) (P : pR g M) (N : nR g d ho le (M 20)) {q o k us : Nat} (hq : q < g 0 1) (ho1 : o ≤ 1) (hk : k ≤ g 0 0) : (¬ m_fits M q o k us = 0 ∧ lb_sv g d ho le q o us (lb_cd k)) ∨ (m_fits M q o k us = 0 ∧ ¬ lb_sv g d ho le q o us (lb_cd k)) := by
  have hK := G.1
  unfold m_fits lb_cd
  by_cases c0 : k = 0
  · rw [if_pos (show nI k = 0 by rw [c0]; rfl), if_pos c0, ← needs_wants P hq]
    by_cases c : s_needs g q o = 0
    · rw [if_pos c]
      exact Or.inl ⟨by decide, Or.inl ⟨rfl, c⟩⟩
    · rw [if_neg c]
      exact Or.inr ⟨rfl, fun z => z.elim (fun y => c y.2) (fun y => by omega)⟩
  · have hk1 : k - 1 < g 0 0 := by omega
    rw [if_neg (fun z => c0 ((nI_z0 (by omega)).mp z)), if_neg c0, (P.2.2.1 (k - 1) hk1).1, ← offers_eq G P N hk1 hq]
    have hg := (G.2 (k - 1)).1
    by_cases c1 : g 1 (k - 1) = o
    · rw [if_pos (show nI (g 1 (k - 1)) = nI o by rw [c1])]
      by_cases c2 : s_offers g d ho le (k - 1) q = 0
      · rw [if_pos c2]
        exact Or.inr ⟨rfl, fun z => z.elim (fun y => by omega) (fun y => y.2.2.2.1 c2)⟩
      · rw [if_neg c2]
        have hn : ¬ s_needs g q o = 0 := fun z => c2 (by
          unfold s_offers
          rw [c1, z]
          split
          · rfl
          · rfl)
        have hj := jb_nat us (show k - 1 < 32 by omega)
        unfold jbit at hj
        rw [hj]
        cases hb : us.testBit (k - 1) with
        | true =>
          rw [if_pos rfl, if_neg (by decide)]
          exact Or.inr ⟨rfl, fun z => z.elim (fun y => by omega) (fun y => by rw [hb] at y; exact absurd y.2.2.2.2 (by decide))⟩
        | false =>
          rw [if_pos (show (if false = true then (1 : Int32) else 0) = 0 from rfl)]
          exact Or.inl ⟨by decide, Or.inr ⟨hk1, hn, c1, c2, hb⟩⟩
    · rw [if_neg (fun z => c1 ((nI_eq (by omega) (by omega)).mp z))]
      exact Or.inr ⟨rfl, fun z => z.elim (fun y => by omega) (fun y => c1 y.2.2.1)⟩
theorem cd_inv {q o us l : Nat} (hK : g 0 0 ≤ 9) (h : lb_sv g d ho le q o us l) : ∃ k, k ≤ g 0 0 ∧ lb_cd k = l := by
  rcases h with ⟨h1, -⟩ | ⟨h1, -⟩
  · exact ⟨0, Nat.zero_le _, h1.symm⟩
  · exact ⟨l + 1, h1, rfl⟩
theorem cd_le {k : Nat} (h : k ≤ 9) : lb_cd k ≤ 9 := by
  unfold lb_cd
  split <;> omega
/-- the order of the model's numbers is that of the class's, among those that one can have -/
theorem cd_or (a : Nat) : (a = 0 ∧ lb_cd a = 9) ∨ (¬ a = 0 ∧ lb_cd a = a - 1) := by
  unfold lb_cd
  by_cases h : a = 0
  · rw [if_pos h]; exact Or.inl ⟨h, rfl⟩
  · rw [if_neg h]; exact Or.inr ⟨h, rfl⟩
theorem cd_lt (hK : g 0 0 ≤ 9) {q o us a b : Nat} (ha9 : a ≤ 9) (hb9 : b ≤ 9) (ha : lb_sv g d ho le q o us (lb_cd a)) (hb : lb_sv g d ho le q o us (lb_cd b)) : (a < b ↔ lb_cd a < lb_cd b) ∧ (a = b ↔ lb_cd a = lb_cd b) := by
  have e1 := cd_or a
  have e2 := cd_or b
  rcases ha with ⟨a1, a2⟩ | ⟨a1, a2, -⟩
  · rcases hb with ⟨b1, b2⟩ | ⟨b1, b2, -⟩
    · omega
    · exact absurd a2 b2
  · rcases hb with ⟨b1, b2⟩ | ⟨b1, b2, -⟩
    · exact absurd b2 a2
    · omega
end LB
