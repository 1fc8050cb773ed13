/-! lending: the class's worth is the least over all who could go -/
def lb_c (g : Nat → Nat → Nat) (l r : Nat) : Nat := w_oil g l + w_oil g r
def lb_u (us l r : Nat) : Nat := us ||| w_kb l r
def mLp (M : Nat → Nat → Nat) (τ : Nat → Bool) : Nat → Nat → Nat → Nat
  | 0, _, _ => 0
  | u + 1, q, us => if τ q = true then (m_lfL M (fun j => mLp M τ u (q + 1) (j - 512 * (q + 1))) q us 0 0 (M 9 0 + 1)).1 else mLp M τ u (q + 1) us
theorem mLp_s (M : Nat → Nat → Nat) (τ : Nat → Bool) (u q us : Nat) : mLp M τ (u + 1) q us = if τ q = true then (m_lfL M (fun j => mLp M τ u (q + 1) (j - 512 * (q + 1))) q us 0 0 (M 9 0 + 1)).1 else mLp M τ u (q + 1) us := rfl
def pcb (σ : Nat → Bool) : Nat → Nat → Nat
  | 0, _ => 0
  | u + 1, q => (if σ q = true then 1 else 0) + pcb σ u (q + 1)
def rbb (σ : Nat → Bool) : Nat → Nat → Nat
  | 0, _ => 0
  | u + 1, q => (if σ q = true then 2 ^ q else 0) + rbb σ u (q + 1)
def lb_val (M : Nat → Nat → Nat) (S τ : Nat → Bool) (u q us : Nat) : Nat := 8192 * (pcb S u q - pcb τ u q) + 64 * mLp M τ u q us + rbb τ u q
def lb_sub (τ S : Nat → Bool) (u q : Nat) : Prop := ∀ i, q ≤ i → i < q + u → τ i = true → S i = true
theorem kb_cd : ∀ l, l ≤ 9 → ∀ r, r ≤ 9 → w_kb (lb_cd l) (lb_cd r) = m_bitOf l ||| m_bitOf r := by decide +kernel
theorem bitOf_lt {k n : Nat} (h : k ≤ n) : m_bitOf k < 2 ^ n := by
  unfold m_bitOf
  split
  · exact Nat.two_pow_pos n
  · exact Nat.pow_lt_pow_right (by decide) (by omega)
theorem mLp_congr {M : Nat → Nat → Nat} {τ σ : Nat → Bool} : ∀ u q us, (∀ i, q ≤ i → i < q + u → τ i = σ i) → mLp M τ u q us = mLp M σ u q us
  | 0, _, _, _ => rfl
  | u + 1, q, us, h => by
    have ih : ∀ x, mLp M τ u (q + 1) x = mLp M σ u (q + 1) x := fun x => mLp_congr u (q + 1) x (fun i h1 h2 => h i (by omega) (by omega))
    have e : (fun j => mLp M τ u (q + 1) (j - 512 * (q + 1))) = (fun j => mLp M σ u (q + 1) (j - 512 * (q + 1))) := funext (fun j => ih _)
    rw [mLp_s, mLp_s, h q (Nat.le_refl _) (by omega), e, ih]
theorem pcb_le {τ S : Nat → Bool} : ∀ u q, lb_sub τ S u q → pcb τ u q ≤ pcb S u q
  | 0, _, _ => Nat.le_refl _
  | u + 1, q, h => by
    have ih := pcb_le u (q + 1) (fun i h1 h2 => h i (by omega) (by omega))
    have hq := h q (Nat.le_refl _) (by omega)
    show (if τ q = true then 1 else 0) + pcb τ u (q + 1) ≤ (if S q = true then 1 else 0) + pcb S u (q + 1)
    by_cases c : τ q = true
    · rw [if_pos c, if_pos (hq c)]; omega
    · rw [if_neg c]; omega
theorem pcb_eq {τ S : Nat → Bool} : ∀ u q, lb_sub τ S u q → pcb τ u q = pcb S u q → ∀ i, q ≤ i → i < q + u → τ i = S i
  | 0, q, _, _, i, h1, h2 => by omega
  | u + 1, q, h, he, i, h1, h2 => by
    have hs : lb_sub τ S u (q + 1) := fun i h1 h2 => h i (by omega) (by omega)
    have hle := pcb_le u (q + 1) hs
    have hq := h q (Nat.le_refl _) (by omega)
    have he2 : (if τ q = true then 1 else 0) + pcb τ u (q + 1) = (if S q = true then 1 else 0) + pcb S u (q + 1) := he
    have key : τ q = S q ∧ pcb τ u (q + 1) = pcb S u (q + 1) := by
      cases ht : τ q with
      | true =>
        rw [ht, hq ht, if_pos rfl] at he2
        exact ⟨(hq ht).symm, by omega⟩
      | false =>
        rw [ht, if_neg (by decide)] at he2
        cases hS : S q with
        | true => rw [hS, if_pos rfl] at he2; omega
        | false => rw [hS, if_neg (by decide)] at he2; exact ⟨rfl, by omega⟩
    by_cases e : i = q
    · rw [e]; exact key.1
    · exact pcb_eq u (q + 1) hs key.2 i (by omega) (by omega)
theorem rbb_lt (σ : Nat → Bool) : ∀ u q, rbb σ u q + 2 ^ q ≤ 2 ^ (q + u)
  | 0, q => by show 0 + 2 ^ q ≤ 2 ^ (q + 0); rw [Nat.zero_add]; exact Nat.le_refl _
  | u + 1, q => by
    have ih := rbb_lt σ u (q + 1)
    rw [Nat.pow_succ, show q + 1 + u = q + (u + 1) by omega] at ih
    show (if σ q = true then 2 ^ q else 0) + rbb σ u (q + 1) + 2 ^ q ≤ 2 ^ (q + (u + 1))
    split <;> omega
theorem rbb_congr {τ σ : Nat → Bool} : ∀ u q, (∀ i, q ≤ i → i < q + u → τ i = σ i) → rbb τ u q = rbb σ u q
  | 0, _, _ => rfl
  | u + 1, q, h => by
    show (if τ q = true then 2 ^ q else 0) + rbb τ u (q + 1) = (if σ q = true then 2 ^ q else 0) + rbb σ u (q + 1)
    rw [h q (Nat.le_refl _) (by omega), rbb_congr u (q + 1) (fun i h1 h2 => h i (by omega) (by omega))]
theorem pcb_congr {τ σ : Nat → Bool} : ∀ u q, (∀ i, q ≤ i → i < q + u → τ i = σ i) → pcb τ u q = pcb σ u q
  | 0, _, _ => rfl
  | u + 1, q, h => by
    show (if τ q = true then 1 else 0) + pcb τ u (q + 1) = (if σ q = true then 1 else 0) + pcb σ u (q + 1)
    rw [h q (Nat.le_refl _) (by omega), pcb_congr u (q + 1) (fun i h1 h2 => h i (by omega) (by omega))]
theorem val_congr {M : Nat → Nat → Nat} {S τ σ : Nat → Bool} {u q us : Nat} (h : ∀ i, q ≤ i → i < q + u → τ i = σ i) : lb_val M S τ u q us = lb_val M S σ u q us := by
  unfold lb_val
  rw [mLp_congr u q us h, rbb_congr u q h, pcb_congr u q h]
theorem val_ff {M : Nat → Nat → Nat} {S τ : Nat → Bool} {u q us : Nat} (hS : S q = false) (ht : τ q = false) : lb_val M S τ (u + 1) q us = lb_val M S τ u (q + 1) us := by
  show 8192 * (((if S q = true then 1 else 0) + pcb S u (q + 1)) - ((if τ q = true then 1 else 0) + pcb τ u (q + 1))) + 64 * mLp M τ (u + 1) q us + ((if τ q = true then 2 ^ q else 0) + rbb τ u (q + 1)) = lb_val M S τ u (q + 1) us
  rw [mLp_s, hS, ht, if_neg (by decide), if_neg (by decide), if_neg (by decide), Nat.zero_add, Nat.zero_add, Nat.zero_add]
  rfl
theorem val_tf {M : Nat → Nat → Nat} {S τ : Nat → Bool} {u q us : Nat} (hS : S q = true) (ht : τ q = false) (hs : lb_sub τ S u (q + 1)) : lb_val M S τ (u + 1) q us = 8192 + lb_val M S τ u (q + 1) us := by
  have hle := pcb_le u (q + 1) hs
  show 8192 * (((if S q = true then 1 else 0) + pcb S u (q + 1)) - ((if τ q = true then 1 else 0) + pcb τ u (q + 1))) + 64 * mLp M τ (u + 1) q us + ((if τ q = true then 2 ^ q else 0) + rbb τ u (q + 1)) = _
  rw [mLp_s, hS, ht, if_pos rfl, if_neg (by decide), if_neg (by decide), if_neg (by decide)]
  unfold lb_val
  omega
theorem val_tt {M : Nat → Nat → Nat} {S τ : Nat → Bool} {u q us : Nat} (hS : S q = true) (ht : τ q = true) : lb_val M S τ (u + 1) q us = 8192 * (pcb S u (q + 1) - pcb τ u (q + 1)) + 64 * mLp M τ (u + 1) q us + (2 ^ q + rbb τ u (q + 1)) := by
  show 8192 * (((if S q = true then 1 else 0) + pcb S u (q + 1)) - ((if τ q = true then 1 else 0) + pcb τ u (q + 1))) + 64 * mLp M τ (u + 1) q us + ((if τ q = true then 2 ^ q else 0) + rbb τ u (q + 1)) = _
  rw [hS, ht, if_pos rfl, if_pos rfl]
  omega
section LK
variable {g M : Nat → Nat → Nat} {d ho le : Nat → Nat}
theorem ok_V (G : gOK g) (P : pR g M) (N : nR g d ho le (M 20)) {q us l r : Nat} (hq : q < g 0 1) (hl : l ≤ g 0 0) (hr : r ≤ g 0 0) : lf_ok M q us l r ↔ lb_V g d ho le q us (lb_cd l) (lb_cd r) := by
  have hK := G.1
  have hsp : (l = 0 ∨ r = 0 ∨ ¬ m_speak M (M 11 (l - 1)) (M 11 (r - 1)) = 0) ↔ (lb_cd l = 9 ∨ lb_cd r = 9 ∨ ¬ s_speak g (lb_cd l) (lb_cd r) = 0) := by
    rcases cd_or l with ⟨a1, a2⟩ | ⟨a1, a2⟩
    · exact ⟨fun _ => Or.inl a2, fun _ => Or.inl a1⟩
    · rcases cd_or r with ⟨b1, b2⟩ | ⟨b1, b2⟩
      · exact ⟨fun _ => Or.inr (Or.inl b2), fun _ => Or.inr (Or.inl b1)⟩
      · rw [a2, b2, speak_eq P G (show l - 1 < g 0 0 by omega) (show r - 1 < g 0 0 by omega)]
        exact ⟨fun z => Or.inr (Or.inr (z.elim (fun y => absurd y a1) (fun y => y.elim (fun w => absurd w b1) id))), fun z => Or.inr (Or.inr (z.elim (fun y => by omega) (fun y => y.elim (fun w => by omega) id)))⟩
  unfold lf_ok lb_V
  rw [hsp]
  rcases fits_sv (us := us) G P N hq (show 0 ≤ 1 by decide) hl with ⟨a1, a2⟩ | ⟨a1, a2⟩
  · rcases fits_sv (us := us) G P N hq (show 1 ≤ 1 by decide) hr with ⟨b1, b2⟩ | ⟨b1, b2⟩
    · exact ⟨fun z => ⟨a2, b2, z.2.2⟩, fun z => ⟨a1, b1, z.2.2⟩⟩
    · exact ⟨fun z => absurd b1 z.2.1, fun z => absurd z.2.1 b2⟩
  · exact ⟨fun z => absurd a1 z.1, fun z => absurd z.1 a2⟩
theorem oil_cd (G : gOK g) (P : pR g M) {k : Nat} (hk : k ≤ g 0 0) : m_oilOf M k = w_oil g (lb_cd k) ∧ m_oilOf M k ≤ 9 := by
  have hK := G.1
  unfold m_oilOf w_oil
  rcases cd_or k with ⟨a1, a2⟩ | ⟨a1, a2⟩
  · rw [if_pos a1, a2, if_pos rfl]
    exact ⟨rfl, by omega⟩
  · have h4 := (G.2 (k - 1)).2.1
    rw [if_neg a1, a2, if_neg (show ¬ k - 1 = 9 by omega), (P.2.2.1 (k - 1) (by omega)).2.1, (P.2.2.2.2 (g 2 (k - 1)) (by omega)).2]
    exact ⟨rfl, (G.2 _).2.2.2.2.2.2.2⟩
theorem v_cd (G : gOK g) (P : pR g M) {lz : Nat → Nat} {q us l r : Nat} (hl : l ≤ g 0 0) (hr : r ≤ g 0 0) : lf_v M lz q us l r = lb_c g (lb_cd l) (lb_cd r) + lz (512 * (q + 1) + lb_u us (lb_cd l) (lb_cd r)) := by
  have hK := G.1
  unfold lf_v lb_c lb_u
  rw [(oil_cd G P hl).1, (oil_cd G P hr).1, kb_cd l (by omega) r (by omega), Nat.or_assoc]
theorem u_lt (hK : g 0 0 ≤ 9) {us l r : Nat} (hus : us < 2 ^ g 0 0) (hl : l ≤ g 0 0) (hr : r ≤ g 0 0) : lb_u us (lb_cd l) (lb_cd r) < 2 ^ g 0 0 := by
  unfold lb_u
  rw [kb_cd l (by omega) r (by omega)]
  exact Nat.or_lt_two_pow hus (Nat.or_lt_two_pow (bitOf_lt hl) (bitOf_lt hr))
theorem u_ltV (hK : g 0 0 ≤ 9) {q us l r : Nat} (hus : us < 2 ^ g 0 0) (h : lb_V g d ho le q us l r) : lb_u us l r < 2 ^ g 0 0 := by
  obtain ⟨a, ha, rfl⟩ := cd_inv hK h.1
  obtain ⟨b, hb, rfl⟩ := cd_inv hK h.2.1
  exact u_lt hK hus ha hb
theorem lf_fin (G : gOK g) (P : pR g M) {lz : Nat → Nat} {q us w1 w2 : Nat} (hus : us < 2 ^ g 0 0) (hz : ∀ x, x < 2 ^ g 0 0 → lz (512 * (q + 1) + x) ≤ 1000000) : lf_I M lz q us (fun l r => l < g 0 0 + 1 ∧ r ≤ g 0 0) (m_lfL M lz q us w1 w2 (M 9 0 + 1)) := by
  have hK := G.1
  have h := lf_L (lz := lz) (q := q) (us := us) (w1 := w1) (w2 := w2) (by rw [P.1]; exact hK.1) (fun l r hl hr => by
    rw [P.1] at hl hr
    have h1 := (oil_cd G P hl).2
    have h2 := (oil_cd G P hr).2
    have h3 := hz _ (u_lt hK.1 hus hl hr)
    rw [v_cd G P hl hr]
    unfold lb_c
    rw [← (oil_cd G P hl).1, ← (oil_cd G P hr).1]
    omega) (M 9 0 + 1) (Nat.le_refl _)
  rw [P.1] at h ⊢
  exact h
theorem mLp_le (G : gOK g) (P : pR g M) (τ : Nat → Bool) : ∀ u q us, us < 2 ^ g 0 0 → mLp M τ u q us ≤ 1000000
  | 0, _, _, _ => Nat.zero_le _
  | u + 1, q, us, hus => by
    rw [mLp_s]
    split
    · exact (lf_fin (w1 := 0) (w2 := 0) (lz := fun j => mLp M τ u (q + 1) (j - 512 * (q + 1))) G P hus (fun x hx => by
        show mLp M τ u (q + 1) (512 * (q + 1) + x - 512 * (q + 1)) ≤ 1000000
        rw [Nat.add_sub_cancel_left]
        exact mLp_le G P τ u (q + 1) x hx)).1
    · exact mLp_le G P τ u (q + 1) us hus
theorem mL_spec (G : gOK g) (P : pR g M) (N : nR g d ho le (M 20)) (τ : Nat → Bool) {u q us : Nat} (hq : q < g 0 1) (hus : us < 2 ^ g 0 0) (ht : τ q = true) : (∀ l r, lb_V g d ho le q us l r → mLp M τ (u + 1) q us ≤ lb_c g l r + mLp M τ u (q + 1) (lb_u us l r)) ∧ (mLp M τ (u + 1) q us = 1000000 ∨ ∃ l r, lb_V g d ho le q us l r ∧ mLp M τ (u + 1) q us = lb_c g l r + mLp M τ u (q + 1) (lb_u us l r)) := by
  have hK := G.1
  have h := lf_fin (q := q) (us := us) (w1 := 0) (w2 := 0) (lz := fun j => mLp M τ u (q + 1) (j - 512 * (q + 1))) G P hus (fun x hx => by
    show mLp M τ u (q + 1) (512 * (q + 1) + x - 512 * (q + 1)) ≤ 1000000
    rw [Nat.add_sub_cancel_left]
    exact mLp_le G P τ u (q + 1) x hx)
  have hv : ∀ l r, l ≤ g 0 0 → r ≤ g 0 0 → lf_v M (fun j => mLp M τ u (q + 1) (j - 512 * (q + 1))) q us l r = lb_c g (lb_cd l) (lb_cd r) + mLp M τ u (q + 1) (lb_u us (lb_cd l) (lb_cd r)) := fun l r hl hr => by
    rw [v_cd G P hl hr]
    show _ + mLp M τ u (q + 1) (512 * (q + 1) + lb_u us (lb_cd l) (lb_cd r) - 512 * (q + 1)) = _
    rw [Nat.add_sub_cancel_left]
  rw [mLp_s, if_pos ht]
  obtain ⟨h1, h2, h3⟩ := h
  constructor
  · intro l r hV
    obtain ⟨a, ha, rfl⟩ := cd_inv hK.1 hV.1
    obtain ⟨b, hb, rfl⟩ := cd_inv hK.1 hV.2.1
    have := h2 a b ⟨by omega, hb⟩ ((ok_V G P N hq ha hb).mpr hV)
    rw [hv a b ha hb] at this
    exact this
  · rcases h3 with h3 | ⟨h3, h4, h5, h6, -⟩
    · exact Or.inl h3
    · have ha := Nat.lt_succ_iff.mp h4.1
      have hb := h4.2
      rw [hv _ _ ha hb] at h6
      exact Or.inr ⟨_, _, (ok_V G P N hq ha hb).mp h5, h6.symm⟩
theorem mLp_b (G : gOK g) (P : pR g M) (N : nR g d ho le (M 20)) (τ : Nat → Bool) : ∀ u q us, q + u = g 0 1 → us < 2 ^ g 0 0 → mLp M τ u q us < 1000000 → mLp M τ u q us ≤ 18 * u
  | 0, _, _, _, _, _ => Nat.zero_le _
  | u + 1, q, us, hm, hus, h => by
    by_cases ht : τ q = true
    · rcases (mL_spec (u := u) G P N τ (show q < g 0 1 by omega) hus ht).2 with e | ⟨l, r, hV, e⟩
      · omega
      · have hc : lb_c g l r ≤ 18 := by
          have h8 : ∀ j, g 8 j ≤ 9 := fun j => (G.2 j).2.2.2.2.2.2.2
          have h1 := w_oil_le h8 l
          have h2 := w_oil_le h8 r
          unfold lb_c
          omega
        have ih := mLp_b G P N τ u (q + 1) (lb_u us l r) (by omega) (u_ltV G.1.1 hus hV) (by omega)
        omega
    · have e : mLp M τ (u + 1) q us = mLp M τ u (q + 1) us := by rw [mLp_s, if_neg ht]
      have ih := mLp_b G P N τ u (q + 1) us (by omega) hus (by omega)
      omega
variable {lf rf : Nat → Int32}
theorem lwR_min (G : gOK g) {q us l : Nat} (hlf : lf q = w_off g d ho le q 0) (hrf : rf q = w_off g d ho le q 1) (hl : l ≤ 9) (hus : us < 512) (rec : Nat → Nat) (v : Nat) : ∀ i, i ≤ 10 → w_lwR g lf rf q us rec l v i ≤ v ∧ (∀ r, r < i → lb_V g d ho le q us l r → w_lwR g lf rf q us rec l v i ≤ lb_c g l r * 64 + 2 ^ q + rec (lb_u us l r)) ∧ (w_lwR g lf rf q us rec l v i = v ∨ ∃ r, r < i ∧ lb_V g d ho le q us l r ∧ w_lwR g lf rf q us rec l v i = lb_c g l r * 64 + 2 ^ q + rec (lb_u us l r))
  | 0, _ => ⟨Nat.le_refl _, fun r h => absurd h (Nat.not_lt_zero _), Or.inl rfl⟩
  | i + 1, hi => by
    obtain ⟨a1, a2, a3⟩ := lwR_min G hlf hrf hl hus rec v i (by omega)
    rw [w_lwR_s]
    generalize w_lwR g lf rf q us rec l v i = Y at a1 a2 a3
    rcases may_V (d := d) (ho := ho) (le := le) G hlf hrf hl (show i ≤ 9 by omega) hus with ⟨b1, b2⟩ | ⟨b1, b2⟩
    · rw [if_neg b1]
      have e : (w_oil g l + w_oil g i) * 64 + 2 ^ q + rec (us ||| w_kb l i) = lb_c g l i * 64 + 2 ^ q + rec (lb_u us l i) := rfl
      rw [e]
      generalize hZ : lb_c g l i * 64 + 2 ^ q + rec (lb_u us l i) = Z
      have m1 : min Y Z ≤ Y := Nat.min_le_left _ _
      have m2 : min Y Z ≤ Z := Nat.min_le_right _ _
      refine ⟨by omega, fun r hr hV => ?_, ?_⟩
      · by_cases e : r = i
        · rw [e, hZ]; exact m2
        · have := a2 r (by omega) hV; omega
      · by_cases c : Y ≤ Z
        · rw [Nat.min_eq_left c]
          rcases a3 with a3 | ⟨r, c1, c2, c3⟩
          · exact Or.inl a3
          · exact Or.inr ⟨r, by omega, c2, c3⟩
        · rw [Nat.min_eq_right (by omega)]
          exact Or.inr ⟨i, by omega, b2, hZ.symm⟩
    · rw [if_pos b1]
      refine ⟨a1, fun r hr hV => ?_, ?_⟩
      · by_cases e : r = i
        · rw [e] at hV; exact absurd hV b2
        · exact a2 r (by omega) hV
      · rcases a3 with a3 | ⟨r, c1, c2, c3⟩
        · exact Or.inl a3
        · exact Or.inr ⟨r, by omega, c2, c3⟩
theorem lwL_min (G : gOK g) {q us : Nat} (hlf : lf q = w_off g d ho le q 0) (hrf : rf q = w_off g d ho le q 1) (hus : us < 512) (rec : Nat → Nat) : ∀ i, i ≤ 10 → w_lwL g lf rf q us rec i ≤ 8192 + rec us ∧ (∀ l r, l < i → r ≤ 9 → lb_V g d ho le q us l r → w_lwL g lf rf q us rec i ≤ lb_c g l r * 64 + 2 ^ q + rec (lb_u us l r)) ∧ (w_lwL g lf rf q us rec i = 8192 + rec us ∨ ∃ l r, lb_V g d ho le q us l r ∧ w_lwL g lf rf q us rec i = lb_c g l r * 64 + 2 ^ q + rec (lb_u us l r))
  | 0, _ => ⟨Nat.le_refl _, fun l r h => absurd h (Nat.not_lt_zero _), Or.inl rfl⟩
  | i + 1, hi => by
    obtain ⟨a1, a2, a3⟩ := lwL_min G hlf hrf hus rec i (by omega)
    rw [w_lwL_s]
    generalize w_lwL g lf rf q us rec i = Y at a1 a2 a3
    rw [hlf]
    rcases bit_sv (d := d) (ho := ho) (le := le) (q := q) G (show 0 ≤ 1 by decide) (show i ≤ 9 by omega) hus with ⟨b1, b2⟩ | ⟨b1, b2⟩
    · rw [if_pos b1]
      obtain ⟨c1, c2, c3⟩ := lwR_min G hlf hrf (show i ≤ 9 by omega) hus rec Y 10 (Nat.le_refl _)
      refine ⟨by omega, fun l r hl hr hV => ?_, ?_⟩
      · by_cases e : l = i
        · rw [e] at hV ⊢; exact c2 r (by omega) hV
        · have := a2 l r (by omega) hr hV; omega
      · rcases c3 with c3 | ⟨r, d1, d2, d3⟩
        · rw [c3]; exact a3
        · exact Or.inr ⟨i, r, d2, d3⟩
    · rw [if_neg (by rw [b1]; decide)]
      refine ⟨a1, fun l r hl hr hV => ?_, a3⟩
      by_cases e : l = i
      · rw [e] at hV; exact absurd hV.1 b2
      · exact a2 l r (by omega) hr hV
theorem sv_le9 (hK : g 0 0 ≤ 9) {q o us l : Nat} (h : lb_sv g d ho le q o us l) : l ≤ 9 := by
  rcases h with h | h <;> omega
theorem pow9 {n x : Nat} (hn : n ≤ 9) (h : x < 2 ^ n) : x < 512 := Nat.lt_of_lt_of_le h (Nat.pow_le_pow_right (n := 2) (by decide) hn)
/-- THE LEAST WORTH: no set of people who can go has less, and one has no more -/
theorem wv_min (G : gOK g) (P : pR g M) (N : nR g d ho le (M 20)) (hlf : ∀ q, q < g 0 1 → lf q = w_off g d ho le q 0) (hrf : ∀ q, q < g 0 1 → rf q = w_off g d ho le q 1) (sS : Nat) : ∀ u q us, q + u = g 0 1 → us < 2 ^ g 0 0 → (∀ τ : Nat → Bool, lb_sub τ (fun i => sS.testBit i) u q → mLp M τ u q us < 1000000 → w_wv g lf rf sS u q us ≤ lb_val M (fun i => sS.testBit i) τ u q us) ∧ ∃ τ : Nat → Bool, lb_sub τ (fun i => sS.testBit i) u q ∧ mLp M τ u q us < 1000000 ∧ lb_val M (fun i => sS.testBit i) τ u q us ≤ w_wv g lf rf sS u q us
  | 0, q, us, _, _ => ⟨fun τ _ _ => Nat.zero_le _, fun _ => false, fun i h1 h2 => by omega, by show 0 < 1000000; decide, Nat.le_refl _⟩
  | u + 1, q, us, hm, hus => by
    have hK := G.1
    obtain ⟨i1, τ1, i2, i3, i4⟩ := wv_min G P N hlf hrf sS u (q + 1) us (by omega) hus
    have hj := jb_nat sS (show q < 32 by omega)
    rw [w_wv_s, hj]
    cases hb : sS.testBit q with
    | false =>
      rw [if_neg (show ¬ (if false = true then (1 : Int32) else 0) = 1 by decide)]
      refine ⟨fun τ hs hl => ?_, fun i => if i = q then false else τ1 i, fun i h1 h2 h3 => ?_, ?_, ?_⟩
      · have ht : τ q = false := by
          cases h : τ q with
          | false => rfl
          | true => have this : sS.testBit q = true := hs q (Nat.le_refl _) (by omega) h; rw [hb] at this; exact absurd this (by decide)
        rw [val_ff hb ht]
        refine i1 τ (fun i h1 h2 => hs i (by omega) (by omega)) ?_
        rw [mLp_s, ht, if_neg (by decide)] at hl
        exact hl
      · replace h3 : (if i = q then false else τ1 i) = true := h3
        by_cases e : i = q
        · rw [if_pos e] at h3; exact absurd h3 (by decide)
        · rw [if_neg e] at h3; exact i2 i (by omega) (by omega) h3
      · rw [mLp_s, if_pos (rfl : q = q), if_neg (by decide), mLp_congr u (q + 1) us (σ := τ1) (fun i h1 h2 => if_neg (by omega))]
        exact i3
      · rw [val_ff hb (if_pos rfl), val_congr (σ := τ1) (fun i h1 h2 => if_neg (by omega))]
        exact i4
    | true =>
      rw [if_pos (show (if true = true then (1 : Int32) else 0) = 1 from rfl)]
      obtain ⟨a1, a2, a3⟩ := lwL_min G (hlf q (by omega)) (hrf q (by omega)) (pow9 hK.1 hus) (fun v => w_wv g lf rf sS u (q + 1) v) 10 (Nat.le_refl _)
      constructor
      · intro τ hs hl
        have hs1 : lb_sub τ (fun i => sS.testBit i) u (q + 1) := fun i h1 h2 => hs i (by omega) (by omega)
        cases ht : τ q with
        | false =>
          rw [val_tf hb ht hs1]
          rw [mLp_s, ht, if_neg (by decide)] at hl
          have := i1 τ hs1 hl
          exact Nat.le_trans a1 (Nat.add_le_add_left this _)
        | true =>
          rcases (mL_spec (u := u) G P N τ (show q < g 0 1 by omega) hus ht).2 with e | ⟨l, r, hV, e⟩
          · omega
          · have hu := u_ltV hK.1 hus hV
            have h1 := (wv_min G P N hlf hrf sS u (q + 1) (lb_u us l r) (by omega) hu).1 τ hs1 (by omega)
            have h2 := a2 l r (by have := sv_le9 hK.1 hV.1; omega) (sv_le9 hK.1 hV.2.1) hV
            rw [val_tt (S := fun i => sS.testBit i) hb ht, e]
            unfold lb_val at h1
            omega
      · rcases a3 with a3 | ⟨l, r, hV, a3⟩
        · refine ⟨fun i => if i = q then false else τ1 i, fun i h1 h2 h3 => ?_, ?_, ?_⟩
          · replace h3 : (if i = q then false else τ1 i) = true := h3
            by_cases e : i = q
            · rw [if_pos e] at h3; exact absurd h3 (by decide)
            · rw [if_neg e] at h3; exact i2 i (by omega) (by omega) h3
          · rw [mLp_s, if_pos (rfl : q = q), if_neg (by decide), mLp_congr u (q + 1) us (σ := τ1) (fun i h1 h2 => if_neg (by omega))]
            exact i3
          · rw [a3, val_tf hb (if_pos rfl) (fun i h1 h2 h3 => by rw [if_neg (show ¬ i = q by omega)] at h3; exact i2 i h1 h2 h3), val_congr (σ := τ1) (fun i h1 h2 => if_neg (by omega))]
            exact Nat.add_le_add_left i4 _
        · have hu := u_ltV hK.1 hus hV
          obtain ⟨-, τ2, j2, j3, j4⟩ := wv_min G P N hlf hrf sS u (q + 1) (lb_u us l r) (by omega) hu
          have hτ : ∀ i, q + 1 ≤ i → i < q + 1 + u → (fun i => if i = q then true else τ2 i) i = τ2 i := fun i h1 h2 => if_neg (by omega)
          have ht : (fun i => if i = q then true else τ2 i) q = true := if_pos rfl
          have hle := (mL_spec (u := u) G P N (fun i => if i = q then true else τ2 i) (show q < g 0 1 by omega) hus ht).1 l r hV
          rw [mLp_congr u (q + 1) (lb_u us l r) hτ] at hle
          refine ⟨fun i => if i = q then true else τ2 i, fun i h1 h2 h3 => ?_, ?_, ?_⟩
          · replace h3 : (if i = q then true else τ2 i) = true := h3
            by_cases e : i = q
            · rw [e]; exact hb
            · rw [if_neg e] at h3; exact j2 i (by omega) (by omega) h3
          · have hb2 := mLp_b G P N τ2 u (q + 1) (lb_u us l r) (by omega) hu j3
            have hc : lb_c g l r ≤ 18 := by
              have h8 : ∀ j, g 8 j ≤ 9 := fun j => (G.2 j).2.2.2.2.2.2.2
              have h1 := w_oil_le h8 l
              have h2 := w_oil_le h8 r
              unfold lb_c
              omega
            omega
          · rw [val_tt (S := fun i => sS.testBit i) hb ht, a3, pcb_congr u (q + 1) hτ, rbb_congr u (q + 1) hτ]
            unfold lb_val at j4
            omega
/-- who are all of a set: if they can go, the worth is theirs; if not, somebody stays -/
theorem wv_all (G : gOK g) (P : pR g M) (N : nR g d ho le (M 20)) (hlf : ∀ q, q < g 0 1 → lf q = w_off g d ho le q 0) (hrf : ∀ q, q < g 0 1 → rf q = w_off g d ho le q 1) (sS : Nat) {u q us : Nat} (hm : q + u = g 0 1) (hus : us < 2 ^ g 0 0) : (mLp M (fun i => sS.testBit i) u q us < 1000000 ∧ w_wv g lf rf sS u q us = 64 * mLp M (fun i => sS.testBit i) u q us + rbb (fun i => sS.testBit i) u q ∧ 64 * mLp M (fun i => sS.testBit i) u q us + rbb (fun i => sS.testBit i) u q < 8192) ∨ (mLp M (fun i => sS.testBit i) u q us = 1000000 ∧ 8192 ≤ w_wv g lf rf sS u q us) := by
  have hK := G.1
  obtain ⟨h1, τ, h2, h3, h4⟩ := wv_min G P N hlf hrf sS u q us hm hus
  have hle := mLp_le G P (fun i => sS.testBit i) u q us hus
  have hp := pcb_le u q h2
  by_cases c : pcb τ u q = pcb (fun i => sS.testBit i) u q
  · have he := pcb_eq u q h2 c
    have e1 := mLp_congr (M := M) u q us he
    have e2 := rbb_congr u q he
    rw [e1] at h3
    have h5 := h1 (fun i => sS.testBit i) (fun _ _ _ h => h) h3
    have hb := mLp_b G P N (fun i => sS.testBit i) u q us hm hus h3
    have hr := rbb_lt (fun i => sS.testBit i) u q
    have h64 : 2 ^ (q + u) ≤ 64 := by rw [hm]; exact (pow6 hK.2).2
    have hq0 : 0 < 2 ^ q := Nat.two_pow_pos q
    unfold lb_val at h4 h5
    rw [e1, e2, c] at h4
    rw [Nat.sub_self, Nat.mul_zero, Nat.zero_add] at h4 h5
    exact Or.inl ⟨h3, Nat.le_antisymm h5 h4, by omega⟩
  · have h8 : 8192 ≤ w_wv g lf rf sS u q us := by
      unfold lb_val at h4
      omega
    by_cases f : mLp M (fun i => sS.testBit i) u q us = 1000000
    · exact Or.inr ⟨f, h8⟩
    · have h3 : mLp M (fun i => sS.testBit i) u q us < 1000000 := by omega
      have h5 := h1 (fun i => sS.testBit i) (fun _ _ _ h => h) h3
      have hb := mLp_b G P N (fun i => sS.testBit i) u q us hm hus h3
      have hr := rbb_lt (fun i => sS.testBit i) u q
      have h64 : 2 ^ (q + u) ≤ 64 := by rw [hm]; exact (pow6 hK.2).2
      have hq0 : 0 < 2 ^ q := Nat.two_pow_pos q
      unfold lb_val at h5
      rw [Nat.sub_self, Nat.mul_zero, Nat.zero_add] at h5
      omega
end LK
