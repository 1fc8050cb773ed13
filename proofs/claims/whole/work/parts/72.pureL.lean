/-! lending: the model's table; the answer -/
def lb_S (sS : Nat) : Nat → Bool := fun i => sS.testBit i
def tb_ok (g M : Nat → Nat → Nat) (sS : Nat) (lz : Nat → Nat) (q : Nat) : Prop := ∀ us, us < 2 ^ g 0 0 → lz (512 * q + us) = mLp M (lb_S sS) (g 0 1 - q) q us
theorem mz_at (M : Nat → Nat → Nat) (lz : Nat → Nat) : ∀ i j, m_mz M lz i j = if 512 * M 9 1 ≤ j ∧ j < 512 * M 9 1 + i then 0 else lz j
  | 0, j => by rw [if_neg (by omega)]; rfl
  | i + 1, j => by
    show va_up (m_mz M lz i) (512 * M 9 1 + i) 0 j = _
    by_cases e : j = 512 * M 9 1 + i
    · rw [e, up_at, if_pos (by omega)]
    · rw [up_ne _ _ e, mz_at M lz i j]
      by_cases c : 512 * M 9 1 ≤ j ∧ j < 512 * M 9 1 + i
      · rw [if_pos c, if_pos (by omega)]
      · rw [if_neg c, if_neg (by omega)]
theorem rbb_dvd (σ : Nat → Bool) : ∀ u q, ∃ k, rbb σ u q = 2 ^ q * k
  | 0, q => ⟨0, rfl⟩
  | u + 1, q => by
    obtain ⟨k, hk⟩ := rbb_dvd σ u (q + 1)
    refine ⟨(if σ q = true then 1 else 0) + 2 * k, ?_⟩
    show (if σ q = true then 2 ^ q else 0) + rbb σ u (q + 1) = _
    rw [hk, Nat.pow_succ, Nat.mul_add, Nat.mul_assoc]
    split
    · rw [Nat.mul_one]
    · rw [Nat.mul_zero]
theorem rbb_inj {τ σ : Nat → Bool} : ∀ u q, rbb τ u q = rbb σ u q → ∀ i, q ≤ i → i < q + u → τ i = σ i
  | 0, q, _, i, h1, h2 => by omega
  | u + 1, q, h, i, h1, h2 => by
    have h0 : (if τ q = true then 2 ^ q else 0) + rbb τ u (q + 1) = (if σ q = true then 2 ^ q else 0) + rbb σ u (q + 1) := h
    obtain ⟨k1, e1⟩ := rbb_dvd τ u (q + 1)
    obtain ⟨k2, e2⟩ := rbb_dvd σ u (q + 1)
    have hp : 0 < 2 ^ q := Nat.two_pow_pos q
    have key : τ q = σ q ∧ rbb τ u (q + 1) = rbb σ u (q + 1) := by
      cases h3 : τ q with
      | true =>
        cases h4 : σ q with
        | true => rw [h3, h4, if_pos rfl] at h0; exact ⟨rfl, by omega⟩
        | false =>
          rw [h3, h4, if_pos rfl, if_neg (by decide), e1, e2, Nat.pow_succ, Nat.mul_assoc, Nat.mul_assoc, Nat.zero_add] at h0
          have h5 : 2 ^ q * (1 + 2 * k1) = 2 ^ q * (2 * k2) := by rw [Nat.mul_add, Nat.mul_one]; exact h0
          have := Nat.eq_of_mul_eq_mul_left hp h5
          omega
      | false =>
        cases h4 : σ q with
        | true =>
          rw [h3, h4, if_pos rfl, if_neg (by decide), e1, e2, Nat.pow_succ, Nat.mul_assoc, Nat.mul_assoc, Nat.zero_add] at h0
          have h5 : 2 ^ q * (2 * k1) = 2 ^ q * (1 + 2 * k2) := by rw [Nat.mul_add (2 ^ q) 1, Nat.mul_one]; exact h0
          have := Nat.eq_of_mul_eq_mul_left hp h5
          omega
        | false => rw [h3, h4, if_neg (by decide)] at h0; exact ⟨rfl, by omega⟩
    by_cases e : i = q
    · rw [e]; exact key.1
    · exact rbb_inj u (q + 1) key.2 i (by omega) (by omega)
theorem rbb_self : ∀ m, m ≤ 6 → ∀ x, x < 64 → x < 2 ^ m → rbb (lb_S x) m 0 = x ∧ pcb (lb_S x) m 0 = cnt x 9 ∧ pcb (lb_S (2 ^ m - 1)) m 0 = m := by decide +kernel
section LT
variable {g M : Nat → Nat → Nat} {d ho le : Nat → Nat}
theorem or_u (G : gOK g) {us l r : Nat} (hl : l ≤ g 0 0) (hr : r ≤ g 0 0) : (us ||| m_bitOf l) ||| m_bitOf r = lb_u us (lb_cd l) (lb_cd r) := by
  have hK := G.1
  unfold lb_u
  rw [kb_cd l (by omega) r (by omega), Nat.or_assoc]
theorem lf_tab (G : gOK g) (P : pR g M) {sS : Nat} {lz : Nat → Nat} {q us w1 w2 : Nat} (hq : q < g 0 1) (hus : us < 2 ^ g 0 0) (ht : tb_ok g M sS lz (q + 1)) : m_lfL M lz q us w1 w2 (M 9 0 + 1) = m_lfL M (fun j => mLp M (lb_S sS) (g 0 1 - (q + 1)) (q + 1) (j - 512 * (q + 1))) q us w1 w2 (M 9 0 + 1) := by
  refine lfL_congr (fun l r hl hr => ?_) (M 9 0 + 1) (Nat.le_refl _)
  rw [P.1] at hl hr
  rw [or_u G hl hr, ht _ (u_lt G.1.1 hus hl hr)]
  show _ = mLp M (lb_S sS) (g 0 1 - (q + 1)) (q + 1) (512 * (q + 1) + lb_u us (lb_cd l) (lb_cd r) - 512 * (q + 1))
  rw [Nat.add_sub_cancel_left]
theorem lf_mLp (G : gOK g) (P : pR g M) {sS : Nat} {lz : Nat → Nat} {q us w1 w2 : Nat} (hq : q < g 0 1) (hus : us < 2 ^ g 0 0) (ht : tb_ok g M sS lz (q + 1)) : (m_lf M lz sS q us w1 w2).1 = mLp M (lb_S sS) (g 0 1 - q) q us := by
  have hK := G.1
  have hj := jb_nat sS (show q < 32 by omega)
  have hb : lb_S sS q = sS.testBit q := rfl
  unfold m_lf
  rw [show g 0 1 - q = g 0 1 - (q + 1) + 1 by omega, mLp_s, hj, hb]
  cases sS.testBit q with
  | false =>
    rw [if_pos (show (if false = true then (1 : Int32) else 0) = 0 from rfl), if_neg (by decide)]
    exact ht us hus
  | true =>
    rw [if_neg (show ¬ (if true = true then (1 : Int32) else 0) = 0 by decide), if_pos rfl, lf_tab G P hq hus ht]
    exact (lfL_ind (M 9 0 + 1)).1
theorem mt_at (G : gOK g) (P : pR g M) {sS pp : Nat} {o0 : Nat → Nat} {o1 o2 : Nat} (hq : pp < g 0 1) (ht : tb_ok g M sS o0 (pp + 1)) : ∀ i, i ≤ 2 ^ g 0 0 → ∀ j, (m_mt M sS pp o0 o1 o2 i).1 j = if 512 * pp ≤ j ∧ j < 512 * pp + i then mLp M (lb_S sS) (g 0 1 - pp) pp (j - 512 * pp) else o0 j
  | 0, _, j => by rw [if_neg (by omega)]; rfl
  | i + 1, hi, j => by
    have hK := G.1
    have h512 := pow9 hK.1 (show i < 2 ^ g 0 0 by omega)
    have ih := mt_at G P (o1 := o1) (o2 := o2) hq ht i (by omega)
    have ht2 : tb_ok g M sS (m_mt M sS pp o0 o1 o2 i).1 (pp + 1) := fun us hus => by
      rw [ih, if_neg (by omega)]
      exact ht us hus
    have e := lf_mLp (w1 := (m_mt M sS pp o0 o1 o2 i).2.1) (w2 := (m_mt M sS pp o0 o1 o2 i).2.2) G P hq (show i < 2 ^ g 0 0 by omega) ht2
    show va_up (m_mt M sS pp o0 o1 o2 i).1 (512 * pp + i) (m_lf M (m_mt M sS pp o0 o1 o2 i).1 sS pp i (m_mt M sS pp o0 o1 o2 i).2.1 (m_mt M sS pp o0 o1 o2 i).2.2).1 j = _
    rw [e]
    by_cases c : j = 512 * pp + i
    · rw [c, up_at, if_pos (by omega), Nat.add_sub_cancel_left]
    · rw [up_ne _ _ c, ih j]
      by_cases c2 : 512 * pp ≤ j ∧ j < 512 * pp + i
      · rw [if_pos c2, if_pos (by omega)]
      · rw [if_neg c2, if_neg (by omega)]
theorem ms_ok (G : gOK g) (P : pR g M) {sS : Nat} : ∀ u v0 v1 v2 v3, v0 < u → v0 ≤ g 0 1 → (∀ q, v0 ≤ q → q ≤ g 0 1 → tb_ok g M sS v1 q) → ∀ q, q ≤ g 0 1 → tb_ok g M sS (m_ms M (2 ^ g 0 0) sS u v0 v1 v2 v3).2.1 q
  | 0, v0, _, _, _, h, _, _, _, _ => absurd h (Nat.not_lt_zero _)
  | u + 1, v0, v1, v2, v3, h, hm, hr, q, hq => by
    have hK := G.1
    rw [m_ms_s]
    by_cases c : v0 = 0
    · rw [if_pos (show nI v0 - 1 < 0 by rw [c]; decide)]
      exact hr q (by omega) hq
    · rw [if_neg (show ¬ nI v0 - 1 < 0 by rw [nI_m1 (by omega)]; exact nI_pos (by omega))]
      refine ms_ok G P u (v0 - 1) _ _ _ (by omega) (by omega) (fun p h1 h2 us hus => ?_) q hq
      have h512 := pow9 hK.1 hus
      have hp9 : 2 ^ g 0 0 ≤ 512 := Nat.pow_le_pow_right (n := 2) (by decide) hK.1
      rw [mt_at G P (show v0 - 1 < g 0 1 by omega) (by rw [show v0 - 1 + 1 = v0 by omega]; exact hr v0 (Nat.le_refl _) hm) (2 ^ g 0 0) (Nat.le_refl _)]
      by_cases e : p = v0 - 1
      · rw [e, if_pos (by omega), Nat.add_sub_cancel_left]
      · rw [if_neg (by omega)]
        exact hr p (by omega) h2 us hus
/-- the table, once measured -/
theorem M_ok (G : gOK g) (P : pR g M) (sS : Nat) (lz : Nat → Nat) (w1 w2 : Nat) : ∀ q, q ≤ g 0 1 → tb_ok g M sS (m_M M (2 ^ g 0 0) lz sS w1 w2).2.1 q := by
  have hK := G.1
  unfold m_M
  rw [P.2.1]
  refine ms_ok G P _ _ _ _ _ (Nat.lt_succ_self _) (Nat.le_refl _) (fun q h1 h2 us hus => ?_)
  have h512 := pow9 hK.1 hus
  have e : q = g 0 1 := by omega
  rw [e, mz_at, P.2.1, if_pos (by omega), Nat.sub_self]
  rfl
theorem me_eq (G : gOK g) (P : pR g M) (sS : Nat) (lz : Nat → Nat) (w1 w2 : Nat) : m_me (m_M M (2 ^ g 0 0) lz sS w1 w2) = mLp M (lb_S sS) (g 0 1) 0 0 := by
  have h0 : (0 : Nat) < 2 ^ g 0 0 := Nat.two_pow_pos _
  have h := M_ok G P sS lz w1 w2 0 (Nat.zero_le _) 0 h0
  have hle := mLp_le G P (lb_S sS) (g 0 1) 0 0 h0
  have e : (m_M M (2 ^ g 0 0) lz sS w1 w2).2.1 0 = mLp M (lb_S sS) (g 0 1) 0 0 := h
  unfold m_me
  rw [e]
  by_cases c : mLp M (lb_S sS) (g 0 1) 0 0 = 1000000
  · rw [c]; rfl
  · rw [if_neg (show ¬ (1000000 : Int32) ≤ nI (mLp M (lb_S sS) (g 0 1) 0 0) from fun z => by have := (nI_leI (a := 1000000) (b := mLp M (lb_S sS) (g 0 1) 0 0) (by omega) (by omega)).mp z; omega)]
variable {lf rf : Nat → Int32}
theorem lr_at (g : Nat → Nat → Nat) (d ho le : Nat → Nat) (lf rf : Nat → Int32) : ∀ i q, q < i → (w_lr g d ho le lf rf i).1 q = w_off g d ho le q 0 ∧ (w_lr g d ho le lf rf i).2 q = w_off g d ho le q 1
  | 0, q, h => absurd h (Nat.not_lt_zero _)
  | i + 1, q, h => by
    show upd (w_lr g d ho le lf rf i).1 i (w_off g d ho le i 0) q = _ ∧ upd (w_lr g d ho le lf rf i).2 i (w_off g d ho le i 1) q = _
    unfold upd
    by_cases e : q = i
    · rw [if_pos e, if_pos e, e]; exact ⟨rfl, rfl⟩
    · rw [if_neg e, if_neg e]; exact lr_at g d ho le lf rf i q (by omega)
theorem w63 {w : Nat} (h : w < 2 ^ 31) : nI w &&& 63 = nI (w % 64) := pk_andN (by omega) 6 (by decide)
theorem w127 {w : Nat} (h : w < 2 ^ 31) : nI w / 64 &&& 127 = nI (w / 64 % 128) := by
  rw [show (64 : Int32) = nI 64 from rfl, pk_div h (by decide) (by decide)]
  exact pk_andN (by omega) 7 (by decide)
theorem wv_small (lf rf : Nat → Int32) (sS : Nat) (hm : g 0 1 ≤ 6) : w_wv g lf rf sS (g 0 1) 0 0 < 2 ^ 31 := by
  have := w_wv_le g lf rf sS (g 0 1) 0 0
  omega
/-- all of a set go: so it shows -/
theorem lend_yes (G : gOK g) (P : pR g M) (N : nR g d ho le (M 20)) (hlf : ∀ q, q < g 0 1 → lf q = w_off g d ho le q 0) (hrf : ∀ q, q < g 0 1 → rf q = w_off g d ho le q 1) {sS : Nat} (hs : sS < 2 ^ g 0 1) (h : mLp M (lb_S sS) (g 0 1) 0 0 < 1000000) : nI (w_wv g lf rf sS (g 0 1) 0 0) &&& 63 = nI sS ∧ nI (w_wv g lf rf sS (g 0 1) 0 0) / 64 &&& 127 = nI (mLp M (lb_S sS) (g 0 1) 0 0) := by
  have hK := G.1
  have h64 := (pow6 hK.2).2
  have hr := (rbb_self (g 0 1) hK.2 sS (by omega) hs).1
  have hb := mLp_b G P N (lb_S sS) (g 0 1) 0 0 (Nat.zero_add _) (Nat.two_pow_pos _) h
  have hw := wv_small (g := g) lf rf sS hK.2
  rw [w63 hw, w127 hw]
  rcases wv_all G P N hlf hrf sS (Nat.zero_add (g 0 1)) (Nat.two_pow_pos (g 0 0)) with ⟨-, a2, a3⟩ | ⟨a1, -⟩
  · have e : w_wv g lf rf sS (g 0 1) 0 0 = 64 * mLp M (lb_S sS) (g 0 1) 0 0 + sS := by rw [a2]; show 64 * mLp M (lb_S sS) (g 0 1) 0 0 + rbb (lb_S sS) (g 0 1) 0 = _; rw [hr]
    rw [e]
    exact ⟨congrArg nI (by omega), congrArg nI (by omega)⟩
  · have : mLp M (lb_S sS) (g 0 1) 0 0 = 1000000 := a1
    omega
/-- somebody stays: so it shows -/
theorem lend_no (G : gOK g) (P : pR g M) (N : nR g d ho le (M 20)) (hlf : ∀ q, q < g 0 1 → lf q = w_off g d ho le q 0) (hrf : ∀ q, q < g 0 1 → rf q = w_off g d ho le q 1) {sS : Nat} (hs : sS < 2 ^ g 0 1) (h : ¬ mLp M (lb_S sS) (g 0 1) 0 0 < 1000000) : ¬ nI (w_wv g lf rf sS (g 0 1) 0 0) &&& 63 = nI sS := by
  have hK := G.1
  have h64 := (pow6 hK.2).2
  have hr := (rbb_self (g 0 1) hK.2 sS (by omega) hs).1
  have hw := wv_small (g := g) lf rf sS hK.2
  rw [w63 hw]
  intro z
  have z2 := (nI_eq (by omega) (by omega)).mp z
  obtain ⟨h1, τ, h2, h3, h4⟩ := wv_min G P N hlf hrf sS (g 0 1) 0 0 (Nat.zero_add _) (Nat.two_pow_pos _)
  have h5 := h1 τ h2 h3
  have hrt := rbb_lt τ (g 0 1) 0
  rw [Nat.zero_add] at hrt
  unfold lb_val at h4 h5
  have e : rbb τ (g 0 1) 0 = rbb (lb_S sS) (g 0 1) 0 := by rw [hr]; omega
  have he := rbb_inj (g 0 1) 0 e
  rw [mLp_congr (M := M) (g 0 1) 0 0 he] at h3
  exact h h3
theorem lending_eq (G : gOK g) (P : pR g M) (N : nR g d ho le (M 20)) (hlf : ∀ q, q < g 0 1 → lf q = w_off g d ho le q 0) (hrf : ∀ q, q < g 0 1 → rf q = w_off g d ho le q 1) {sS : Nat} (hs : sS < 2 ^ g 0 1) (lz : Nat → Nat) (w1 w2 : Nat) : w_lend (nI (w_wv g lf rf sS (g 0 1) 0 0)) sS = if nI (m_me (m_M M (2 ^ g 0 0) lz sS w1 w2)) = 1000000 then -9 else nI (m_me (m_M M (2 ^ g 0 0) lz sS w1 w2)) := by
  have hle := mLp_le G P (lb_S sS) (g 0 1) 0 0 (Nat.two_pow_pos _)
  unfold w_lend
  rw [me_eq G P]
  by_cases c : mLp M (lb_S sS) (g 0 1) 0 0 < 1000000
  · have h := lend_yes G P N hlf hrf hs c
    rw [if_pos h.1, h.2, if_neg (show ¬ nI (mLp M (lb_S sS) (g 0 1) 0 0) = 1000000 from fun z => by have := (nI_eq (a := mLp M (lb_S sS) (g 0 1) 0 0) (b := 1000000) (by omega) (by omega)).mp z; omega)]
  · rw [if_neg (lend_no G P N hlf hrf hs c), if_pos (show nI (mLp M (lb_S sS) (g 0 1) 0 0) = 1000000 by rw [show mLp M (lb_S sS) (g 0 1) 0 0 = 1000000 by omega]; rfl)]
end LT
