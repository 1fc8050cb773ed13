/-! when a knee gives -/
def wn (a b x : Nat) : Nat → Int → Nat
  | 0, L => if 0 ≤ L then 0 else 1
  | k + 1, L => x * wn a b x k (L - a) + (10 - x) * wn a b x k (L - b)
def gS (a b x n : Nat) (L : Int) : Nat → Nat
  | 0 => 0
  | st + 1 => gS a b x n L st + (if ((m_go a b x st n).2 : Int) ≤ L then 0 else (m_go a b x st n).1)
theorem wn_le {a b x : Nat} (hx : x ≤ 10) : ∀ k L, wn a b x k L ≤ 10 ^ k
  | 0, L => by
    show (if 0 ≤ L then 0 else 1) ≤ 1
    split <;> omega
  | k + 1, L => by
    have h1 : x * wn a b x k (L - a) ≤ x * 10 ^ k := Nat.mul_le_mul_left _ (wn_le hx k _)
    have h2 : (10 - x) * wn a b x k (L - b) ≤ (10 - x) * 10 ^ k := Nat.mul_le_mul_left _ (wn_le hx k _)
    have h3 : x * 10 ^ k + (10 - x) * 10 ^ k = 10 * 10 ^ k := by rw [← Nat.add_mul, show x + (10 - x) = 10 by omega]
    show x * wn a b x k (L - a) + (10 - x) * wn a b x k (L - b) ≤ 10 ^ (k + 1)
    rw [Nat.pow_succ]
    omega
theorem sub_toI {x : Int32} {L : Int} {a : Nat} (hx : x.toInt = L) (h1 : -100000 ≤ L) (h2 : L ≤ 100000) (ha : a ≤ 30) : (x - nI a).toInt = L - a := by
  rw [Int32.toInt_sub, nI_toInt (by omega), hx]
  exact Int.bmod_eq_of_le (by omega) (by omega)
theorem ways_eq {a b x : Nat} (hx : x ≤ 10) (ha : a ≤ 30) (hb : b ≤ 30) : ∀ (k : Nat) (lf : Int32) (L : Int), lf.toInt = L → -100000 + 30 * (k : Int) ≤ L → L ≤ 100000 → s_ways a b x k lf = nI (wn a b x k L)
  | 0, lf, L, h, _, _ => by
    show (if 0 ≤ lf then (0 : Int32) else 1) = nI (if 0 ≤ L then 0 else 1)
    have e : 0 ≤ lf ↔ 0 ≤ L := by
      rw [Int32.le_iff_toInt_le, h, show (0 : Int32).toInt = 0 from by decide]
    by_cases c : 0 ≤ L
    · rw [if_pos (e.mpr c), if_pos c]; rfl
    · rw [if_neg (fun z => c (e.mp z)), if_neg c]; rfl
  | k + 1, lf, L, h, h1, h2 => by
    rw [s_ways_s, ways_eq hx ha hb k (lf - nI a) (L - a) (sub_toI h (by omega) h2 ha) (by omega) (by omega), ways_eq hx ha hb k (lf - nI b) (L - b) (sub_toI h (by omega) h2 hb) (by omega) (by omega), show (10 : Int32) - nI x = nI (10 - x) from pk_sub hx, pk_mul, pk_mul, nI_add]
    rfl
section GV
variable {a b x : Nat}
theorem go_s (st i : Nat) : m_go a b x st (i + 1) = if jbit (nI st) (nI i) = 1 then ((m_go a b x st i).1 * x, (m_go a b x st i).2 + a) else ((m_go a b x st i).1 * (10 - x), (m_go a b x st i).2 + b) := rfl
theorem go2_le (ha : a ≤ 30) (hb : b ≤ 30) (st : Nat) : ∀ i, (m_go a b x st i).2 ≤ 30 * i
  | 0 => Nat.le_refl _
  | i + 1 => by
    have ih := go2_le ha hb st i
    rw [go_s]
    split
    · show (m_go a b x st i).2 + a ≤ 30 * (i + 1)
      omega
    · show (m_go a b x st i).2 + b ≤ 30 * (i + 1)
      omega
theorem go_lo {n st : Nat} (hn : n ≤ 5) (h : st < 2 ^ n) : m_go a b x st (n + 1) = ((m_go a b x st n).1 * (10 - x), (m_go a b x st n).2 + b) := by
  have h6 : st < 32 := Nat.lt_of_lt_of_le h (Nat.pow_le_pow_right (n := 2) (by decide) hn)
  rw [go_s, jb_tb st (by omega) n (by omega), Nat.testBit_lt_two_pow h, if_neg (by decide)]
theorem go_same {n st : Nat} (hn : n ≤ 5) (h : st < 2 ^ n) : ∀ i, i ≤ n → m_go a b x (2 ^ n + st) i = m_go a b x st i
  | 0, _ => rfl
  | i + 1, hi => by
    have h6 : 2 ^ n ≤ 32 := Nat.pow_le_pow_right (n := 2) (by decide) hn
    rw [go_s, go_s, go_same hn h i (by omega), jb_tb (2 ^ n + st) (by omega) i (by omega), jb_tb st (by omega) i (by omega), Nat.testBit_two_pow_add_gt (by omega)]
theorem go_hi {n st : Nat} (hn : n ≤ 5) (h : st < 2 ^ n) : m_go a b x (2 ^ n + st) (n + 1) = ((m_go a b x st n).1 * x, (m_go a b x st n).2 + a) := by
  have h6 : 2 ^ n ≤ 32 := Nat.pow_le_pow_right (n := 2) (by decide) hn
  rw [go_s, go_same hn h n (Nat.le_refl _), jb_tb (2 ^ n + st) (by omega) n (by omega), Nat.testBit_two_pow_add_eq, Nat.testBit_lt_two_pow h, if_pos (by decide)]
theorem gS_lo {n : Nat} (hn : n ≤ 5) (L : Int) : ∀ m, m ≤ 2 ^ n → gS a b x (n + 1) L m = (10 - x) * gS a b x n (L - b) m
  | 0, _ => (Nat.mul_zero _).symm
  | m + 1, hm => by
    show gS a b x (n + 1) L m + (if ((m_go a b x m (n + 1)).2 : Int) ≤ L then 0 else (m_go a b x m (n + 1)).1) = (10 - x) * (gS a b x n (L - b) m + (if ((m_go a b x m n).2 : Int) ≤ L - b then 0 else (m_go a b x m n).1))
    rw [gS_lo hn L m (by omega), go_lo hn (by omega), Nat.mul_add]
    dsimp only
    by_cases c : ((m_go a b x m n).2 : Int) ≤ L - b
    · rw [if_pos c, if_pos (show (((m_go a b x m n).2 + b : Nat) : Int) ≤ L by omega)]
      rfl
    · rw [if_neg c, if_neg (show ¬ (((m_go a b x m n).2 + b : Nat) : Int) ≤ L by omega), Nat.mul_comm (m_go a b x m n).1]
theorem gS_hi {n : Nat} (hn : n ≤ 5) (L : Int) : ∀ m, m ≤ 2 ^ n → gS a b x (n + 1) L (2 ^ n + m) = gS a b x (n + 1) L (2 ^ n) + x * gS a b x n (L - a) m
  | 0, _ => by rw [Nat.add_zero]; rfl
  | m + 1, hm => by
    show gS a b x (n + 1) L (2 ^ n + m) + (if ((m_go a b x (2 ^ n + m) (n + 1)).2 : Int) ≤ L then 0 else (m_go a b x (2 ^ n + m) (n + 1)).1) = gS a b x (n + 1) L (2 ^ n) + x * (gS a b x n (L - a) m + (if ((m_go a b x m n).2 : Int) ≤ L - a then 0 else (m_go a b x m n).1))
    rw [gS_hi hn L m (by omega), go_hi hn (by omega), Nat.mul_add, ← Nat.add_assoc]
    dsimp only
    by_cases c : ((m_go a b x m n).2 : Int) ≤ L - a
    · rw [if_pos c, if_pos (show (((m_go a b x m n).2 + a : Nat) : Int) ≤ L by omega)]
      rfl
    · rw [if_neg c, if_neg (show ¬ (((m_go a b x m n).2 + a : Nat) : Int) ≤ L by omega), Nat.mul_comm (m_go a b x m n).1]
theorem gS_wn : ∀ n, n ≤ 6 → ∀ L, gS a b x n L (2 ^ n) = wn a b x n L
  | 0, _, L => by
    show 0 + (if ((0 : Nat) : Int) ≤ L then 0 else 1) = (if 0 ≤ L then 0 else 1)
    rw [Nat.zero_add]
    rfl
  | n + 1, h, L => by
    rw [Nat.pow_succ, Nat.mul_two, gS_hi (by omega) L (2 ^ n) (Nat.le_refl _), gS_lo (by omega) L (2 ^ n) (Nat.le_refl _), gS_wn n (by omega), gS_wn n (by omega), Nat.add_comm]
    rfl
theorem gv_gS {M : Nat → Nat → Nat} {k n : Nat} (ha : a ≤ 30) (hb : b ≤ 30) (hn : n ≤ 6) (hl : M 20 (11 + k) ≤ 60) : ∀ m, m_gv M k n a b x m = gS a b x n (M 20 (11 + k)) m
  | 0 => rfl
  | m + 1 => by
    have h1 := go2_le (x := x) ha hb m n
    show m_gvB M k n a b x m (m_gv M k n a b x m) = gS a b x n (M 20 (11 + k)) m + _
    unfold m_gvB
    rw [gv_gS ha hb hn hl m]
    by_cases c : (m_go a b x m n).2 ≤ M 20 (11 + k)
    · rw [if_pos (nI_le c (by omega)), if_pos (show ((m_go a b x m n).2 : Int) ≤ (M 20 (11 + k) : Int) by omega)]
    · rw [if_neg (fun z => c ((nI_leI (by omega) (by omega)).mp z)), if_neg (show ¬ ((m_go a b x m n).2 : Int) ≤ (M 20 (11 + k) : Int) by omega)]
end GV
theorem cop25 {pr : Nat} (hp : pr = 2 ∨ pr = 5) {w : Nat} (h : ¬ pr ∣ w) : Nat.Coprime w pr := by
  have d1 := Nat.gcd_dvd_right w pr
  have d2 := Nat.gcd_dvd_left w pr
  show Nat.gcd w pr = 1
  generalize Nat.gcd w pr = z at d1 d2
  rcases hp with rfl | rfl
  · have h3 := Nat.le_of_dvd (by decide) d1
    rcases (show z = 0 ∨ z = 1 ∨ z = 2 by omega) with rfl | rfl | rfl
    · exact absurd d1 (by decide)
    · rfl
    · exact absurd d2 h
  · have h3 := Nat.le_of_dvd (by decide) d1
    rcases (show z = 0 ∨ z = 1 ∨ z = 2 ∨ z = 3 ∨ z = 4 ∨ z = 5 by omega) with rfl | rfl | rfl | rfl | rfl | rfl
    · exact absurd d1 (by decide)
    · rfl
    · exact absurd d1 (by decide)
    · exact absurd d1 (by decide)
    · exact absurd d1 (by decide)
    · exact absurd d2 h
theorem sh_gcd {pr : Nat} (hp : pr = 2 ∨ pr = 5) {U : Nat} (hU : U ≤ 1000000) : ∀ k v, v ∣ U → 1 ≤ v → v * pr ^ k ≤ 1000000 → t_sh pr (nI U) k v = Nat.gcd U (v * pr ^ k)
  | 0, v, hv, _, _ => by
    rw [Nat.pow_zero, Nat.mul_one, Nat.gcd_eq_right hv]
    rfl
  | k + 1, v, hv, h1, h2 => by
    have hp1 : 1 ≤ pr := by omega
    have hpk : 1 ≤ pr ^ k := Nat.one_le_pow _ _ hp1
    have e : v * pr ^ (k + 1) = v * pr * pr ^ k := by rw [Nat.pow_succ, Nat.mul_comm (pr ^ k), ← Nat.mul_assoc]
    rw [e] at h2 ⊢
    have h3 : v * pr ≤ v * pr * pr ^ k := Nat.le_mul_of_pos_right _ hpk
    have h4 : 1 ≤ v * pr := Nat.mul_pos h1 hp1
    rw [t_sh_s, pk_rem (by omega) h4 (by omega)]
    by_cases c : U % (v * pr) = 0
    · rw [c, if_pos (show nI 0 = 0 by decide)]
      exact sh_gcd hp hU k (v * pr) (Nat.dvd_of_mod_eq_zero c) h4 h2
    · have hlt : U % (v * pr) < v * pr := Nat.mod_lt _ h4
      rw [if_neg (fun z => c ((nI_z0 (by omega)).mp z))]
      obtain ⟨w, rfl⟩ := hv
      have hw : ¬ pr ∣ w := fun ⟨y, hy⟩ => c (by rw [hy, ← Nat.mul_assoc]; exact Nat.mul_mod_right _ _)
      rw [Nat.mul_assoc, Nat.gcd_mul_left, ← Nat.pow_succ', Nat.Coprime.gcd_eq_one (Nat.Coprime.pow_right _ (cop25 hp hw)), Nat.mul_one]
theorem s_ten_eq : ∀ i, s_ten i = 10 ^ i
  | 0 => rfl
  | i + 1 => by
    show s_ten i * 10 = 10 ^ (i + 1)
    rw [s_ten_eq i, Nat.pow_succ]
theorem common_eq {U n : Nat} (hU : U ≤ 1000000) (hn : n ≤ 6) : t_sh 2 (nI U) n 1 * t_sh 5 (nI U) n 1 = Nat.gcd U (10 ^ n) := by
  have h2 : 2 ^ n ≤ 64 := Nat.pow_le_pow_right (n := 2) (by decide) hn
  have h5 : 5 ^ n ≤ 15625 := Nat.pow_le_pow_right (n := 5) (by decide) hn
  rw [sh_gcd (Or.inl rfl) hU n 1 (Nat.one_dvd _) (Nat.le_refl _) (by omega), sh_gcd (Or.inr rfl) hU n 1 (Nat.one_dvd _) (Nat.le_refl _) (by omega), Nat.one_mul, Nat.one_mul, ← Nat.Coprime.gcd_mul U (Nat.Coprime.pow n n (show Nat.Coprime 2 5 by decide)), ← Nat.mul_pow]
theorem gives_eq {M : Nat → Nat → Nat} {k n a b x l : Nat} (hl : l = M 20 (11 + k)) (hl6 : l ≤ 60) (hn : n ≤ 6) (ha : a ≤ 30) (hb : b ≤ 30) (hx : x ≤ 10) :
    s_ways a b x n (nI l) / nI (t_sh 2 (s_ways a b x n (nI l)) n 1 * t_sh 5 (s_ways a b x n (nI l)) n 1) = nI (m_gv M k n a b x (2 ^ n) / Nat.gcd (m_gv M k n a b x (2 ^ n)) (m_ten n))
    ∧ nI (s_ten n) / nI (t_sh 2 (s_ways a b x n (nI l)) n 1 * t_sh 5 (s_ways a b x n (nI l)) n 1) = nI (m_ten n / Nat.gcd (m_gv M k n a b x (2 ^ n)) (m_ten n)) := by
  have hU : wn a b x n (l : Int) ≤ 1000000 := Nat.le_trans (wn_le hx n _) (m_p10 hn)
  have e1 : s_ways a b x n (nI l) = nI (wn a b x n (l : Int)) := ways_eq hx ha hb n (nI l) l (nI_toInt (by omega)) (by omega) (by omega)
  have e2 : m_gv M k n a b x (2 ^ n) = wn a b x n (l : Int) := by
    rw [gv_gS ha hb hn (by omega), gS_wn n hn, hl]
  rw [e1, e2, common_eq hU hn, s_ten_eq, m_ten_eq]
  have h10 := m_p10 hn
  have h1 : 1 ≤ 10 ^ n := Nat.one_le_pow _ _ (by decide)
  have hg1 : 0 < Nat.gcd (wn a b x n (l : Int)) (10 ^ n) := Nat.gcd_pos_of_pos_right _ h1
  have hg2 : Nat.gcd (wn a b x n (l : Int)) (10 ^ n) ≤ 10 ^ n := Nat.le_of_dvd h1 (Nat.gcd_dvd_right _ _)
  exact ⟨pk_div (by omega) hg1 (by omega), pk_div (by omega) hg1 (by omega)⟩
