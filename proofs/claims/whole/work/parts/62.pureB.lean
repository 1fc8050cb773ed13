/-! tables: the class's search and the model's count come to the same -/
theorem st_congr {g g2 : Nat → Nat → Nat} (h : ∀ j, g 2 j = g2 2 j) (f : Nat) : ∀ i, s_kneesOf g f i = s_kneesOf g2 f i
  | 0 => rfl
  | i + 1 => by
    show s_kneesOfB g f i _ = s_kneesOfB g2 f i _
    unfold s_kneesOfB
    rw [st_congr h f i, h i]
def st_sv (c : Nat → Nat) : Nat → Nat → Nat
  | 0, _ => 0
  | k + 1, f => c f * 5 ^ k + st_sv c k (f + 1)
def st_ok (g : Nat → Nat → Nat) (tb : Nat) (c : Nat → Nat) (e : Nat) : Prop := (s_kneesOf g e (g 0 0) = 0 → c e = 0) ∧ (¬ s_kneesOf g e (g 0 0) = 0 → c e < tb) ∧ ∀ q, q < e → s_kneesOf g e (g 0 0) = 0 ∨ s_kneesOf g q (g 0 0) = 0 ∨ ¬ c e = c q ∨ jbit (nI (g 7 e)) (nI q) = 0
def st_rep (g : Nat → Nat → Nat) (c : Nat → Nat) (e : Nat) : Nat := if s_kneesOf g e (g 0 0) = 0 then 0 else c e + 1
theorem st_ok_lt {g : Nat → Nat → Nat} {tb : Nat} (htb : tb ≤ 5) {c : Nat → Nat} {e : Nat} (h : st_ok g tb c e) : c e < 5 := by
  by_cases hk : s_kneesOf g e (g 0 0) = 0
  · rw [h.1 hk]; omega
  · have := h.2.1 hk; omega
theorem st_ok_ext {g : Nat → Nat → Nat} {tb : Nat} {c c2 : Nat → Nat} {e : Nat} (h : ∀ q, q ≤ e → c2 q = c q) (hc : st_ok g tb c e) : st_ok g tb c2 e := by
  have h1 := h e (Nat.le_refl _)
  refine ⟨fun z => by rw [h1]; exact hc.1 z, fun z => by rw [h1]; exact hc.2.1 z, fun q hq => ?_⟩
  rw [h1, h q (Nat.le_of_lt hq)]
  exact hc.2.2 q hq
theorem st_sv_lt (c : Nat → Nat) : ∀ k f, (∀ e, f ≤ e → e < f + k → c e < 5) → st_sv c k f < 5 ^ k
  | 0, _, _ => by show 0 < 5 ^ 0; decide
  | k + 1, f, h => by
    have ih := st_sv_lt c k (f + 1) (fun e h1 h2 => h e (by omega) (by omega))
    have h0 := h f (Nat.le_refl _) (by omega)
    show c f * 5 ^ k + st_sv c k (f + 1) < 5 ^ (k + 1)
    rw [Nat.pow_succ]
    have h1 : c f * 5 ^ k ≤ 4 * 5 ^ k := Nat.mul_le_mul_right _ (by omega)
    omega
theorem st_peace (G : Nat → Nat → Nat) (v : Nat → Nat) (i f : Nat) (hi : i < 5) : ∀ n j, (∀ e, j ≤ e → e < j + n → v e ≤ 5) → (s_peace (va_up G 9 v) i f n j = 0 ∧ ∃ e, j ≤ e ∧ e < j + n ∧ v e = i + 1 ∧ jbit (nI (G 7 f)) (nI e) = 1) ∨ (¬ s_peace (va_up G 9 v) i f n j = 0 ∧ ∀ e, j ≤ e → e < j + n → v e = i + 1 → jbit (nI (G 7 f)) (nI e) = 0)
  | 0, j, _ => Or.inr ⟨by rw [s_peace_z]; decide, fun e h1 h2 => by omega⟩
  | n + 1, j, h => by
    have ih := st_peace G v i f hi n (j + 1) (fun e h1 h2 => h e (by omega) (by omega))
    have hj := h j (Nat.le_refl _) (by omega)
    have e9 : va_up G 9 v 9 = v := rfl
    have e7 : va_up G 9 v 7 = G 7 := rfl
    rw [s_peace_s, e9, e7]
    by_cases c1 : ly_h (v j) = nI i
    · have c1' := (ly_h_q (by omega) (by omega)).mp c1
      rw [if_pos c1]
      by_cases c2 : jbit (nI (G 7 f)) (nI j) = 1
      · rw [if_pos c2]
        exact Or.inl ⟨rfl, j, Nat.le_refl _, by omega, c1', c2⟩
      · rw [if_neg c2]
        rcases ih with ⟨h1, e, h2, h3, h4⟩ | ⟨h1, h2⟩
        · exact Or.inl ⟨h1, e, by omega, by omega, h4⟩
        · refine Or.inr ⟨h1, fun e k1 k2 k3 => ?_⟩
          by_cases he : e = j
          · rw [he]; exact jb_n1.mp c2
          · exact h2 e (by omega) (by omega) k3
    · rw [if_neg c1]
      rcases ih with ⟨h1, e, h2, h3, h4⟩ | ⟨h1, h2⟩
      · exact Or.inl ⟨h1, e, by omega, by omega, h4⟩
      · refine Or.inr ⟨h1, fun e k1 k2 k3 => ?_⟩
        by_cases he : e = j
        · rw [he] at k3; exact absurd ((ly_h_q (by omega) (by omega)).mpr k3) c1
        · exact h2 e (by omega) (by omega) k3
/-- what a search from a farm on comes to -/
def st_S (G : Nat → Nat → Nat) (tb k f : Nat) (c v : Nat → Nat) (r : Int32 × (Nat → Nat)) : Prop :=
  (∃ c1 : Nat → Nat, (∀ e, e < f → c1 e = c e) ∧ (∀ e, f ≤ e → e < 5 → st_ok G tb c1 e) ∧ (∀ c2 : Nat → Nat, (∀ e, e < f → c2 e = c e) → (∀ e, f ≤ e → e < 5 → st_ok G tb c2 e) → st_sv c1 k f ≤ st_sv c2 k f) ∧ r.1 = 1 ∧ ∀ e, e < 5 → r.2 e = st_rep G c1 e)
  ∨ ((∀ c2 : Nat → Nat, (∀ e, e < f → c2 e = c e) → ¬ ∀ e, f ≤ e → e < 5 → st_ok G tb c2 e) ∧ r.1 = 0 ∧ ∀ e, e < f → r.2 e = v e)
theorem st_seatL (G : Nat → Nat → Nat) (tb : Nat) (htb : tb ≤ 5) (k f : Nat) (hf : f + (k + 1) = 5) (c : Nat → Nat) (hc : ∀ e, e < f → c e < 5) (how : ¬ s_kneesOf G f (G 0 0) = 0) (rec : (Nat → Nat) → Int32 × (Nat → Nat)) (ih : ∀ (c v : Nat → Nat), (∀ e, e < f + 1 → c e < 5) → (∀ e, e < f + 1 → v e = st_rep G c e) → st_S G tb k (f + 1) c v (rec v)) : ∀ n i (v : Nat → Nat), i + n = tb → (∀ e, e < f → v e = st_rep G c e) → (∀ c2 : Nat → Nat, (∀ e, e < f → c2 e = c e) → (∀ e, f ≤ e → e < 5 → st_ok G tb c2 e) → i ≤ c2 f) → st_S G tb (k + 1) f c v (s_seatL G tb f rec n i v)
  | 0, i, v, hi, hv, hno => Or.inr ⟨fun c2 h1 h2 => by
      have h3 := (h2 f (Nat.le_refl _) (by omega)).2.1 how
      have h4 := hno c2 h1 h2
      omega, rfl, fun _ _ => rfl⟩
  | n + 1, i, v, hi, hv, hno => by
    have hve : ∀ e, 0 ≤ e → e < 0 + f → v e ≤ 5 := fun e _ h2 => by
      rw [hv e (by omega)]
      unfold st_rep
      have := hc e (by omega)
      split <;> omega
    have hrf : ∀ e, e < f → st_rep G c e = i + 1 → c e = i ∧ ¬ s_kneesOf G e (G 0 0) = 0 := fun e _ h2 => by
      unfold st_rep at h2
      split at h2
      · omega
      · rename_i h3; exact ⟨by omega, h3⟩
    have A1 : ∀ e, e < f + 1 → va_up c f i e < 5 := fun e he => by
      by_cases h : e = f
      · rw [h, up_at]; omega
      · rw [up_ne _ _ h]; exact hc e (by omega)
    have A2 : ∀ e, e < f + 1 → va_up v f (i + 1) e = st_rep G (va_up c f i) e := fun e he => by
      unfold st_rep
      by_cases h : e = f
      · rw [h, up_at, up_at, if_neg how]
      · rw [up_ne _ _ h, up_ne _ _ h, hv e (by omega)]; rfl
    have hup : ∀ c2 : Nat → Nat, (∀ e, e < f → c2 e = c e) → c2 f = i → ∀ e, e < f + 1 → c2 e = va_up c f i e := fun c2 q1 q2 e he => by
      by_cases h : e = f
      · rw [h, up_at, q2]
      · rw [up_ne _ _ h, q1 e (by omega)]
    rw [s_seatL_s]
    rcases st_peace G v i f (by omega) f 0 hve with ⟨h1, e, -, h2, h3, h4⟩ | ⟨h1, h2⟩
    · rw [if_pos h1]
      refine st_seatL G tb htb k f hf c hc how rec ih n (i + 1) v (by omega) hv (fun c2 k1 k2 => ?_)
      have k3 := hno c2 k1 k2
      rcases Nat.lt_or_ge i (c2 f) with k4 | k4
      · exact k4
      · exfalso
        have he : e < f := by omega
        rw [hv e he] at h3
        have h5 := hrf e he h3
        rcases (k2 f (Nat.le_refl _) (by omega)).2.2 e he with q | q | q | q
        · exact how q
        · exact h5.2 q
        · exact q (by rw [k1 e he, h5.1]; omega)
        · rw [h4] at q; exact absurd q (by decide)
    · rw [if_neg h1]
      rcases ih (va_up c f i) (va_up v f (i + 1)) A1 A2 with ⟨c1, b1, b2, b3, b4, b5⟩ | ⟨b1, b2, b3⟩
      · have n1 : ¬ (rec (va_up v f (i + 1))).1 = 0 := by rw [b4]; decide
        rw [if_neg n1]
        have hcf : c1 f = i := by rw [b1 f (Nat.lt_succ_self _), up_at]
        have hce : ∀ e, e < f → c1 e = c e := fun e he => by rw [b1 e (by omega), up_ne _ _ (by omega)]
        refine Or.inl ⟨c1, hce, fun e q1 q2 => ?_, fun c2 q1 q2 => ?_, rfl, b5⟩
        · by_cases h : e = f
          · rw [h]
            refine ⟨fun z => absurd z how, fun _ => by rw [hcf]; omega, fun q hq => ?_⟩
            by_cases o : s_kneesOf G q (G 0 0) = 0
            · exact Or.inr (Or.inl o)
            · by_cases w : c1 f = c1 q
              · refine Or.inr (Or.inr (Or.inr (h2 q (Nat.zero_le _) (by omega) ?_)))
                rw [hv q hq]
                unfold st_rep
                rw [if_neg o, ← hce q hq, ← w, hcf]
              · exact Or.inr (Or.inr (Or.inl w))
          · exact b2 e (by omega) q2
        · have k3 := hno c2 q1 q2
          show c1 f * 5 ^ k + st_sv c1 k (f + 1) ≤ c2 f * 5 ^ k + st_sv c2 k (f + 1)
          by_cases w : c2 f = i
          · have := b3 c2 (hup c2 q1 w) (fun e z1 z2 => q2 e (by omega) z2)
            rw [hcf, w]; omega
          · have k4 := st_sv_lt c1 k (f + 1) (fun e z1 z2 => st_ok_lt htb (b2 e z1 (by omega)))
            have k5 : (i + 1) * 5 ^ k ≤ c2 f * 5 ^ k := Nat.mul_le_mul_right _ (by omega)
            rw [Nat.add_mul, Nat.one_mul] at k5
            rw [hcf]; omega
      · rw [if_pos b2]
        have hno2 : ∀ c2 : Nat → Nat, (∀ e, e < f → c2 e = c e) → (∀ e, f ≤ e → e < 5 → st_ok G tb c2 e) → i + 1 ≤ c2 f := fun c2 q1 q2 => by
          have k3 := hno c2 q1 q2
          rcases Nat.lt_or_ge i (c2 f) with k4 | k4
          · exact k4
          · exact absurd (fun e z1 z2 => q2 e (by omega) z2) (b1 c2 (hup c2 q1 (by omega)))
        have hv2 : ∀ e, e < f → (rec (va_up v f (i + 1))).2 e = st_rep G c e := fun e he => by
          rw [b3 e (by omega), up_ne _ _ (by omega)]; exact hv e he
        have hx := st_seatL G tb htb k f hf c hc how rec ih n (i + 1) (rec (va_up v f (i + 1))).2 (by omega) hv2 hno2
        rcases hx with hx | ⟨y1, y2, y3⟩
        · exact Or.inl hx
        · exact Or.inr ⟨y1, y2, fun e he => by rw [y3 e he, b3 e (by omega), up_ne _ _ (by omega)]⟩
theorem st_seat (G : Nat → Nat → Nat) (tb : Nat) (htb : tb ≤ 5) : ∀ k f (c v : Nat → Nat), f + k = 5 → (∀ e, e < f → c e < 5) → (∀ e, e < f → v e = st_rep G c e) → st_S G tb k f c v (s_seat G tb k f v)
  | 0, f, c, v, hf, hc, hv => Or.inl ⟨c, fun _ _ => rfl, fun e h1 h2 => by omega, fun _ _ _ => Nat.le_refl _, rfl, fun e he => hv e (by omega)⟩
  | k + 1, f, c, v, hf, hc, hv => by
    have hkn : s_kneesOf (va_up G 9 (va_up v f 0)) f (G 0 0) = s_kneesOf G f (G 0 0) := st_congr (g := va_up G 9 (va_up v f 0)) (g2 := G) (fun _ => rfl) f _
    have B1 : ∀ e, e < f → va_up v f 0 e = st_rep G c e := fun e he => by rw [up_ne _ _ (by omega)]; exact hv e he
    rw [s_seat_s, hkn]
    by_cases how : s_kneesOf G f (G 0 0) = 0
    · rw [if_pos how]
      have A1 : ∀ e, e < f + 1 → va_up c f 0 e < 5 := fun e he => by
        by_cases h : e = f
        · rw [h, up_at]; omega
        · rw [up_ne _ _ h]; exact hc e (by omega)
      have A2 : ∀ e, e < f + 1 → va_up v f 0 e = st_rep G (va_up c f 0) e := fun e he => by
        by_cases h : e = f
        · rw [h, up_at]
          unfold st_rep
          rw [if_pos how]
        · rw [up_ne _ _ h, hv e (by omega)]
          unfold st_rep
          rw [up_ne _ _ h]
      have hup : ∀ c2 : Nat → Nat, (∀ e, e < f → c2 e = c e) → (∀ e, f ≤ e → e < 5 → st_ok G tb c2 e) → ∀ e, e < f + 1 → c2 e = va_up c f 0 e := fun c2 q1 q2 e he => by
        by_cases h : e = f
        · rw [h, up_at]; exact (q2 f (Nat.le_refl _) (by omega)).1 how
        · rw [up_ne _ _ h, q1 e (by omega)]
      rcases st_seat G tb htb k (f + 1) (va_up c f 0) (va_up v f 0) (by omega) A1 A2 with ⟨c1, b1, b2, b3, b4, b5⟩ | ⟨b1, b2, b3⟩
      · have hcf : c1 f = 0 := by rw [b1 f (Nat.lt_succ_self _), up_at]
        refine Or.inl ⟨c1, fun e he => by rw [b1 e (by omega), up_ne _ _ (by omega)], fun e q1 q2 => ?_, fun c2 q1 q2 => ?_, b4, b5⟩
        · by_cases h : e = f
          · rw [h]; exact ⟨fun _ => hcf, fun z => absurd how z, fun _ _ => Or.inl how⟩
          · exact b2 e (by omega) q2
        · show c1 f * 5 ^ k + st_sv c1 k (f + 1) ≤ c2 f * 5 ^ k + st_sv c2 k (f + 1)
          have := b3 c2 (hup c2 q1 q2) (fun e z1 z2 => q2 e (by omega) z2)
          rw [hcf, Nat.zero_mul]; omega
      · exact Or.inr ⟨fun c2 q1 q2 => b1 c2 (hup c2 q1 q2) (fun e z1 z2 => q2 e (by omega) z2), b2, fun e he => by rw [b3 e (by omega), up_ne _ _ (by omega)]⟩
    · rw [if_neg how]
      have hx := st_seatL G tb htb k f hf c hc how (fun v => s_seat G tb k (f + 1) v) (fun c v h1 h2 => st_seat G tb htb k (f + 1) c v (by omega) h1 h2) tb 0 (va_up v f 0) (by omega) B1 (fun _ _ _ => Nat.zero_le _)
      rcases hx with hx | ⟨y1, y2, y3⟩
      · exact Or.inl hx
      · exact Or.inr ⟨y1, y2, fun e he => by rw [y3 e he, up_ne _ _ (by omega)]⟩
theorem st_sv5 (c : Nat → Nat) : st_sv c 5 0 = c 0 * 625 + (c 1 * 125 + (c 2 * 25 + (c 3 * 5 + (c 4 * 1 + 0)))) := rfl
theorem st_dg {u : Nat} (h : u < 3125) : st_sv (fun j => m_dg j u) 5 0 = u := by
  rw [st_sv5]
  show m_dg 0 u * 625 + (m_dg 1 u * 125 + (m_dg 2 u * 25 + (m_dg 3 u * 5 + (m_dg 4 u * 1 + 0)))) = u
  rw [m_dg0, m_dg1, m_dg2, m_dg3, m_dg4]
  omega
theorem st_gd {c : Nat → Nat} (h : ∀ e, e < 5 → c e < 5) : ∀ e, e < 5 → m_dg e (st_sv c 5 0) = c e := by
  intro e he
  have h0 := h 0 (by decide)
  have h1 := h 1 (by decide)
  have h2 := h 2 (by decide)
  have h3 := h 3 (by decide)
  have h4 := h 4 (by decide)
  rw [st_sv5]
  rcases (show e = 0 ∨ e = 1 ∨ e = 2 ∨ e = 3 ∨ e = 4 by omega) with rfl | rfl | rfl | rfl | rfl
  · rw [m_dg0]; omega
  · rw [m_dg1]; omega
  · rw [m_dg2]; omega
  · rw [m_dg3]; omega
  · rw [m_dg4]; omega
section STM
variable {g M : Nat → Nat → Nat}
theorem st_m (h1 : ∀ k, k < g 0 0 → M 11 k = g 2 k) (f : Nat) : ∀ i, i ≤ g 0 0 → m_kneesOf M f i = s_kneesOf g f i
  | 0, _ => rfl
  | i + 1, h => by
    have ih := st_m h1 f i (by omega)
    show m_kneesOfB M f i _ = s_kneesOfB g f i _
    unfold s_kneesOfB m_kneesOfB
    rw [ih, h1 i (by omega)]
    split
    · rfl
    · exact Int32.or_zero
theorem st_okM (h0 : M 9 0 = g 0 0) (h1 : ∀ k, k < g 0 0 → M 11 k = g 2 k) (h2 : ∀ f, f < 5 → M 16 f = g 7 f) {tb v e : Nat} (he : e < 5) : m_okAt M tb v e ↔ st_ok g tb (fun j => m_dg j v) e := by
  have hk : ∀ q, m_kneesOf M q (M 9 0) = s_kneesOf g q (g 0 0) := fun q => by rw [h0]; exact st_m h1 q _ (Nat.le_refl _)
  have hs : ∀ q, (¬ m_speak M e q = 0) ↔ jbit (nI (g 7 e)) (nI q) = 0 := fun q => by
    unfold m_speak
    rw [h2 e he]
    show (¬ (if jbit (nI (g 7 e)) (nI q) = 0 then (1 : Int32) else 0) = 0) ↔ _
    rcases jb_01 (nI (g 7 e)) (nI q) with h | h <;> rw [h] <;> decide
  unfold m_okAt st_ok
  rw [hk e]
  constructor
  · rintro ⟨a1, a2, a3⟩
    refine ⟨a1, a2, fun q hq => ?_⟩
    rcases a3 q hq with z | z | z | z
    · exact Or.inl z
    · exact Or.inr (Or.inl (by rw [← hk q]; exact z))
    · exact Or.inr (Or.inr (Or.inl z))
    · exact Or.inr (Or.inr (Or.inr ((hs q).mp z)))
  · rintro ⟨a1, a2, a3⟩
    refine ⟨a1, a2, fun q hq => ?_⟩
    rcases a3 q hq with z | z | z | z
    · exact Or.inl z
    · exact Or.inr (Or.inl (by rw [hk q]; exact z))
    · exact Or.inr (Or.inr (Or.inl z))
    · exact Or.inr (Or.inr (Or.inr ((hs q).mpr z)))
theorem st_one (h0 : M 9 0 = g 0 0) (h1 : ∀ k, k < g 0 0 → M 11 k = g 2 k) (h2 : ∀ f, f < 5 → M 16 f = g 7 f) {tb : Nat} (htb : tb ≤ 5) (v tf : Nat → Nat) : ((s_seat g tb 5 0 v).1 = 1 ∧ (m_sv M tb 3125 0 tf).1 = 1 ∧ ∀ e, e < 5 → (s_seat g tb 5 0 v).2 e = if m_kneesOf M e (M 9 0) = 0 then 0 else (m_sv M tb 3125 0 tf).2 e + 1) ∨ ((s_seat g tb 5 0 v).1 = 0 ∧ (m_sv M tb 3125 0 tf).1 = 0) := by
  have hk : ∀ q, m_kneesOf M q (M 9 0) = s_kneesOf g q (g 0 0) := fun q => by rw [h0]; exact st_m h1 q _ (Nat.le_refl _)
  rcases st_seat g tb htb 5 0 (fun _ => 0) v rfl (fun e h => absurd h (Nat.not_lt_zero _)) (fun e h => absurd h (Nat.not_lt_zero _)) with ⟨c, -, b2, b3, b4, b5⟩ | ⟨b1, b2, -⟩
  · have hcl : ∀ e, e < 5 → c e < 5 := fun e he => st_ok_lt htb (b2 e (Nat.zero_le _) he)
    have hlt : st_sv c 5 0 < 3125 := st_sv_lt c 5 0 (fun e _ h => hcl e (by omega))
    have hgd := st_gd hcl
    have hokc : m_ok M tb (st_sv c 5 0) 5 := fun e he => (st_okM h0 h1 h2 he).mpr (st_ok_ext (fun q hq => hgd q (by omega)) (b2 e (Nat.zero_le _) he))
    rcases m_sv_ok M tb htb 3125 0 tf with ⟨u, -, a2, a3, a4, a5, a6⟩ | ⟨a1, a2⟩
    · have l1 : u ≤ st_sv c 5 0 := Nat.le_of_not_lt (fun z => a4 _ (Nat.zero_le _) z hokc)
      have l2 : st_sv c 5 0 ≤ u := by
        have := b3 (fun j => m_dg j u) (fun e h => absurd h (Nat.not_lt_zero _)) (fun e _ he => (st_okM h0 h1 h2 he).mp (a3 e he))
        rw [st_dg (by omega)] at this
        exact this
      have hu : u = st_sv c 5 0 := by omega
      refine Or.inl ⟨b4, a5, fun e he => ?_⟩
      rw [b5 e he, a6 e he, hu, hgd e he, hk e]
      rfl
    · exact absurd hokc (a1 _ (Nat.zero_le _) (by omega))
  · rcases m_sv_ok M tb htb 3125 0 tf with ⟨u, -, a2, a3, a4, a5, a6⟩ | ⟨a1, a2⟩
    · exact absurd (fun e _ he => (st_okM h0 h1 h2 he).mp (a3 e he)) (b1 (fun j => m_dg j u) (fun e h => absurd h (Nat.not_lt_zero _)))
    · exact Or.inr ⟨b2, a2⟩
theorem st_tab (h0 : M 9 0 = g 0 0) (h1 : ∀ k, k < g 0 0 → M 11 k = g 2 k) (h2 : ∀ f, f < 5 → M 16 f = g 7 f) : ∀ u tb (v tf : Nat → Nat), tb ≤ 5 → tb + u = 6 → (s_tab g (u + 1) tb v).1 = (m_ss M u (m_sv M tb 3125 0 tf).1 tb (m_sv M tb 3125 0 tf).2).2.1 ∧ ∀ e, e < 5 → (s_tab g (u + 1) tb v).2 e = if m_kneesOf M e (M 9 0) = 0 then 0 else (m_ss M u (m_sv M tb 3125 0 tf).1 tb (m_sv M tb 3125 0 tf).2).2.2 e + 1
  | 0, tb, v, tf, a, b => by omega
  | u + 1, tb, v, tf, a, b => by
    have hone := st_one (g := va_up g 0 (va_up (g 0) 2 tb)) (M := M) h0 h1 h2 a v tf
    rw [s_tab_s, m_ss_s]
    rcases hone with ⟨a1, a2, a3⟩ | ⟨a1, a2⟩
    · have n1 : ¬ (s_seat (va_up g 0 (va_up (g 0) 2 tb)) tb 5 0 v).1 = 0 := by rw [a1]; decide
      have n2 : ¬ (m_sv M tb 3125 0 tf).1 = 0 := by rw [a2]; decide
      rw [if_neg n1, if_neg n2]
      dsimp only
      exact ⟨rfl, a3⟩
    · have h5 : ¬ tb = 5 := fun z => by rw [z, m_sv_5] at a2; exact absurd a2 (by decide)
      have n3 : ¬ (5 : Int32) ≤ nI tb := fun z => h5 (by have := (nI_leI (a := 5) (b := tb) (by omega) (by omega)).mp z; omega)
      rw [if_pos a1, if_pos a2, if_neg n3]
      exact st_tab h0 h1 h2 u (tb + 1) _ _ (by omega) (by omega)
end STM
