/-! what was told and felt; rain -/
def orW (M : Nat → Nat → Nat) : Nat → Nat
  | 0 => 0
  | e + 1 => if M 30 e = 1 then orW M e ||| 2 ^ M 29 e else orW M e
def orD (M : Nat → Nat → Nat) : Nat → Nat
  | 0 => 0
  | e + 1 => if M 30 e = 1 then orD M e else orD M e ||| 2 ^ M 29 e
def hR (hv : Nat → Nat) (M : Nat → Nat → Nat) (t f : Nat) : Prop := hv 0 = t ∧ t ≤ 6 ∧ hv 3 = f ∧ f ≤ 5 ∧ nI (hv 1) = (m_dh M t).1 ∧ nI (hv 2) = (m_dh M t).2 ∧ hv 4 = orW M f ∧ hv 5 = orD M f ∧ ∀ e, e < f → M 29 e < 5 ∧ M 30 e ≤ 1
theorem dh_congr {M M2 : Nat → Nat → Nat} : ∀ i, (∀ e, e < i → M 25 e = M2 25 e ∧ M 26 e = M2 26 e ∧ M 27 e = M2 27 e) → m_dh M i = m_dh M2 i
  | 0, _ => rfl
  | i + 1, h => by
    have ih := dh_congr i (fun e he => h e (by omega))
    show m_dhB M i (m_dh M i).1 (m_dh M i).2 = m_dhB M2 i (m_dh M2 i).1 (m_dh M2 i).2
    unfold m_dhB
    rw [ih, (h i (by omega)).1, (h i (by omega)).2.1, (h i (by omega)).2.2]
theorem orW_congr {M M2 : Nat → Nat → Nat} : ∀ i, (∀ e, e < i → M 29 e = M2 29 e ∧ M 30 e = M2 30 e) → orW M i = orW M2 i
  | 0, _ => rfl
  | i + 1, h => by
    have ih := orW_congr i (fun e he => h e (by omega))
    show (if M 30 i = 1 then orW M i ||| 2 ^ M 29 i else orW M i) = (if M2 30 i = 1 then orW M2 i ||| 2 ^ M2 29 i else orW M2 i)
    rw [ih, (h i (by omega)).1, (h i (by omega)).2]
theorem orD_congr {M M2 : Nat → Nat → Nat} : ∀ i, (∀ e, e < i → M 29 e = M2 29 e ∧ M 30 e = M2 30 e) → orD M i = orD M2 i
  | 0, _ => rfl
  | i + 1, h => by
    have ih := orD_congr i (fun e he => h e (by omega))
    show (if M 30 i = 1 then orD M i else orD M i ||| 2 ^ M 29 i) = (if M2 30 i = 1 then orD M2 i else orD M2 i ||| 2 ^ M2 29 i)
    rw [ih, (h i (by omega)).1, (h i (by omega)).2]
theorem hR_congr {hv : Nat → Nat} {M M2 : Nat → Nat → Nat} {t f : Nat} (H : hR hv M t f) (h5 : M2 25 = M 25) (h6 : M2 26 = M 26) (h7 : M2 27 = M 27) (h9 : M2 29 = M 29) (h0 : M2 30 = M 30) : hR hv M2 t f := by
  obtain ⟨a1, a2, a3, a4, a5, a6, a7, a8, a9⟩ := H
  have e1 : m_dh M2 t = m_dh M t := dh_congr t (fun e _ => ⟨by rw [h5], by rw [h6], by rw [h7]⟩)
  have e2 : orW M2 f = orW M f := orW_congr f (fun e _ => ⟨by rw [h9], by rw [h0]⟩)
  have e3 : orD M2 f = orD M f := orD_congr f (fun e _ => ⟨by rw [h9], by rw [h0]⟩)
  exact ⟨a1, a2, a3, a4, by rw [e1]; exact a5, by rw [e1]; exact a6, by rw [e2]; exact a7, by rw [e3]; exact a8, fun e he => by rw [h9, h0]; exact a9 e he⟩
theorem hR_none (M : Nat → Nat → Nat) : hR (fun _ => 0) M 0 0 := ⟨rfl, by decide, rfl, by decide, rfl, rfl, rfl, rfl, fun e he => absurd he (Nat.not_lt_zero _)⟩
theorem hR_tells {hv : Nat → Nat} {M : Nat → Nat → Nat} {t f q n w : Nat} (H : hR hv M t f) (ht : t < 6) (hq : q < 6) :
    hR (va_up (va_up (va_up hv 0 (hv 0 + 1)) 1 (if jin (nI w - nI n) 0 (nI n) = 0 then hv 1 else (if nI w - nI n ≤ 0 then hv 1 else hv 1 ||| 2 ^ q))) 2 (if jin (nI w - nI n) 0 (nI n) = 0 then hv 2 ||| 2 ^ q else hv 2)) (va_up (va_up (va_up M 25 (va_up (M 25) t q)) 26 (va_up (M 26) t n)) 27 (va_up (M 27) t w)) (t + 1) f := by
  obtain ⟨a1, a2, a3, a4, a5, a6, a7, a8, a9⟩ := H
  generalize hM : va_up (va_up (va_up M 25 (va_up (M 25) t q)) 26 (va_up (M 26) t n)) 27 (va_up (M 27) t w) = M2
  have h5 : M2 25 = va_up (M 25) t q := by rw [← hM]; rfl
  have h6 : M2 26 = va_up (M 26) t n := by rw [← hM]; rfl
  have h7 : M2 27 = va_up (M 27) t w := by rw [← hM]; rfl
  have h9 : M2 29 = M 29 := by rw [← hM]; rfl
  have h0 : M2 30 = M 30 := by rw [← hM]; rfl
  have e1 : m_dh M2 t = m_dh M t := dh_congr t (fun e he => ⟨by rw [h5, up_ne _ _ (by omega)], by rw [h6, up_ne _ _ (by omega)], by rw [h7, up_ne _ _ (by omega)]⟩)
  have e2 : orW M2 f = orW M f := orW_congr f (fun e _ => ⟨by rw [h9], by rw [h0]⟩)
  have e3 : orD M2 f = orD M f := orD_congr f (fun e _ => ⟨by rw [h9], by rw [h0]⟩)
  have e4 : m_dh M2 (t + 1) = m_dhB M2 t (m_dh M2 t).1 (m_dh M2 t).2 := rfl
  have e5 : M2 25 t = q := by rw [h5, up_at]
  have e6 : M2 26 t = n := by rw [h6, up_at]
  have e7 : M2 27 t = w := by rw [h7, up_at]
  unfold m_dhB at e4
  rw [e1, e5, e6, e7, ← a5, ← a6] at e4
  refine ⟨by show hv 0 + 1 = t + 1; rw [a1], by omega, a3, a4, ?_, ?_, by rw [e2]; exact a7, by rw [e3]; exact a8, fun e he => by rw [h9, h0]; exact a9 e he⟩
  · rw [e4]
    show nI (if jin (nI w - nI n) 0 (nI n) = 0 then hv 1 else (if nI w - nI n ≤ 0 then hv 1 else hv 1 ||| 2 ^ q)) = nI (hv 1) ||| (if jin (nI w - nI n) 0 (nI n) = 0 then (0 : Int32) else (if nI w - nI n ≤ 0 then (0 : Int32) else (1 <<< (nI q &&& 31))))
    by_cases c : jin (nI w - nI n) 0 (nI n) = 0
    · rw [if_pos c, if_pos c]; exact Int32.or_zero.symm
    · rw [if_neg c, if_neg c]
      by_cases c2 : nI w - nI n ≤ 0
      · rw [if_pos c2, if_pos c2]; exact Int32.or_zero.symm
      · rw [if_neg c2, if_neg c2]; exact (ly_or1 rfl (by omega)).symm
  · rw [e4]
    show nI (if jin (nI w - nI n) 0 (nI n) = 0 then hv 2 ||| 2 ^ q else hv 2) = nI (hv 2) ||| (if jin (nI w - nI n) 0 (nI n) = 0 then (1 <<< (nI q &&& 31)) else (0 : Int32))
    by_cases c : jin (nI w - nI n) 0 (nI n) = 0
    · rw [if_pos c, if_pos c]; exact (ly_or1 rfl (by omega)).symm
    · rw [if_neg c, if_neg c]; exact Int32.or_zero.symm
theorem hR_felt {hv : Nat → Nat} {M : Nat → Nat → Nat} {t f x o : Nat} (H : hR hv M t f) (hf : f < 5) (hx : x < 5) (ho : o ≤ 1) :
    hR (va_up (va_up (va_up hv 3 (hv 3 + 1)) 4 (if o = 1 then hv 4 ||| 2 ^ x else hv 4)) 5 (if o = 1 then hv 5 else hv 5 ||| 2 ^ x)) (va_up (va_up M 29 (va_up (M 29) f x)) 30 (va_up (M 30) f o)) t (f + 1) := by
  obtain ⟨a1, a2, a3, a4, a5, a6, a7, a8, a9⟩ := H
  generalize hM : va_up (va_up M 29 (va_up (M 29) f x)) 30 (va_up (M 30) f o) = M2
  have h5 : M2 25 = M 25 := by rw [← hM]; rfl
  have h6 : M2 26 = M 26 := by rw [← hM]; rfl
  have h7 : M2 27 = M 27 := by rw [← hM]; rfl
  have h9 : M2 29 = va_up (M 29) f x := by rw [← hM]; rfl
  have h0 : M2 30 = va_up (M 30) f o := by rw [← hM]; rfl
  have e1 : m_dh M2 t = m_dh M t := dh_congr t (fun e he => ⟨by rw [h5], by rw [h6], by rw [h7]⟩)
  have e2 : orW M2 f = orW M f := orW_congr f (fun e he => ⟨by rw [h9, up_ne _ _ (by omega)], by rw [h0, up_ne _ _ (by omega)]⟩)
  have e3 : orD M2 f = orD M f := orD_congr f (fun e he => ⟨by rw [h9, up_ne _ _ (by omega)], by rw [h0, up_ne _ _ (by omega)]⟩)
  have e9 : M2 29 f = x := by rw [h9, up_at]
  have e0 : M2 30 f = o := by rw [h0, up_at]
  have e4 : orW M2 (f + 1) = if M2 30 f = 1 then orW M2 f ||| 2 ^ M2 29 f else orW M2 f := rfl
  have e5 : orD M2 (f + 1) = if M2 30 f = 1 then orD M2 f else orD M2 f ||| 2 ^ M2 29 f := rfl
  rw [e2, e9, e0, ← a7] at e4
  rw [e3, e9, e0, ← a8] at e5
  refine ⟨a1, a2, by show hv 3 + 1 = f + 1; rw [a3], by omega, by rw [e1]; exact a5, by rw [e1]; exact a6, e4.symm, e5.symm, fun e he => ?_⟩
  rw [h9, h0]
  by_cases h : e = f
  · rw [h, up_at, up_at]; exact ⟨hx, ho⟩
  · rw [up_ne _ _ h, up_ne _ _ h]; exact a9 e (by omega)
theorem ly_andnat (a b : Nat) : nI a &&& nI b = nI (a &&& b) := by
  apply Int32.toBitVec_inj.mp
  apply BitVec.eq_of_toNat_eq
  show ((BitVec.ofNat 32 a) &&& (BitVec.ofNat 32 b)).toNat = (BitVec.ofNat 32 (a &&& b)).toNat
  rw [BitVec.toNat_and, BitVec.toNat_ofNat, BitVec.toNat_ofNat, BitVec.toNat_ofNat, Nat.and_mod_two_pow]
theorem or_lt5 {M : Nat → Nat → Nat} : ∀ f, (∀ e, e < f → M 29 e < 5 ∧ M 30 e ≤ 1) → orW M f < 32 ∧ orD M f < 32
  | 0, _ => ⟨show 0 < 32 by decide, show 0 < 32 by decide⟩
  | e + 1, h => by
    have ih := or_lt5 e (fun j hj => h j (by omega))
    have hx : 2 ^ M 29 e < 2 ^ 5 := Nat.pow_lt_pow_right (by decide) (h e (by omega)).1
    show (if M 30 e = 1 then orW M e ||| 2 ^ M 29 e else orW M e) < 32 ∧ (if M 30 e = 1 then orD M e else orD M e ||| 2 ^ M 29 e) < 32
    split
    · exact ⟨Nat.or_lt_two_pow (n := 5) ih.1 hx, ih.2⟩
    · exact ⟨ih.1, Nat.or_lt_two_pow (n := 5) ih.2 hx⟩
theorem and_sub {F W : Nat} : F &&& W = W ↔ ∀ i, W.testBit i = true → F.testBit i = true := by
  constructor
  · intro h i hi
    have h1 : (F &&& W).testBit i = W.testBit i := by rw [h]
    rw [Nat.testBit_and, hi, Bool.and_true] at h1
    exact h1
  · intro h
    apply Nat.eq_of_testBit_eq
    intro i
    rw [Nat.testBit_and]
    cases hw : W.testBit i with
    | false => exact Bool.and_false _
    | true => rw [h i hw]; rfl
theorem and_dis {F W : Nat} : F &&& W = 0 ↔ ∀ i, W.testBit i = true → F.testBit i = false := by
  constructor
  · intro h i hi
    have h1 : (F &&& W).testBit i = (0 : Nat).testBit i := by rw [h]
    rw [Nat.testBit_and, hi, Bool.and_true, Nat.zero_testBit] at h1
    exact h1
  · intro h
    apply Nat.eq_of_testBit_eq
    intro i
    rw [Nat.testBit_and, Nat.zero_testBit]
    cases hw : W.testBit i with
    | false => exact Bool.and_false _
    | true => rw [h i hw]; rfl
theorem can_iff {hv : Nat → Nat} {F : Nat} (hF : F < 32) (hW : hv 4 < 32) (hD : hv 5 < 32) : (s_canRain hv (nI F) = 0 ∧ ¬ ((∀ i, (hv 4).testBit i = true → F.testBit i = true) ∧ ∀ i, (hv 5).testBit i = true → F.testBit i = false)) ∨ (¬ s_canRain hv (nI F) = 0 ∧ (∀ i, (hv 4).testBit i = true → F.testBit i = true) ∧ ∀ i, (hv 5).testBit i = true → F.testBit i = false) := by
  have l1 : F &&& hv 4 < 32 := Nat.and_lt_two_pow (n := 5) F hW
  have l2 : F &&& hv 5 < 32 := Nat.and_lt_two_pow (n := 5) F hD
  unfold s_canRain
  rw [ly_andnat, ly_andnat]
  by_cases c1 : F &&& hv 4 = hv 4
  · rw [if_pos (show nI (F &&& hv 4) = nI (hv 4) by rw [c1])]
    by_cases c2 : F &&& hv 5 = 0
    · rw [if_pos (show nI (F &&& hv 5) = 0 by rw [c2]; rfl)]
      exact Or.inr ⟨by decide, and_sub.mp c1, and_dis.mp c2⟩
    · rw [if_neg (fun z => c2 ((nI_z0 (by omega)).mp z))]
      exact Or.inl ⟨rfl, fun z => c2 (and_dis.mpr z.2)⟩
  · rw [if_neg (fun z => c1 ((nI_eq (by omega) (by omega)).mp z))]
    exact Or.inl ⟨rfl, fun z => c1 (and_sub.mpr z.1)⟩
theorem bit_or (x y i : Nat) : (x ||| 2 ^ y).testBit i = true ↔ x.testBit i = true ∨ i = y := by
  rw [Nat.testBit_or, Nat.testBit_two_pow, Bool.or_eq_true, decide_eq_true_eq]
  exact ⟨fun h => h.elim Or.inl (fun z => Or.inr z.symm), fun h => h.elim Or.inl (fun z => Or.inr z.symm)⟩
section RN
variable {g M : Nat → Nat → Nat} {d ho le : Nat → Nat}
theorem feel_at (G : gOK g) (P : pR g M) (N : nR g d ho le (M 20)) {st : Nat} (hst : st < 64) : ∀ i, i ≤ g 0 0 → ∃ F, F < 32 ∧ s_feel g ho (nI st) i = nI F ∧ ∀ f, f < 5 → (F.testBit f = true ↔ m_fe M f st i = 1)
  | 0, _ => ⟨0, by decide, nI_0.symm, fun f _ => by
      rw [Nat.zero_testBit]
      show (false = true) ↔ ((0 : Nat) = 1)
      decide⟩
  | i + 1, hi => by
    have hK := G.1
    obtain ⟨F, h1, h2, h3⟩ := feel_at G P N hst i (by omega)
    have hh := N.2.2.2.2.2.1 i (by omega)
    have hgi := (G.2 i).2.1
    have hs : s_feel g ho (nI st) (i + 1) = s_feelB g ho (nI st) i (s_feel g ho (nI st) i) := rfl
    have hf : ∀ f, m_fe M f st (i + 1) = m_feB M f st i (m_fe M f st i) := fun _ => rfl
    have keep : (∀ f, f < 5 → ¬ (M 11 i = f ∧ ¬ nI (M 20 (1 + i)) ≤ 0 ∧ jbit (nI st) (nI (M 20 (1 + i)) - 1) = 1)) → ∀ f, f < 5 → (F.testBit f = true ↔ m_fe M f st (i + 1) = 1) := fun hno f hf5 => by
      rw [hf f, h3 f hf5]
      rcases m_fe_01 M f st i with v | v
      · rw [v]
        unfold m_feB
        rw [if_pos (show nI 0 = 0 by decide)]
        have hn := hno f hf5
        have hz : (if nI (M 11 i) = nI f then (if nI (M 20 (1 + i)) ≤ 0 then 0 else (if (((nI st) >>> (((nI (M 20 (1 + i))) - 1) &&& 31)) &&& 1) = 1 then 1 else 0)) else 0) = 0 := by
          split
          · rename_i z1
            split
            · rfl
            · rename_i z2
              split
              · rename_i z3
                refine absurd ⟨?_, z2, z3⟩ hn
                rw [(P.2.2.1 i (by omega)).2.1] at z1 ⊢
                exact (nI_eq (by omega) (by omega)).mp z1
              · rfl
          · rfl
        rw [hz]
      · rw [v]
        unfold m_feB
        rw [if_neg (show ¬ nI 1 = 0 by decide)]
    rw [hs]
    unfold s_feelB
    by_cases c : ho i = 0
    · rw [if_pos ((ly_h_9 (by omega)).mpr c)]
      exact ⟨F, h1, h2, keep (fun f _ z => z.2.1 ((nI_le0 (by omega)).mpr (by omega)))⟩
    · have hl : ly_h (ho i) = nI (ho i - 1) := by unfold ly_h; rw [if_neg c]
      have hm : nI (M 20 (1 + i)) - 1 = nI (ho i - 1) := by rw [← hh.1]; exact nI_m1 (by omega)
      rw [if_neg (fun z => c ((ly_h_9 (by omega)).mp z)), hl]
      by_cases b : jbit (nI st) (nI (ho i - 1)) = 1
      · rw [if_pos b, ly_or1 h2 (by omega)]
        refine ⟨F ||| 2 ^ g 2 i, Nat.or_lt_two_pow (n := 5) h1 (Nat.pow_lt_pow_right (by decide) (by omega)), rfl, fun f hf5 => ?_⟩
        rw [bit_or, h3 f hf5, hf f]
        rcases m_fe_01 M f st i with v | v
        · rw [v]
          unfold m_feB
          rw [if_pos (show nI 0 = 0 by decide), (P.2.2.1 i (by omega)).2.1]
          by_cases q : f = g 2 i
          · rw [q, if_pos rfl, if_neg (fun z => c (by have := (nI_le0 (by omega)).mp z; omega)), if_pos (show (((nI st) >>> (((nI (M 20 (1 + i))) - 1) &&& 31)) &&& 1) = 1 from (show jbit (nI st) (nI (M 20 (1 + i)) - 1) = 1 by rw [hm]; exact b))]
            exact ⟨fun _ => rfl, fun _ => Or.inr rfl⟩
          · rw [if_neg (fun z => q ((nI_eq (by omega) (by omega)).mp z).symm)]
            exact ⟨fun z => z.elim (fun y => absurd y (by decide)) (fun y => absurd y q), fun z => absurd z (by decide)⟩
        · rw [v]
          unfold m_feB
          rw [if_neg (show ¬ nI 1 = 0 by decide)]
          exact ⟨fun _ => rfl, fun _ => Or.inl rfl⟩
      · rw [if_neg b]
        exact ⟨F, h1, h2, keep (fun f _ z => b (by rw [← hm]; exact z.2.2))⟩
theorem ri_iff {F st : Nat} : ∀ f, (∀ e, e < f → M 29 e < 5 ∧ M 30 e ≤ 1) → (∀ f, f < 5 → (F.testBit f = true ↔ m_fe M f st (M 9 0) = 1)) → (m_ri M st f = 1 ∧ (∀ i, (orW M f).testBit i = true → F.testBit i = true) ∧ ∀ i, (orD M f).testBit i = true → F.testBit i = false) ∨ (m_ri M st f = 0 ∧ ¬ ((∀ i, (orW M f).testBit i = true → F.testBit i = true) ∧ ∀ i, (orD M f).testBit i = true → F.testBit i = false))
  | 0, _, _ => Or.inl ⟨rfl, fun i h => by rw [show orW M 0 = 0 from rfl, Nat.zero_testBit] at h; exact absurd h (by decide), fun i h => by rw [show orD M 0 = 0 from rfl, Nat.zero_testBit] at h; exact absurd h (by decide)⟩
  | e + 1, h, hF => by
    have ih := ri_iff e (fun j hj => h j (by omega)) hF
    have hx := h e (by omega)
    have hfx := hF (M 29 e) hx.1
    have hs : m_ri M st (e + 1) = m_riB M st e (m_ri M st e) := rfl
    have eW : orW M (e + 1) = if M 30 e = 1 then orW M e ||| 2 ^ M 29 e else orW M e := rfl
    have eD : orD M (e + 1) = if M 30 e = 1 then orD M e else orD M e ||| 2 ^ M 29 e := rfl
    rw [hs]
    unfold m_riB
    rcases ih with ⟨v, q1, q2⟩ | ⟨v, q⟩
    · rw [v, if_neg (show ¬ nI 1 = 0 by decide)]
      by_cases c : M 30 e = 1
      · rw [if_pos c] at eW eD
        rw [if_pos (show nI (M 30 e) = 1 by rw [c]; rfl), eW, eD]
        rcases m_fe_01 M (M 29 e) st (M 9 0) with w | w
        · rw [w, if_neg (show ¬ nI 0 = 1 by decide)]
          refine Or.inr ⟨rfl, fun z => ?_⟩
          have := hfx.mp (z.1 (M 29 e) ((bit_or _ _ _).mpr (Or.inr rfl)))
          omega
        · rw [w, if_pos (show nI 1 = 1 by decide)]
          refine Or.inl ⟨rfl, fun i hi => ?_, q2⟩
          rcases (bit_or _ _ _).mp hi with y | y
          · exact q1 i y
          · rw [y]; exact hfx.mpr w
      · rw [if_neg c] at eW eD
        rw [if_neg (show ¬ nI (M 30 e) = 1 from fun z => c ((nI_eq (a := M 30 e) (b := 1) (by omega) (by omega)).mp z)), eW, eD]
        rcases m_fe_01 M (M 29 e) st (M 9 0) with w | w
        · rw [w, if_pos (show nI 0 = 0 by decide)]
          refine Or.inl ⟨rfl, q1, fun i hi => ?_⟩
          rcases (bit_or _ _ _).mp hi with y | y
          · exact q2 i y
          · rw [y]
            cases hb : F.testBit (M 29 e) with
            | false => rfl
            | true => have := hfx.mp hb; omega
        · rw [w, if_neg (show ¬ nI 1 = 0 by decide)]
          refine Or.inr ⟨rfl, fun z => ?_⟩
          have := z.2 (M 29 e) ((bit_or _ _ _).mpr (Or.inr rfl))
          rw [hfx.mpr w] at this
          exact absurd this (by decide)
    · rw [v, if_pos (show nI 0 = 0 by decide)]
      refine Or.inr ⟨rfl, fun z => q ⟨fun i hi => z.1 i ?_, fun i hi => z.2 i ?_⟩⟩
      · rw [eW]
        split
        · exact (bit_or _ _ _).mpr (Or.inl hi)
        · exact hi
      · rw [eD]
        split
        · exact hi
        · exact (bit_or _ _ _).mpr (Or.inl hi)
theorem rain_c1 : ∀ i, i < 64 → cnt i 9 ≤ 6 ∧ (-1 : Int32) &&& nI i = nI i := by decide +kernel
theorem rain_c2 : ∀ m, m ≤ 6 → ∀ i, i < 64 → i < 2 ^ m → (2 ^ m - 1) &&& i = i := by decide +kernel
theorem rain_at {hv : Nat → Nat} {t f : Nat} (G : gOK g) (P : pR g M) (N : nR g d ho le (M 20)) (H : hR hv M t f) : ∀ i, i ≤ 2 ^ g 0 1 → (s_rain g ho hv i).1 = (m_rn M f i).1 ∧ (s_rain g ho hv i).1 ≤ i ∧ (((s_rain g ho hv i).1 = 0 ∧ (s_rain g ho hv i).2 = (s_all (g 0 1), 6) ∧ (m_rn M f i).2 = (-1, 1000000)) ∨ (¬ (s_rain g ho hv i).1 = 0 ∧ (s_rain g ho hv i).2 = (m_rn M f i).2 ∧ ∃ c, c ≤ 6 ∧ (s_rain g ho hv i).2.2 = nI c))
  | 0, _ => ⟨rfl, Nat.le_refl _, Or.inl ⟨rfl, rfl, rfl⟩⟩
  | i + 1, hi => by
    have hK := G.1
    have h64 : 2 ^ g 0 1 ≤ 64 := (pow6 hK.2).2
    obtain ⟨a1, a2, a3⟩ := rain_at G P N H i (by omega)
    obtain ⟨F, f1, f2, f3⟩ := feel_at G P N (show i < 64 by omega) (g 0 0) (Nat.le_refl _)
    obtain ⟨b1, b2, b3, b4, b5, b6, b7, b8, b9⟩ := H
    have hlt := or_lt5 f b9
    have hcan := can_iff (hv := hv) f1 (by rw [b7]; exact hlt.1) (by rw [b8]; exact hlt.2)
    rw [← P.1] at f3
    have hri := ri_iff f b9 f3
    rw [← b7, ← b8] at hri
    have hc6 := rain_c1 i (by omega)
    have hand := rain_c2 (g 0 1) hK.2 i (by omega) (by omega)
    have hjb : jbits (nI i) = nI (cnt i 9) := by rw [bits_eq i (by omega), ones_cnt (by omega) 9 (Nat.le_refl _)]
    have hmo : m_ones (nI i) 9 = nI (cnt i 9) := ones_cnt (by omega) 9 (Nat.le_refl _)
    have hs : s_rain g ho hv (i + 1) = s_rainB g ho hv i (s_rain g ho hv i).1 (s_rain g ho hv i).2.1 (s_rain g ho hv i).2.2 := rfl
    have hm : m_rn M f (i + 1) = m_rnB M f i (m_rn M f i).1 (m_rn M f i).2.1 (m_rn M f i).2.2 := rfl
    rw [hs, hm]
    generalize s_rain g ho hv i = A at a1 a2 a3
    generalize m_rn M f i = B at a1 a3
    unfold s_rainB m_rnB
    rw [f2, hjb, hmo]
    rcases hri with ⟨v, q⟩ | ⟨v, q⟩
    · rcases hcan with ⟨c1, c2⟩ | ⟨c1, c2⟩
      · exact absurd q c2
      · rw [v, if_neg c1, if_neg (show ¬ nI 1 = 0 by decide)]
        rcases a3 with ⟨d1, d2, d3⟩ | ⟨d1, d2, c, d3, d4⟩
        · have n2 : ¬ B.2.2 ≤ nI (cnt i 9) := by
            rw [d3]
            exact fun z => by have := (nI_leI (a := 1000000) (b := cnt i 9) (by omega) (by omega)).mp z; omega
          rw [if_neg n2, d2, d3]
          dsimp only
          rw [s_all_eq hK.2, ly_andnat, hand, hc6.2]
          have e6 : (if nI (cnt i 9) < (6 : Int32) then nI (cnt i 9) else 6) = nI (cnt i 9) := by
            by_cases z : cnt i 9 < 6
            · rw [if_pos (show nI (cnt i 9) < 6 from (nI_ltI (a := cnt i 9) (b := 6) (by omega) (by omega)).mpr z)]
            · rw [if_neg (show ¬ nI (cnt i 9) < 6 from fun y => z ((nI_ltI (a := cnt i 9) (b := 6) (by omega) (by omega)).mp y)), show cnt i 9 = 6 by omega]; rfl
          rw [e6]
          exact ⟨by rw [a1], by omega, Or.inr ⟨by omega, rfl, _, hc6.1, rfl⟩⟩
        · have e2 : A.2.1 = B.2.1 := by rw [d2]
          have e3 : B.2.2 = nI c := by rw [← d2]; exact d4
          rw [d4, e3, e2]
          by_cases z : cnt i 9 < c
          · rw [if_pos ((nI_ltI (by omega) (by omega)).mpr z), if_neg (fun y => by have := (nI_leI (by omega) (by omega)).mp y; omega)]
            exact ⟨by show A.1 + 1 = B.1 + 1; rw [a1], by show A.1 + 1 ≤ i + 1; omega, Or.inr ⟨Nat.succ_ne_zero _, rfl, _, hc6.1, rfl⟩⟩
          · rw [if_neg (fun y => z ((nI_ltI (by omega) (by omega)).mp y)), if_pos (nI_le (by omega) (by omega))]
            exact ⟨by show A.1 + 1 = B.1 + 1; rw [a1], by show A.1 + 1 ≤ i + 1; omega, Or.inr ⟨Nat.succ_ne_zero _, rfl, _, d3, rfl⟩⟩
    · rcases hcan with ⟨c1, c2⟩ | ⟨c1, c2⟩
      · rw [v, if_pos c1, if_pos (show nI 0 = 0 by decide)]
        exact ⟨a1, by show A.1 ≤ i + 1; omega, a3⟩
      · exact absurd c2 q
end RN
