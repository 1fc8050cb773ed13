/-! all of both: how the class's cells and the model's rows stand to one another -/
theorem nR_congr {g : Nat → Nat → Nat} {d ho le f f2 : Nat → Nat} (hK : g 0 0 ≤ 9) (N : nR g d ho le f) (h : ∀ j, j < 23 → f2 j = f j) : nR g d ho le f2 := by
  obtain ⟨c0, c1, c2, c3, c4, c5, c6, c7, c8, c9⟩ := N
  refine ⟨by rw [h 0 (by omega)]; exact c0, by rw [h 20 (by omega)]; exact c1, by rw [h 21 (by omega)]; exact c2, by rw [h 22 (by omega)]; exact c3, by rw [h 10 (by omega)]; exact c4, fun k hk => ?_, fun k h1 h2 => (by rw [h (1 + k) (by omega)]; exact c6 k h1 h2), fun k hk => ?_, c8, c9⟩
  · rw [h (1 + k) (by omega)]; exact c5 k hk
  · rw [h (11 + k) (by omega)]; exact c7 k hk
theorem tR_congr {g M M2 : Nat → Nat → Nat} {T : Nat} (h : tR g M T) (h9 : M2 9 = M 9) (h11 : M2 11 = M 11) (h18 : M2 18 = M 18) : tR g M2 T := by
  refine ⟨h.1, fun f hf => ?_⟩
  rw [m_kn_congr (M := M2) (M2 := M) (fun j => by rw [h11]) f, h9, h18]
  exact h.2 f hf
/-- what may be undone -/
def uR (g : Nat → Nat → Nat) (nx kn : Nat) (sd sh sl : Nat → Nat → Nat) (F : Nat → Nat) : Prop := nx < 10 ∧ kn ≤ 10 ∧ ∀ i, i < kn → nR g (sd ((nx + 9 - i) % 10)) (sh ((nx + 9 - i) % 10)) (sl ((nx + 9 - i) % 10)) (fun j => F (23 * (kn - 1 - i) + j))
/-- images -/
def iR (g : Nat → Nat → Nat) (kp : Nat → Nat) (jd jh jl : Nat → Nat → Nat) (K F : Nat → Nat) : Prop := ∀ i, i < 2 → kp i = K i ∧ kp i ≤ 1 ∧ (¬ kp i = 0 → nR g (jd i) (jh i) (jl i) (fun j => F (23 * i + j)))
theorem seq_at (c : Nat) (F s : Nat → Nat) (v : Nat → Nat → Nat) (h0 : v 0 = F) (hs : ∀ n, v (n + 1) = va_up (v n) (c + n) (s n)) : ∀ n j, v n j = if c ≤ j ∧ j < c + n then s (j - c) else F j
  | 0, j => by rw [if_neg (by omega), h0]
  | n + 1, j => by
    have ih := seq_at c F s v h0 hs n
    rw [hs n]
    by_cases e : j = c + n
    · rw [e, up_at, if_pos (by omega), Nat.add_sub_cancel_left]
    · rw [up_ne _ _ e, ih j]
      by_cases z : c ≤ j ∧ j < c + n
      · rw [if_pos z, if_pos (by omega)]
      · rw [if_neg z, if_neg (by omega)]
theorem nt_at (M : Nat → Nat → Nat) (uf : Nat → Nat) (um : Nat) (j : Nat) : m_nt M uf um 23 j = if 23 * um ≤ j ∧ j < 23 * um + 23 then M 20 (j - 23 * um) else uf j := seq_at (23 * um) uf (M 20) (fun n => m_nt M uf um n) rfl (fun _ => rfl) 23 j
theorem nt9_at (M : Nat → Nat → Nat) (uf : Nat → Nat) (j : Nat) : m_nt9 M uf 23 j = if 207 ≤ j ∧ j < 207 + 23 then M 20 (j - 207) else uf j := seq_at 207 uf (M 20) (fun n => m_nt9 M uf n) rfl (fun _ => rfl) 23 j
theorem kp_at (M : Nat → Nat → Nat) (k j : Nat) : m_kp M k 23 j = if 23 * k ≤ j ∧ j < 23 * k + 23 then M 20 (j - 23 * k) else M 21 j := seq_at (23 * k) (M 21) (M 20) (fun n => m_kp M k n) rfl (fun _ => rfl) 23 j
theorem seq0_at (F s : Nat → Nat) (v : Nat → Nat → Nat) (h0 : v 0 = F) (hs : ∀ n, v (n + 1) = va_up (v n) n (s n)) : ∀ n j, v n j = if j < n then s j else F j
  | 0, j => by rw [if_neg (by omega), h0]
  | n + 1, j => by
    have ih := seq0_at F s v h0 hs n
    rw [hs n]
    by_cases e : j = n
    · rw [e, up_at, if_pos (by omega)]
    · rw [up_ne _ _ e, ih j]
      by_cases z : j < n
      · rw [if_pos z, if_pos (by omega)]
      · rw [if_neg z, if_neg (by omega)]
theorem bk_at (M : Nat → Nat → Nat) (k j : Nat) : m_bk M k 23 j = if j < 23 then M 21 (23 * k + j) else M 20 j := seq0_at (M 20) (fun i => M 21 (23 * k + i)) (fun n => m_bk M k n) rfl (fun _ => rfl) 23 j
theorem un_at (M : Nat → Nat → Nat) (um j : Nat) : m_un M um 23 j = if j < 23 then M 23 (23 * um + j) else M 20 j := seq0_at (M 20) (fun i => M 23 (23 * um + i)) (fun n => m_un M um n) rfl (fun _ => rfl) 23 j
theorem sh_at (M : Nat → Nat → Nat) : ∀ n j, m_sh M n j = if j < n then M 23 (j + 23) else M 23 j
  | 0, j => by rw [if_neg (by omega)]; rfl
  | n + 1, j => by
    have ih := sh_at M n
    show va_up (m_sh M n) n (m_sh M n (n + 23)) j = _
    by_cases e : j = n
    · rw [e, up_at, ih (n + 23), if_neg (by omega), if_pos (by omega)]
    · rw [up_ne _ _ e, ih j]
      by_cases z : j < n
      · rw [if_pos z, if_pos (by omega)]
      · rw [if_neg z, if_neg (by omega)]
/-- one deed more is known -/
theorem uR_deed {g M : Nat → Nat → Nat} {nx kn : Nat} {sd sh sl : Nat → Nat → Nat} {d ho le : Nat → Nat} (hK : g 0 0 ≤ 9) (U : uR g nx kn sd sh sl (M 23)) (N : nR g d ho le (M 20)) : uR g (if (10 : Int32) ≤ nI (nx + 1) then 0 else nx + 1) (min 10 (kn + 1)) (va_up sd nx d) (va_up sh nx ho) (va_up sl nx le) (m_nU M kn) ∧ min 10 (kn + 1) = m_nK kn := by
  obtain ⟨u1, u2, u3⟩ := U
  have e1 : (if (10 : Int32) ≤ nI (nx + 1) then 0 else nx + 1) = (nx + 1) % 10 := by
    by_cases z : nx + 1 = 10
    · rw [if_pos (show (10 : Int32) ≤ nI (nx + 1) by rw [z]; decide), z]
    · rw [if_neg (show ¬ (10 : Int32) ≤ nI (nx + 1) from fun y => by have := (nI_leI (a := 10) (b := nx + 1) (by omega) (by omega)).mp y; omega), Nat.mod_eq_of_lt (by omega)]
  have e2 : min 10 (kn + 1) = m_nK kn := by
    unfold m_nK
    by_cases z : kn = 10
    · rw [if_pos z, Nat.min_eq_left (by omega)]
    · rw [if_neg z, Nat.min_eq_right (by omega)]
  have e3 : (m_nK kn = 10 ∧ kn = 10) ∨ (m_nK kn = kn + 1 ∧ kn < 10) := by
    unfold m_nK
    by_cases z : kn = 10
    · rw [if_pos z]; exact Or.inl ⟨rfl, z⟩
    · rw [if_neg z]; exact Or.inr ⟨rfl, by omega⟩
  refine ⟨?_, e2⟩
  rw [e1, e2]
  refine ⟨by omega, by omega, fun i hi => ?_⟩
  by_cases z : i = 0
  · have q1 : ((nx + 1) % 10 + 9 - i) % 10 = nx := by omega
    rw [q1, va_up_self, va_up_self, va_up_self]
    refine nR_congr hK N (fun j hj => ?_)
    rw [z]
    unfold m_nU
    rcases e3 with ⟨a, b⟩ | ⟨a, b⟩
    · rw [if_pos b, nt9_at, a, if_pos (by omega)]
      exact congrArg (M 20) (by omega)
    · rw [if_neg (by omega), nt_at, a, if_pos (by omega)]
      exact congrArg (M 20) (by omega)
  · have q1 : ((nx + 1) % 10 + 9 - i) % 10 = (nx + 9 - (i - 1)) % 10 := by omega
    have q2 : ¬ (nx + 9 - (i - 1)) % 10 = nx := by omega
    rw [q1, va_up_ne _ _ q2, va_up_ne _ _ q2, va_up_ne _ _ q2]
    refine nR_congr hK (u3 (i - 1) (by omega)) (fun j hj => ?_)
    unfold m_nU
    rcases e3 with ⟨a, b⟩ | ⟨a, b⟩
    · rw [if_pos b, nt9_at, a, if_neg (by omega), sh_at, if_pos (by omega)]
      exact congrArg (M 23) (by omega)
    · rw [if_neg (by omega), nt_at, a, if_neg (by omega)]
      exact congrArg (M 23) (by omega)
/-- one is taken back -/
theorem uR_undo {g : Nat → Nat → Nat} {nx kn : Nat} {sd sh sl : Nat → Nat → Nat} {F : Nat → Nat} (U : uR g nx (kn + 1) sd sh sl F) : uR g ((nx + 9) % 10) kn sd sh sl F ∧ nR g (sd ((nx + 9) % 10)) (sh ((nx + 9) % 10)) (sl ((nx + 9) % 10)) (fun j => F (23 * kn + j)) := by
  obtain ⟨u1, u2, u3⟩ := U
  refine ⟨⟨by omega, by omega, fun i hi => ?_⟩, ?_⟩
  · have h := u3 (i + 1) (by omega)
    rw [show (nx + 9 - (i + 1)) % 10 = ((nx + 9) % 10 + 9 - i) % 10 by omega, show kn + 1 - 1 - (i + 1) = kn - 1 - i by omega] at h
    exact h
  · have h := u3 0 (by omega)
    rw [Nat.sub_zero, show kn + 1 - 1 - 0 = kn by omega] at h
    exact h
theorem iR_keep {g M : Nat → Nat → Nat} {kp : Nat → Nat} {jd jh jl : Nat → Nat → Nat} {d ho le : Nat → Nat} {k : Nat} (hK : g 0 0 ≤ 9) (hk : k < 2) (I : iR g kp jd jh jl (M 22) (M 21)) (N : nR g d ho le (M 20)) : iR g (va_up kp k 1) (va_up jd k d) (va_up jh k ho) (va_up jl k le) (va_up (M 22) k 1) (m_kp M k 23) := by
  intro i hi
  by_cases e : i = k
  · rw [e, up_at, up_at, va_up_self, va_up_self, va_up_self]
    refine ⟨rfl, Nat.le_refl _, fun _ => nR_congr hK N (fun j hj => ?_)⟩
    rw [kp_at, if_pos (by omega)]
    exact congrArg (M 20) (by omega)
  · have h := I i hi
    rw [up_ne _ _ e, up_ne _ _ e, va_up_ne _ _ e, va_up_ne _ _ e, va_up_ne _ _ e]
    refine ⟨h.1, h.2.1, fun z => nR_congr hK (h.2.2 z) (fun j hj => ?_)⟩
    rw [kp_at, if_neg (by omega)]
theorem iR_none {g : Nat → Nat → Nat} {jd jh jl : Nat → Nat → Nat} {K F kp : Nat → Nat} : iR g (va_up (va_up kp 0 0) 1 0) jd jh jl (va_up (va_up K 0 0) 1 0) F := fun i hi => by
  have e : ∀ f : Nat → Nat, va_up (va_up f 0 0) 1 0 i = 0 := fun f => by
    rcases (show i = 0 ∨ i = 1 by omega) with rfl | rfl <;> rfl
  rw [e, e]
  exact ⟨rfl, by omega, fun z => absurd rfl z⟩
theorem uR_none {g : Nat → Nat → Nat} {nx : Nat} {sd sh sl : Nat → Nat → Nat} {F : Nat → Nat} (h : nx < 10) : uR g nx 0 sd sh sl F := ⟨h, by omega, fun i hi => absurd hi (Nat.not_lt_zero _)⟩
def REL (lt vl nx kn : Nat) (tr : Int64) (tx : Nat → Nat) (g g2 : Nat → Nat → Nat) (d ho le : Nat → Nat) (sd sh sl : Nat → Nat → Nat) (hv kp : Nat → Nat) (jd jh jl : Nat → Nat → Nat) (M : Nat → Nat → Nat) (mi : Nat → Nat) (mt : Int64) : Prop :=
  (lt = mi 3 ∧ lt ≤ 180) ∧ (tx = M 2 ∧ ∀ j, tx j < 256) ∧ tr = mt ∧ (vl ≤ 100 ∧ mi 7 ≤ 999) ∧ (gOK g ∧ gOK g2) ∧ pR g M ∧ nR g d ho le (M 20) ∧ tR g M (mi 19) ∧ (∀ j, M 10 j ≤ 1 ∧ M 11 j ≤ 4) ∧ (kn = mi 24 ∧ uR g nx kn sd sh sl (M 23)) ∧ iR g kp jd jh jl (M 22) (M 21) ∧ hR hv M (mi 28) (mi 31) ∧ mi 33 ≤ 9 ∧ mi 34 ≤ 9
