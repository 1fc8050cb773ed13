/-! the reader: class and model read the same -/
def rd_R (cp ct cv cs mp mt mq mv : Nat) : Prop := cp = mp ∧ cs = mq ∧ ((ct = 256 ∧ mt = 0) ∨ (ct = 257 ∧ mt = 2 ∧ cv = mv ∧ cv ≤ 99) ∨ (ct = 258 ∧ mt = 4) ∨ (ct < 256 ∧ mv = ct ∧ mt = m_kind ct))
abbrev rd_Q : Type := Nat × Nat × Nat × Nat × Nat × Int32
theorem rd_kind : ∀ k, k < 256 → (k = 59 ∧ m_kind k = 3) ∨ ((k = 107 ∨ k = 112 ∨ k = 120 ∨ k = 111) ∧ m_kind k = 1) ∨ (¬ k = 59 ∧ ¬ k = 107 ∧ ¬ k = 112 ∧ ¬ k = 120 ∧ ¬ k = 111 ∧ m_kind k = 4) := by decide +kernel
/-- the next token as the class takes it, and the one that the model has taken -/
def rd_L (tx : Nat → Nat) (ln : Nat) (r1 : Nat × Nat × Nat × Nat) (R : rd_Q) : Prop := R.2.2.2.2.2 = -1 ∧ r1.1 ≤ ln ∧ r1.2.2.1 ≤ 100 ∧ rd_R (tk_T tx ln r1.1 r1.2.2.1).1 (tk_T tx ln r1.1 r1.2.2.1).2.1 (tk_T tx ln r1.1 r1.2.2.1).2.2.1 (tk_T tx ln r1.1 r1.2.2.1).2.2.2 R.2.1 R.2.2.1 R.2.2.2.1 R.2.2.2.2.1
def rd_M (tx : Nat → Nat) (ln : Nat) : List (Nat × Nat) → rd_Q → rd_Q
  | [], R => R
  | b :: bs, R => rd_M tx ln bs (m_nbR tx ln b.1 b.2 R)
def rd_V (tx : Nat → Nat) (ln : Nat) : List (Nat × Nat) → rd_Q → Nat → Nat
  | [], _, _ => 0
  | b :: _, R, 0 => (m_nbR tx ln b.1 b.2 R).1
  | b :: bs, R, j + 1 => rd_V tx ln bs (m_nbR tx ln b.1 b.2 R) j
def rd_P (g M : Nat → Nat → Nat) : Prop := M 9 2 = g 0 0 ∧ M 9 3 = g 0 1 ∧ (∀ k, k < g 0 0 → M 10 (9 + k) = g 1 k ∧ M 11 (9 + k) = g 2 k ∧ M 12 (9 + k) = g 3 k) ∧ (∀ q, q < g 0 1 → M 13 (6 + q) = g 4 q ∧ M 14 (6 + q) = g 5 q ∧ M 15 (6 + q) = g 6 q) ∧ ∀ f, f < 5 → M 16 (5 + f) = g 7 f ∧ M 17 (5 + f) = g 8 f
def rd_B (M0 M : Nat → Nat → Nat) : Prop := (M 9 0 = M0 9 0 ∧ M 9 1 = M0 9 1) ∧ (∀ k, k < 9 → M 10 k = M0 10 k ∧ M 11 k = M0 11 k ∧ M 12 k = M0 12 k) ∧ (∀ q, q < 6 → M 13 q = M0 13 q ∧ M 14 q = M0 14 q ∧ M 15 q = M0 15 q) ∧ (∀ f, f < 5 → M 16 f = M0 16 f ∧ M 17 f = M0 17 f) ∧ ∀ j, M 10 j ≤ 1 ∧ M 11 j ≤ 4
def rd_C {α : Type} (tx : Nat → Nat) (ln : Nat) (rec : rd_Q → (Nat → Nat → Nat) → α) (w : Nat) (M0 : Nat → Nat → Nat) (S : Int32 × (Nat × Nat × Nat × Nat) × (Nat → Nat) × (Nat → Nat → Nat)) (I : α) : Prop :=
  (S.1 = 0 ∧ ∃ (R : rd_Q) (M1 : Nat → Nat → Nat), I = rec R M1 ∧ R.2.2.2.2.2 = nI S.2.1.2.2.2 ∧ S.2.1.2.2.2 ≤ ln ∧ rd_B M0 M1)
  ∨ (¬ S.1 = 0 ∧ ∃ (R : rd_Q) (M1 : Nat → Nat → Nat), I = rec R M1 ∧ rd_L tx ln S.2.1 R ∧ rd_P S.2.2.2 M1 ∧ rd_B M0 M1 ∧ m_I ln w R.2.1 R.2.2.1 R.2.2.2.1 R.2.2.2.2.1 R.2.2.2.2.2 M1)
def rd_Sq {α : Type} (tx : Nat → Nat) (ln : Nat) (rec : rd_Q → (Nat → Nat → Nat) → α) (bs : List (Nat × Nat)) (R : rd_Q) (M1 : Nat → Nat → Nat) (N : Int32 × (Nat × Nat × Nat × Nat) × (Nat → Nat)) : Prop :=
  (N.1 = 0 ∧ ∃ R3 : rd_Q, m_pl2 tx ln rec (rd_M tx ln bs R) M1 = rec R3 M1 ∧ R3.2.2.2.2.2 = nI N.2.1.2.2.2 ∧ N.2.1.2.2.2 ≤ ln)
  ∨ (¬ N.1 = 0 ∧ (∀ j, j < bs.length → N.2.2 j = rd_V tx ln bs R j) ∧ ((nI (tk_T tx ln N.2.1.1 N.2.1.2.2.1).2.1 = 59 ∧ m_pl2 tx ln rec (rd_M tx ln bs R) M1 = rec (m_tkR tx ln 1 (rd_M tx ln bs R)) M1 ∧ rd_L tx ln (tk_T tx ln N.2.1.1 N.2.1.2.2.1) (m_tkR tx ln 1 (rd_M tx ln bs R)))
    ∨ (¬ nI (tk_T tx ln N.2.1.1 N.2.1.2.2.1).2.1 = 59 ∧ ∃ R3 : rd_Q, m_pl2 tx ln rec (rd_M tx ln bs R) M1 = rec R3 M1 ∧ R3.2.2.2.2.2 = nI (tk_T tx ln N.2.1.1 N.2.1.2.2.1).2.2.2 ∧ (tk_T tx ln N.2.1.1 N.2.1.2.2.1).2.2.2 ≤ ln)))
section RD
variable {tx : Nat → Nat} {ln : Nat}
theorem rd_skip (hln : ln ≤ 180) : ∀ u p, p ≤ ln → tk_skip tx ln u p = m_skip tx ln u p
  | 0, _, _ => rfl
  | u + 1, p, h => by
    rw [tk_skip_s, m_skip_s]
    by_cases c : ln ≤ p
    · have n1 : ¬ m_lt tx ln p = 32 := by rw [m_lt_no (by omega) c]; decide
      rw [if_pos (nI_le c (by omega)), if_neg n1]
    · have hlt : p < ln := by omega
      have n0 : ¬ nI ln ≤ nI p := fun z => c ((nI_leI (by omega) (by omega)).mp z)
      rw [if_neg n0, m_lt_yes hln hlt, rd_skip hln u (p + 1) (by omega)]
theorem rd_num (htx : ∀ j, tx j < 256) (hln : ln ≤ 180) : ∀ u v w p, p ≤ ln → ((v = w ∧ v ≤ 99) ∨ (v = 100 ∧ 100 ≤ w ∧ w ≤ 999)) → (tk_num tx ln u v p).2 = (m_num tx ln u w p).2 ∧ (((tk_num tx ln u v p).1 = (m_num tx ln u w p).1 ∧ (tk_num tx ln u v p).1 ≤ 99) ∨ ((tk_num tx ln u v p).1 = 100 ∧ 100 ≤ (m_num tx ln u w p).1 ∧ (m_num tx ln u w p).1 ≤ 999))
  | 0, _, _, _, _, h => ⟨rfl, h⟩
  | u + 1, v, w, p, hp, h => by
    rw [tk_num_s, m_num_s]
    by_cases c : ln ≤ p
    · have n1 : jin (m_lt tx ln p) 48 57 = 0 := by rw [m_lt_no (by omega) c]; decide
      rw [if_pos (nI_le c (by omega)), if_pos n1]
      exact ⟨rfl, h⟩
    · have hlt : p < ln := by omega
      have n0 : ¬ nI ln ≤ nI p := fun z => c ((nI_leI (by omega) (by omega)).mp z)
      rw [if_neg n0, m_lt_yes hln hlt]
      by_cases d : jdig (nI (tx p)) = 0
      · rw [if_pos d, if_pos (show jin (nI (tx p)) 48 57 = 0 from d)]
        exact ⟨rfl, h⟩
      · have hd := jdig_nat (htx p) d
        rw [if_neg d, if_neg (show ¬ jin (nI (tx p)) 48 57 = 0 from d)]
        rcases h with ⟨h1, h2⟩ | ⟨h1, h2, h3⟩
        · have n2 : nI w ≤ 99 := (nI_leI (a := w) (b := 99) (by omega) (by omega)).mpr (by omega)
          rw [if_pos n2]
          refine rd_num htx hln u _ _ (p + 1) (by omega) ?_
          rw [Nat.min_def]
          split <;> omega
        · have n2 : ¬ nI w ≤ 99 := fun z => by have := (nI_leI (a := w) (b := 99) (by omega) (by omega)).mp z; omega
          rw [if_neg n2]
          refine rd_num htx hln u _ _ (p + 1) (by omega) ?_
          rw [Nat.min_def]
          split <;> omega
theorem rd_tok {v w st pl : Nat} (h : (v = w ∧ v ≤ 99) ∨ (v = 100 ∧ 100 ≤ w ∧ w ≤ 999)) : (tk_tok tx st v pl = 257 ∧ m_tok tx st w pl = 2 ∧ v = w ∧ v ≤ 99) ∨ (tk_tok tx st v pl = 258 ∧ m_tok tx st w pl = 4) := by
  rcases h with ⟨h1, h2⟩ | ⟨h1, h2, h3⟩
  · have n1 : ¬ (99 : Int32) < nI v := fun z => by have := (nI_ltI (a := 99) (b := v) (by omega) (by omega)).mp z; omega
    have n2 : ¬ (99 : Int32) < nI w := by rw [← h1]; exact n1
    by_cases c1 : nI (tx st) = 48
    · by_cases c2 : nI pl - nI st ≤ 1
      · refine Or.inl ⟨?_, ?_, h1, h2⟩
        · unfold tk_tok; rw [if_pos c1, if_pos c2, if_neg n1]
        · unfold m_tok; rw [if_neg n2, if_pos c1, if_pos c2]
      · refine Or.inr ⟨?_, ?_⟩
        · unfold tk_tok; rw [if_pos c1, if_neg c2, if_neg n1]
        · unfold m_tok; rw [if_neg n2, if_pos c1, if_neg c2]
    · refine Or.inl ⟨?_, ?_, h1, h2⟩
      · unfold tk_tok; rw [if_neg c1, if_neg n1]
      · unfold m_tok; rw [if_neg n2, if_neg c1]
  · have n1 : (99 : Int32) < nI v := (nI_ltI (a := 99) (b := v) (by omega) (by omega)).mpr (by omega)
    have n2 : (99 : Int32) < nI w := (nI_ltI (a := 99) (b := w) (by omega) (by omega)).mpr (by omega)
    refine Or.inr ⟨?_, ?_⟩
    · unfold tk_tok
      by_cases c1 : nI (tx st) = 48
      · by_cases c2 : nI pl - nI st ≤ 1
        · rw [if_pos c1, if_pos c2, if_pos n1]
        · rw [if_pos c1, if_neg c2, if_pos n1]
      · rw [if_neg c1, if_pos n1]
    · unfold m_tok; rw [if_pos n2]
theorem rd_T (htx : ∀ j, tx j < 256) (hln : ln ≤ 180) {p : Nat} (hp : p ≤ ln) (cv mv : Nat) : rd_R (tk_T tx ln p cv).1 (tk_T tx ln p cv).2.1 (tk_T tx ln p cv).2.2.1 (tk_T tx ln p cv).2.2.2 (m_T tx ln p mv).1 (m_T tx ln p mv).2.1 (m_T tx ln p mv).2.2.1 (m_T tx ln p mv).2.2.2 := by
  have h1 := m_skip_le tx ln hln (ln + 1) p hp
  unfold tk_T m_T
  rw [rd_skip hln _ _ hp]
  generalize m_skip tx ln (ln + 1) p = p1 at h1 ⊢
  unfold tk_U m_U
  by_cases c : p1 < ln
  · have n1 : nI p1 < nI ln := (nI_ltI (by omega) (by omega)).mpr c
    have n2 : 0 ≤ m_lt tx ln p1 := by rw [m_lt_yes hln c]; exact nI_pos' (by have := htx p1; omega)
    rw [if_pos n1, if_pos n2]
    by_cases d : jdig (nI (tx p1)) = 0
    · rw [if_pos d, if_pos (show jin (nI (tx p1)) 48 57 = 0 from d)]
      exact ⟨rfl, rfl, Or.inr (Or.inr (Or.inr ⟨htx p1, rfl, rfl⟩))⟩
    · rw [if_neg d, if_neg (show ¬ jin (nI (tx p1)) 48 57 = 0 from d)]
      have hn := rd_num htx hln (ln + 1) 0 0 p1 h1 (Or.inl ⟨rfl, Nat.zero_le _⟩)
      have ht := rd_tok (tx := tx) (st := p1) (pl := (tk_num tx ln (ln + 1) 0 p1).2) hn.2
      refine ⟨hn.1, rfl, ?_⟩
      rcases ht with ⟨t1, t2, t3, t4⟩ | ⟨t1, t2⟩
      · exact Or.inr (Or.inl ⟨t1, by rw [hn.1] at t2; exact t2, t3, t4⟩)
      · exact Or.inr (Or.inr (Or.inl ⟨t1, by rw [hn.1] at t2; exact t2⟩))
  · have n1 : ¬ nI p1 < nI ln := fun z => c ((nI_ltI (by omega) (by omega)).mp z)
    have n2 : ¬ 0 ≤ m_lt tx ln p1 := by rw [m_lt_no (by omega) (by omega)]; decide
    rw [if_neg n1, if_neg n2]
    exact ⟨rfl, rfl, Or.inl ⟨rfl, rfl⟩⟩
theorem rd_st (htx : ∀ j, tx j < 256) (hln : ln ≤ 180) {p : Nat} (hp : p ≤ ln) (cv : Nat) : (tk_T tx ln p cv).2.2.2 ≤ ln := by
  rw [(rd_T htx hln hp cv 0).2.1]
  exact (m_T_le tx ln p 0 htx hln hp (by omega)).2.2.1
theorem rd_tk0 (nx tk pl vl : Nat) : m_tk tx ln 0 nx tk pl vl (-1) = (0, nx, tk, pl, vl, nI pl) := by
  unfold m_tk
  rw [if_neg (show ¬ m_well (-1) = 0 by decide), if_pos (show nI 0 = 0 by decide)]
theorem rd_tk1 (nx tk pl vl : Nat) : m_tk tx ln 1 nx tk pl vl (-1) = (vl, (m_T tx ln nx vl).1, (m_T tx ln nx vl).2.1, (m_T tx ln nx vl).2.2.1, (m_T tx ln nx vl).2.2.2, -1) := by
  unfold m_tk
  rw [if_neg (show ¬ m_well (-1) = 0 by decide), if_neg (show ¬ nI 1 = 0 by decide)]
theorem rd_tkn {b nx tk pl vl : Nat} {fa : Int32} (h : m_well fa = 0) : m_tk tx ln b nx tk pl vl fa = (0, nx, tk, pl, vl, fa) := by
  unfold m_tk
  rw [if_pos h]
theorem rd_nbn {lo hi : Nat} (R : rd_Q) (h : m_well R.2.2.2.2.2 = 0) : (m_nbR tx ln lo hi R).2.2.2.2.2 = R.2.2.2.2.2 := by
  unfold m_nbR m_nb
  split
  · split <;> rw [rd_tkn h]
  · rw [rd_tkn h]
theorem rd_Mn : ∀ (bs : List (Nat × Nat)) (R : rd_Q), m_well R.2.2.2.2.2 = 0 → (rd_M tx ln bs R).2.2.2.2.2 = R.2.2.2.2.2
  | [], _, _ => rfl
  | b :: bs, R, h => by
    have e := rd_nbn (tx := tx) (ln := ln) (lo := b.1) (hi := b.2) R h
    show (rd_M tx ln bs (m_nbR tx ln b.1 b.2 R)).2.2.2.2.2 = _
    rw [rd_Mn bs _ (by rw [e]; exact h), e]
theorem rd_nb (htx : ∀ j, tx j < 256) (hln : ln ≤ 180) {r1 : Nat × Nat × Nat × Nat} {R : rd_Q} (h : rd_L tx ln r1 R) (lo hi : Nat) :
    (nI (tk_T tx ln r1.1 r1.2.2.1).2.1 = 257 ∧ ¬ jin (nI (tk_T tx ln r1.1 r1.2.2.1).2.2.1) (nI lo) (nI hi) = 0 ∧ (m_nbR tx ln lo hi R).1 = (tk_T tx ln r1.1 r1.2.2.1).2.2.1 ∧ rd_L tx ln (tk_T tx ln r1.1 r1.2.2.1) (m_nbR tx ln lo hi R))
    ∨ ((nI (tk_T tx ln r1.1 r1.2.2.1).2.1 = 257 → jin (nI (tk_T tx ln r1.1 r1.2.2.1).2.2.1) (nI lo) (nI hi) = 0) ∧ (m_nbR tx ln lo hi R).2.2.2.2.2 = nI (tk_T tx ln r1.1 r1.2.2.1).2.2.2) := by
  obtain ⟨hfa, hp, hv, e1, e2, hc⟩ := h
  have l1 := tk_T_le tx ln r1.1 r1.2.2.1 htx hln hp
  have l2 := tk_T_vl tx ln r1.1 r1.2.2.1 htx hln hp hv
  generalize tk_T tx ln r1.1 r1.2.2.1 = T at e1 e2 hc l1 l2 ⊢
  obtain ⟨x0, nx, tk, pl, vl, fa⟩ := R
  dsimp only at hfa e1 e2 hc
  subst hfa
  have hz : (m_tk tx ln 0 nx tk pl vl (-1)).2.2.2.2.2 = nI T.2.2.2 := by rw [rd_tk0, e2]
  have hd : ∀ P : rd_Q → Prop, ¬ nI tk = 2 → P (m_tk tx ln 0 nx tk pl vl (-1)) → P (m_nbR tx ln lo hi (x0, nx, tk, pl, vl, -1)) := fun P h1 h2 => by
    show P (if nI tk = 2 then _ else _)
    rw [if_neg h1]
    exact h2
  rcases hc with ⟨a1, a2⟩ | ⟨a1, a2, a3, a4⟩ | ⟨a1, a2⟩ | ⟨a1, a2, a3⟩
  · refine Or.inr ⟨fun z => ?_, hd (fun q => q.2.2.2.2.2 = nI T.2.2.2) (by rw [a2]; decide) hz⟩
    rw [a1] at z; exact absurd z (by decide)
  · have t2 : nI tk = 2 := by rw [a2]; decide
    by_cases j : jin (nI T.2.2.1) (nI lo) (nI hi) = 0
    · refine Or.inr ⟨fun _ => j, ?_⟩
      show (if nI tk = 2 then (if jin (nI vl) (nI lo) (nI hi) = 0 then m_tk tx ln 0 nx tk pl vl (-1) else m_tk tx ln 1 nx tk pl vl (-1)) else m_tk tx ln 0 nx tk pl vl (-1)).2.2.2.2.2 = _
      rw [if_pos t2, if_pos (show jin (nI vl) (nI lo) (nI hi) = 0 by rw [← a3]; exact j)]
      exact hz
    · have e9 : m_nbR tx ln lo hi (x0, nx, tk, pl, vl, -1) = (vl, (m_T tx ln nx vl).1, (m_T tx ln nx vl).2.1, (m_T tx ln nx vl).2.2.1, (m_T tx ln nx vl).2.2.2, -1) := by
        show (if nI tk = 2 then (if jin (nI vl) (nI lo) (nI hi) = 0 then m_tk tx ln 0 nx tk pl vl (-1) else m_tk tx ln 1 nx tk pl vl (-1)) else m_tk tx ln 0 nx tk pl vl (-1)) = _
        rw [if_pos t2, if_neg (show ¬ jin (nI vl) (nI lo) (nI hi) = 0 by rw [← a3]; exact j), rd_tk1]
      rw [e9]
      refine Or.inl ⟨by rw [a1]; decide, j, a3.symm, rfl, l1, l2, ?_⟩
      show rd_R (tk_T tx ln T.1 T.2.2.1).1 (tk_T tx ln T.1 T.2.2.1).2.1 (tk_T tx ln T.1 T.2.2.1).2.2.1 (tk_T tx ln T.1 T.2.2.1).2.2.2 (m_T tx ln nx vl).1 (m_T tx ln nx vl).2.1 (m_T tx ln nx vl).2.2.1 (m_T tx ln nx vl).2.2.2
      rw [← e1]
      exact rd_T htx hln l1 _ _
  · refine Or.inr ⟨fun z => ?_, hd (fun q => q.2.2.2.2.2 = nI T.2.2.2) (by rw [a2]; decide) hz⟩
    rw [a1] at z; exact absurd z (by decide)
  · refine Or.inr ⟨fun z => ?_, hd (fun q => q.2.2.2.2.2 = nI T.2.2.2) ?_ hz⟩
    · have := (nI_eq (a := T.2.1) (b := 257) (by omega) (by omega)).mp z; omega
    · rcases rd_kind T.2.1 a1 with ⟨-, k⟩ | ⟨-, k⟩ | ⟨-, -, -, -, -, k⟩ <;> rw [a3, k] <;> decide
theorem rd_rn (htx : ∀ j, tx j < 256) (hln : ln ≤ 180) : ∀ (bs : List (Nat × Nat)) (i : Nat) (r1 : Nat × Nat × Nat × Nat) (nm : Nat → Nat) (R : rd_Q), rd_L tx ln r1 R →
    (¬ (rnL tx ln (bs.map (fun b => (nI b.1, nI b.2))) i r1 nm).1 = 0 ∧ rd_L tx ln (rnL tx ln (bs.map (fun b => (nI b.1, nI b.2))) i r1 nm).2.1 (rd_M tx ln bs R) ∧ ∀ j, j < bs.length → (rnL tx ln (bs.map (fun b => (nI b.1, nI b.2))) i r1 nm).2.2 (i + j) = rd_V tx ln bs R j)
    ∨ ((rnL tx ln (bs.map (fun b => (nI b.1, nI b.2))) i r1 nm).1 = 0 ∧ (rd_M tx ln bs R).2.2.2.2.2 = nI (rnL tx ln (bs.map (fun b => (nI b.1, nI b.2))) i r1 nm).2.1.2.2.2 ∧ (rnL tx ln (bs.map (fun b => (nI b.1, nI b.2))) i r1 nm).2.1.2.2.2 ≤ ln)
  | [], i, r1, nm, R, h => Or.inl ⟨by show ¬ (1 : Int32) = 0; decide, h, fun j hj => absurd hj (Nat.not_lt_zero _)⟩
  | b :: bs, i, r1, nm, R, h => by
    have hs := rd_st htx hln h.2.1 r1.2.2.1
    have hu : rnL tx ln ((b :: bs).map (fun b => (nI b.1, nI b.2))) i r1 nm = if (nI ((tk_T tx ln r1.1 r1.2.2.1).2.1)) = 257 then (if (jin (nI ((tk_T tx ln r1.1 r1.2.2.1).2.2.1)) (nI b.1) (nI b.2)) = 0 then (0, tk_T tx ln r1.1 r1.2.2.1, nm) else rnL tx ln (bs.map (fun b => (nI b.1, nI b.2))) (i + 1) (tk_T tx ln r1.1 r1.2.2.1) (va_up nm i (tk_T tx ln r1.1 r1.2.2.1).2.2.1)) else (0, tk_T tx ln r1.1 r1.2.2.1, nm) := rfl
    rw [hu]
    rcases rd_nb htx hln h b.1 b.2 with ⟨a1, a2, a3, a4⟩ | ⟨a1, a2⟩
    · rw [if_pos a1, if_neg a2]
      rcases rd_rn htx hln bs (i + 1) _ (va_up nm i (tk_T tx ln r1.1 r1.2.2.1).2.2.1) _ a4 with ⟨b1, b2, b3⟩ | b1
      · refine Or.inl ⟨b1, b2, fun j hj => ?_⟩
        match j, hj with
        | 0, _ =>
          show _ = (m_nbR tx ln b.1 b.2 R).1
          rw [rnL_keep tx ln _ _ _ _ (i + 0) (by omega), a3]
          exact up_at nm i _
        | j + 1, hj =>
          rw [show i + (j + 1) = i + 1 + j by omega]
          exact b3 j (Nat.lt_of_succ_lt_succ hj)
      · exact Or.inr b1
    · have hz : (if (nI ((tk_T tx ln r1.1 r1.2.2.1).2.1)) = 257 then (if (jin (nI ((tk_T tx ln r1.1 r1.2.2.1).2.2.1)) (nI b.1) (nI b.2)) = 0 then (0, tk_T tx ln r1.1 r1.2.2.1, nm) else rnL tx ln (bs.map (fun b => (nI b.1, nI b.2))) (i + 1) (tk_T tx ln r1.1 r1.2.2.1) (va_up nm i (tk_T tx ln r1.1 r1.2.2.1).2.2.1)) else (0, tk_T tx ln r1.1 r1.2.2.1, nm)) = (0, tk_T tx ln r1.1 r1.2.2.1, nm) := by
        split
        · rename_i z
          rw [if_pos (a1 z)]
        · rfl
      rw [hz]
      refine Or.inr ⟨rfl, ?_, hs⟩
      show (rd_M tx ln bs (m_nbR tx ln b.1 b.2 R)).2.2.2.2.2 = nI (tk_T tx ln r1.1 r1.2.2.1).2.2.2
      rw [rd_Mn bs _ (by rw [a2]; exact m_well_nI (by omega)), a2]
theorem rd_end (htx : ∀ j, tx j < 256) (hln : ln ≤ 180) {r1 : Nat × Nat × Nat × Nat} {R : rd_Q} (h : rd_L tx ln r1 R) :
    (nI (tk_T tx ln r1.1 r1.2.2.1).2.1 = 59 ∧ nI R.2.2.1 = 3 ∧ rd_L tx ln (tk_T tx ln r1.1 r1.2.2.1) (m_tkR tx ln 1 R))
    ∨ (¬ nI (tk_T tx ln r1.1 r1.2.2.1).2.1 = 59 ∧ ¬ nI R.2.2.1 = 3 ∧ (m_tkR tx ln 0 R).2.2.2.2.2 = nI (tk_T tx ln r1.1 r1.2.2.1).2.2.2) := by
  obtain ⟨hfa, hp, hv, e1, e2, hc⟩ := h
  have l1 := tk_T_le tx ln r1.1 r1.2.2.1 htx hln hp
  have l2 := tk_T_vl tx ln r1.1 r1.2.2.1 htx hln hp hv
  generalize tk_T tx ln r1.1 r1.2.2.1 = T at e1 e2 hc l1 l2 ⊢
  obtain ⟨x0, nx, tk, pl, vl, fa⟩ := R
  dsimp only at hfa e1 e2 hc ⊢
  subst hfa
  have hz : (m_tkR tx ln 0 (x0, nx, tk, pl, vl, -1)).2.2.2.2.2 = nI T.2.2.2 := by
    show (m_tk tx ln 0 nx tk pl vl (-1)).2.2.2.2.2 = _
    rw [rd_tk0, e2]
  rcases hc with ⟨a1, a2⟩ | ⟨a1, a2, a3, a4⟩ | ⟨a1, a2⟩ | ⟨a1, a2, a3⟩
  · exact Or.inr ⟨by rw [a1]; decide, by rw [a2]; decide, hz⟩
  · exact Or.inr ⟨by rw [a1]; decide, by rw [a2]; decide, hz⟩
  · exact Or.inr ⟨by rw [a1]; decide, by rw [a2]; decide, hz⟩
  · have q59 : ¬ T.2.1 = 59 → ¬ nI T.2.1 = 59 := fun z y => z ((nI_eq (a := T.2.1) (b := 59) (by omega) (by omega)).mp y)
    rcases rd_kind T.2.1 a1 with ⟨k1, k⟩ | ⟨k1, k⟩ | ⟨k1, -, -, -, -, k⟩
    · refine Or.inl ⟨by rw [k1]; decide, by rw [a3, k]; decide, ?_⟩
      show rd_L tx ln T (m_tk tx ln 1 nx tk pl vl (-1))
      rw [rd_tk1]
      refine ⟨rfl, l1, l2, ?_⟩
      show rd_R (tk_T tx ln T.1 T.2.2.1).1 (tk_T tx ln T.1 T.2.2.1).2.1 (tk_T tx ln T.1 T.2.2.1).2.2.1 (tk_T tx ln T.1 T.2.2.1).2.2.2 (m_T tx ln nx vl).1 (m_T tx ln nx vl).2.1 (m_T tx ln nx vl).2.2.1 (m_T tx ln nx vl).2.2.2
      rw [← e1]
      exact rd_T htx hln l1 _ _
    · exact Or.inr ⟨q59 (by omega), by rw [a3, k]; decide, hz⟩
    · exact Or.inr ⟨q59 k1, by rw [a3, k]; decide, hz⟩
theorem rd_pl2n {α : Type} (rec : rd_Q → (Nat → Nat → Nat) → α) (R : rd_Q) (M1 : Nat → Nat → Nat) (h : m_well R.2.2.2.2.2 = 0) : ∃ R3 : rd_Q, m_pl2 tx ln rec R M1 = rec R3 M1 ∧ R3.2.2.2.2.2 = R.2.2.2.2.2 := by
  have e : ∀ b, (m_tkR tx ln b R).2.2.2.2.2 = R.2.2.2.2.2 := fun b => by
    show (m_tk tx ln b R.2.1 R.2.2.1 R.2.2.2.1 R.2.2.2.2.1 R.2.2.2.2.2).2.2.2.2.2 = _
    rw [rd_tkn h]
  rw [m_pl2_s]
  split
  · exact ⟨_, rfl, e 1⟩
  · exact ⟨_, rfl, e 0⟩
theorem rd_seq {α : Type} (htx : ∀ j, tx j < 256) (hln : ln ≤ 180) (rec : rd_Q → (Nat → Nat → Nat) → α) (bs : List (Nat × Nat)) {r1 : Nat × Nat × Nat × Nat} {R : rd_Q} (nm : Nat → Nat) (h : rd_L tx ln r1 R) (M1 : Nat → Nat → Nat) : rd_Sq tx ln rec bs R M1 (rnL tx ln (bs.map (fun b => (nI b.1, nI b.2))) 0 r1 nm) := by
  rcases rd_rn htx hln bs 0 r1 nm R h with ⟨a1, a2, a3⟩ | ⟨a1, a2, a3⟩
  · have hs := rd_st htx hln a2.2.1 (rnL tx ln (bs.map (fun b => (nI b.1, nI b.2))) 0 r1 nm).2.1.2.2.1
    refine Or.inr ⟨a1, fun j hj => by have := a3 j hj; rw [Nat.zero_add] at this; exact this, ?_⟩
    rcases rd_end htx hln a2 with ⟨b1, b2, b3⟩ | ⟨b1, b2, b3⟩
    · exact Or.inl ⟨b1, by rw [m_pl2_s, if_pos b2], b3⟩
    · exact Or.inr ⟨b1, m_tkR tx ln 0 (rd_M tx ln bs R), by rw [m_pl2_s, if_neg b2], b3, hs⟩
  · obtain ⟨R3, b1, b2⟩ := rd_pl2n (tx := tx) (ln := ln) rec (rd_M tx ln bs R) M1 (by rw [a2]; exact m_well_nI (by omega))
    exact Or.inl ⟨a1, R3, b1, by rw [b2, a2], a3⟩
theorem rd_f0 {α : Type} (rec : rd_Q → (Nat → Nat → Nat) → α) (nx tk pl vl : Nat) (M : Nat → Nat → Nat) (hp : pl < 2 ^ 31) : ∃ R : rd_Q, m_pl1 tx ln rec (m_tk tx ln 0 nx tk pl vl (-1)) M = rec R M ∧ R.2.2.2.2.2 = nI pl := by
  rw [rd_tk0, m_pl1_s, if_pos (show m_well (nI pl) = 0 from m_well_nI hp)]
  exact rd_pl2n rec (0, nx, tk, pl, vl, nI pl) M (m_well_nI hp)
theorem rd_let {α : Type} (rec : rd_Q → (Nat → Nat → Nat) → α) (v0 v3 wh : Nat) (M : Nat → Nat → Nat) : m_pl1 tx ln rec (m_tk tx ln 1 v0 1 v3 wh (-1)) M = m_pl2 tx ln rec (m_itR tx ln wh (m_T tx ln v0 wh).1 (m_T tx ln v0 wh).2.1 (m_T tx ln v0 wh).2.2.1 (m_T tx ln v0 wh).2.2.2 (-1)) (m_itM tx ln wh (m_T tx ln v0 wh).1 (m_T tx ln v0 wh).2.1 (m_T tx ln v0 wh).2.2.1 (m_T tx ln v0 wh).2.2.2 (-1) M) := by
  rw [rd_tk1, m_pl1_s, if_neg (show ¬ m_well (-1) = 0 by decide)]
end RD
/-! what an item adds -/
theorem rd_addK {g M : Nat → Nat → Nat} (hP : rd_P g M) (s f n : Nat) : rd_P (pl_addK g s f n) (va_up (va_up (va_up (va_up M 10 (va_up (M 10) (9 + M 9 2) s)) 11 (va_up (M 11) (9 + M 9 2) f)) 12 (va_up (M 12) (9 + M 9 2) n)) 9 (va_up (M 9) 2 (M 9 2 + 1))) := by
  obtain ⟨p1, p2, p3, p4, p5⟩ := hP
  refine ⟨by show M 9 2 + 1 = g 0 0 + 1; rw [p1], p2, fun k hk => ?_, p4, p5⟩
  have hk' : k < g 0 0 + 1 := hk
  show va_up (M 10) (9 + M 9 2) s (9 + k) = va_up (g 1) (g 0 0) s k ∧ va_up (M 11) (9 + M 9 2) f (9 + k) = va_up (g 2) (g 0 0) f k ∧ va_up (M 12) (9 + M 9 2) n (9 + k) = va_up (g 3) (g 0 0) n k
  rw [p1]
  by_cases h : k = g 0 0
  · rw [h]
    refine ⟨?_, ?_, ?_⟩ <;> rw [up_at, up_at]
  · have h9 : ¬ 9 + k = 9 + g 0 0 := by omega
    have hq := p3 k (by omega)
    exact ⟨by rw [up_ne _ _ h9, up_ne _ _ h]; exact hq.1, by rw [up_ne _ _ h9, up_ne _ _ h]; exact hq.2.1, by rw [up_ne _ _ h9, up_ne _ _ h]; exact hq.2.2⟩
theorem rd_addP {g M : Nat → Nat → Nat} (hP : rd_P g M) (s f n : Nat) : rd_P (pl_addP g s f n) (va_up (va_up (va_up (va_up M 13 (va_up (M 13) (6 + M 9 3) s)) 14 (va_up (M 14) (6 + M 9 3) f)) 15 (va_up (M 15) (6 + M 9 3) n)) 9 (va_up (M 9) 3 (M 9 3 + 1))) := by
  obtain ⟨p1, p2, p3, p4, p5⟩ := hP
  refine ⟨p1, by show M 9 3 + 1 = g 0 1 + 1; rw [p2], p3, fun k hk => ?_, p5⟩
  have hk' : k < g 0 1 + 1 := hk
  show va_up (M 13) (6 + M 9 3) s (6 + k) = va_up (g 4) (g 0 1) s k ∧ va_up (M 14) (6 + M 9 3) f (6 + k) = va_up (g 5) (g 0 1) f k ∧ va_up (M 15) (6 + M 9 3) n (6 + k) = va_up (g 6) (g 0 1) n k
  rw [p2]
  by_cases h : k = g 0 1
  · rw [h]
    refine ⟨?_, ?_, ?_⟩ <;> rw [up_at, up_at]
  · have h9 : ¬ 6 + k = 6 + g 0 1 := by omega
    have hq := p4 k (by omega)
    exact ⟨by rw [up_ne _ _ h9, up_ne _ _ h]; exact hq.1, by rw [up_ne _ _ h9, up_ne _ _ h]; exact hq.2.1, by rw [up_ne _ _ h9, up_ne _ _ h]; exact hq.2.2⟩
theorem rd_addO {g M : Nat → Nat → Nat} (hP : rd_P g M) (f n : Nat) : rd_P (va_up g 8 (va_up (g 8) f n)) (va_up M 17 (va_up (M 17) (5 + f) n)) := by
  obtain ⟨p1, p2, p3, p4, p5⟩ := hP
  refine ⟨p1, p2, p3, p4, fun k hk => ⟨(p5 k hk).1, ?_⟩⟩
  show va_up (M 17) (5 + f) n (5 + k) = va_up (g 8) f n k
  by_cases h : k = f
  · rw [h, up_at, up_at]
  · rw [up_ne _ _ (show ¬ 5 + k = 5 + f by omega), up_ne _ _ h]; exact (p5 k hk).2
theorem rd_addF {g M : Nat → Nat → Nat} (hP : rd_P g M) (a b : Nat) (ha : a < 5) (hb : b < 5) : rd_P (pl_addF g a b) (va_up M 16 (va_up (va_up (M 16) (5 + a) (M 16 (5 + a) ||| 2 ^ b)) (5 + b) (va_up (M 16) (5 + a) (M 16 (5 + a) ||| 2 ^ b) (5 + b) ||| 2 ^ a))) := by
  obtain ⟨p1, p2, p3, p4, p5⟩ := hP
  refine ⟨p1, p2, p3, p4, fun k hk => ⟨?_, (p5 k hk).2⟩⟩
  show va_up (va_up (M 16) (5 + a) (M 16 (5 + a) ||| 2 ^ b)) (5 + b) (va_up (M 16) (5 + a) (M 16 (5 + a) ||| 2 ^ b) (5 + b) ||| 2 ^ a) (5 + k) = va_up (va_up (g 7) a (g 7 a ||| 2 ^ b)) b (va_up (g 7) a (g 7 a ||| 2 ^ b) b ||| 2 ^ a) k
  have key : ∀ i, i < 5 → va_up (M 16) (5 + a) (M 16 (5 + a) ||| 2 ^ b) (5 + i) = va_up (g 7) a (g 7 a ||| 2 ^ b) i := fun i hi => by
    by_cases h : i = a
    · rw [h, up_at, up_at, (p5 a ha).1]
    · rw [up_ne _ _ (show ¬ 5 + i = 5 + a by omega), up_ne _ _ h]; exact (p5 i hi).1
  by_cases h : k = b
  · rw [h, up_at, up_at, key b hb]
  · rw [up_ne _ _ (show ¬ 5 + k = 5 + b by omega), up_ne _ _ h]; exact key k hk
