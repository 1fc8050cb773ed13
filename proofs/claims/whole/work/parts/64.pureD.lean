/-! the reader: an item, and all of them -/
section RE
variable {tx : Nat → Nat} {ln : Nat}
theorem rd_nbB (htx : ∀ j, tx j < 256) (hln : ln ≤ 180) {R : rd_Q} (h : R.2.1 ≤ ln ∧ R.2.2.2.2.1 ≤ 999) (lo hi : Nat) (hlo : lo ≤ hi) (hhi : hi ≤ 100) : ((m_nbR tx ln lo hi R).2.1 ≤ ln ∧ (m_nbR tx ln lo hi R).2.2.2.2.1 ≤ 999) ∧ (m_nbR tx ln lo hi R).1 ≤ hi := by
  have := m_nb_le tx ln lo hi R.2.1 R.2.2.1 R.2.2.2.1 R.2.2.2.2.1 R.2.2.2.2.2 htx hln h.1 h.2 hlo hhi
  exact ⟨⟨this.1, this.2.1⟩, this.2.2⟩
theorem rd_itB (htx : ∀ j, tx j < 256) (hln : ln ≤ 180) {M0 M : Nat → Nat → Nat} {wh nx tk pl vl : Nat} {fa : Int32} (hnx : nx ≤ ln) (hvl : vl ≤ 999) (hB : rd_B M0 M) : rd_B M0 (m_itM tx ln wh nx tk pl vl fa M) := by
  obtain ⟨b1, b2, b3, b4, b5⟩ := hB
  unfold m_itM
  split
  · have q1 := rd_nbB htx hln (R := (0, nx, tk, pl, vl, fa)) ⟨hnx, hvl⟩ 0 1 (by decide) (by decide)
    have q2 := rd_nbB htx hln q1.1 0 4 (by decide) (by decide)
    refine ⟨b1, fun k hk => ?_, b3, b4, fun j => ?_⟩
    · show va_up (M 10) (9 + M 9 2) _ k = _ ∧ va_up (M 11) (9 + M 9 2) _ k = _ ∧ va_up (M 12) (9 + M 9 2) _ k = _
      have h9 : ¬ k = 9 + M 9 2 := by omega
      rw [up_ne _ _ h9, up_ne _ _ h9, up_ne _ _ h9]
      exact b2 k hk
    · show va_up (M 10) (9 + M 9 2) _ j ≤ 1 ∧ va_up (M 11) (9 + M 9 2) _ j ≤ 4
      exact ⟨up_le (fun j => (b5 j).1) _ _ q1.2 j, up_le (fun j => (b5 j).2) _ _ q2.2 j⟩
  · split
    · refine ⟨b1, b2, fun k hk => ?_, b4, b5⟩
      show va_up (M 13) (6 + M 9 3) _ k = _ ∧ va_up (M 14) (6 + M 9 3) _ k = _ ∧ va_up (M 15) (6 + M 9 3) _ k = _
      have h9 : ¬ k = 6 + M 9 3 := by omega
      rw [up_ne _ _ h9, up_ne _ _ h9, up_ne _ _ h9]
      exact b3 k hk
    · split
      · refine ⟨b1, b2, b3, fun k hk => ⟨?_, (b4 k hk).2⟩, b5⟩
        show m_fdF tx ln nx tk pl vl fa (M 16) k = M0 16 k
        unfold m_fdF
        split
        · exact (b4 k hk).1
        · rw [up_ne _ _ (by omega), up_ne _ _ (by omega)]
          exact (b4 k hk).1
      · refine ⟨b1, b2, b3, fun k hk => ⟨(b4 k hk).1, ?_⟩, b5⟩
        show va_up (M 17) (5 + _) _ k = _
        rw [up_ne _ _ (by omega)]
        exact (b4 k hk).2
theorem rd_inv (htx : ∀ j, tx j < 256) (hln : ln ≤ 180) {v0 v3 wh w : Nat} {M : Nat → Nat → Nat} (hi : m_I ln (w + 1) v0 1 v3 wh (-1) M) (hm : ¬ m_may M wh = 0) (b2 : Nat) (R3 : rd_Q) (e3 : R3 = m_tkR tx ln b2 (m_itR tx ln wh (m_T tx ln v0 wh).1 (m_T tx ln v0 wh).2.1 (m_T tx ln v0 wh).2.2.1 (m_T tx ln v0 wh).2.2.2 (-1))) : m_I ln w R3.2.1 R3.2.2.1 R3.2.2.2.1 R3.2.2.2.2.1 R3.2.2.2.2.2 (m_itM tx ln wh (m_T tx ln v0 wh).1 (m_T tx ln v0 wh).2.1 (m_T tx ln v0 wh).2.2.1 (m_T tx ln v0 wh).2.2.2 (-1) M) :=
  m_invA htx hln hi (by decide) (by decide) hm (by rw [rd_tk1]) (wh, (m_T tx ln v0 wh).1, (m_T tx ln v0 wh).2.1, (m_T tx ln v0 wh).2.2.1, (m_T tx ln v0 wh).2.2.2, -1) (m_itR tx ln wh (m_T tx ln v0 wh).1 (m_T tx ln v0 wh).2.1 (m_T tx ln v0 wh).2.2.1 (m_T tx ln v0 wh).2.2.2 (-1)) R3 (rd_tk1 _ _ _ _).symm rfl e3
theorem rd_itm {α : Type} (rec : rd_Q → (Nat → Nat → Nat) → α) {bs : List (Nat × Nat)} {R : rd_Q} {w : Nat} {M0 M1 g g1 : Nat → Nat → Nat} {N : Int32 × (Nat × Nat × Nat × Nat) × (Nat → Nat)} (hN : rd_Sq tx ln rec bs R M1 N) (hg : (∀ j, j < bs.length → N.2.2 j = rd_V tx ln bs R j) → rd_P g1 M1) (hB : rd_B M0 M1) (hI : m_I ln w (m_tkR tx ln 1 (rd_M tx ln bs R)).2.1 (m_tkR tx ln 1 (rd_M tx ln bs R)).2.2.1 (m_tkR tx ln 1 (rd_M tx ln bs R)).2.2.2.1 (m_tkR tx ln 1 (rd_M tx ln bs R)).2.2.2.2.1 (m_tkR tx ln 1 (rd_M tx ln bs R)).2.2.2.2.2 M1) :
    rd_C tx ln rec w M0 (if N.1 = 0 then (0, N.2.1, N.2.2, g) else (if nI (tk_T tx ln N.2.1.1 N.2.1.2.2.1).2.1 = 59 then (1, tk_T tx ln N.2.1.1 N.2.1.2.2.1, N.2.2, g1) else (0, tk_T tx ln N.2.1.1 N.2.1.2.2.1, N.2.2, g1))) (m_pl2 tx ln rec (rd_M tx ln bs R) M1) := by
  rcases hN with ⟨a1, R3, a2, a3, a4⟩ | ⟨a1, a2, a3⟩
  · rw [if_pos a1]
    exact Or.inl ⟨rfl, R3, M1, a2, a3, a4, hB⟩
  · rw [if_neg a1]
    rcases a3 with ⟨b1, b2, b3⟩ | ⟨b1, R3, b2, b3, b4⟩
    · rw [if_pos b1]
      exact Or.inr ⟨by show ¬ (1 : Int32) = 0; decide, m_tkR tx ln 1 (rd_M tx ln bs R), M1, b2, b3, hg a2, hB, hI⟩
    · rw [if_neg b1]
      exact Or.inl ⟨rfl, R3, M1, b2, b3, b4, hB⟩
theorem rd_k {α : Type} (htx : ∀ j, tx j < 256) (hln : ln ≤ 180) (rec : rd_Q → (Nat → Nat → Nat) → α) {v0 v2 v3 w : Nat} {nm : Nat → Nat} {g M M0 : Nat → Nat → Nat} (h0 : v0 ≤ ln) (h3 : v3 ≤ ln) (h2 : v2 ≤ 100) (hP : rd_P g M) (hB : rd_B M0 M) (hI : m_I ln (w + 1) v0 1 v3 107 (-1) M) :
    rd_C tx ln rec w M0 (ri_k tx ln v0 v2 v3 nm g) (if m_may M 107 = 0 then m_pl1 tx ln rec (m_tk tx ln 0 v0 1 v3 107 (-1)) M else m_pl1 tx ln rec (m_tk tx ln 1 v0 1 v3 107 (-1)) M) := by
  by_cases c : (9 : Int32) ≤ nI (g 0 0)
  · have hm : m_may M 107 = 0 := by
      unfold m_may
      rw [if_pos (show nI 107 = 107 by decide), hP.1, if_pos c]
    rw [if_pos hm]
    unfold ri_k
    rw [if_pos c]
    obtain ⟨R, a1, a2⟩ := rd_f0 (tx := tx) (ln := ln) rec v0 1 v3 107 M (by omega)
    exact Or.inl ⟨rfl, R, M, a1, a2, h3, hB⟩
  · have hm : ¬ m_may M 107 = 0 := by
      unfold m_may
      rw [if_pos (show nI 107 = 107 by decide), hP.1, if_neg c]
      decide
    have hle := m_T_le tx ln v0 107 htx hln h0 (by decide)
    have hB1 := rd_itB (wh := 107) (tk := (m_T tx ln v0 107).2.1) (pl := (m_T tx ln v0 107).2.2.1) (fa := -1) htx hln hle.1 hle.2.2.2 hB
    have hI1 := rd_inv htx hln hI hm 1 _ rfl
    have hL : rd_L tx ln (v0, 107, v2, v3) (0, (m_T tx ln v0 107).1, (m_T tx ln v0 107).2.1, (m_T tx ln v0 107).2.2.1, (m_T tx ln v0 107).2.2.2, -1) := ⟨rfl, h0, h2, rd_T htx hln h0 _ _⟩
    have eM : m_itM tx ln 107 (m_T tx ln v0 107).1 (m_T tx ln v0 107).2.1 (m_T tx ln v0 107).2.2.1 (m_T tx ln v0 107).2.2.2 (-1) M = _ := if_pos rfl
    have eR : m_itR tx ln 107 (m_T tx ln v0 107).1 (m_T tx ln v0 107).2.1 (m_T tx ln v0 107).2.2.1 (m_T tx ln v0 107).2.2.2 (-1) = rd_M tx ln [(0, 1), (0, 4), (1, 60)] (0, (m_T tx ln v0 107).1, (m_T tx ln v0 107).2.1, (m_T tx ln v0 107).2.2.1, (m_T tx ln v0 107).2.2.2, -1) := if_pos rfl
    rw [eR] at hI1
    have hs : rd_Sq tx ln rec [(0, 1), (0, 4), (1, 60)] (0, (m_T tx ln v0 107).1, (m_T tx ln v0 107).2.1, (m_T tx ln v0 107).2.2.1, (m_T tx ln v0 107).2.2.2, -1) (m_itM tx ln 107 (m_T tx ln v0 107).1 (m_T tx ln v0 107).2.1 (m_T tx ln v0 107).2.2.1 (m_T tx ln v0 107).2.2.2 (-1) M) (rnL tx ln [(0, 1), (0, 4), (1, 60)] 0 (v0, 107, v2, v3) nm) := rd_seq htx hln rec _ nm hL _
    rw [if_neg hm, rd_let, eR]
    unfold ri_k
    rw [if_neg c]
    refine rd_itm rec hs (fun hv => ?_) hB1 hI1
    rw [hv 0 (by decide), hv 1 (by decide), hv 2 (by decide), eM]
    exact rd_addK hP _ _ _
theorem rd_p {α : Type} (htx : ∀ j, tx j < 256) (hln : ln ≤ 180) (rec : rd_Q → (Nat → Nat → Nat) → α) {v0 v2 v3 w : Nat} {nm : Nat → Nat} {g M M0 : Nat → Nat → Nat} (h0 : v0 ≤ ln) (h3 : v3 ≤ ln) (h2 : v2 ≤ 100) (hP : rd_P g M) (hB : rd_B M0 M) (hI : m_I ln (w + 1) v0 1 v3 112 (-1) M) :
    rd_C tx ln rec w M0 (ri_p tx ln v0 v2 v3 nm g) (if m_may M 112 = 0 then m_pl1 tx ln rec (m_tk tx ln 0 v0 1 v3 112 (-1)) M else m_pl1 tx ln rec (m_tk tx ln 1 v0 1 v3 112 (-1)) M) := by
  by_cases c : (6 : Int32) ≤ nI (g 0 1)
  · have hm : m_may M 112 = 0 := by
      unfold m_may
      rw [if_neg (show ¬ nI 112 = 107 by decide), if_pos (show nI 112 = 112 by decide), hP.2.1, if_pos c]
    rw [if_pos hm]
    unfold ri_p
    rw [if_pos c]
    obtain ⟨R, a1, a2⟩ := rd_f0 (tx := tx) (ln := ln) rec v0 1 v3 112 M (by omega)
    exact Or.inl ⟨rfl, R, M, a1, a2, h3, hB⟩
  · have hm : ¬ m_may M 112 = 0 := by
      unfold m_may
      rw [if_neg (show ¬ nI 112 = 107 by decide), if_pos (show nI 112 = 112 by decide), hP.2.1, if_neg c]
      decide
    have hle := m_T_le tx ln v0 112 htx hln h0 (by decide)
    have hB1 := rd_itB (wh := 112) (tk := (m_T tx ln v0 112).2.1) (pl := (m_T tx ln v0 112).2.2.1) (fa := -1) htx hln hle.1 hle.2.2.2 hB
    have hI1 := rd_inv htx hln hI hm 1 _ rfl
    have hL : rd_L tx ln (v0, 112, v2, v3) (0, (m_T tx ln v0 112).1, (m_T tx ln v0 112).2.1, (m_T tx ln v0 112).2.2.1, (m_T tx ln v0 112).2.2.2, -1) := ⟨rfl, h0, h2, rd_T htx hln h0 _ _⟩
    have eM : m_itM tx ln 112 (m_T tx ln v0 112).1 (m_T tx ln v0 112).2.1 (m_T tx ln v0 112).2.2.1 (m_T tx ln v0 112).2.2.2 (-1) M = _ := (if_neg (show ¬ 112 = 107 by decide)).trans (if_pos rfl)
    have eR : m_itR tx ln 112 (m_T tx ln v0 112).1 (m_T tx ln v0 112).2.1 (m_T tx ln v0 112).2.2.1 (m_T tx ln v0 112).2.2.2 (-1) = rd_M tx ln [(1, 3), (0, 20), (0, 20)] (0, (m_T tx ln v0 112).1, (m_T tx ln v0 112).2.1, (m_T tx ln v0 112).2.2.1, (m_T tx ln v0 112).2.2.2, -1) := (if_neg (show ¬ 112 = 107 by decide)).trans (if_pos rfl)
    rw [eR] at hI1
    have hs : rd_Sq tx ln rec [(1, 3), (0, 20), (0, 20)] (0, (m_T tx ln v0 112).1, (m_T tx ln v0 112).2.1, (m_T tx ln v0 112).2.2.1, (m_T tx ln v0 112).2.2.2, -1) (m_itM tx ln 112 (m_T tx ln v0 112).1 (m_T tx ln v0 112).2.1 (m_T tx ln v0 112).2.2.1 (m_T tx ln v0 112).2.2.2 (-1) M) (rnL tx ln [(1, 3), (0, 20), (0, 20)] 0 (v0, 112, v2, v3) nm) := rd_seq htx hln rec _ nm hL _
    rw [if_neg hm, rd_let, eR]
    unfold ri_p
    rw [if_neg c]
    refine rd_itm rec hs (fun hv => ?_) hB1 hI1
    rw [hv 0 (by decide), hv 1 (by decide), hv 2 (by decide), eM]
    exact rd_addP hP _ _ _
theorem rd_may1 (M : Nat → Nat → Nat) {wh : Nat} (h : wh = 120 ∨ wh = 111) : ¬ m_may M wh = 0 := by
  unfold m_may
  rcases h with rfl | rfl
  · rw [if_neg (show ¬ nI 120 = 107 by decide), if_neg (show ¬ nI 120 = 112 by decide)]; decide
  · rw [if_neg (show ¬ nI 111 = 107 by decide), if_neg (show ¬ nI 111 = 112 by decide)]; decide
theorem rd_o {α : Type} (htx : ∀ j, tx j < 256) (hln : ln ≤ 180) (rec : rd_Q → (Nat → Nat → Nat) → α) {v0 v2 v3 w : Nat} {nm : Nat → Nat} {g M M0 : Nat → Nat → Nat} (h0 : v0 ≤ ln) (h2 : v2 ≤ 100) (hP : rd_P g M) (hB : rd_B M0 M) (hI : m_I ln (w + 1) v0 1 v3 111 (-1) M) :
    rd_C tx ln rec w M0 (ri_o tx ln v0 v2 v3 nm g) (if m_may M 111 = 0 then m_pl1 tx ln rec (m_tk tx ln 0 v0 1 v3 111 (-1)) M else m_pl1 tx ln rec (m_tk tx ln 1 v0 1 v3 111 (-1)) M) := by
  have hm : ¬ m_may M 111 = 0 := rd_may1 M (Or.inr rfl)
  have hle := m_T_le tx ln v0 111 htx hln h0 (by decide)
  have hB1 := rd_itB (wh := 111) (tk := (m_T tx ln v0 111).2.1) (pl := (m_T tx ln v0 111).2.2.1) (fa := -1) htx hln hle.1 hle.2.2.2 hB
  have hI1 := rd_inv htx hln hI hm 1 _ rfl
  have hL : rd_L tx ln (v0, 111, v2, v3) (0, (m_T tx ln v0 111).1, (m_T tx ln v0 111).2.1, (m_T tx ln v0 111).2.2.1, (m_T tx ln v0 111).2.2.2, -1) := ⟨rfl, h0, h2, rd_T htx hln h0 _ _⟩
  have eM : m_itM tx ln 111 (m_T tx ln v0 111).1 (m_T tx ln v0 111).2.1 (m_T tx ln v0 111).2.2.1 (m_T tx ln v0 111).2.2.2 (-1) M = _ := (if_neg (show ¬ 111 = 107 by decide)).trans ((if_neg (show ¬ 111 = 112 by decide)).trans (if_neg (show ¬ 111 = 120 by decide)))
  have eR : m_itR tx ln 111 (m_T tx ln v0 111).1 (m_T tx ln v0 111).2.1 (m_T tx ln v0 111).2.2.1 (m_T tx ln v0 111).2.2.2 (-1) = rd_M tx ln [(0, 4), (0, 9)] (0, (m_T tx ln v0 111).1, (m_T tx ln v0 111).2.1, (m_T tx ln v0 111).2.2.1, (m_T tx ln v0 111).2.2.2, -1) := (if_neg (show ¬ 111 = 107 by decide)).trans ((if_neg (show ¬ 111 = 112 by decide)).trans (if_neg (show ¬ 111 = 120 by decide)))
  rw [eR] at hI1
  have hs : rd_Sq tx ln rec [(0, 4), (0, 9)] (0, (m_T tx ln v0 111).1, (m_T tx ln v0 111).2.1, (m_T tx ln v0 111).2.2.1, (m_T tx ln v0 111).2.2.2, -1) (m_itM tx ln 111 (m_T tx ln v0 111).1 (m_T tx ln v0 111).2.1 (m_T tx ln v0 111).2.2.1 (m_T tx ln v0 111).2.2.2 (-1) M) (rnL tx ln [(0, 4), (0, 9)] 0 (v0, 111, v2, v3) nm) := rd_seq htx hln rec _ nm hL _
  rw [if_neg hm, rd_let, eR]
  unfold ri_o
  refine rd_itm rec hs (fun hv => ?_) hB1 hI1
  rw [hv 0 (by decide), hv 1 (by decide), eM]
  exact rd_addO hP _ _
theorem rd_257 {cp ct cv cs mp mt mq mv : Nat} (h : rd_R cp ct cv cs mp mt mq mv) (z : nI ct = 257) (hc : ct ≤ 258) : mt = 2 ∧ cv = mv ∧ cs = mq := by
  have e := (nI_eq (a := ct) (b := 257) (by omega) (by omega)).mp z
  rcases h.2.2 with ⟨a1, a2⟩ | ⟨a1, a2, a3, a4⟩ | ⟨a1, a2⟩ | ⟨a1, a2, a3⟩
  · omega
  · exact ⟨a2, a3, h.2.1⟩
  · omega
  · omega
theorem rd_fd (nx tk pl vl : Nat) (fa : Int32) : (¬ nI (m_nbR tx ln 0 4 (0, nx, tk, pl, vl, fa)).2.2.2.2.1 = nI (m_nbR tx ln 0 4 (0, nx, tk, pl, vl, fa)).1 → m_fdR tx ln nx tk pl vl fa = m_nbR tx ln 0 4 (m_nbR tx ln 0 4 (0, nx, tk, pl, vl, fa))) ∧ (nI (m_nbR tx ln 0 4 (0, nx, tk, pl, vl, fa)).2.2.2.2.1 = nI (m_nbR tx ln 0 4 (0, nx, tk, pl, vl, fa)).1 → m_fdR tx ln nx tk pl vl fa = m_tkR tx ln 0 (m_nbR tx ln 0 4 (0, nx, tk, pl, vl, fa))) := by
  have e1 : m_nb tx ln 0 4 nx tk pl vl fa = m_nbR tx ln 0 4 (0, nx, tk, pl, vl, fa) := rfl
  unfold m_fdR
  rw [e1]
  generalize m_nbR tx ln 0 4 (0, nx, tk, pl, vl, fa) = R1
  have e2 : m_nbR tx ln 0 4 R1 = if nI R1.2.2.1 = 2 then (if jin (nI R1.2.2.2.2.1) 0 4 = 0 then m_tkR tx ln 0 R1 else m_tkR tx ln 1 R1) else m_tkR tx ln 0 R1 := rfl
  rw [e2]
  constructor
  · intro h
    split
    · split
      · rfl
      · rfl
    · rfl
  · intro h
    split
    · split
      · rfl
      · rfl
    · rfl
theorem rd_x {α : Type} (htx : ∀ j, tx j < 256) (hln : ln ≤ 180) (rec : rd_Q → (Nat → Nat → Nat) → α) {v0 v2 v3 w : Nat} {nm : Nat → Nat} {g M M0 : Nat → Nat → Nat} (h0 : v0 ≤ ln) (h2 : v2 ≤ 100) (hP : rd_P g M) (hB : rd_B M0 M) (hI : m_I ln (w + 1) v0 1 v3 120 (-1) M) :
    rd_C tx ln rec w M0 (ri_x tx ln v0 v2 v3 nm g) (if m_may M 120 = 0 then m_pl1 tx ln rec (m_tk tx ln 0 v0 1 v3 120 (-1)) M else m_pl1 tx ln rec (m_tk tx ln 1 v0 1 v3 120 (-1)) M) := by
  have hm : ¬ m_may M 120 = 0 := rd_may1 M (Or.inl rfl)
  have hle := m_T_le tx ln v0 120 htx hln h0 (by decide)
  have hB1 := rd_itB (wh := 120) (tk := (m_T tx ln v0 120).2.1) (pl := (m_T tx ln v0 120).2.2.1) (fa := -1) htx hln hle.1 hle.2.2.2 hB
  have hI1 := rd_inv htx hln hI hm 1 _ rfl
  have hL : rd_L tx ln (v0, 120, v2, v3) (0, (m_T tx ln v0 120).1, (m_T tx ln v0 120).2.1, (m_T tx ln v0 120).2.2.1, (m_T tx ln v0 120).2.2.2, -1) := ⟨rfl, h0, h2, rd_T htx hln h0 _ _⟩
  rw [if_neg hm, rd_let]
  generalize m_T tx ln v0 120 = X at hB1 hI1 hL ⊢
  have eM : m_itM tx ln 120 X.1 X.2.1 X.2.2.1 X.2.2.2 (-1) M = va_up M 16 (m_fdF tx ln X.1 X.2.1 X.2.2.1 X.2.2.2 (-1) (M 16)) := (if_neg (show ¬ 120 = 107 by decide)).trans ((if_neg (show ¬ 120 = 112 by decide)).trans (if_pos rfl))
  have eR : m_itR tx ln 120 X.1 X.2.1 X.2.2.1 X.2.2.2 (-1) = m_fdR tx ln X.1 X.2.1 X.2.2.1 X.2.2.2 (-1) := (if_neg (show ¬ 120 = 107 by decide)).trans ((if_neg (show ¬ 120 = 112 by decide)).trans (if_pos rfl))
  have e16 : m_fdF tx ln X.1 X.2.1 X.2.2.1 X.2.2.2 (-1) (M 16) = if (m_well (m_fdR tx ln X.1 X.2.1 X.2.2.1 X.2.2.2 (-1)).2.2.2.2.2) = 0 then M 16 else va_up (va_up (M 16) (5 + (m_nbR tx ln 0 4 (0, X.1, X.2.1, X.2.2.1, X.2.2.2, -1)).1) (M 16 (5 + (m_nbR tx ln 0 4 (0, X.1, X.2.1, X.2.2.1, X.2.2.2, -1)).1) ||| 2 ^ (m_fdR tx ln X.1 X.2.1 X.2.2.1 X.2.2.2 (-1)).1)) (5 + (m_fdR tx ln X.1 X.2.1 X.2.2.1 X.2.2.2 (-1)).1) (va_up (M 16) (5 + (m_nbR tx ln 0 4 (0, X.1, X.2.1, X.2.2.1, X.2.2.2, -1)).1) (M 16 (5 + (m_nbR tx ln 0 4 (0, X.1, X.2.1, X.2.2.1, X.2.2.2, -1)).1) ||| 2 ^ (m_fdR tx ln X.1 X.2.1 X.2.2.1 X.2.2.2 (-1)).1) (5 + (m_fdR tx ln X.1 X.2.1 X.2.2.1 X.2.2.2 (-1)).1) ||| 2 ^ (m_nbR tx ln 0 4 (0, X.1, X.2.1, X.2.2.1, X.2.2.2, -1)).1) := rfl
  rw [eR] at hI1 ⊢
  obtain ⟨f1, f2⟩ := rd_fd (tx := tx) (ln := ln) X.1 X.2.1 X.2.2.1 X.2.2.2 (-1)
  have hn1 := rd_nb htx hln hL 0 4
  dsimp only at hn1
  have hs1 := rd_st htx hln h0 v2
  have hu : rnL tx ln [(0, 4), (0, 4)] 0 (v0, 120, v2, v3) nm = if nI (tk_T tx ln v0 v2).2.1 = 257 then (if jin (nI (tk_T tx ln v0 v2).2.2.1) (nI 0) (nI 4) = 0 then (0, tk_T tx ln v0 v2, nm) else (if nI (tk_T tx ln (tk_T tx ln v0 v2).1 (tk_T tx ln v0 v2).2.2.1).2.1 = 257 then (if jin (nI (tk_T tx ln (tk_T tx ln v0 v2).1 (tk_T tx ln v0 v2).2.2.1).2.2.1) (nI 0) (nI 4) = 0 then (0, tk_T tx ln (tk_T tx ln v0 v2).1 (tk_T tx ln v0 v2).2.2.1, va_up nm 0 (tk_T tx ln v0 v2).2.2.1) else (1, tk_T tx ln (tk_T tx ln v0 v2).1 (tk_T tx ln v0 v2).2.2.1, va_up (va_up nm 0 (tk_T tx ln v0 v2).2.2.1) 1 (tk_T tx ln (tk_T tx ln v0 v2).1 (tk_T tx ln v0 v2).2.2.1).2.2.1)) else (0, tk_T tx ln (tk_T tx ln v0 v2).1 (tk_T tx ln v0 v2).2.2.1, va_up nm 0 (tk_T tx ln v0 v2).2.2.1))) else (0, tk_T tx ln v0 v2, nm) := rfl
  generalize tk_T tx ln v0 v2 = T1 at hn1 hs1 hu
  generalize hR1 : m_nbR tx ln 0 4 (0, X.1, X.2.1, X.2.2.1, X.2.2.2, -1) = R1 at hn1 f1 f2 e16
  generalize hFD : m_fdR tx ln X.1 X.2.1 X.2.2.1 X.2.2.2 (-1) = FD at hI1 f1 f2 e16 ⊢
  generalize hM1 : m_itM tx ln 120 X.1 X.2.1 X.2.2.1 X.2.2.2 (-1) M = M1 at hB1 hI1 eM ⊢
  have bad : ∀ (T : Nat × Nat × Nat × Nat) (q : Nat → Nat) (g9 : Nat → Nat → Nat), T.2.2.2 ≤ ln → FD.2.2.2.2.2 = nI T.2.2.2 → rd_C tx ln rec w M0 (0, T, q, g9) (m_pl2 tx ln rec FD M1) := fun T q g9 k1 k2 => by
    obtain ⟨R3, c1, c2⟩ := rd_pl2n (tx := tx) (ln := ln) rec FD M1 (by rw [k2]; exact m_well_nI (by omega))
    exact Or.inl ⟨rfl, R3, M1, c1, by rw [c2, k2], k1, hB1⟩
  unfold ri_x
  rcases hn1 with ⟨a1, a2, a3, a4⟩ | ⟨a1, a2⟩
  · have hs2 := rd_st htx hln a4.2.1 T1.2.2.1
    have hn2 := rd_nb htx hln a4 0 4
    have h257 := rd_257 a4.2.2.2
    have htok := tk_T_tok tx ln T1.1 T1.2.2.1 htx
    have hpl : (m_tkR tx ln 0 R1).2.2.2.2.2 = nI (tk_T tx ln T1.1 T1.2.2.1).2.2.2 := by
      show (m_tk tx ln 0 R1.2.1 R1.2.2.1 R1.2.2.2.1 R1.2.2.2.2.1 R1.2.2.2.2.2).2.2.2.2.2 = _
      rw [a4.1, rd_tk0, a4.2.2.2.2.1]
    rw [if_pos a1, if_neg a2] at hu
    generalize tk_T tx ln T1.1 T1.2.2.1 = T2 at hs2 hn2 h257 htok hpl hu
    rcases hn2 with ⟨b1, b2, b3, b4⟩ | ⟨b1, b2⟩
    · rw [if_pos b1, if_neg b2] at hu
      rw [hu]
      dsimp only
      rw [if_neg (show ¬ (1 : Int32) = 0 by decide)]
      have hv2 := (h257 b1 htok).2.1
      by_cases q9 : nI (va_up (va_up nm 0 T1.2.2.1) 1 T2.2.2.1 0) = nI (va_up (va_up nm 0 T1.2.2.1) 1 T2.2.2.1 1)
      · rw [if_pos q9]
        have q : nI T1.2.2.1 = nI T2.2.2.1 := q9
        refine bad T2 _ _ hs2 ?_
        rw [f2 (by rw [← hv2, a3, q])]
        exact hpl
      · rw [if_neg q9]
        have q : ¬ nI T1.2.2.1 = nI T2.2.2.1 := q9
        have hF := f1 (fun z => q (by rw [← a3, ← z, hv2]))
        have hs3 := rd_st htx hln b4.2.1 T2.2.2.1
        have hfw : ¬ m_well FD.2.2.2.2.2 = 0 := by rw [hF, b4.1]; decide
        have ha5 := jin_le (a := T1.2.2.1) (b := 0) (c := 4) a4.2.2.1 (by decide) (by decide) a2
        have hb5 := jin_le (a := T2.2.2.1) (b := 0) (c := 4) b4.2.2.1 (by decide) (by decide) b2
        rcases rd_end htx hln b4 with ⟨d1, d2, d3⟩ | ⟨d1, d2, d3⟩
        · rw [if_pos d1]
          refine Or.inr ⟨by show ¬ (1 : Int32) = 0; decide, m_tkR tx ln 1 FD, M1, by rw [m_pl2_s, hF, if_pos d2], by rw [hF]; exact d3, ?_, hB1, hI1⟩
          show rd_P (pl_addF g T1.2.2.1 T2.2.2.1) M1
          rw [eM, e16, if_neg hfw, a3, hF, b3]
          exact rd_addF hP _ _ (by omega) (by omega)
        · rw [if_neg d1]
          exact Or.inl ⟨rfl, m_tkR tx ln 0 FD, M1, by rw [m_pl2_s, hF, if_neg d2], by rw [hF]; exact d3, hs3, hB1⟩
    · have hz : (if nI T2.2.1 = 257 then (if jin (nI T2.2.2.1) (nI 0) (nI 4) = 0 then (0, T2, va_up nm 0 T1.2.2.1) else (1, T2, va_up (va_up nm 0 T1.2.2.1) 1 T2.2.2.1)) else ((0 : Int32), T2, va_up nm 0 T1.2.2.1)) = (0, T2, va_up nm 0 T1.2.2.1) := by
        split
        · rename_i z
          rw [if_pos (b1 z)]
        · rfl
      rw [hz] at hu
      rw [hu]
      dsimp only
      rw [if_pos (show (0 : Int32) = 0 from rfl)]
      refine bad T2 _ _ hs2 ?_
      by_cases q : nI R1.2.2.2.2.1 = nI R1.1
      · rw [f2 q]; exact hpl
      · rw [f1 q]; exact b2
  · have hz : (if nI T1.2.1 = 257 then (if jin (nI T1.2.2.1) (nI 0) (nI 4) = 0 then (0, T1, nm) else (if nI (tk_T tx ln T1.1 T1.2.2.1).2.1 = 257 then (if jin (nI (tk_T tx ln T1.1 T1.2.2.1).2.2.1) (nI 0) (nI 4) = 0 then (0, tk_T tx ln T1.1 T1.2.2.1, va_up nm 0 T1.2.2.1) else (1, tk_T tx ln T1.1 T1.2.2.1, va_up (va_up nm 0 T1.2.2.1) 1 (tk_T tx ln T1.1 T1.2.2.1).2.2.1)) else (0, tk_T tx ln T1.1 T1.2.2.1, va_up nm 0 T1.2.2.1))) else ((0 : Int32), T1, nm)) = (0, T1, nm) := by
      split
      · rename_i z
        rw [if_pos (a1 z)]
      · rfl
    rw [hz] at hu
    rw [hu]
    dsimp only
    rw [if_pos (show (0 : Int32) = 0 from rfl)]
    refine bad T1 _ _ hs1 ?_
    have hw : m_well R1.2.2.2.2.2 = 0 := by rw [a2]; exact m_well_nI (by omega)
    by_cases q : nI R1.2.2.2.2.1 = nI R1.1
    · rw [f2 q]
      show (m_tk tx ln 0 R1.2.1 R1.2.2.1 R1.2.2.2.1 R1.2.2.2.2.1 R1.2.2.2.2.2).2.2.2.2.2 = _
      rw [rd_tkn hw]
      exact a2
    · rw [f1 q, rd_nbn R1 hw]
      exact a2
theorem rd_step {α : Type} (htx : ∀ j, tx j < 256) (hln : ln ≤ 180) (rec : rd_Q → (Nat → Nat → Nat) → α) {v0 v1 v2 v3 nx tk pl vl w : Nat} {nm : Nat → Nat} {g M M0 : Nat → Nat → Nat} (hR : rd_R v0 v1 v2 v3 nx tk pl vl) (hne : ¬ v1 = 256) (h0 : v0 ≤ ln) (h3 : v3 ≤ ln) (h2 : v2 ≤ 100) (hP : rd_P g M) (hB : rd_B M0 M) (hI : m_I ln (w + 1) nx tk pl vl (-1) M) :
    rd_C tx ln rec w M0 (ri tx ln v0 v1 v2 v3 nm g) (if (nI tk) = 1 then (if (m_may M vl) = 0 then m_pl1 tx ln rec (m_tk tx ln 0 nx tk pl vl (-1)) M else m_pl1 tx ln rec (m_tk tx ln 1 nx tk pl vl (-1)) M) else m_pl1 tx ln rec (m_tk tx ln 0 nx tk pl vl (-1)) M) := by
  obtain ⟨e1, e2, hc⟩ := hR
  subst e1
  subst e2
  have bad : ¬ nI tk = 1 → ¬ v1 = 107 → ¬ v1 = 111 → ¬ v1 = 112 → ¬ v1 = 120 → rd_C tx ln rec w M0 (ri tx ln v0 v1 v2 v3 nm g) (if (nI tk) = 1 then (if (m_may M vl) = 0 then m_pl1 tx ln rec (m_tk tx ln 0 v0 tk v3 vl (-1)) M else m_pl1 tx ln rec (m_tk tx ln 1 v0 tk v3 vl (-1)) M) else m_pl1 tx ln rec (m_tk tx ln 0 v0 tk v3 vl (-1)) M) := fun k1 k2 k3 k4 k5 => by
    rw [if_neg k1]
    unfold ri
    rw [if_neg k2, if_neg k3, if_neg k4, if_neg k5]
    obtain ⟨R, c1, c2⟩ := rd_f0 (tx := tx) (ln := ln) rec v0 tk v3 vl M (by omega)
    exact Or.inl ⟨rfl, R, M, c1, c2, h3, hB⟩
  rcases hc with ⟨a1, a2⟩ | ⟨a1, a2, a3, a4⟩ | ⟨a1, a2⟩ | ⟨a1, a2, a3⟩
  · exact absurd a1 hne
  · exact bad (by rw [a2]; decide) (by omega) (by omega) (by omega) (by omega)
  · exact bad (by rw [a2]; decide) (by omega) (by omega) (by omega) (by omega)
  · rcases rd_kind v1 a1 with ⟨k1, k⟩ | ⟨k1, k⟩ | ⟨k1, k2, k3, k4, k5, k⟩
    · exact bad (by rw [a3, k]; decide) (by omega) (by omega) (by omega) (by omega)
    · rw [k] at a3
      subst a3
      subst a2
      rw [if_pos (show nI 1 = 1 by decide)]
      unfold ri
      rcases k1 with rfl | rfl | rfl | rfl
      · rw [if_pos rfl]
        exact rd_k htx hln rec h0 h3 h2 hP hB hI
      · rw [if_neg (by decide), if_neg (by decide), if_pos rfl]
        exact rd_p htx hln rec h0 h3 h2 hP hB hI
      · rw [if_neg (by decide), if_neg (by decide), if_neg (by decide), if_pos rfl]
        exact rd_x htx hln rec h0 h2 hP hB hI
      · rw [if_neg (by decide), if_pos rfl]
        exact rd_o htx hln rec h0 h2 hP hB hI
    · exact bad (by rw [a3, k]; decide) k2 k5 k3 k4
theorem rd_loop (htx : ∀ j, tx j < 256) (hln : ln ≤ 180) (M0 : Nat → Nat → Nat) : ∀ (u v0 v1 v2 v3 v4 : Nat) (nm : Nat → Nat) (g : Nat → Nat → Nat) (nx tk pl vl : Nat) (M : Nat → Nat → Nat), rd_R v0 v1 v2 v3 nx tk pl vl → v0 ≤ ln → v2 ≤ 100 → v3 ≤ ln → m_I ln (u + 1) nx tk pl vl (-1) M → v4 + u = 181 → rd_P g M → rd_B M0 M →
    ((rl tx ln u v0 v1 v2 v3 v4 nm g).1 = 0 ∧ m_well (m_pl tx ln (u + 1) v4 nx tk pl vl (-1) M).2.2.2.2.2.1 = 0 ∧ (m_pl tx ln (u + 1) v4 nx tk pl vl (-1) M).2.2.2.2.2.1 = nI (rl tx ln u v0 v1 v2 v3 v4 nm g).2.2.1.2.2.2 ∧ rd_B M0 (m_pl tx ln (u + 1) v4 nx tk pl vl (-1) M).2.2.2.2.2.2)
    ∨ (¬ (rl tx ln u v0 v1 v2 v3 v4 nm g).1 = 0 ∧ ¬ m_well (m_pl tx ln (u + 1) v4 nx tk pl vl (-1) M).2.2.2.2.2.1 = 0 ∧ (m_pl tx ln (u + 1) v4 nx tk pl vl (-1) M).1 = (rl tx ln u v0 v1 v2 v3 v4 nm g).2.1 ∧ rd_P (rl tx ln u v0 v1 v2 v3 v4 nm g).2.2.2.2 (m_pl tx ln (u + 1) v4 nx tk pl vl (-1) M).2.2.2.2.2.2 ∧ rd_B M0 (m_pl tx ln (u + 1) v4 nx tk pl vl (-1) M).2.2.2.2.2.2)
  | 0, v0, v1, v2, v3, v4, nm, g, nx, tk, pl, vl, M, hR, h0, h2, h3, hI, hu, hP, hB => by
    have := hI.2.2.2 (by decide)
    have := hI.1.1
    have := hI.1.2.1
    omega
  | u + 1, v0, v1, v2, v3, v4, nm, g, nx, tk, pl, vl, M, hR, h0, h2, h3, hI, hu, hP, hB => by
    have hw := hI.2.2.2 (by decide)
    have hnx := hI.1.1
    have hpl := hI.1.2.1
    rw [rl_s, m_pl_s, if_neg (show ¬ m_well (-1) = 0 by decide)]
    by_cases hE : v1 = 256
    · have ht0 : tk = 0 := by
        rcases hR.2.2 with ⟨a1, a2⟩ | ⟨a1, a2, a3, a4⟩ | ⟨a1, a2⟩ | ⟨a1, a2, a3⟩
        · exact a2
        · omega
        · omega
        · omega
      rw [if_pos (show nI v1 = 256 by rw [hE]; decide), if_pos (show nI tk = 0 by rw [ht0]; decide)]
      exact Or.inr ⟨by show ¬ (1 : Int32) = 0; decide, by show ¬ m_well (-1) = 0; decide, rfl, hP, hB⟩
    · have htk : ¬ tk = 0 := by
        rcases hR.2.2 with ⟨a1, a2⟩ | ⟨a1, a2, a3, a4⟩ | ⟨a1, a2⟩ | ⟨a1, a2, a3⟩
        · omega
        · omega
        · omega
        · rcases rd_kind v1 a1 with ⟨-, k⟩ | ⟨-, k⟩ | ⟨-, -, -, -, -, k⟩ <;> omega
      have htk4 : tk ≤ 4 := hI.1.2.2.2.1
      have hv1 : v1 ≤ 258 := by
        rcases hR.2.2 with ⟨a1, a2⟩ | ⟨a1, a2, a3, a4⟩ | ⟨a1, a2⟩ | ⟨a1, a2, a3⟩ <;> omega
      have hlt := hI.1.2.2.2.2 htk
      have n1 : ¬ nI v1 = 256 := fun z => hE ((nI_eq (a := v1) (b := 256) (by omega) (by omega)).mp z)
      have n2 : ¬ nI tk = 0 := fun z => htk ((nI_eq (a := tk) (b := 0) (by omega) (by omega)).mp z)
      have n3 : ¬ (180 : Int32) ≤ nI v4 := fun z => by have := (nI_leI (a := 180) (b := v4) (by omega) (by omega)).mp z; omega
      rw [if_neg n1, if_neg n2, if_neg n3]
      have hs := rd_step htx hln (fun R M => m_pl tx ln (u + 1) (v4 + 1) R.2.1 R.2.2.1 R.2.2.2.1 R.2.2.2.2.1 R.2.2.2.2.2 M) (nm := nm) (w := u + 1) hR hE h0 h3 h2 hP hB hI
      rcases hs with ⟨a1, R, M1, a2, a3, a4, a5⟩ | ⟨a1, R, M1, a2, a3, a4, a5, a6⟩
      · rw [if_pos a1, a2]
        dsimp only
        have hwl : m_well R.2.2.2.2.2 = 0 := by rw [a3]; exact m_well_nI (by omega)
        rw [m_pl_s, if_pos hwl]
        exact Or.inl ⟨rfl, hwl, a3, a5⟩
      · rw [if_neg a1, a2]
        dsimp only
        have hfa := a3.1
        have hs9 := rd_st htx hln a3.2.1 (ri tx ln v0 v1 v2 v3 nm g).2.1.2.2.1
        rw [hfa] at a6 ⊢
        exact rd_loop htx hln M0 u _ _ _ _ (v4 + 1) _ _ R.2.1 R.2.2.1 R.2.2.2.1 R.2.2.2.2.1 M1 a3.2.2.2 (tk_T_le tx ln _ _ htx hln a3.2.1) (tk_T_vl tx ln _ _ htx hln a3.2.1 a3.2.2.1) hs9 a6 (by omega) a4 a5
end RE
