/-- an item, whose first token is read -/
def ri (tx : Nat → Nat) (ln pl tok vl st : Nat) (nm : Nat → Nat) (g : Nat → Nat → Nat) : Int32 × (Nat × Nat × Nat × Nat) × (Nat → Nat) × (Nat → Nat → Nat) :=
  if tok = 107 then ri_k tx ln pl vl st nm g else if tok = 111 then ri_o tx ln pl vl st nm g else if tok = 112 then ri_p tx ln pl vl st nm g else if tok = 120 then ri_x tx ln pl vl st nm g else (0, (pl, tok, vl, st), nm, g)
/-- what a parish holds, whatever was read -/
def gOK (g : Nat → Nat → Nat) : Prop := (g 0 0 ≤ 9 ∧ g 0 1 ≤ 6) ∧ ∀ j, g 1 j ≤ 1 ∧ g 2 j ≤ 4 ∧ g 3 j ≤ 60 ∧ g 4 j ≤ 3 ∧ g 5 j ≤ 20 ∧ g 6 j ≤ 20 ∧ g 7 j < 32 ∧ g 8 j ≤ 9
theorem up_le {f : Nat → Nat} {c : Nat} (h : ∀ j, f j ≤ c) (k v : Nat) (hv : v ≤ c) : ∀ j, va_up f k v j ≤ c := by
  intro j
  unfold va_up
  split
  · exact hv
  · exact h j
theorem up_lt {f : Nat → Nat} {c : Nat} (h : ∀ j, f j < c) (k v : Nat) (hv : v < c) : ∀ j, va_up f k v j < c := by
  intro j
  unfold va_up
  split
  · exact hv
  · exact h j
theorem gOK.desert {g : Nat → Nat → Nat} (h : gOK g) : gOK (pl_desert g) := by
  refine ⟨⟨Nat.zero_le _, Nat.zero_le _⟩, fun j => ?_⟩
  obtain ⟨h1, h2, h3, h4, h5, h6, h7, h8⟩ := h.2 j
  exact ⟨h1, h2, h3, h4, h5, h6, (by decide : 0 < 32), (by decide : 1 ≤ 9)⟩
theorem gOK.addK {g : Nat → Nat → Nat} (h : gOK g) (hn : g 0 0 < 9) {s1 f1 n1 : Nat} (hs : s1 ≤ 1) (hf : f1 ≤ 4) (hz : n1 ≤ 60) : gOK (pl_addK g s1 f1 n1) := by
  refine ⟨⟨hn, h.1.2⟩, fun j => ?_⟩
  obtain ⟨h1, h2, h3, h4, h5, h6, h7, h8⟩ := h.2 j
  exact ⟨up_le (fun j => (h.2 j).1) _ _ hs j, up_le (fun j => (h.2 j).2.1) _ _ hf j, up_le (fun j => (h.2 j).2.2.1) _ _ hz j, h4, h5, h6, h7, h8⟩
theorem gOK.addP {g : Nat → Nat → Nat} (h : gOK g) (hn : g 0 1 < 6) {s1 f1 n1 : Nat} (hs : s1 ≤ 3) (hf : f1 ≤ 20) (hz : n1 ≤ 20) : gOK (pl_addP g s1 f1 n1) := by
  refine ⟨⟨h.1.1, hn⟩, fun j => ?_⟩
  obtain ⟨h1, h2, h3, h4, h5, h6, h7, h8⟩ := h.2 j
  exact ⟨h1, h2, h3, up_le (fun j => (h.2 j).2.2.2.1) _ _ hs j, up_le (fun j => (h.2 j).2.2.2.2.1) _ _ hf j, up_le (fun j => (h.2 j).2.2.2.2.2.1) _ _ hz j, h7, h8⟩
theorem or_lt32 {x k : Nat} (hx : x < 32) (hk : k < 5) : x ||| 2 ^ k < 32 := Nat.or_lt_two_pow (n := 5) hx (Nat.pow_lt_pow_right (by decide) hk)
theorem gOK.addF {g : Nat → Nat → Nat} (h : gOK g) {a1 b1 : Nat} (ha : a1 < 5) (hb : b1 < 5) : gOK (pl_addF g a1 b1) := by
  refine ⟨h.1, fun j => ?_⟩
  obtain ⟨h1, h2, h3, h4, h5, h6, h7, h8⟩ := h.2 j
  have k7 : ∀ j, va_up (g 7) a1 (g 7 a1 ||| 2 ^ b1) j < 32 := up_lt (fun j => (h.2 j).2.2.2.2.2.2.1) _ _ (or_lt32 (h.2 a1).2.2.2.2.2.2.1 hb)
  exact ⟨h1, h2, h3, h4, h5, h6, up_lt k7 _ _ (or_lt32 (k7 b1) ha) j, h8⟩
theorem gOK.oil {g : Nat → Nat → Nat} (h : gOK g) {a1 b1 : Nat} (hb : b1 ≤ 9) : gOK (va_up g 8 (va_up (g 8) a1 b1)) := by
  refine ⟨h.1, fun j => ?_⟩
  obtain ⟨h1, h2, h3, h4, h5, h6, h7, h8⟩ := h.2 j
  exact ⟨h1, h2, h3, h4, h5, h6, h7, up_le (fun j => (h.2 j).2.2.2.2.2.2.2) _ _ hb j⟩
theorem tk_T_tok (tx : Nat → Nat) (ln pl vl : Nat) (htx : ∀ j, tx j < 256) : (tk_T tx ln pl vl).2.1 ≤ 258 := by
  unfold tk_T tk_U
  split
  · split
    · exact Nat.le_of_lt (Nat.lt_trans (htx _) (by decide))
    · show tk_tok _ _ _ _ ≤ 258
      unfold tk_tok
      repeat' split
      all_goals decide
  · exact (by decide : 256 ≤ 258)

theorem ri_k_ok (tx : Nat → Nat) (ln pl vl st : Nat) (nm : Nat → Nat) (g : Nat → Nat → Nat) (htx : ∀ j, tx j < 256) (hln : ln ≤ 180) (hpl : pl ≤ ln) (hvl : vl ≤ 100) (hg : gOK g) : (ri_k tx ln pl vl st nm g).2.1.1 ≤ ln ∧ (ri_k tx ln pl vl st nm g).2.1.2.2.1 ≤ 100 ∧ gOK (ri_k tx ln pl vl st nm g).2.2.2 := by
  have hR := rnL_le tx ln htx hln [(0, 1), (0, 4), (1, 60)] 0 (pl, 107, vl, st) nm hpl hvl
  have hO := rnL_ok tx ln htx hln [(0, 1), (0, 4), (1, 60)] 0 (pl, 107, vl, st) nm hpl hvl
  have hT1 := tk_T_le tx ln (rnL tx ln [(0, 1), (0, 4), (1, 60)] 0 (pl, 107, vl, st) nm).2.1.1 (rnL tx ln [(0, 1), (0, 4), (1, 60)] 0 (pl, 107, vl, st) nm).2.1.2.2.1 htx hln hR.1
  have hT2 := tk_T_vl tx ln (rnL tx ln [(0, 1), (0, 4), (1, 60)] 0 (pl, 107, vl, st) nm).2.1.1 (rnL tx ln [(0, 1), (0, 4), (1, 60)] 0 (pl, 107, vl, st) nm).2.1.2.2.1 htx hln hR.1 hR.2
  unfold ri_k
  split
  · exact ⟨hpl, hvl, hg⟩
  · rename_i hc
    have hlt : g 0 0 < 9 := Nat.not_le.mp (fun z => hc (nI_le z (by have := hg.1; omega)))
    split
    · exact ⟨hR.1, hR.2, hg⟩
    · rename_i hc2
      have hO0 := jin_le (b := 0) (c := 1) (hO hc2 0 (0, 1) rfl).2 (by omega) (by omega) (hO hc2 0 (0, 1) rfl).1
      rw [Nat.zero_add] at hO0
      have hO1 := jin_le (b := 0) (c := 4) (hO hc2 1 (0, 4) rfl).2 (by omega) (by omega) (hO hc2 1 (0, 4) rfl).1
      rw [Nat.zero_add] at hO1
      have hO2 := jin_le (b := 1) (c := 60) (hO hc2 2 (1, 60) rfl).2 (by omega) (by omega) (hO hc2 2 (1, 60) rfl).1
      rw [Nat.zero_add] at hO2
      split <;> exact ⟨hT1, hT2, hg.addK hlt hO0.2 hO1.2 hO2.2⟩

theorem ri_p_ok (tx : Nat → Nat) (ln pl vl st : Nat) (nm : Nat → Nat) (g : Nat → Nat → Nat) (htx : ∀ j, tx j < 256) (hln : ln ≤ 180) (hpl : pl ≤ ln) (hvl : vl ≤ 100) (hg : gOK g) : (ri_p tx ln pl vl st nm g).2.1.1 ≤ ln ∧ (ri_p tx ln pl vl st nm g).2.1.2.2.1 ≤ 100 ∧ gOK (ri_p tx ln pl vl st nm g).2.2.2 := by
  have hR := rnL_le tx ln htx hln [(1, 3), (0, 20), (0, 20)] 0 (pl, 112, vl, st) nm hpl hvl
  have hO := rnL_ok tx ln htx hln [(1, 3), (0, 20), (0, 20)] 0 (pl, 112, vl, st) nm hpl hvl
  have hT1 := tk_T_le tx ln (rnL tx ln [(1, 3), (0, 20), (0, 20)] 0 (pl, 112, vl, st) nm).2.1.1 (rnL tx ln [(1, 3), (0, 20), (0, 20)] 0 (pl, 112, vl, st) nm).2.1.2.2.1 htx hln hR.1
  have hT2 := tk_T_vl tx ln (rnL tx ln [(1, 3), (0, 20), (0, 20)] 0 (pl, 112, vl, st) nm).2.1.1 (rnL tx ln [(1, 3), (0, 20), (0, 20)] 0 (pl, 112, vl, st) nm).2.1.2.2.1 htx hln hR.1 hR.2
  unfold ri_p
  split
  · exact ⟨hpl, hvl, hg⟩
  · rename_i hc
    have hlt : g 0 1 < 6 := Nat.not_le.mp (fun z => hc (nI_le z (by have := hg.1; omega)))
    split
    · exact ⟨hR.1, hR.2, hg⟩
    · rename_i hc2
      have hO0 := jin_le (b := 1) (c := 3) (hO hc2 0 (1, 3) rfl).2 (by omega) (by omega) (hO hc2 0 (1, 3) rfl).1
      rw [Nat.zero_add] at hO0
      have hO1 := jin_le (b := 0) (c := 20) (hO hc2 1 (0, 20) rfl).2 (by omega) (by omega) (hO hc2 1 (0, 20) rfl).1
      rw [Nat.zero_add] at hO1
      have hO2 := jin_le (b := 0) (c := 20) (hO hc2 2 (0, 20) rfl).2 (by omega) (by omega) (hO hc2 2 (0, 20) rfl).1
      rw [Nat.zero_add] at hO2
      split <;> exact ⟨hT1, hT2, hg.addP hlt hO0.2 hO1.2 hO2.2⟩

theorem ri_x_ok (tx : Nat → Nat) (ln pl vl st : Nat) (nm : Nat → Nat) (g : Nat → Nat → Nat) (htx : ∀ j, tx j < 256) (hln : ln ≤ 180) (hpl : pl ≤ ln) (hvl : vl ≤ 100) (hg : gOK g) : (ri_x tx ln pl vl st nm g).2.1.1 ≤ ln ∧ (ri_x tx ln pl vl st nm g).2.1.2.2.1 ≤ 100 ∧ gOK (ri_x tx ln pl vl st nm g).2.2.2 := by
  have hR := rnL_le tx ln htx hln [(0, 4), (0, 4)] 0 (pl, 120, vl, st) nm hpl hvl
  have hO := rnL_ok tx ln htx hln [(0, 4), (0, 4)] 0 (pl, 120, vl, st) nm hpl hvl
  have hT1 := tk_T_le tx ln (rnL tx ln [(0, 4), (0, 4)] 0 (pl, 120, vl, st) nm).2.1.1 (rnL tx ln [(0, 4), (0, 4)] 0 (pl, 120, vl, st) nm).2.1.2.2.1 htx hln hR.1
  have hT2 := tk_T_vl tx ln (rnL tx ln [(0, 4), (0, 4)] 0 (pl, 120, vl, st) nm).2.1.1 (rnL tx ln [(0, 4), (0, 4)] 0 (pl, 120, vl, st) nm).2.1.2.2.1 htx hln hR.1 hR.2
  unfold ri_x
  split
  · exact ⟨hR.1, hR.2, hg⟩
  · rename_i hc2
    have hO0 := jin_le (b := 0) (c := 4) (hO hc2 0 (0, 4) rfl).2 (by omega) (by omega) (hO hc2 0 (0, 4) rfl).1
    rw [Nat.zero_add] at hO0
    have hO1 := jin_le (b := 0) (c := 4) (hO hc2 1 (0, 4) rfl).2 (by omega) (by omega) (hO hc2 1 (0, 4) rfl).1
    rw [Nat.zero_add] at hO1
    split
    · exact ⟨hR.1, hR.2, hg⟩
    · split <;> exact ⟨hT1, hT2, hg.addF (by omega) (by omega)⟩

theorem ri_o_ok (tx : Nat → Nat) (ln pl vl st : Nat) (nm : Nat → Nat) (g : Nat → Nat → Nat) (htx : ∀ j, tx j < 256) (hln : ln ≤ 180) (hpl : pl ≤ ln) (hvl : vl ≤ 100) (hg : gOK g) : (ri_o tx ln pl vl st nm g).2.1.1 ≤ ln ∧ (ri_o tx ln pl vl st nm g).2.1.2.2.1 ≤ 100 ∧ gOK (ri_o tx ln pl vl st nm g).2.2.2 := by
  have hR := rnL_le tx ln htx hln [(0, 4), (0, 9)] 0 (pl, 111, vl, st) nm hpl hvl
  have hO := rnL_ok tx ln htx hln [(0, 4), (0, 9)] 0 (pl, 111, vl, st) nm hpl hvl
  have hT1 := tk_T_le tx ln (rnL tx ln [(0, 4), (0, 9)] 0 (pl, 111, vl, st) nm).2.1.1 (rnL tx ln [(0, 4), (0, 9)] 0 (pl, 111, vl, st) nm).2.1.2.2.1 htx hln hR.1
  have hT2 := tk_T_vl tx ln (rnL tx ln [(0, 4), (0, 9)] 0 (pl, 111, vl, st) nm).2.1.1 (rnL tx ln [(0, 4), (0, 9)] 0 (pl, 111, vl, st) nm).2.1.2.2.1 htx hln hR.1 hR.2
  unfold ri_o
  split
  · exact ⟨hR.1, hR.2, hg⟩
  · rename_i hc2
    have hO0 := jin_le (b := 0) (c := 4) (hO hc2 0 (0, 4) rfl).2 (by omega) (by omega) (hO hc2 0 (0, 4) rfl).1
    rw [Nat.zero_add] at hO0
    have hO1 := jin_le (b := 0) (c := 9) (hO hc2 1 (0, 9) rfl).2 (by omega) (by omega) (hO hc2 1 (0, 9) rfl).1
    rw [Nat.zero_add] at hO1
    split <;> exact ⟨hT1, hT2, hg.oil hO1.2⟩

theorem ri_ok (tx : Nat → Nat) (ln pl tok vl st : Nat) (nm : Nat → Nat) (g : Nat → Nat → Nat) (htx : ∀ j, tx j < 256) (hln : ln ≤ 180) (hpl : pl ≤ ln) (hvl : vl ≤ 100) (hg : gOK g) : (ri tx ln pl tok vl st nm g).2.1.1 ≤ ln ∧ (ri tx ln pl tok vl st nm g).2.1.2.2.1 ≤ 100 ∧ gOK (ri tx ln pl tok vl st nm g).2.2.2 := by
  unfold ri
  split
  · exact ri_k_ok tx ln pl vl st nm g htx hln hpl hvl hg
  · split
    · exact ri_o_ok tx ln pl vl st nm g htx hln hpl hvl hg
    · split
      · exact ri_p_ok tx ln pl vl st nm g htx hln hpl hvl hg
      · split
        · exact ri_x_ok tx ln pl vl st nm g htx hln hpl hvl hg
        · exact ⟨hpl, hvl, hg⟩

set_option maxHeartbeats 4000000 in
set_option maxRecDepth 100000 in
theorem c_X5_readsItem_e (l : Launch) (D : va_G) (cI cC cZ cN : ClassId) (ts t tx nm : Nat → Nat) (a : Nat → Nat) (g : Nat → Nat → Nat) (ln pl tok vl st it : Nat) (htk : tok ≤ 258) (hq107 : ¬ tok = 107) (hq111 : ¬ tok = 111) (hq112 : ¬ tok = 112) (hq120 : ¬ tok = 120) (hD0 : va_D (fun _ => True) [((t 2), .inr (5, [.ref (t 1), .int (nI ln), .int (nI pl), .ref (a 0), .ref (t 3), .int (nI tok), .int (nI vl), .int (nI st), .int (nI it)])), ((t 1), .inl (cC, 180, .inl (fun j => nI (tx j)))), ((t 3), .inl (cI, 3, .inl (fun j => nI (nm j)))), ((a 0), .inr (4, [.int (nI (g 0 0)), .ref (a 1), .ref (a 2), .ref (a 3), .int (nI (g 0 1)), .ref (a 4), .ref (a 5), .ref (a 6), .ref (a 7), .ref (a 8), .ref (a 9), .int (nI (g 0 2))])), ((a 1), .inl (cI, 9, .inl (fun j => nI ((g 1) j)))), ((a 2), .inl (cI, 9, .inl (fun j => nI ((g 2) j)))), ((a 3), .inl (cI, 9, .inl (fun j => nI ((g 3) j)))), ((a 4), .inl (cI, 6, .inl (fun j => nI ((g 4) j)))), ((a 5), .inl (cI, 6, .inl (fun j => nI ((g 5) j)))), ((a 6), .inl (cI, 6, .inl (fun j => nI ((g 6) j)))), ((a 7), .inl (cI, 5, .inl (fun j => nI ((g 7) j)))), ((a 8), .inl (cI, 5, .inl (fun j => nI ((g 8) j)))), ((a 9), .inl (cI, 5, .inl (fun j => ly_h ((g 9) j))))]) : Met l yX5_readsItem wsX5_readsItem (ly_rm 5) (ly_PreX D (ly_tys cI cC cZ cN) [((t 2), .inr (5, [.ref (t 1), .int (nI ln), .int (nI pl), .ref (a 0), .ref (t 3), .int (nI tok), .int (nI vl), .int (nI st), .int (nI it)])), ((t 1), .inl (cC, 180, .inl (fun j => nI (tx j)))), ((t 3), .inl (cI, 3, .inl (fun j => nI (nm j)))), ((a 0), .inr (4, [.int (nI (g 0 0)), .ref (a 1), .ref (a 2), .ref (a 3), .int (nI (g 0 1)), .ref (a 4), .ref (a 5), .ref (a 6), .ref (a 7), .ref (a 8), .ref (a 9), .int (nI (g 0 2))])), ((a 1), .inl (cI, 9, .inl (fun j => nI ((g 1) j)))), ((a 2), .inl (cI, 9, .inl (fun j => nI ((g 2) j)))), ((a 3), .inl (cI, 9, .inl (fun j => nI ((g 3) j)))), ((a 4), .inl (cI, 6, .inl (fun j => nI ((g 4) j)))), ((a 5), .inl (cI, 6, .inl (fun j => nI ((g 5) j)))), ((a 6), .inl (cI, 6, .inl (fun j => nI ((g 6) j)))), ((a 7), .inl (cI, 5, .inl (fun j => nI ((g 7) j)))), ((a 8), .inl (cI, 5, .inl (fun j => nI ((g 8) j)))), ((a 9), .inl (cI, 5, .inl (fun j => ly_h ((g 9) j))))] [.ref (t 2)] (st_Z ts (ly_in [((t 2), .inr (5, [.ref (t 1), .int (nI ln), .int (nI pl), .ref (a 0), .ref (t 3), .int (nI tok), .int (nI vl), .int (nI st), .int (nI it)])), ((t 1), .inl (cC, 180, .inl (fun j => nI (tx j)))), ((t 3), .inl (cI, 3, .inl (fun j => nI (nm j)))), ((a 0), .inr (4, [.int (nI (g 0 0)), .ref (a 1), .ref (a 2), .ref (a 3), .int (nI (g 0 1)), .ref (a 4), .ref (a 5), .ref (a 6), .ref (a 7), .ref (a 8), .ref (a 9), .int (nI (g 0 2))])), ((a 1), .inl (cI, 9, .inl (fun j => nI ((g 1) j)))), ((a 2), .inl (cI, 9, .inl (fun j => nI ((g 2) j)))), ((a 3), .inl (cI, 9, .inl (fun j => nI ((g 3) j)))), ((a 4), .inl (cI, 6, .inl (fun j => nI ((g 4) j)))), ((a 5), .inl (cI, 6, .inl (fun j => nI ((g 5) j)))), ((a 6), .inl (cI, 6, .inl (fun j => nI ((g 6) j)))), ((a 7), .inl (cI, 5, .inl (fun j => nI ((g 7) j)))), ((a 8), .inl (cI, 5, .inl (fun j => nI ((g 8) j)))), ((a 9), .inl (cI, 5, .inl (fun j => ly_h ((g 9) j))))]))) (ly_Q D [((t 2), .inr (5, [.ref (t 1), .int (nI ln), .int (nI pl), .ref (a 0), .ref (t 3), .int (nI tok), .int (nI vl), .int (nI st), .int (nI it)])), ((t 1), .inl (cC, 180, .inl (fun j => nI (tx j)))), ((t 3), .inl (cI, 3, .inl (fun j => nI (nm j)))), ((a 0), .inr (4, [.int (nI (g 0 0)), .ref (a 1), .ref (a 2), .ref (a 3), .int (nI (g 0 1)), .ref (a 4), .ref (a 5), .ref (a 6), .ref (a 7), .ref (a 8), .ref (a 9), .int (nI (g 0 2))])), ((a 1), .inl (cI, 9, .inl (fun j => nI ((g 1) j)))), ((a 2), .inl (cI, 9, .inl (fun j => nI ((g 2) j)))), ((a 3), .inl (cI, 9, .inl (fun j => nI ((g 3) j)))), ((a 4), .inl (cI, 6, .inl (fun j => nI ((g 4) j)))), ((a 5), .inl (cI, 6, .inl (fun j => nI ((g 5) j)))), ((a 6), .inl (cI, 6, .inl (fun j => nI ((g 6) j)))), ((a 7), .inl (cI, 5, .inl (fun j => nI ((g 7) j)))), ((a 8), .inl (cI, 5, .inl (fun j => nI ((g 8) j)))), ((a 9), .inl (cI, 5, .inl (fun j => ly_h ((g 9) j))))] (fun r_9 w_9 => r_9 = some (.int (ri tx ln pl tok vl st nm g).1) ∧ w_9 = [((t 2), .inr (5, [.ref (t 1), .int (nI ln), .int (nI ((ri tx ln pl tok vl st nm g).2.1.1)), .ref (a 0), .ref (t 3), .int (nI ((ri tx ln pl tok vl st nm g).2.1.2.1)), .int (nI ((ri tx ln pl tok vl st nm g).2.1.2.2.1)), .int (nI ((ri tx ln pl tok vl st nm g).2.1.2.2.2)), .int (nI it)])), ((t 1), .inl (cC, 180, .inl (fun j => nI (tx j)))), ((t 3), .inl (cI, 3, .inl (fun j => nI ((ri tx ln pl tok vl st nm g).2.2.1 j)))), ((a 0), .inr (4, [.int (nI ((ri tx ln pl tok vl st nm g).2.2.2 0 0)), .ref (a 1), .ref (a 2), .ref (a 3), .int (nI ((ri tx ln pl tok vl st nm g).2.2.2 0 1)), .ref (a 4), .ref (a 5), .ref (a 6), .ref (a 7), .ref (a 8), .ref (a 9), .int (nI ((ri tx ln pl tok vl st nm g).2.2.2 0 2))])), ((a 1), .inl (cI, 9, .inl (fun j => nI (((ri tx ln pl tok vl st nm g).2.2.2 1) j)))), ((a 2), .inl (cI, 9, .inl (fun j => nI (((ri tx ln pl tok vl st nm g).2.2.2 2) j)))), ((a 3), .inl (cI, 9, .inl (fun j => nI (((ri tx ln pl tok vl st nm g).2.2.2 3) j)))), ((a 4), .inl (cI, 6, .inl (fun j => nI (((ri tx ln pl tok vl st nm g).2.2.2 4) j)))), ((a 5), .inl (cI, 6, .inl (fun j => nI (((ri tx ln pl tok vl st nm g).2.2.2 5) j)))), ((a 6), .inl (cI, 6, .inl (fun j => nI (((ri tx ln pl tok vl st nm g).2.2.2 6) j)))), ((a 7), .inl (cI, 5, .inl (fun j => nI (((ri tx ln pl tok vl st nm g).2.2.2 7) j)))), ((a 8), .inl (cI, 5, .inl (fun j => nI (((ri tx ln pl tok vl st nm g).2.2.2 8) j)))), ((a 9), .inl (cI, 5, .inl (fun j => ly_h (((ri tx ln pl tok vl st nm g).2.2.2 9) j))))])) 0 0 (ly_in [((t 2), .inr (5, [.ref (t 1), .int (nI ln), .int (nI pl), .ref (a 0), .ref (t 3), .int (nI tok), .int (nI vl), .int (nI st), .int (nI it)])), ((t 1), .inl (cC, 180, .inl (fun j => nI (tx j)))), ((t 3), .inl (cI, 3, .inl (fun j => nI (nm j)))), ((a 0), .inr (4, [.int (nI (g 0 0)), .ref (a 1), .ref (a 2), .ref (a 3), .int (nI (g 0 1)), .ref (a 4), .ref (a 5), .ref (a 6), .ref (a 7), .ref (a 8), .ref (a 9), .int (nI (g 0 2))])), ((a 1), .inl (cI, 9, .inl (fun j => nI ((g 1) j)))), ((a 2), .inl (cI, 9, .inl (fun j => nI ((g 2) j)))), ((a 3), .inl (cI, 9, .inl (fun j => nI ((g 3) j)))), ((a 4), .inl (cI, 6, .inl (fun j => nI ((g 4) j)))), ((a 5), .inl (cI, 6, .inl (fun j => nI ((g 5) j)))), ((a 6), .inl (cI, 6, .inl (fun j => nI ((g 6) j)))), ((a 7), .inl (cI, 5, .inl (fun j => nI ((g 7) j)))), ((a 8), .inl (cI, 5, .inl (fun j => nI ((g 8) j)))), ((a 9), .inl (cI, 5, .inl (fun j => ly_h ((g 9) j))))]) := by
  refine Met.ofW (cc := cX5_readsItem) (maxL := 1) (ret := (some .boolean)) (by decide) rfl ?_
  intro p e s m args below meth c s₁ B hml hv
  obtain ⟨⟨rfl, hP, hK, hN⟩, hX⟩ := hv
  have hx := B.exec
  have hb := B.bytes
  have hr := B.returns
  have hts := atoms_spec (ws := wsX5_readsItem) B.pre
  have hown : s.vm.findClass RX5 = some m.cls := findClass_of_methodNamed B.named
  have hlocks := B.notSynchronized
  have hl := lv_entry ([.ref (t 2)]) (n := 1) (Nat.le_of_ble_eq_true rfl)
  rw [lg_entry_eq]
  generalize (lg_sl ([.ref (t 2)]) ++ List.replicate (1 - (lg_sl ([.ref (t 2)])).length) Slot.unset).toArray = ls at hl ⊢
  have hl : lv_has ls 1 [(0, .ref (t 2))] := hl
  generalize ([.ref (t 2)] : List Value).toArray = av at hts ⊢
  obtain ⟨Qc, hQc⟩ : ∃ Qc, Qc = (ly_Q D [((t 2), .inr (5, [.ref (t 1), .int (nI ln), .int (nI pl), .ref (a 0), .ref (t 3), .int (nI tok), .int (nI vl), .int (nI st), .int (nI it)])), ((t 1), .inl (cC, 180, .inl (fun j => nI (tx j)))), ((t 3), .inl (cI, 3, .inl (fun j => nI (nm j)))), ((a 0), .inr (4, [.int (nI (g 0 0)), .ref (a 1), .ref (a 2), .ref (a 3), .int (nI (g 0 1)), .ref (a 4), .ref (a 5), .ref (a 6), .ref (a 7), .ref (a 8), .ref (a 9), .int (nI (g 0 2))])), ((a 1), .inl (cI, 9, .inl (fun j => nI ((g 1) j)))), ((a 2), .inl (cI, 9, .inl (fun j => nI ((g 2) j)))), ((a 3), .inl (cI, 9, .inl (fun j => nI ((g 3) j)))), ((a 4), .inl (cI, 6, .inl (fun j => nI ((g 4) j)))), ((a 5), .inl (cI, 6, .inl (fun j => nI ((g 5) j)))), ((a 6), .inl (cI, 6, .inl (fun j => nI ((g 6) j)))), ((a 7), .inl (cI, 5, .inl (fun j => nI ((g 7) j)))), ((a 8), .inl (cI, 5, .inl (fun j => nI ((g 8) j)))), ((a 9), .inl (cI, 5, .inl (fun j => ly_h ((g 9) j))))] (fun r_9 w_9 => r_9 = some (.int (ri tx ln pl tok vl st nm g).1) ∧ w_9 = [((t 2), .inr (5, [.ref (t 1), .int (nI ln), .int (nI ((ri tx ln pl tok vl st nm g).2.1.1)), .ref (a 0), .ref (t 3), .int (nI ((ri tx ln pl tok vl st nm g).2.1.2.1)), .int (nI ((ri tx ln pl tok vl st nm g).2.1.2.2.1)), .int (nI ((ri tx ln pl tok vl st nm g).2.1.2.2.2)), .int (nI it)])), ((t 1), .inl (cC, 180, .inl (fun j => nI (tx j)))), ((t 3), .inl (cI, 3, .inl (fun j => nI ((ri tx ln pl tok vl st nm g).2.2.1 j)))), ((a 0), .inr (4, [.int (nI ((ri tx ln pl tok vl st nm g).2.2.2 0 0)), .ref (a 1), .ref (a 2), .ref (a 3), .int (nI ((ri tx ln pl tok vl st nm g).2.2.2 0 1)), .ref (a 4), .ref (a 5), .ref (a 6), .ref (a 7), .ref (a 8), .ref (a 9), .int (nI ((ri tx ln pl tok vl st nm g).2.2.2 0 2))])), ((a 1), .inl (cI, 9, .inl (fun j => nI (((ri tx ln pl tok vl st nm g).2.2.2 1) j)))), ((a 2), .inl (cI, 9, .inl (fun j => nI (((ri tx ln pl tok vl st nm g).2.2.2 2) j)))), ((a 3), .inl (cI, 9, .inl (fun j => nI (((ri tx ln pl tok vl st nm g).2.2.2 3) j)))), ((a 4), .inl (cI, 6, .inl (fun j => nI (((ri tx ln pl tok vl st nm g).2.2.2 4) j)))), ((a 5), .inl (cI, 6, .inl (fun j => nI (((ri tx ln pl tok vl st nm g).2.2.2 5) j)))), ((a 6), .inl (cI, 6, .inl (fun j => nI (((ri tx ln pl tok vl st nm g).2.2.2 6) j)))), ((a 7), .inl (cI, 5, .inl (fun j => nI (((ri tx ln pl tok vl st nm g).2.2.2 7) j)))), ((a 8), .inl (cI, 5, .inl (fun j => nI (((ri tx ln pl tok vl st nm g).2.2.2 8) j)))), ((a 9), .inl (cI, 5, .inl (fun j => ly_h (((ri tx ln pl tok vl st nm g).2.2.2 9) j))))])) := ⟨_, rfl⟩
  rw [← hQc]
  obtain ⟨A, hAe⟩ : ∃ A, A = ly_in [((t 2), .inr (5, [.ref (t 1), .int (nI ln), .int (nI pl), .ref (a 0), .ref (t 3), .int (nI tok), .int (nI vl), .int (nI st), .int (nI it)])), ((t 1), .inl (cC, 180, .inl (fun j => nI (tx j)))), ((t 3), .inl (cI, 3, .inl (fun j => nI (nm j)))), ((a 0), .inr (4, [.int (nI (g 0 0)), .ref (a 1), .ref (a 2), .ref (a 3), .int (nI (g 0 1)), .ref (a 4), .ref (a 5), .ref (a 6), .ref (a 7), .ref (a 8), .ref (a 9), .int (nI (g 0 2))])), ((a 1), .inl (cI, 9, .inl (fun j => nI ((g 1) j)))), ((a 2), .inl (cI, 9, .inl (fun j => nI ((g 2) j)))), ((a 3), .inl (cI, 9, .inl (fun j => nI ((g 3) j)))), ((a 4), .inl (cI, 6, .inl (fun j => nI ((g 4) j)))), ((a 5), .inl (cI, 6, .inl (fun j => nI ((g 5) j)))), ((a 6), .inl (cI, 6, .inl (fun j => nI ((g 6) j)))), ((a 7), .inl (cI, 5, .inl (fun j => nI ((g 7) j)))), ((a 8), .inl (cI, 5, .inl (fun j => nI ((g 8) j)))), ((a 9), .inl (cI, 5, .inl (fun j => ly_h ((g 9) j))))] := ⟨_, rfl⟩
  rw [← hAe]
  have hD := ly_self hD0
  rw [← hAe] at hD
  rw [← hAe] at hX
  have f30 := hts (.fieldLink RX5 30 "KneesLent$Reader" "token" "I") (by decide +kernel)
  have hiX5 : ∀ w ∈ u_ws RX5 TX5 9, w ∈ wsX5_readsItem := by decide +kernel
  have hmain : ∀ (H : Heap) (locs : List Loc), va_P D vwCl [((t 2), .inr (5, [.ref (t 1), .int (nI ln), .int (nI pl), .ref (a 0), .ref (t 3), .int (nI tok), .int (nI vl), .int (nI st), .int (nI it)])), ((t 1), .inl (cC, 180, .inl (fun j => nI (tx j)))), ((t 3), .inl (cI, 3, .inl (fun j => nI (nm j)))), ((a 0), .inr (4, [.int (nI (g 0 0)), .ref (a 1), .ref (a 2), .ref (a 3), .int (nI (g 0 1)), .ref (a 4), .ref (a 5), .ref (a 6), .ref (a 7), .ref (a 8), .ref (a 9), .int (nI (g 0 2))])), ((a 1), .inl (cI, 9, .inl (fun j => nI ((g 1) j)))), ((a 2), .inl (cI, 9, .inl (fun j => nI ((g 2) j)))), ((a 3), .inl (cI, 9, .inl (fun j => nI ((g 3) j)))), ((a 4), .inl (cI, 6, .inl (fun j => nI ((g 4) j)))), ((a 5), .inl (cI, 6, .inl (fun j => nI ((g 5) j)))), ((a 6), .inl (cI, 6, .inl (fun j => nI ((g 6) j)))), ((a 7), .inl (cI, 5, .inl (fun j => nI ((g 7) j)))), ((a 8), .inl (cI, 5, .inl (fun j => nI ((g 8) j)))), ((a 9), .inl (cI, 5, .inl (fun j => ly_h ((g 9) j))))] H → va_S A s.heap H locs → W p l e (headSpec wsX5_readsItem (ly_rm 5)).room s m av below meth c H locs 0 0 (MQ below Qc av s 0 0 A) (F0 m 0 ls []) := by
    intro H locs hP hS
    refine lv_aload_n hx hb dX5_readsItem_0 rfl (lv_at hl 0 rfl) ?_
    refine va_get (D := D) (ci := 5) (v := .int (nI tok)) (C := RX5) (T := TX5) (N := 9) hx hb hts hiX5 hown hK hP 0 rfl rfl 5 (by decide) f30 (fun _ h9 => h9) rfl dX5_readsItem_1 ?_
    refine lv_lookup (off := 244) (tgt := 248) hx hb dX5_readsItem_4 (by decide) (by show Op.lookupswitch.offset [(107, 44), (111, 206), (112, 99), (120, 154)] 244 (nI tok).toInt = 244; rw [lv_osw (k := 107) (fun z => hq107 ((nI_eq (a := tok) (b := 107) (by omega) (by omega)).mp z)) (by decide), lv_osw (k := 111) (fun z => hq111 ((nI_eq (a := tok) (b := 111) (by omega) (by omega)).mp z)) (by decide), lv_osw (k := 112) (fun z => hq112 ((nI_eq (a := tok) (b := 112) (by omega) (by omega)).mp z)) (by decide), lv_osw (k := 120) (fun z => hq120 ((nI_eq (a := tok) (b := 120) (by omega) (by omega)).mp z)) (by decide)]; rfl) (by decide) ?_
    refine lv_iconst (v := 0) hx hb dX5_readsItem_248 (by decide) ?_
    have e_1 : (0, (pl, tok, vl, st), nm, g) = (ri tx ln pl tok vl st nm g) := (by unfold ri; rw [if_neg hq107, if_neg hq111, if_neg hq112, if_neg hq120])
    exact W.zret (v := 0) hx hb hr rfl (fun t_9 ht_9 _ => by rw [hQc]; exact ⟨_, [((t 2), .inr (5, [.ref (t 1), .int (nI ln), .int (nI pl), .ref (a 0), .ref (t 3), .int (nI tok), .int (nI vl), .int (nI st), .int (nI it)])), ((t 1), .inl (cC, 180, .inl (fun j => nI (tx j)))), ((t 3), .inl (cI, 3, .inl (fun j => nI (nm j)))), ((a 0), .inr (4, [.int (nI (g 0 0)), .ref (a 1), .ref (a 2), .ref (a 3), .int (nI (g 0 1)), .ref (a 4), .ref (a 5), .ref (a 6), .ref (a 7), .ref (a 8), .ref (a 9), .int (nI (g 0 2))])), ((a 1), .inl (cI, 9, .inl (fun j => nI ((g 1) j)))), ((a 2), .inl (cI, 9, .inl (fun j => nI ((g 2) j)))), ((a 3), .inl (cI, 9, .inl (fun j => nI ((g 3) j)))), ((a 4), .inl (cI, 6, .inl (fun j => nI ((g 4) j)))), ((a 5), .inl (cI, 6, .inl (fun j => nI ((g 5) j)))), ((a 6), .inl (cI, 6, .inl (fun j => nI ((g 6) j)))), ((a 7), .inl (cI, 5, .inl (fun j => nI ((g 7) j)))), ((a 8), .inl (cI, 5, .inl (fun j => nI ((g 8) j)))), ((a 9), .inl (cI, 5, .inl (fun j => ly_h ((g 9) j))))], rfl, ⟨(by first | (rw [← e_1]; done) | (rw [← e_1]; rfl)), (by first | (rw [← e_1]; done) | (rw [← e_1]; rfl))⟩, by simp only [List.map_cons, List.map_nil], by rw [ht_9]; exact hP.sub [0, 1, 2, 3, 4, 5, 6, 7, 8, 9, 10, 11, 12] rfl, by rw [← hAe]; exact hS.F ht_9⟩) hS.2.2 dX5_readsItem_249
  exact hmain _ _ hP va_S.rf

theorem c_X5_readsItem (l : Launch) (D : va_G) (cI cC cZ cN : ClassId) (ts t tx nm : Nat → Nat) (a : Nat → Nat) (g : Nat → Nat → Nat) (ln pl tok vl st it : Nat) (htx : ∀ j, tx j < 256) (hln : ln ≤ 180) (hpl : pl ≤ ln) (hvl : vl ≤ 100) (htk : tok ≤ 258) (hg9 : g 0 0 ≤ 9) (hg6 : g 0 1 ≤ 6) (hD0 : va_D (fun _ => True) [((t 2), .inr (5, [.ref (t 1), .int (nI ln), .int (nI pl), .ref (a 0), .ref (t 3), .int (nI tok), .int (nI vl), .int (nI st), .int (nI it)])), ((t 1), .inl (cC, 180, .inl (fun j => nI (tx j)))), ((t 3), .inl (cI, 3, .inl (fun j => nI (nm j)))), ((a 0), .inr (4, [.int (nI (g 0 0)), .ref (a 1), .ref (a 2), .ref (a 3), .int (nI (g 0 1)), .ref (a 4), .ref (a 5), .ref (a 6), .ref (a 7), .ref (a 8), .ref (a 9), .int (nI (g 0 2))])), ((a 1), .inl (cI, 9, .inl (fun j => nI ((g 1) j)))), ((a 2), .inl (cI, 9, .inl (fun j => nI ((g 2) j)))), ((a 3), .inl (cI, 9, .inl (fun j => nI ((g 3) j)))), ((a 4), .inl (cI, 6, .inl (fun j => nI ((g 4) j)))), ((a 5), .inl (cI, 6, .inl (fun j => nI ((g 5) j)))), ((a 6), .inl (cI, 6, .inl (fun j => nI ((g 6) j)))), ((a 7), .inl (cI, 5, .inl (fun j => nI ((g 7) j)))), ((a 8), .inl (cI, 5, .inl (fun j => nI ((g 8) j)))), ((a 9), .inl (cI, 5, .inl (fun j => ly_h ((g 9) j))))]) : Met l yX5_readsItem wsX5_readsItem (ly_rm 5) (ly_PreX D (ly_tys cI cC cZ cN) [((t 2), .inr (5, [.ref (t 1), .int (nI ln), .int (nI pl), .ref (a 0), .ref (t 3), .int (nI tok), .int (nI vl), .int (nI st), .int (nI it)])), ((t 1), .inl (cC, 180, .inl (fun j => nI (tx j)))), ((t 3), .inl (cI, 3, .inl (fun j => nI (nm j)))), ((a 0), .inr (4, [.int (nI (g 0 0)), .ref (a 1), .ref (a 2), .ref (a 3), .int (nI (g 0 1)), .ref (a 4), .ref (a 5), .ref (a 6), .ref (a 7), .ref (a 8), .ref (a 9), .int (nI (g 0 2))])), ((a 1), .inl (cI, 9, .inl (fun j => nI ((g 1) j)))), ((a 2), .inl (cI, 9, .inl (fun j => nI ((g 2) j)))), ((a 3), .inl (cI, 9, .inl (fun j => nI ((g 3) j)))), ((a 4), .inl (cI, 6, .inl (fun j => nI ((g 4) j)))), ((a 5), .inl (cI, 6, .inl (fun j => nI ((g 5) j)))), ((a 6), .inl (cI, 6, .inl (fun j => nI ((g 6) j)))), ((a 7), .inl (cI, 5, .inl (fun j => nI ((g 7) j)))), ((a 8), .inl (cI, 5, .inl (fun j => nI ((g 8) j)))), ((a 9), .inl (cI, 5, .inl (fun j => ly_h ((g 9) j))))] [.ref (t 2)] (st_Z ts (ly_in [((t 2), .inr (5, [.ref (t 1), .int (nI ln), .int (nI pl), .ref (a 0), .ref (t 3), .int (nI tok), .int (nI vl), .int (nI st), .int (nI it)])), ((t 1), .inl (cC, 180, .inl (fun j => nI (tx j)))), ((t 3), .inl (cI, 3, .inl (fun j => nI (nm j)))), ((a 0), .inr (4, [.int (nI (g 0 0)), .ref (a 1), .ref (a 2), .ref (a 3), .int (nI (g 0 1)), .ref (a 4), .ref (a 5), .ref (a 6), .ref (a 7), .ref (a 8), .ref (a 9), .int (nI (g 0 2))])), ((a 1), .inl (cI, 9, .inl (fun j => nI ((g 1) j)))), ((a 2), .inl (cI, 9, .inl (fun j => nI ((g 2) j)))), ((a 3), .inl (cI, 9, .inl (fun j => nI ((g 3) j)))), ((a 4), .inl (cI, 6, .inl (fun j => nI ((g 4) j)))), ((a 5), .inl (cI, 6, .inl (fun j => nI ((g 5) j)))), ((a 6), .inl (cI, 6, .inl (fun j => nI ((g 6) j)))), ((a 7), .inl (cI, 5, .inl (fun j => nI ((g 7) j)))), ((a 8), .inl (cI, 5, .inl (fun j => nI ((g 8) j)))), ((a 9), .inl (cI, 5, .inl (fun j => ly_h ((g 9) j))))]))) (ly_Q D [((t 2), .inr (5, [.ref (t 1), .int (nI ln), .int (nI pl), .ref (a 0), .ref (t 3), .int (nI tok), .int (nI vl), .int (nI st), .int (nI it)])), ((t 1), .inl (cC, 180, .inl (fun j => nI (tx j)))), ((t 3), .inl (cI, 3, .inl (fun j => nI (nm j)))), ((a 0), .inr (4, [.int (nI (g 0 0)), .ref (a 1), .ref (a 2), .ref (a 3), .int (nI (g 0 1)), .ref (a 4), .ref (a 5), .ref (a 6), .ref (a 7), .ref (a 8), .ref (a 9), .int (nI (g 0 2))])), ((a 1), .inl (cI, 9, .inl (fun j => nI ((g 1) j)))), ((a 2), .inl (cI, 9, .inl (fun j => nI ((g 2) j)))), ((a 3), .inl (cI, 9, .inl (fun j => nI ((g 3) j)))), ((a 4), .inl (cI, 6, .inl (fun j => nI ((g 4) j)))), ((a 5), .inl (cI, 6, .inl (fun j => nI ((g 5) j)))), ((a 6), .inl (cI, 6, .inl (fun j => nI ((g 6) j)))), ((a 7), .inl (cI, 5, .inl (fun j => nI ((g 7) j)))), ((a 8), .inl (cI, 5, .inl (fun j => nI ((g 8) j)))), ((a 9), .inl (cI, 5, .inl (fun j => ly_h ((g 9) j))))] (fun r_9 w_9 => r_9 = some (.int (ri tx ln pl tok vl st nm g).1) ∧ w_9 = [((t 2), .inr (5, [.ref (t 1), .int (nI ln), .int (nI ((ri tx ln pl tok vl st nm g).2.1.1)), .ref (a 0), .ref (t 3), .int (nI ((ri tx ln pl tok vl st nm g).2.1.2.1)), .int (nI ((ri tx ln pl tok vl st nm g).2.1.2.2.1)), .int (nI ((ri tx ln pl tok vl st nm g).2.1.2.2.2)), .int (nI it)])), ((t 1), .inl (cC, 180, .inl (fun j => nI (tx j)))), ((t 3), .inl (cI, 3, .inl (fun j => nI ((ri tx ln pl tok vl st nm g).2.2.1 j)))), ((a 0), .inr (4, [.int (nI ((ri tx ln pl tok vl st nm g).2.2.2 0 0)), .ref (a 1), .ref (a 2), .ref (a 3), .int (nI ((ri tx ln pl tok vl st nm g).2.2.2 0 1)), .ref (a 4), .ref (a 5), .ref (a 6), .ref (a 7), .ref (a 8), .ref (a 9), .int (nI ((ri tx ln pl tok vl st nm g).2.2.2 0 2))])), ((a 1), .inl (cI, 9, .inl (fun j => nI (((ri tx ln pl tok vl st nm g).2.2.2 1) j)))), ((a 2), .inl (cI, 9, .inl (fun j => nI (((ri tx ln pl tok vl st nm g).2.2.2 2) j)))), ((a 3), .inl (cI, 9, .inl (fun j => nI (((ri tx ln pl tok vl st nm g).2.2.2 3) j)))), ((a 4), .inl (cI, 6, .inl (fun j => nI (((ri tx ln pl tok vl st nm g).2.2.2 4) j)))), ((a 5), .inl (cI, 6, .inl (fun j => nI (((ri tx ln pl tok vl st nm g).2.2.2 5) j)))), ((a 6), .inl (cI, 6, .inl (fun j => nI (((ri tx ln pl tok vl st nm g).2.2.2 6) j)))), ((a 7), .inl (cI, 5, .inl (fun j => nI (((ri tx ln pl tok vl st nm g).2.2.2 7) j)))), ((a 8), .inl (cI, 5, .inl (fun j => nI (((ri tx ln pl tok vl st nm g).2.2.2 8) j)))), ((a 9), .inl (cI, 5, .inl (fun j => ly_h (((ri tx ln pl tok vl st nm g).2.2.2 9) j))))])) 0 0 (ly_in [((t 2), .inr (5, [.ref (t 1), .int (nI ln), .int (nI pl), .ref (a 0), .ref (t 3), .int (nI tok), .int (nI vl), .int (nI st), .int (nI it)])), ((t 1), .inl (cC, 180, .inl (fun j => nI (tx j)))), ((t 3), .inl (cI, 3, .inl (fun j => nI (nm j)))), ((a 0), .inr (4, [.int (nI (g 0 0)), .ref (a 1), .ref (a 2), .ref (a 3), .int (nI (g 0 1)), .ref (a 4), .ref (a 5), .ref (a 6), .ref (a 7), .ref (a 8), .ref (a 9), .int (nI (g 0 2))])), ((a 1), .inl (cI, 9, .inl (fun j => nI ((g 1) j)))), ((a 2), .inl (cI, 9, .inl (fun j => nI ((g 2) j)))), ((a 3), .inl (cI, 9, .inl (fun j => nI ((g 3) j)))), ((a 4), .inl (cI, 6, .inl (fun j => nI ((g 4) j)))), ((a 5), .inl (cI, 6, .inl (fun j => nI ((g 5) j)))), ((a 6), .inl (cI, 6, .inl (fun j => nI ((g 6) j)))), ((a 7), .inl (cI, 5, .inl (fun j => nI ((g 7) j)))), ((a 8), .inl (cI, 5, .inl (fun j => nI ((g 8) j)))), ((a 9), .inl (cI, 5, .inl (fun j => ly_h ((g 9) j))))]) := by
  by_cases hq107 : tok = 107
  · subst hq107; exact c_X5_readsItem_k l D cI cC cZ cN ts t tx nm a g ln pl vl st it htx hln hpl hvl hg9 hg6 hD0
  · by_cases hq111 : tok = 111
    · subst hq111; exact c_X5_readsItem_o l D cI cC cZ cN ts t tx nm a g ln pl vl st it htx hln hpl hvl hg9 hg6 hD0
    · by_cases hq112 : tok = 112
      · subst hq112; exact c_X5_readsItem_p l D cI cC cZ cN ts t tx nm a g ln pl vl st it htx hln hpl hvl hg9 hg6 hD0
      · by_cases hq120 : tok = 120
        · subst hq120; exact c_X5_readsItem_x l D cI cC cZ cN ts t tx nm a g ln pl vl st it htx hln hpl hvl hg9 hg6 hD0
        · exact c_X5_readsItem_e l D cI cC cZ cN ts t tx nm a g ln pl tok vl st it htk hq107 hq111 hq112 hq120 hD0
