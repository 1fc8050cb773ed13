def m_gcd  : Nat → Nat → Nat → Nat × Nat
  | 0, v0_, v1_ => (v0_, v1_)
  | u_ + 1, v0_, v1_ => (if (nI v1_) = 0 then (v0_, v1_) else m_gcd  u_ v1_ (v0_ % v1_))
theorem m_gcd_s  (u_ : Nat) (v0_ : Nat) (v1_ : Nat) : m_gcd  (u_ + 1) v0_ v1_ = (if (nI v1_) = 0 then (v0_, v1_) else m_gcd  u_ v1_ (v0_ % v1_)) := rfl
theorem m_gcd_eq : ∀ u x y : Nat, y < u → x < 2147483648 → y < 2147483648 → (m_gcd u x y).1 = Nat.gcd x y
  | 0, _, _, h, _, _ => absurd h (Nat.not_lt_zero _)
  | u + 1, x, y, h, hx, hy => by
    rw [m_gcd_s]
    split
    · rename_i h0
      have h1 : y = 0 := (nI_eq (a := y) (b := 0) (by omega) (by omega)).mp h0
      subst h1
      exact (Nat.gcd_zero_right x).symm
    · rename_i h0
      have h1 : 0 < y := Nat.pos_of_ne_zero (fun z => h0 (by rw [z]; rfl))
      have h2 := Nat.mod_lt x h1
      rw [m_gcd_eq u y (x % y) (by omega) hy (by omega), Nat.gcd_comm x y, Nat.gcd_rec y x, Nat.gcd_comm]
set_option maxHeartbeats 4000000 in
set_option maxRecDepth 100000 in
theorem c_X7_gcd (l : Launch) (D : va_G) (cI cC cZ cN : ClassId) (a1 b1 : Nat) (ha1 : a1 < 2147483648) (hb1 : b1 < 2147483648) (hD0 : va_D (fun _ => True) []) : Met l yX7_gcd wsX7_gcd (ly_rm 1) (ly_Pre D (ly_tys cI cC cZ cN) [] [.int (nI a1), .int (nI b1)]) (ly_Q D [] (fun r_9 w_9 => r_9 = some (.int (nI (Nat.gcd a1 b1))) ∧ w_9 = [])) 0 0 (ly_in []) := by
  refine Met.ofW (cc := cX7_gcd) (maxL := 5) (ret := (some .int)) (by decide) rfl ?_
  intro p e s m args below meth c s₁ B hml hv
  obtain ⟨rfl, hP, hK, hN⟩ := hv
  have hx := B.exec
  have hb := B.bytes
  have hr := B.returns
  have hts := atoms_spec (ws := wsX7_gcd) B.pre
  have hown : s.vm.findClass RX7 = some m.cls := findClass_of_methodNamed B.named
  have hlocks := B.notSynchronized
  have hl := lv_entry ([.int (nI a1), .int (nI b1)]) (n := 5) (Nat.le_of_ble_eq_true rfl)
  rw [lg_entry_eq]
  generalize (lg_sl ([.int (nI a1), .int (nI b1)]) ++ List.replicate (5 - (lg_sl ([.int (nI a1), .int (nI b1)])).length) Slot.unset).toArray = ls at hl ⊢
  have hl : lv_has ls 5 [(0, .int (nI a1)), (1, .int (nI b1))] := hl
  generalize ([.int (nI a1), .int (nI b1)] : List Value).toArray = av at hts ⊢
  obtain ⟨Qc, hQc⟩ : ∃ Qc, Qc = (ly_Q D [] (fun r_9 w_9 => r_9 = some (.int (nI (Nat.gcd a1 b1))) ∧ w_9 = [])) := ⟨_, rfl⟩
  rw [← hQc]
  obtain ⟨A, hAe⟩ : ∃ A, A = ly_in [] := ⟨_, rfl⟩
  rw [← hAe]
  have hD := ly_self hD0
  rw [← hAe] at hD
  have hmain : ∀ (H : Heap) (locs : List Loc), va_P D vwCl [] H → va_S A s.heap H locs → W p l e (headSpec wsX7_gcd (ly_rm 1)).room s m av below meth c H locs 0 0 (MQ below Qc av s 0 0 A) (F0 m 0 ls []) := by
    intro H locs hP hS
    refine lv_iload_n hx hb dX7_gcd_0 rfl (lv_at hl 0 rfl) ?_
    refine lv_istore_n (lv' := [(2, .int (nI a1)), (0, .int (nI a1)), (1, .int (nI b1))]) hx hb dX7_gcd_1 rfl hl (by decide) rfl (fun ls hl => ?_)
    refine lv_iload_n hx hb dX7_gcd_2 rfl (lv_at hl 2 rfl) ?_
    refine lv_istore_n (lv' := [(3, .int (nI b1)), (2, .int (nI a1)), (0, .int (nI a1)), (1, .int (nI b1))]) hx hb dX7_gcd_3 rfl hl (by decide) rfl (fun ls hl => ?_)
    have hexit_4 : ∀ (H : Heap) (locs : List Loc), va_P D vwCl [] H → va_D A [] → va_S A s.heap H locs → ∀ ls : Array Slot, lv_has ls 5 [(3, .int (nI ((m_gcd  (b1 + 1) a1 b1).2))), (2, .int (nI ((m_gcd  (b1 + 1) a1 b1).1))), (0, .int (nI a1)), (1, .int (nI b1))] → W p l e (headSpec wsX7_gcd (ly_rm 1)).room s m av below meth c H locs 0 0 (MQ below Qc av s 0 0 A) (F0 m 21 ls []) := by
      intro H locs hP hD hS ls hl
      refine lv_iload_n hx hb dX7_gcd_21 rfl (lv_at hl 1 rfl) ?_
      exact W.iret (v := (nI ((m_gcd  (b1 + 1) a1 b1).1))) hx hb hr (fun t_9 ht_9 _ => by rw [hQc]; exact ⟨_, [], rfl, ⟨(by first | (rw [m_gcd_eq (b1 + 1) a1 b1 (by omega) ha1 hb1]) | rfl), (by first | (rw [m_gcd_eq (b1 + 1) a1 b1 (by omega) ha1 hb1]) | rfl)⟩, by simp only [List.map_cons, List.map_nil], by rw [ht_9]; exact hP.sub [] rfl, by rw [← hAe]; exact hS.F ht_9⟩) hS.2.2 dX7_gcd_22
    have hloop_4 : ∀ (u_ : Nat) (v0_ : Nat) (v1_ : Nat), (v1_ < u_ ∧ v0_ < 2147483648 ∧ v1_ < 2147483648) → m_gcd  u_ v0_ v1_ = (m_gcd  (b1 + 1) a1 b1) → ∀ (H : Heap) (locs : List Loc), va_P D vwCl [] H → va_D A [] → va_S A s.heap H locs → ∀ ls : Array Slot, lv_has ls 5 [(3, .int (nI v1_)), (2, .int (nI v0_)), (0, .int (nI a1)), (1, .int (nI b1))] → W p l e (headSpec wsX7_gcd (ly_rm 1)).room s m av below meth c H locs 0 0 (MQ below Qc av s 0 0 A) (F0 m 4 ls []) := by
      intro u_
      induction u_ with
      | zero =>
        intro v0_ v1_ hinv_
        exact absurd hinv_ (by omega)
      | succ u_ ih_4 =>
        intro v0_ v1_ hinv_ hF_4 H locs hP hD hS ls hl
        refine lv_iload_n hx hb dX7_gcd_4 rfl (lv_at hl 0 rfl) ?_
        refine lv_if_eq (tgt := 21) hx hb dX7_gcd_5 (by decide) (fun c_1 => ?_) (fun c_1 => ?_)
        · have e_2 : (v0_, v1_) = (m_gcd  (b1 + 1) a1 b1) := by rw [← hF_4, m_gcd_s, if_pos c_1]
          have e_2_0 : v0_ = (m_gcd  (b1 + 1) a1 b1).1 := congrArg (fun z_9 => z_9.1) e_2
          have e_2_1 : v1_ = (m_gcd  (b1 + 1) a1 b1).2 := congrArg (fun z_9 => z_9.2) e_2
          exact hexit_4 H locs (by (try rw [← e_2_0]); (try rw [← e_2_1]); exact hP.sub [] rfl) (by (try rw [← e_2_0]); (try rw [← e_2_1]); exact hD.sub [] (by decide) rfl) hS ls (by (try rw [← e_2_0]); (try rw [← e_2_1]); exact lv_sub hl [0, 1, 2, 3] rfl)
        · have hy0_ : 0 < v1_ := Nat.pos_of_ne_zero (fun z => c_1 (by rw [z]; rfl))
          refine lv_iload_n hx hb dX7_gcd_8 rfl (lv_at hl 1 rfl) ?_
          refine lv_iload_n hx hb dX7_gcd_9 rfl (lv_at hl 0 rfl) ?_
          refine lv_irem hx hb dX7_gcd_10 (by assumption) ?_
          refine ly_eqi (show ((nI v0_) - (nI v0_) / (nI v1_) * (nI v1_)) = (nI (v0_ % v1_)) from (pk_rem (by omega) hy0_ (by omega))) ?_
          refine lv_istore (lv' := [(4, .int (nI (v0_ % v1_))), (3, .int (nI v1_)), (2, .int (nI v0_)), (0, .int (nI a1)), (1, .int (nI b1))]) hx hb dX7_gcd_11 hl (by decide) rfl (fun ls hl => ?_)
          refine lv_iload_n hx hb dX7_gcd_13 rfl (lv_at hl 1 rfl) ?_
          refine lv_istore_n (lv' := [(2, .int (nI v1_)), (4, .int (nI (v0_ % v1_))), (3, .int (nI v1_)), (0, .int (nI a1)), (1, .int (nI b1))]) hx hb dX7_gcd_14 rfl hl (by decide) rfl (fun ls hl => ?_)
          refine lv_iload hx hb dX7_gcd_15 (lv_at hl 1 rfl) ?_
          refine lv_istore_n (lv' := [(3, .int (nI (v0_ % v1_))), (2, .int (nI v1_)), (4, .int (nI (v0_ % v1_))), (0, .int (nI a1)), (1, .int (nI b1))]) hx hb dX7_gcd_17 rfl hl (by decide) rfl (fun ls hl => ?_)
          refine lv_goto (tgt := 4) hx hb dX7_gcd_18 (by decide) ?_
          exact ih_4 v1_ (v0_ % v1_) (by have hmod_ := Nat.mod_lt v0_ hy0_; omega) (by rw [← hF_4, m_gcd_s, if_neg c_1]) H locs (hP.sub [] rfl) (hD.sub [] (by decide) rfl) hS ls (lv_sub hl [0, 1, 3, 4] rfl)
    exact hloop_4 (b1 + 1) a1 b1 (by omega) rfl H locs (hP.sub [] rfl) (hD.sub [] (by decide) rfl) hS ls (lv_sub hl [0, 1, 2, 3] rfl)
  exact hmain _ _ hP va_S.rf

set_option maxHeartbeats 4000000 in
set_option maxRecDepth 100000 in
theorem c_X7_gives_b (l : Launch) (D : va_G) (cI cC cZ cN : ClassId) (oA : Nat → Nat) (M : Nat → Nat → Nat) (mi : Nat → Nat) (fa : Int32) (mt : Int64) (x1 x2 x3 x4 x5 x6 : Int32) (hb9 : jin x1 0 (nI (M 9 0) - 1) = 0 ∨ jin x2 0 6 = 0 ∨ jin x3 0 30 = 0 ∨ jin x4 0 30 = 0 ∨ jin x5 0 10 = 0 ∨ jin x6 0 1 = 0) (hD0 : va_D (fun _ => True) [((oA 0), .inr (7, [.int 0, .long mt, .ref (oA 2), .int (nI (mi 3)), .int (nI (mi 4)), .int (nI (mi 5)), .int (nI (mi 6)), .int (nI (mi 7)), .int fa, .ref (oA 9), .ref (oA 10), .ref (oA 11), .ref (oA 12), .ref (oA 13), .ref (oA 14), .ref (oA 15), .ref (oA 16), .ref (oA 17), .ref (oA 18), .int (nI (mi 19)), .ref (oA 20), .ref (oA 21), .ref (oA 22), .ref (oA 23), .int (nI (mi 24)), .ref (oA 25), .ref (oA 26), .ref (oA 27), .int (nI (mi 28)), .ref (oA 29), .ref (oA 30), .int (nI (mi 31)), .ref (oA 32), .int (nI (mi 33)), .int (nI (mi 34))])), ((oA 9), .inl (cI, 4, .inl (fun j => nI ((M 9) j)))), ((oA 20), .inl (cI, 23, .inl (fun j => nI ((M 20) j))))]) : Met l yX7_gives wsX7_gives (ly_rm 6) (ly_Pre D (ly_tys cI cC cZ cN) [((oA 0), .inr (7, [.int 0, .long mt, .ref (oA 2), .int (nI (mi 3)), .int (nI (mi 4)), .int (nI (mi 5)), .int (nI (mi 6)), .int (nI (mi 7)), .int fa, .ref (oA 9), .ref (oA 10), .ref (oA 11), .ref (oA 12), .ref (oA 13), .ref (oA 14), .ref (oA 15), .ref (oA 16), .ref (oA 17), .ref (oA 18), .int (nI (mi 19)), .ref (oA 20), .ref (oA 21), .ref (oA 22), .ref (oA 23), .int (nI (mi 24)), .ref (oA 25), .ref (oA 26), .ref (oA 27), .int (nI (mi 28)), .ref (oA 29), .ref (oA 30), .int (nI (mi 31)), .ref (oA 32), .int (nI (mi 33)), .int (nI (mi 34))])), ((oA 9), .inl (cI, 4, .inl (fun j => nI ((M 9) j)))), ((oA 20), .inl (cI, 23, .inl (fun j => nI ((M 20) j))))] [.ref (oA 0), .int x1, .int x2, .int x3, .int x4, .int x5, .int x6]) (ly_Q D [((oA 0), .inr (7, [.int 0, .long mt, .ref (oA 2), .int (nI (mi 3)), .int (nI (mi 4)), .int (nI (mi 5)), .int (nI (mi 6)), .int (nI (mi 7)), .int fa, .ref (oA 9), .ref (oA 10), .ref (oA 11), .ref (oA 12), .ref (oA 13), .ref (oA 14), .ref (oA 15), .ref (oA 16), .ref (oA 17), .ref (oA 18), .int (nI (mi 19)), .ref (oA 20), .ref (oA 21), .ref (oA 22), .ref (oA 23), .int (nI (mi 24)), .ref (oA 25), .ref (oA 26), .ref (oA 27), .int (nI (mi 28)), .ref (oA 29), .ref (oA 30), .int (nI (mi 31)), .ref (oA 32), .int (nI (mi 33)), .int (nI (mi 34))])), ((oA 9), .inl (cI, 4, .inl (fun j => nI ((M 9) j)))), ((oA 20), .inl (cI, 23, .inl (fun j => nI ((M 20) j))))] (fun r_9 w_9 => r_9 = some (.int (-1)) ∧ w_9 = [((oA 0), .inr (7, [.int 0, .long mt, .ref (oA 2), .int (nI (mi 3)), .int (nI (mi 4)), .int (nI (mi 5)), .int (nI (mi 6)), .int (nI (mi 7)), .int fa, .ref (oA 9), .ref (oA 10), .ref (oA 11), .ref (oA 12), .ref (oA 13), .ref (oA 14), .ref (oA 15), .ref (oA 16), .ref (oA 17), .ref (oA 18), .int (nI (mi 19)), .ref (oA 20), .ref (oA 21), .ref (oA 22), .ref (oA 23), .int (nI (mi 24)), .ref (oA 25), .ref (oA 26), .ref (oA 27), .int (nI (mi 28)), .ref (oA 29), .ref (oA 30), .int (nI (mi 31)), .ref (oA 32), .int (nI (mi 33)), .int (nI (mi 34))])), ((oA 9), .inl (cI, 4, .inl (fun j => nI ((M 9) j)))), ((oA 20), .inl (cI, 23, .inl (fun j => nI ((M 20) j))))])) 0 0 (ly_in [((oA 0), .inr (7, [.int 0, .long mt, .ref (oA 2), .int (nI (mi 3)), .int (nI (mi 4)), .int (nI (mi 5)), .int (nI (mi 6)), .int (nI (mi 7)), .int fa, .ref (oA 9), .ref (oA 10), .ref (oA 11), .ref (oA 12), .ref (oA 13), .ref (oA 14), .ref (oA 15), .ref (oA 16), .ref (oA 17), .ref (oA 18), .int (nI (mi 19)), .ref (oA 20), .ref (oA 21), .ref (oA 22), .ref (oA 23), .int (nI (mi 24)), .ref (oA 25), .ref (oA 26), .ref (oA 27), .int (nI (mi 28)), .ref (oA 29), .ref (oA 30), .int (nI (mi 31)), .ref (oA 32), .int (nI (mi 33)), .int (nI (mi 34))])), ((oA 9), .inl (cI, 4, .inl (fun j => nI ((M 9) j)))), ((oA 20), .inl (cI, 23, .inl (fun j => nI ((M 20) j))))]) := by
  refine Met.ofW (cc := cX7_gives) (maxL := 13) (ret := (some .int)) (by decide) rfl ?_
  intro p e s m args below meth c s₁ B hml hv
  obtain ⟨rfl, hP, hK, hN⟩ := hv
  have hx := B.exec
  have hb := B.bytes
  have hr := B.returns
  have hts := atoms_spec (ws := wsX7_gives) B.pre
  have hown : s.vm.findClass RX7 = some m.cls := findClass_of_methodNamed B.named
  have hlocks := B.notSynchronized
  have hl := lv_entry ([.ref (oA 0), .int x1, .int x2, .int x3, .int x4, .int x5, .int x6]) (n := 13) (Nat.le_of_ble_eq_true rfl)
  rw [lg_entry_eq]
  generalize (lg_sl ([.ref (oA 0), .int x1, .int x2, .int x3, .int x4, .int x5, .int x6]) ++ List.replicate (13 - (lg_sl ([.ref (oA 0), .int x1, .int x2, .int x3, .int x4, .int x5, .int x6])).length) Slot.unset).toArray = ls at hl ⊢
  have hl : lv_has ls 13 [(0, .ref (oA 0)), (1, .int x1), (2, .int x2), (3, .int x3), (4, .int x4), (5, .int x5), (6, .int x6)] := hl
  generalize ([.ref (oA 0), .int x1, .int x2, .int x3, .int x4, .int x5, .int x6] : List Value).toArray = av at hts ⊢
  obtain ⟨Qc, hQc⟩ : ∃ Qc, Qc = (ly_Q D [((oA 0), .inr (7, [.int 0, .long mt, .ref (oA 2), .int (nI (mi 3)), .int (nI (mi 4)), .int (nI (mi 5)), .int (nI (mi 6)), .int (nI (mi 7)), .int fa, .ref (oA 9), .ref (oA 10), .ref (oA 11), .ref (oA 12), .ref (oA 13), .ref (oA 14), .ref (oA 15), .ref (oA 16), .ref (oA 17), .ref (oA 18), .int (nI (mi 19)), .ref (oA 20), .ref (oA 21), .ref (oA 22), .ref (oA 23), .int (nI (mi 24)), .ref (oA 25), .ref (oA 26), .ref (oA 27), .int (nI (mi 28)), .ref (oA 29), .ref (oA 30), .int (nI (mi 31)), .ref (oA 32), .int (nI (mi 33)), .int (nI (mi 34))])), ((oA 9), .inl (cI, 4, .inl (fun j => nI ((M 9) j)))), ((oA 20), .inl (cI, 23, .inl (fun j => nI ((M 20) j))))] (fun r_9 w_9 => r_9 = some (.int (-1)) ∧ w_9 = [((oA 0), .inr (7, [.int 0, .long mt, .ref (oA 2), .int (nI (mi 3)), .int (nI (mi 4)), .int (nI (mi 5)), .int (nI (mi 6)), .int (nI (mi 7)), .int fa, .ref (oA 9), .ref (oA 10), .ref (oA 11), .ref (oA 12), .ref (oA 13), .ref (oA 14), .ref (oA 15), .ref (oA 16), .ref (oA 17), .ref (oA 18), .int (nI (mi 19)), .ref (oA 20), .ref (oA 21), .ref (oA 22), .ref (oA 23), .int (nI (mi 24)), .ref (oA 25), .ref (oA 26), .ref (oA 27), .int (nI (mi 28)), .ref (oA 29), .ref (oA 30), .int (nI (mi 31)), .ref (oA 32), .int (nI (mi 33)), .int (nI (mi 34))])), ((oA 9), .inl (cI, 4, .inl (fun j => nI ((M 9) j)))), ((oA 20), .inl (cI, 23, .inl (fun j => nI ((M 20) j))))])) := ⟨_, rfl⟩
  rw [← hQc]
  obtain ⟨A, hAe⟩ : ∃ A, A = ly_in [((oA 0), .inr (7, [.int 0, .long mt, .ref (oA 2), .int (nI (mi 3)), .int (nI (mi 4)), .int (nI (mi 5)), .int (nI (mi 6)), .int (nI (mi 7)), .int fa, .ref (oA 9), .ref (oA 10), .ref (oA 11), .ref (oA 12), .ref (oA 13), .ref (oA 14), .ref (oA 15), .ref (oA 16), .ref (oA 17), .ref (oA 18), .int (nI (mi 19)), .ref (oA 20), .ref (oA 21), .ref (oA 22), .ref (oA 23), .int (nI (mi 24)), .ref (oA 25), .ref (oA 26), .ref (oA 27), .int (nI (mi 28)), .ref (oA 29), .ref (oA 30), .int (nI (mi 31)), .ref (oA 32), .int (nI (mi 33)), .int (nI (mi 34))])), ((oA 9), .inl (cI, 4, .inl (fun j => nI ((M 9) j)))), ((oA 20), .inl (cI, 23, .inl (fun j => nI ((M 20) j))))] := ⟨_, rfl⟩
  rw [← hAe]
  have hD := ly_self hD0
  rw [← hAe] at hD
  have f80 := hts (.fieldLink RX7 80 "KneesLentModel" "thrown" "I") (by decide +kernel)
  have hiX7 : ∀ w ∈ u_ws RX7 TX7 35, w ∈ wsX7_gives := by decide +kernel
  have hmain : ∀ (H : Heap) (locs : List Loc), va_P D vwCl [((oA 0), .inr (7, [.int 0, .long mt, .ref (oA 2), .int (nI (mi 3)), .int (nI (mi 4)), .int (nI (mi 5)), .int (nI (mi 6)), .int (nI (mi 7)), .int fa, .ref (oA 9), .ref (oA 10), .ref (oA 11), .ref (oA 12), .ref (oA 13), .ref (oA 14), .ref (oA 15), .ref (oA 16), .ref (oA 17), .ref (oA 18), .int (nI (mi 19)), .ref (oA 20), .ref (oA 21), .ref (oA 22), .ref (oA 23), .int (nI (mi 24)), .ref (oA 25), .ref (oA 26), .ref (oA 27), .int (nI (mi 28)), .ref (oA 29), .ref (oA 30), .int (nI (mi 31)), .ref (oA 32), .int (nI (mi 33)), .int (nI (mi 34))])), ((oA 9), .inl (cI, 4, .inl (fun j => nI ((M 9) j)))), ((oA 20), .inl (cI, 23, .inl (fun j => nI ((M 20) j))))] H → va_S A s.heap H locs → W p l e (headSpec wsX7_gives (ly_rm 6)).room s m av below meth c H locs 0 0 (MQ below Qc av s 0 0 A) (F0 m 0 ls []) := by
    intro H locs hP hS
    refine lv_aload_n hx hb dX7_gives_0 rfl (lv_at hl 0 rfl) ?_
    refine lv_iconst (v := 0) hx hb dX7_gives_1 (by decide) ?_
    refine va_put (D := D) (ci := 7) (v := .int 0) (ty := .int) (C := RX7) (T := TX7) (N := 35) hx hb hts hiX7 tyX7 tyX7_ok nmX7 hown hK hP hD hS 0 rfl rfl 0 (by decide) f80 (fun _ h9 => h9) rfl (by decide +kernel) rfl rfl (Nat.le_of_ble_eq_true rfl) dX7_gives_2 (fun H locs hP hD hS => ?_)
    have hP : va_P D vwCl [((oA 0), .inr (7, [.int 0, .long mt, .ref (oA 2), .int (nI (mi 3)), .int (nI (mi 4)), .int (nI (mi 5)), .int (nI (mi 6)), .int (nI (mi 7)), .int fa, .ref (oA 9), .ref (oA 10), .ref (oA 11), .ref (oA 12), .ref (oA 13), .ref (oA 14), .ref (oA 15), .ref (oA 16), .ref (oA 17), .ref (oA 18), .int (nI (mi 19)), .ref (oA 20), .ref (oA 21), .ref (oA 22), .ref (oA 23), .int (nI (mi 24)), .ref (oA 25), .ref (oA 26), .ref (oA 27), .int (nI (mi 28)), .ref (oA 29), .ref (oA 30), .int (nI (mi 31)), .ref (oA 32), .int (nI (mi 33)), .int (nI (mi 34))])), ((oA 9), .inl (cI, 4, .inl (fun j => nI ((M 9) j)))), ((oA 20), .inl (cI, 23, .inl (fun j => nI ((M 20) j))))] H := hP
    have hD : va_D A [((oA 0), .inr (7, [.int 0, .long mt, .ref (oA 2), .int (nI (mi 3)), .int (nI (mi 4)), .int (nI (mi 5)), .int (nI (mi 6)), .int (nI (mi 7)), .int fa, .ref (oA 9), .ref (oA 10), .ref (oA 11), .ref (oA 12), .ref (oA 13), .ref (oA 14), .ref (oA 15), .ref (oA 16), .ref (oA 17), .ref (oA 18), .int (nI (mi 19)), .ref (oA 20), .ref (oA 21), .ref (oA 22), .ref (oA 23), .int (nI (mi 24)), .ref (oA 25), .ref (oA 26), .ref (oA 27), .int (nI (mi 28)), .ref (oA 29), .ref (oA 30), .int (nI (mi 31)), .ref (oA 32), .int (nI (mi 33)), .int (nI (mi 34))])), ((oA 9), .inl (cI, 4, .inl (fun j => nI ((M 9) j)))), ((oA 20), .inl (cI, 23, .inl (fun j => nI ((M 20) j))))] := hD
    refine lv_aload_n hx hb dX7_gives_5 rfl (lv_at hl 0 rfl) ?_
    refine lv_iload_n hx hb dX7_gives_6 rfl (lv_at hl 1 rfl) ?_
    have hPc_7 := hP.sub (ws' := [((oA 0), .inr (7, [.int 0, .long mt, .ref (oA 2), .int (nI (mi 3)), .int (nI (mi 4)), .int (nI (mi 5)), .int (nI (mi 6)), .int (nI (mi 7)), .int fa, .ref (oA 9), .ref (oA 10), .ref (oA 11), .ref (oA 12), .ref (oA 13), .ref (oA 14), .ref (oA 15), .ref (oA 16), .ref (oA 17), .ref (oA 18), .int (nI (mi 19)), .ref (oA 20), .ref (oA 21), .ref (oA 22), .ref (oA 23), .int (nI (mi 24)), .ref (oA 25), .ref (oA 26), .ref (oA 27), .int (nI (mi 28)), .ref (oA 29), .ref (oA 30), .int (nI (mi 31)), .ref (oA 32), .int (nI (mi 33)), .int (nI (mi 34))])), ((oA 9), .inl (cI, 4, .inl (fun j => nI ((M 9) j))))]) [0, 1] rfl
    refine ly_r (va_runV (As := [.int x1]) (rest := []) ⟨hx, hb, hml, hown, hts⟩ (c_X7_isKnee l D cI cC cZ cN oA M mi fa mt x1) (cwV 1 hts gX7_gives_X7_isKnee rfl rfl rfl (by decide +kernel) ⟨Nat.le_of_ble_eq_true rfl, Nat.le_of_ble_eq_true rfl⟩) (ly_pv hK hN hPc_7 0 7 rfl rfl rfl) rfl rfl hl.1 rfl (lv_room (Nat.le_of_ble_eq_true rfl)) dX7_gives_7 ⟨Nat.zero_le _, Nat.zero_le _⟩) ?_
    refine lv_if_eq (tgt := 65) hx hb dX7_gives_10 (by decide) (fun c_1 => ?_) (fun c_1 => ?_)
    · refine lv_iconst (v := (-1)) hx hb dX7_gives_65 (by decide) ?_
      exact W.iret (v := (-1)) hx hb hr (fun t_9 ht_9 _ => by rw [hQc]; exact ⟨_, [((oA 0), .inr (7, [.int 0, .long mt, .ref (oA 2), .int (nI (mi 3)), .int (nI (mi 4)), .int (nI (mi 5)), .int (nI (mi 6)), .int (nI (mi 7)), .int fa, .ref (oA 9), .ref (oA 10), .ref (oA 11), .ref (oA 12), .ref (oA 13), .ref (oA 14), .ref (oA 15), .ref (oA 16), .ref (oA 17), .ref (oA 18), .int (nI (mi 19)), .ref (oA 20), .ref (oA 21), .ref (oA 22), .ref (oA 23), .int (nI (mi 24)), .ref (oA 25), .ref (oA 26), .ref (oA 27), .int (nI (mi 28)), .ref (oA 29), .ref (oA 30), .int (nI (mi 31)), .ref (oA 32), .int (nI (mi 33)), .int (nI (mi 34))])), ((oA 9), .inl (cI, 4, .inl (fun j => nI ((M 9) j)))), ((oA 20), .inl (cI, 23, .inl (fun j => nI ((M 20) j))))], rfl, ⟨(by first | rfl | (rw [if_pos c_1]; done) | (rw [if_pos c_1]; rfl) | (simp only [if_pos c_1]; done) | (simp only [if_pos c_1]; rfl)), (by first | rfl | (rw [if_pos c_1]; done) | (rw [if_pos c_1]; rfl) | (simp only [if_pos c_1]; done) | (simp only [if_pos c_1]; rfl))⟩, by simp only [List.map_cons, List.map_nil], by rw [ht_9]; exact hP.sub [0, 1, 2] rfl, by rw [← hAe]; exact hS.F ht_9⟩) hS.2.2 dX7_gives_66
    · refine lv_iload_n hx hb dX7_gives_13 rfl (lv_at hl 2 rfl) ?_
      refine lv_iconst (v := 0) hx hb dX7_gives_14 (by decide) ?_
      refine lv_bipush (v := 6) hx hb dX7_gives_15 (by decide) ?_
      have hPc_17 := hP.sub (ws' := []) [] rfl
      refine ly_r (va_runS (As := [.int x2, .int 0, .int 6]) (rest := []) ⟨hx, hb, hml, hown, hts⟩ (c_X7_in l D cI cC cZ cN x2 0 6) (va_cwS 3 hts gX7_gives_X7_in rfl rfl rfl (by decide +kernel) ⟨Nat.le_of_ble_eq_true rfl, Nat.le_of_ble_eq_true rfl⟩) (ly_ps hK hN hPc_17) rfl rfl hl.1 rfl (lv_room (Nat.le_of_ble_eq_true rfl)) dX7_gives_17 ⟨Nat.zero_le _, Nat.zero_le _⟩) ?_
      refine lv_if_eq (tgt := 65) hx hb dX7_gives_20 (by decide) (fun c_2 => ?_) (fun c_2 => ?_)
      · refine lv_iconst (v := (-1)) hx hb dX7_gives_65 (by decide) ?_
        exact W.iret (v := (-1)) hx hb hr (fun t_9 ht_9 _ => by rw [hQc]; exact ⟨_, [((oA 0), .inr (7, [.int 0, .long mt, .ref (oA 2), .int (nI (mi 3)), .int (nI (mi 4)), .int (nI (mi 5)), .int (nI (mi 6)), .int (nI (mi 7)), .int fa, .ref (oA 9), .ref (oA 10), .ref (oA 11), .ref (oA 12), .ref (oA 13), .ref (oA 14), .ref (oA 15), .ref (oA 16), .ref (oA 17), .ref (oA 18), .int (nI (mi 19)), .ref (oA 20), .ref (oA 21), .ref (oA 22), .ref (oA 23), .int (nI (mi 24)), .ref (oA 25), .ref (oA 26), .ref (oA 27), .int (nI (mi 28)), .ref (oA 29), .ref (oA 30), .int (nI (mi 31)), .ref (oA 32), .int (nI (mi 33)), .int (nI (mi 34))])), ((oA 9), .inl (cI, 4, .inl (fun j => nI ((M 9) j)))), ((oA 20), .inl (cI, 23, .inl (fun j => nI ((M 20) j))))], rfl, ⟨(by first | rfl | (rw [if_neg c_1, if_pos c_2]; done) | (rw [if_neg c_1, if_pos c_2]; rfl) | (simp only [if_neg c_1, if_pos c_2]; done) | (simp only [if_neg c_1, if_pos c_2]; rfl)), (by first | rfl | (rw [if_neg c_1, if_pos c_2]; done) | (rw [if_neg c_1, if_pos c_2]; rfl) | (simp only [if_neg c_1, if_pos c_2]; done) | (simp only [if_neg c_1, if_pos c_2]; rfl))⟩, by simp only [List.map_cons, List.map_nil], by rw [ht_9]; exact hP.sub [0, 1, 2] rfl, by rw [← hAe]; exact hS.F ht_9⟩) hS.2.2 dX7_gives_66
      · refine lv_iload_n hx hb dX7_gives_23 rfl (lv_at hl 3 rfl) ?_
        refine lv_iconst (v := 0) hx hb dX7_gives_24 (by decide) ?_
        refine lv_bipush (v := 30) hx hb dX7_gives_25 (by decide) ?_
        have hPc_27 := hP.sub (ws' := []) [] rfl
        refine ly_r (va_runS (As := [.int x3, .int 0, .int 30]) (rest := []) ⟨hx, hb, hml, hown, hts⟩ (c_X7_in l D cI cC cZ cN x3 0 30) (va_cwS 3 hts gX7_gives_X7_in rfl rfl rfl (by decide +kernel) ⟨Nat.le_of_ble_eq_true rfl, Nat.le_of_ble_eq_true rfl⟩) (ly_ps hK hN hPc_27) rfl rfl hl.1 rfl (lv_room (Nat.le_of_ble_eq_true rfl)) dX7_gives_27 ⟨Nat.zero_le _, Nat.zero_le _⟩) ?_
        refine lv_if_eq (tgt := 65) hx hb dX7_gives_30 (by decide) (fun c_3 => ?_) (fun c_3 => ?_)
        · refine lv_iconst (v := (-1)) hx hb dX7_gives_65 (by decide) ?_
          exact W.iret (v := (-1)) hx hb hr (fun t_9 ht_9 _ => by rw [hQc]; exact ⟨_, [((oA 0), .inr (7, [.int 0, .long mt, .ref (oA 2), .int (nI (mi 3)), .int (nI (mi 4)), .int (nI (mi 5)), .int (nI (mi 6)), .int (nI (mi 7)), .int fa, .ref (oA 9), .ref (oA 10), .ref (oA 11), .ref (oA 12), .ref (oA 13), .ref (oA 14), .ref (oA 15), .ref (oA 16), .ref (oA 17), .ref (oA 18), .int (nI (mi 19)), .ref (oA 20), .ref (oA 21), .ref (oA 22), .ref (oA 23), .int (nI (mi 24)), .ref (oA 25), .ref (oA 26), .ref (oA 27), .int (nI (mi 28)), .ref (oA 29), .ref (oA 30), .int (nI (mi 31)), .ref (oA 32), .int (nI (mi 33)), .int (nI (mi 34))])), ((oA 9), .inl (cI, 4, .inl (fun j => nI ((M 9) j)))), ((oA 20), .inl (cI, 23, .inl (fun j => nI ((M 20) j))))], rfl, ⟨(by first | rfl | (rw [if_neg c_1, if_neg c_2, if_pos c_3]; done) | (rw [if_neg c_1, if_neg c_2, if_pos c_3]; rfl) | (simp only [if_neg c_1, if_neg c_2, if_pos c_3]; done) | (simp only [if_neg c_1, if_neg c_2, if_pos c_3]; rfl)), (by first | rfl | (rw [if_neg c_1, if_neg c_2, if_pos c_3]; done) | (rw [if_neg c_1, if_neg c_2, if_pos c_3]; rfl) | (simp only [if_neg c_1, if_neg c_2, if_pos c_3]; done) | (simp only [if_neg c_1, if_neg c_2, if_pos c_3]; rfl))⟩, by simp only [List.map_cons, List.map_nil], by rw [ht_9]; exact hP.sub [0, 1, 2] rfl, by rw [← hAe]; exact hS.F ht_9⟩) hS.2.2 dX7_gives_66
        · refine lv_iload hx hb dX7_gives_33 (lv_at hl 4 rfl) ?_
          refine lv_iconst (v := 0) hx hb dX7_gives_35 (by decide) ?_
          refine lv_bipush (v := 30) hx hb dX7_gives_36 (by decide) ?_
          have hPc_38 := hP.sub (ws' := []) [] rfl
          refine ly_r (va_runS (As := [.int x4, .int 0, .int 30]) (rest := []) ⟨hx, hb, hml, hown, hts⟩ (c_X7_in l D cI cC cZ cN x4 0 30) (va_cwS 3 hts gX7_gives_X7_in rfl rfl rfl (by decide +kernel) ⟨Nat.le_of_ble_eq_true rfl, Nat.le_of_ble_eq_true rfl⟩) (ly_ps hK hN hPc_38) rfl rfl hl.1 rfl (lv_room (Nat.le_of_ble_eq_true rfl)) dX7_gives_38 ⟨Nat.zero_le _, Nat.zero_le _⟩) ?_
          refine lv_if_eq (tgt := 65) hx hb dX7_gives_41 (by decide) (fun c_4 => ?_) (fun c_4 => ?_)
          · refine lv_iconst (v := (-1)) hx hb dX7_gives_65 (by decide) ?_
            exact W.iret (v := (-1)) hx hb hr (fun t_9 ht_9 _ => by rw [hQc]; exact ⟨_, [((oA 0), .inr (7, [.int 0, .long mt, .ref (oA 2), .int (nI (mi 3)), .int (nI (mi 4)), .int (nI (mi 5)), .int (nI (mi 6)), .int (nI (mi 7)), .int fa, .ref (oA 9), .ref (oA 10), .ref (oA 11), .ref (oA 12), .ref (oA 13), .ref (oA 14), .ref (oA 15), .ref (oA 16), .ref (oA 17), .ref (oA 18), .int (nI (mi 19)), .ref (oA 20), .ref (oA 21), .ref (oA 22), .ref (oA 23), .int (nI (mi 24)), .ref (oA 25), .ref (oA 26), .ref (oA 27), .int (nI (mi 28)), .ref (oA 29), .ref (oA 30), .int (nI (mi 31)), .ref (oA 32), .int (nI (mi 33)), .int (nI (mi 34))])), ((oA 9), .inl (cI, 4, .inl (fun j => nI ((M 9) j)))), ((oA 20), .inl (cI, 23, .inl (fun j => nI ((M 20) j))))], rfl, ⟨(by first | rfl | (rw [if_neg c_1, if_neg c_2, if_neg c_3, if_pos c_4]; done) | (rw [if_neg c_1, if_neg c_2, if_neg c_3, if_pos c_4]; rfl) | (simp only [if_neg c_1, if_neg c_2, if_neg c_3, if_pos c_4]; done) | (simp only [if_neg c_1, if_neg c_2, if_neg c_3, if_pos c_4]; rfl)), (by first | rfl | (rw [if_neg c_1, if_neg c_2, if_neg c_3, if_pos c_4]; done) | (rw [if_neg c_1, if_neg c_2, if_neg c_3, if_pos c_4]; rfl) | (simp only [if_neg c_1, if_neg c_2, if_neg c_3, if_pos c_4]; done) | (simp only [if_neg c_1, if_neg c_2, if_neg c_3, if_pos c_4]; rfl))⟩, by simp only [List.map_cons, List.map_nil], by rw [ht_9]; exact hP.sub [0, 1, 2] rfl, by rw [← hAe]; exact hS.F ht_9⟩) hS.2.2 dX7_gives_66
          · refine lv_iload hx hb dX7_gives_44 (lv_at hl 5 rfl) ?_
            refine lv_iconst (v := 0) hx hb dX7_gives_46 (by decide) ?_
            refine lv_bipush (v := 10) hx hb dX7_gives_47 (by decide) ?_
            have hPc_49 := hP.sub (ws' := []) [] rfl
            refine ly_r (va_runS (As := [.int x5, .int 0, .int 10]) (rest := []) ⟨hx, hb, hml, hown, hts⟩ (c_X7_in l D cI cC cZ cN x5 0 10) (va_cwS 3 hts gX7_gives_X7_in rfl rfl rfl (by decide +kernel) ⟨Nat.le_of_ble_eq_true rfl, Nat.le_of_ble_eq_true rfl⟩) (ly_ps hK hN hPc_49) rfl rfl hl.1 rfl (lv_room (Nat.le_of_ble_eq_true rfl)) dX7_gives_49 ⟨Nat.zero_le _, Nat.zero_le _⟩) ?_
            refine lv_if_eq (tgt := 65) hx hb dX7_gives_52 (by decide) (fun c_5 => ?_) (fun c_5 => ?_)
            · refine lv_iconst (v := (-1)) hx hb dX7_gives_65 (by decide) ?_
              exact W.iret (v := (-1)) hx hb hr (fun t_9 ht_9 _ => by rw [hQc]; exact ⟨_, [((oA 0), .inr (7, [.int 0, .long mt, .ref (oA 2), .int (nI (mi 3)), .int (nI (mi 4)), .int (nI (mi 5)), .int (nI (mi 6)), .int (nI (mi 7)), .int fa, .ref (oA 9), .ref (oA 10), .ref (oA 11), .ref (oA 12), .ref (oA 13), .ref (oA 14), .ref (oA 15), .ref (oA 16), .ref (oA 17), .ref (oA 18), .int (nI (mi 19)), .ref (oA 20), .ref (oA 21), .ref (oA 22), .ref (oA 23), .int (nI (mi 24)), .ref (oA 25), .ref (oA 26), .ref (oA 27), .int (nI (mi 28)), .ref (oA 29), .ref (oA 30), .int (nI (mi 31)), .ref (oA 32), .int (nI (mi 33)), .int (nI (mi 34))])), ((oA 9), .inl (cI, 4, .inl (fun j => nI ((M 9) j)))), ((oA 20), .inl (cI, 23, .inl (fun j => nI ((M 20) j))))], rfl, ⟨(by first | rfl | (rw [if_neg c_1, if_neg c_2, if_neg c_3, if_neg c_4, if_pos c_5]; done) | (rw [if_neg c_1, if_neg c_2, if_neg c_3, if_neg c_4, if_pos c_5]; rfl) | (simp only [if_neg c_1, if_neg c_2, if_neg c_3, if_neg c_4, if_pos c_5]; done) | (simp only [if_neg c_1, if_neg c_2, if_neg c_3, if_neg c_4, if_pos c_5]; rfl)), (by first | rfl | (rw [if_neg c_1, if_neg c_2, if_neg c_3, if_neg c_4, if_pos c_5]; done) | (rw [if_neg c_1, if_neg c_2, if_neg c_3, if_neg c_4, if_pos c_5]; rfl) | (simp only [if_neg c_1, if_neg c_2, if_neg c_3, if_neg c_4, if_pos c_5]; done) | (simp only [if_neg c_1, if_neg c_2, if_neg c_3, if_neg c_4, if_pos c_5]; rfl))⟩, by simp only [List.map_cons, List.map_nil], by rw [ht_9]; exact hP.sub [0, 1, 2] rfl, by rw [← hAe]; exact hS.F ht_9⟩) hS.2.2 dX7_gives_66
            · refine lv_iload hx hb dX7_gives_55 (lv_at hl 6 rfl) ?_
              refine lv_iconst (v := 0) hx hb dX7_gives_57 (by decide) ?_
              refine lv_iconst (v := 1) hx hb dX7_gives_58 (by decide) ?_
              have hPc_59 := hP.sub (ws' := []) [] rfl
              refine ly_r (va_runS (As := [.int x6, .int 0, .int 1]) (rest := []) ⟨hx, hb, hml, hown, hts⟩ (c_X7_in l D cI cC cZ cN x6 0 1) (va_cwS 3 hts gX7_gives_X7_in rfl rfl rfl (by decide +kernel) ⟨Nat.le_of_ble_eq_true rfl, Nat.le_of_ble_eq_true rfl⟩) (ly_ps hK hN hPc_59) rfl rfl hl.1 rfl (lv_room (Nat.le_of_ble_eq_true rfl)) dX7_gives_59 ⟨Nat.zero_le _, Nat.zero_le _⟩) ?_
              refine lv_if_ne (tgt := 67) hx hb dX7_gives_62 (by decide) (fun c_6 => ?_) (fun c_6 => ?_)
              · rcases hb9 with h_9 | h_9 | h_9 | h_9 | h_9 | h_9 <;> exact absurd h_9 (by assumption)
              · refine lv_iconst (v := (-1)) hx hb dX7_gives_65 (by decide) ?_
                exact W.iret (v := (-1)) hx hb hr (fun t_9 ht_9 _ => by rw [hQc]; exact ⟨_, [((oA 0), .inr (7, [.int 0, .long mt, .ref (oA 2), .int (nI (mi 3)), .int (nI (mi 4)), .int (nI (mi 5)), .int (nI (mi 6)), .int (nI (mi 7)), .int fa, .ref (oA 9), .ref (oA 10), .ref (oA 11), .ref (oA 12), .ref (oA 13), .ref (oA 14), .ref (oA 15), .ref (oA 16), .ref (oA 17), .ref (oA 18), .int (nI (mi 19)), .ref (oA 20), .ref (oA 21), .ref (oA 22), .ref (oA 23), .int (nI (mi 24)), .ref (oA 25), .ref (oA 26), .ref (oA 27), .int (nI (mi 28)), .ref (oA 29), .ref (oA 30), .int (nI (mi 31)), .ref (oA 32), .int (nI (mi 33)), .int (nI (mi 34))])), ((oA 9), .inl (cI, 4, .inl (fun j => nI ((M 9) j)))), ((oA 20), .inl (cI, 23, .inl (fun j => nI ((M 20) j))))], rfl, ⟨(by first | rfl | (rw [if_neg c_1, if_neg c_2, if_neg c_3, if_neg c_4, if_neg c_5, if_pos c_6]; done) | (rw [if_neg c_1, if_neg c_2, if_neg c_3, if_neg c_4, if_neg c_5, if_pos c_6]; rfl) | (simp only [if_neg c_1, if_neg c_2, if_neg c_3, if_neg c_4, if_neg c_5, if_pos c_6]; done) | (simp only [if_neg c_1, if_neg c_2, if_neg c_3, if_neg c_4, if_neg c_5, if_pos c_6]; rfl)), (by first | rfl | (rw [if_neg c_1, if_neg c_2, if_neg c_3, if_neg c_4, if_neg c_5, if_pos c_6]; done) | (rw [if_neg c_1, if_neg c_2, if_neg c_3, if_neg c_4, if_neg c_5, if_pos c_6]; rfl) | (simp only [if_neg c_1, if_neg c_2, if_neg c_3, if_neg c_4, if_neg c_5, if_pos c_6]; done) | (simp only [if_neg c_1, if_neg c_2, if_neg c_3, if_neg c_4, if_neg c_5, if_pos c_6]; rfl))⟩, by simp only [List.map_cons, List.map_nil], by rw [ht_9]; exact hP.sub [0, 1, 2] rfl, by rw [← hAe]; exact hS.F ht_9⟩) hS.2.2 dX7_gives_66
  exact hmain _ _ hP va_S.rf

def m_goB (a1 b1 x1 st : Nat) (i : Nat) (v0 : Nat) (v1 : Nat) : Nat × Nat := (if (((nI st) >>> ((nI i) &&& 31)) &&& 1) = 1 then ((v0) * x1, v1 + a1) else ((v0) * (10 - x1), v1 + b1))
def m_go (a1 b1 x1 st : Nat) : Nat → Nat × Nat
  | 0 => (1, 0)
  | i + 1 => m_goB a1 b1 x1 st i ((m_go a1 b1 x1 st i).1) ((m_go a1 b1 x1 st i).2)
def m_gvB (M : Nat → Nat → Nat) (k n1 a1 b1 x1 : Nat) (st : Nat) (v0 : Nat) : Nat := (if (nI ((m_go a1 b1 x1 st n1).2)) ≤ (nI ((M 20) (11 + k))) then v0 + 0 else v0 + (m_go a1 b1 x1 st n1).1)
def m_gv (M : Nat → Nat → Nat) (k n1 a1 b1 x1 : Nat) : Nat → Nat
  | 0 => 0
  | st + 1 => m_gvB M k n1 a1 b1 x1 st (m_gv M k n1 a1 b1 x1 st)
def m_tenB  (i : Nat) (v0 : Nat) : Nat := v0 * 10
def m_ten  : Nat → Nat
  | 0 => 1
  | i + 1 => m_tenB  i (m_ten i)
theorem m_go_le (n1 a1 b1 x1 st : Nat) (hx : x1 ≤ 10) : ∀ i, (m_go a1 b1 x1 st i).1 ≤ 10 ^ i
  | 0 => Nat.le_refl _
  | i + 1 => by
    have ih := m_go_le n1 a1 b1 x1 st hx i
    show (m_goB a1 b1 x1 st i _ _).1 ≤ 10 ^ (i + 1)
    unfold m_goB
    rw [Nat.pow_succ]
    split
    · exact Nat.mul_le_mul ih hx
    · exact Nat.mul_le_mul ih (Nat.sub_le _ _)
theorem m_p10 {n1 : Nat} (h : n1 ≤ 6) : 10 ^ n1 ≤ 1000000 := Nat.pow_le_pow_right (n := 10) (by decide) h
theorem m_gv_le (M : Nat → Nat → Nat) (k n1 a1 b1 x1 : Nat) (hn1 : n1 ≤ 6) (hx : x1 ≤ 10) : ∀ i, m_gv M k n1 a1 b1 x1 i ≤ i * 1000000
  | 0 => Nat.zero_le _
  | i + 1 => by
    have ih := m_gv_le M k n1 a1 b1 x1 hn1 hx i
    have h2 := Nat.le_trans (m_go_le n1 a1 b1 x1 i hx n1) (m_p10 hn1)
    show m_gvB M k n1 a1 b1 x1 i _ ≤ (i + 1) * 1000000
    unfold m_gvB
    rw [Nat.succ_mul]
    split
    · exact Nat.le_trans ih (Nat.le_add_right _ _)
    · exact Nat.add_le_add ih h2
theorem m_ten_eq : ∀ i, m_ten i = 10 ^ i
  | 0 => rfl
  | i + 1 => by
    show m_ten i * 10 = 10 ^ (i + 1)
    rw [m_ten_eq i, Nat.pow_succ]
set_option maxHeartbeats 4000000 in
set_option maxRecDepth 100000 in
theorem c_X7_gives_0 (l : Launch) (D : va_G) (cI cC cZ cN : ClassId) (oA : Nat → Nat) (M : Nat → Nat → Nat) (mi : Nat → Nat) (fa : Int32) (mt : Int64) (k n1 a1 b1 x1 : Nat) (hk : k < M 9 0) (hn : M 9 0 ≤ 9) (h1 : n1 ≤ 6) (h2 : a1 ≤ 30) (h3 : b1 ≤ 30) (h4 : x1 ≤ 10) (N1 : Nat) (hN1 : 2 ^ n1 = N1) (hN5 : N1 ≤ 64) (hD0 : va_D (fun _ => True) [((oA 0), .inr (7, [.int 0, .long mt, .ref (oA 2), .int (nI (mi 3)), .int (nI (mi 4)), .int (nI (mi 5)), .int (nI (mi 6)), .int (nI (mi 7)), .int fa, .ref (oA 9), .ref (oA 10), .ref (oA 11), .ref (oA 12), .ref (oA 13), .ref (oA 14), .ref (oA 15), .ref (oA 16), .ref (oA 17), .ref (oA 18), .int (nI (mi 19)), .ref (oA 20), .ref (oA 21), .ref (oA 22), .ref (oA 23), .int (nI (mi 24)), .ref (oA 25), .ref (oA 26), .ref (oA 27), .int (nI (mi 28)), .ref (oA 29), .ref (oA 30), .int (nI (mi 31)), .ref (oA 32), .int (nI (mi 33)), .int (nI (mi 34))])), ((oA 9), .inl (cI, 4, .inl (fun j => nI ((M 9) j)))), ((oA 20), .inl (cI, 23, .inl (fun j => nI ((M 20) j))))]) : Met l yX7_gives wsX7_gives (ly_rm 6) (ly_Pre D (ly_tys cI cC cZ cN) [((oA 0), .inr (7, [.int 0, .long mt, .ref (oA 2), .int (nI (mi 3)), .int (nI (mi 4)), .int (nI (mi 5)), .int (nI (mi 6)), .int (nI (mi 7)), .int fa, .ref (oA 9), .ref (oA 10), .ref (oA 11), .ref (oA 12), .ref (oA 13), .ref (oA 14), .ref (oA 15), .ref (oA 16), .ref (oA 17), .ref (oA 18), .int (nI (mi 19)), .ref (oA 20), .ref (oA 21), .ref (oA 22), .ref (oA 23), .int (nI (mi 24)), .ref (oA 25), .ref (oA 26), .ref (oA 27), .int (nI (mi 28)), .ref (oA 29), .ref (oA 30), .int (nI (mi 31)), .ref (oA 32), .int (nI (mi 33)), .int (nI (mi 34))])), ((oA 9), .inl (cI, 4, .inl (fun j => nI ((M 9) j)))), ((oA 20), .inl (cI, 23, .inl (fun j => nI ((M 20) j))))] [.ref (oA 0), .int (nI k), .int (nI n1), .int (nI a1), .int (nI b1), .int (nI x1), .int (nI 0)]) (ly_Q D [((oA 0), .inr (7, [.int 0, .long mt, .ref (oA 2), .int (nI (mi 3)), .int (nI (mi 4)), .int (nI (mi 5)), .int (nI (mi 6)), .int (nI (mi 7)), .int fa, .ref (oA 9), .ref (oA 10), .ref (oA 11), .ref (oA 12), .ref (oA 13), .ref (oA 14), .ref (oA 15), .ref (oA 16), .ref (oA 17), .ref (oA 18), .int (nI (mi 19)), .ref (oA 20), .ref (oA 21), .ref (oA 22), .ref (oA 23), .int (nI (mi 24)), .ref (oA 25), .ref (oA 26), .ref (oA 27), .int (nI (mi 28)), .ref (oA 29), .ref (oA 30), .int (nI (mi 31)), .ref (oA 32), .int (nI (mi 33)), .int (nI (mi 34))])), ((oA 9), .inl (cI, 4, .inl (fun j => nI ((M 9) j)))), ((oA 20), .inl (cI, 23, .inl (fun j => nI ((M 20) j))))] (fun r_9 w_9 => r_9 = some (.int (nI ((m_gv M k n1 a1 b1 x1 N1) / Nat.gcd (m_gv M k n1 a1 b1 x1 N1) (m_ten n1)))) ∧ w_9 = [((oA 0), .inr (7, [.int 0, .long mt, .ref (oA 2), .int (nI (mi 3)), .int (nI (mi 4)), .int (nI (mi 5)), .int (nI (mi 6)), .int (nI (mi 7)), .int fa, .ref (oA 9), .ref (oA 10), .ref (oA 11), .ref (oA 12), .ref (oA 13), .ref (oA 14), .ref (oA 15), .ref (oA 16), .ref (oA 17), .ref (oA 18), .int (nI (mi 19)), .ref (oA 20), .ref (oA 21), .ref (oA 22), .ref (oA 23), .int (nI (mi 24)), .ref (oA 25), .ref (oA 26), .ref (oA 27), .int (nI (mi 28)), .ref (oA 29), .ref (oA 30), .int (nI (mi 31)), .ref (oA 32), .int (nI (mi 33)), .int (nI (mi 34))])), ((oA 9), .inl (cI, 4, .inl (fun j => nI ((M 9) j)))), ((oA 20), .inl (cI, 23, .inl (fun j => nI ((M 20) j))))])) 0 0 (ly_in [((oA 0), .inr (7, [.int 0, .long mt, .ref (oA 2), .int (nI (mi 3)), .int (nI (mi 4)), .int (nI (mi 5)), .int (nI (mi 6)), .int (nI (mi 7)), .int fa, .ref (oA 9), .ref (oA 10), .ref (oA 11), .ref (oA 12), .ref (oA 13), .ref (oA 14), .ref (oA 15), .ref (oA 16), .ref (oA 17), .ref (oA 18), .int (nI (mi 19)), .ref (oA 20), .ref (oA 21), .ref (oA 22), .ref (oA 23), .int (nI (mi 24)), .ref (oA 25), .ref (oA 26), .ref (oA 27), .int (nI (mi 28)), .ref (oA 29), .ref (oA 30), .int (nI (mi 31)), .ref (oA 32), .int (nI (mi 33)), .int (nI (mi 34))])), ((oA 9), .inl (cI, 4, .inl (fun j => nI ((M 9) j)))), ((oA 20), .inl (cI, 23, .inl (fun j => nI ((M 20) j))))]) := by
  refine Met.ofW (cc := cX7_gives) (maxL := 13) (ret := (some .int)) (by decide) rfl ?_
  intro p e s m args below meth c s₁ B hml hv
  obtain ⟨rfl, hP, hK, hN⟩ := hv
  have hx := B.exec
  have hb := B.bytes
  have hr := B.returns
  have hts := atoms_spec (ws := wsX7_gives) B.pre
  have hown : s.vm.findClass RX7 = some m.cls := findClass_of_methodNamed B.named
  have hlocks := B.notSynchronized
  have hl := lv_entry ([.ref (oA 0), .int (nI k), .int (nI n1), .int (nI a1), .int (nI b1), .int (nI x1), .int (nI 0)]) (n := 13) (Nat.le_of_ble_eq_true rfl)
  rw [lg_entry_eq]
  generalize (lg_sl ([.ref (oA 0), .int (nI k), .int (nI n1), .int (nI a1), .int (nI b1), .int (nI x1), .int (nI 0)]) ++ List.replicate (13 - (lg_sl ([.ref (oA 0), .int (nI k), .int (nI n1), .int (nI a1), .int (nI b1), .int (nI x1), .int (nI 0)])).length) Slot.unset).toArray = ls at hl ⊢
  have hl : lv_has ls 13 [(0, .ref (oA 0)), (1, .int (nI k)), (2, .int (nI n1)), (3, .int (nI a1)), (4, .int (nI b1)), (5, .int (nI x1)), (6, .int (nI 0))] := hl
  generalize ([.ref (oA 0), .int (nI k), .int (nI n1), .int (nI a1), .int (nI b1), .int (nI x1), .int (nI 0)] : List Value).toArray = av at hts ⊢
  obtain ⟨Qc, hQc⟩ : ∃ Qc, Qc = (ly_Q D [((oA 0), .inr (7, [.int 0, .long mt, .ref (oA 2), .int (nI (mi 3)), .int (nI (mi 4)), .int (nI (mi 5)), .int (nI (mi 6)), .int (nI (mi 7)), .int fa, .ref (oA 9), .ref (oA 10), .ref (oA 11), .ref (oA 12), .ref (oA 13), .ref (oA 14), .ref (oA 15), .ref (oA 16), .ref (oA 17), .ref (oA 18), .int (nI (mi 19)), .ref (oA 20), .ref (oA 21), .ref (oA 22), .ref (oA 23), .int (nI (mi 24)), .ref (oA 25), .ref (oA 26), .ref (oA 27), .int (nI (mi 28)), .ref (oA 29), .ref (oA 30), .int (nI (mi 31)), .ref (oA 32), .int (nI (mi 33)), .int (nI (mi 34))])), ((oA 9), .inl (cI, 4, .inl (fun j => nI ((M 9) j)))), ((oA 20), .inl (cI, 23, .inl (fun j => nI ((M 20) j))))] (fun r_9 w_9 => r_9 = some (.int (nI ((m_gv M k n1 a1 b1 x1 N1) / Nat.gcd (m_gv M k n1 a1 b1 x1 N1) (m_ten n1)))) ∧ w_9 = [((oA 0), .inr (7, [.int 0, .long mt, .ref (oA 2), .int (nI (mi 3)), .int (nI (mi 4)), .int (nI (mi 5)), .int (nI (mi 6)), .int (nI (mi 7)), .int fa, .ref (oA 9), .ref (oA 10), .ref (oA 11), .ref (oA 12), .ref (oA 13), .ref (oA 14), .ref (oA 15), .ref (oA 16), .ref (oA 17), .ref (oA 18), .int (nI (mi 19)), .ref (oA 20), .ref (oA 21), .ref (oA 22), .ref (oA 23), .int (nI (mi 24)), .ref (oA 25), .ref (oA 26), .ref (oA 27), .int (nI (mi 28)), .ref (oA 29), .ref (oA 30), .int (nI (mi 31)), .ref (oA 32), .int (nI (mi 33)), .int (nI (mi 34))])), ((oA 9), .inl (cI, 4, .inl (fun j => nI ((M 9) j)))), ((oA 20), .inl (cI, 23, .inl (fun j => nI ((M 20) j))))])) := ⟨_, rfl⟩
  rw [← hQc]
  obtain ⟨A, hAe⟩ : ∃ A, A = ly_in [((oA 0), .inr (7, [.int 0, .long mt, .ref (oA 2), .int (nI (mi 3)), .int (nI (mi 4)), .int (nI (mi 5)), .int (nI (mi 6)), .int (nI (mi 7)), .int fa, .ref (oA 9), .ref (oA 10), .ref (oA 11), .ref (oA 12), .ref (oA 13), .ref (oA 14), .ref (oA 15), .ref (oA 16), .ref (oA 17), .ref (oA 18), .int (nI (mi 19)), .ref (oA 20), .ref (oA 21), .ref (oA 22), .ref (oA 23), .int (nI (mi 24)), .ref (oA 25), .ref (oA 26), .ref (oA 27), .int (nI (mi 28)), .ref (oA 29), .ref (oA 30), .int (nI (mi 31)), .ref (oA 32), .int (nI (mi 33)), .int (nI (mi 34))])), ((oA 9), .inl (cI, 4, .inl (fun j => nI ((M 9) j)))), ((oA 20), .inl (cI, 23, .inl (fun j => nI ((M 20) j))))] := ⟨_, rfl⟩
  rw [← hAe]
  have hD := ly_self hD0
  rw [← hAe] at hD
  have f80 := hts (.fieldLink RX7 80 "KneesLentModel" "thrown" "I") (by decide +kernel)
  have f43 := hts (.fieldLink RX7 43 "KneesLentModel" "s" "[I") (by decide +kernel)
  have hiX7 : ∀ w ∈ u_ws RX7 TX7 35, w ∈ wsX7_gives := by decide +kernel
  have hmain : ∀ (H : Heap) (locs : List Loc), va_P D vwCl [((oA 0), .inr (7, [.int 0, .long mt, .ref (oA 2), .int (nI (mi 3)), .int (nI (mi 4)), .int (nI (mi 5)), .int (nI (mi 6)), .int (nI (mi 7)), .int fa, .ref (oA 9), .ref (oA 10), .ref (oA 11), .ref (oA 12), .ref (oA 13), .ref (oA 14), .ref (oA 15), .ref (oA 16), .ref (oA 17), .ref (oA 18), .int (nI (mi 19)), .ref (oA 20), .ref (oA 21), .ref (oA 22), .ref (oA 23), .int (nI (mi 24)), .ref (oA 25), .ref (oA 26), .ref (oA 27), .int (nI (mi 28)), .ref (oA 29), .ref (oA 30), .int (nI (mi 31)), .ref (oA 32), .int (nI (mi 33)), .int (nI (mi 34))])), ((oA 9), .inl (cI, 4, .inl (fun j => nI ((M 9) j)))), ((oA 20), .inl (cI, 23, .inl (fun j => nI ((M 20) j))))] H → va_S A s.heap H locs → W p l e (headSpec wsX7_gives (ly_rm 6)).room s m av below meth c H locs 0 0 (MQ below Qc av s 0 0 A) (F0 m 0 ls []) := by
    intro H locs hP hS
    refine lv_aload_n hx hb dX7_gives_0 rfl (lv_at hl 0 rfl) ?_
    refine lv_iconst (v := 0) hx hb dX7_gives_1 (by decide) ?_
    refine va_put (D := D) (ci := 7) (v := .int 0) (ty := .int) (C := RX7) (T := TX7) (N := 35) hx hb hts hiX7 tyX7 tyX7_ok nmX7 hown hK hP hD hS 0 rfl rfl 0 (by decide) f80 (fun _ h9 => h9) rfl (by decide +kernel) rfl rfl (Nat.le_of_ble_eq_true rfl) dX7_gives_2 (fun H locs hP hD hS => ?_)
    have hP : va_P D vwCl [((oA 0), .inr (7, [.int 0, .long mt, .ref (oA 2), .int (nI (mi 3)), .int (nI (mi 4)), .int (nI (mi 5)), .int (nI (mi 6)), .int (nI (mi 7)), .int fa, .ref (oA 9), .ref (oA 10), .ref (oA 11), .ref (oA 12), .ref (oA 13), .ref (oA 14), .ref (oA 15), .ref (oA 16), .ref (oA 17), .ref (oA 18), .int (nI (mi 19)), .ref (oA 20), .ref (oA 21), .ref (oA 22), .ref (oA 23), .int (nI (mi 24)), .ref (oA 25), .ref (oA 26), .ref (oA 27), .int (nI (mi 28)), .ref (oA 29), .ref (oA 30), .int (nI (mi 31)), .ref (oA 32), .int (nI (mi 33)), .int (nI (mi 34))])), ((oA 9), .inl (cI, 4, .inl (fun j => nI ((M 9) j)))), ((oA 20), .inl (cI, 23, .inl (fun j => nI ((M 20) j))))] H := hP
    have hD : va_D A [((oA 0), .inr (7, [.int 0, .long mt, .ref (oA 2), .int (nI (mi 3)), .int (nI (mi 4)), .int (nI (mi 5)), .int (nI (mi 6)), .int (nI (mi 7)), .int fa, .ref (oA 9), .ref (oA 10), .ref (oA 11), .ref (oA 12), .ref (oA 13), .ref (oA 14), .ref (oA 15), .ref (oA 16), .ref (oA 17), .ref (oA 18), .int (nI (mi 19)), .ref (oA 20), .ref (oA 21), .ref (oA 22), .ref (oA 23), .int (nI (mi 24)), .ref (oA 25), .ref (oA 26), .ref (oA 27), .int (nI (mi 28)), .ref (oA 29), .ref (oA 30), .int (nI (mi 31)), .ref (oA 32), .int (nI (mi 33)), .int (nI (mi 34))])), ((oA 9), .inl (cI, 4, .inl (fun j => nI ((M 9) j)))), ((oA 20), .inl (cI, 23, .inl (fun j => nI ((M 20) j))))] := hD
    refine lv_aload_n hx hb dX7_gives_5 rfl (lv_at hl 0 rfl) ?_
    refine lv_iload_n hx hb dX7_gives_6 rfl (lv_at hl 1 rfl) ?_
    have hPc_7 := hP.sub (ws' := [((oA 0), .inr (7, [.int 0, .long mt, .ref (oA 2), .int (nI (mi 3)), .int (nI (mi 4)), .int (nI (mi 5)), .int (nI (mi 6)), .int (nI (mi 7)), .int fa, .ref (oA 9), .ref (oA 10), .ref (oA 11), .ref (oA 12), .ref (oA 13), .ref (oA 14), .ref (oA 15), .ref (oA 16), .ref (oA 17), .ref (oA 18), .int (nI (mi 19)), .ref (oA 20), .ref (oA 21), .ref (oA 22), .ref (oA 23), .int (nI (mi 24)), .ref (oA 25), .ref (oA 26), .ref (oA 27), .int (nI (mi 28)), .ref (oA 29), .ref (oA 30), .int (nI (mi 31)), .ref (oA 32), .int (nI (mi 33)), .int (nI (mi 34))])), ((oA 9), .inl (cI, 4, .inl (fun j => nI ((M 9) j))))]) [0, 1] rfl
    refine ly_r (va_runV (As := [.int (nI k)]) (rest := []) ⟨hx, hb, hml, hown, hts⟩ (c_X7_isKnee l D cI cC cZ cN oA M mi fa mt (nI k)) (cwV 1 hts gX7_gives_X7_isKnee rfl rfl rfl (by decide +kernel) ⟨Nat.le_of_ble_eq_true rfl, Nat.le_of_ble_eq_true rfl⟩) (ly_pv hK hN hPc_7 0 7 rfl rfl rfl) rfl rfl hl.1 rfl (lv_room (Nat.le_of_ble_eq_true rfl)) dX7_gives_7 ⟨Nat.zero_le _, Nat.zero_le _⟩) ?_
    refine lv_if_eq (tgt := 65) hx hb dX7_gives_10 (by decide) (fun h_9 => absurd h_9 (jin_ix hk hn)) (fun _ => ?_)
    refine lv_iload_n hx hb dX7_gives_13 rfl (lv_at hl 2 rfl) ?_
    refine lv_iconst (v := 0) hx hb dX7_gives_14 (by decide) ?_
    refine lv_bipush (v := 6) hx hb dX7_gives_15 (by decide) ?_
    have hPc_17 := hP.sub (ws' := []) [] rfl
    refine ly_r (va_runS (As := [.int (nI n1), .int 0, .int 6]) (rest := []) ⟨hx, hb, hml, hown, hts⟩ (c_X7_in l D cI cC cZ cN (nI n1) 0 6) (va_cwS 3 hts gX7_gives_X7_in rfl rfl rfl (by decide +kernel) ⟨Nat.le_of_ble_eq_true rfl, Nat.le_of_ble_eq_true rfl⟩) (ly_ps hK hN hPc_17) rfl rfl hl.1 rfl (lv_room (Nat.le_of_ble_eq_true rfl)) dX7_gives_17 ⟨Nat.zero_le _, Nat.zero_le _⟩) ?_
    refine lv_if_eq (tgt := 65) hx hb dX7_gives_20 (by decide) (fun h_9 => absurd h_9 (jin_yes (b := 6) h1 (by omega))) (fun _ => ?_)
    refine lv_iload_n hx hb dX7_gives_23 rfl (lv_at hl 3 rfl) ?_
    refine lv_iconst (v := 0) hx hb dX7_gives_24 (by decide) ?_
    refine lv_bipush (v := 30) hx hb dX7_gives_25 (by decide) ?_
    have hPc_27 := hP.sub (ws' := []) [] rfl
    refine ly_r (va_runS (As := [.int (nI a1), .int 0, .int 30]) (rest := []) ⟨hx, hb, hml, hown, hts⟩ (c_X7_in l D cI cC cZ cN (nI a1) 0 30) (va_cwS 3 hts gX7_gives_X7_in rfl rfl rfl (by decide +kernel) ⟨Nat.le_of_ble_eq_true rfl, Nat.le_of_ble_eq_true rfl⟩) (ly_ps hK hN hPc_27) rfl rfl hl.1 rfl (lv_room (Nat.le_of_ble_eq_true rfl)) dX7_gives_27 ⟨Nat.zero_le _, Nat.zero_le _⟩) ?_
    refine lv_if_eq (tgt := 65) hx hb dX7_gives_30 (by decide) (fun h_9 => absurd h_9 (jin_yes (b := 30) h2 (by omega))) (fun _ => ?_)
    refine lv_iload hx hb dX7_gives_33 (lv_at hl 4 rfl) ?_
    refine lv_iconst (v := 0) hx hb dX7_gives_35 (by decide) ?_
    refine lv_bipush (v := 30) hx hb dX7_gives_36 (by decide) ?_
    have hPc_38 := hP.sub (ws' := []) [] rfl
    refine ly_r (va_runS (As := [.int (nI b1), .int 0, .int 30]) (rest := []) ⟨hx, hb, hml, hown, hts⟩ (c_X7_in l D cI cC cZ cN (nI b1) 0 30) (va_cwS 3 hts gX7_gives_X7_in rfl rfl rfl (by decide +kernel) ⟨Nat.le_of_ble_eq_true rfl, Nat.le_of_ble_eq_true rfl⟩) (ly_ps hK hN hPc_38) rfl rfl hl.1 rfl (lv_room (Nat.le_of_ble_eq_true rfl)) dX7_gives_38 ⟨Nat.zero_le _, Nat.zero_le _⟩) ?_
    refine lv_if_eq (tgt := 65) hx hb dX7_gives_41 (by decide) (fun h_9 => absurd h_9 (jin_yes (b := 30) h3 (by omega))) (fun _ => ?_)
    refine lv_iload hx hb dX7_gives_44 (lv_at hl 5 rfl) ?_
    refine lv_iconst (v := 0) hx hb dX7_gives_46 (by decide) ?_
    refine lv_bipush (v := 10) hx hb dX7_gives_47 (by decide) ?_
    have hPc_49 := hP.sub (ws' := []) [] rfl
    refine ly_r (va_runS (As := [.int (nI x1), .int 0, .int 10]) (rest := []) ⟨hx, hb, hml, hown, hts⟩ (c_X7_in l D cI cC cZ cN (nI x1) 0 10) (va_cwS 3 hts gX7_gives_X7_in rfl rfl rfl (by decide +kernel) ⟨Nat.le_of_ble_eq_true rfl, Nat.le_of_ble_eq_true rfl⟩) (ly_ps hK hN hPc_49) rfl rfl hl.1 rfl (lv_room (Nat.le_of_ble_eq_true rfl)) dX7_gives_49 ⟨Nat.zero_le _, Nat.zero_le _⟩) ?_
    refine lv_if_eq (tgt := 65) hx hb dX7_gives_52 (by decide) (fun h_9 => absurd h_9 (jin_yes (b := 10) h4 (by omega))) (fun _ => ?_)
    refine lv_iload hx hb dX7_gives_55 (lv_at hl 6 rfl) ?_
    refine lv_iconst (v := 0) hx hb dX7_gives_57 (by decide) ?_
    refine lv_iconst (v := 1) hx hb dX7_gives_58 (by decide) ?_
    have hPc_59 := hP.sub (ws' := []) [] rfl
    refine ly_r (va_runS (As := [.int (nI 0), .int 0, .int 1]) (rest := []) ⟨hx, hb, hml, hown, hts⟩ (c_X7_in l D cI cC cZ cN (nI 0) 0 1) (va_cwS 3 hts gX7_gives_X7_in rfl rfl rfl (by decide +kernel) ⟨Nat.le_of_ble_eq_true rfl, Nat.le_of_ble_eq_true rfl⟩) (ly_ps hK hN hPc_59) rfl rfl hl.1 rfl (lv_room (Nat.le_of_ble_eq_true rfl)) dX7_gives_59 ⟨Nat.zero_le _, Nat.zero_le _⟩) ?_
    refine lv_if_ne (tgt := 67) hx hb dX7_gives_62 (by decide) (fun _ => ?_) (fun h_9 => absurd h_9 (jin_yes (b := 1) (by omega) (by omega)))
    refine lv_iconst (v := 0) hx hb dX7_gives_67 (by decide) ?_
    refine lv_istore (lv' := [(7, .int 0), (0, .ref (oA 0)), (1, .int (nI k)), (2, .int (nI n1)), (3, .int (nI a1)), (4, .int (nI b1)), (5, .int (nI x1)), (6, .int (nI 0))]) hx hb dX7_gives_68 hl (by decide) rfl (fun ls hl => ?_)
    refine lv_iconst (v := 1) hx hb dX7_gives_70 (by decide) ?_
    refine lv_istore (lv' := [(8, .int 1), (7, .int 0), (0, .ref (oA 0)), (1, .int (nI k)), (2, .int (nI n1)), (3, .int (nI a1)), (4, .int (nI b1)), (5, .int (nI x1)), (6, .int (nI 0))]) hx hb dX7_gives_71 hl (by decide) rfl (fun ls hl => ?_)
    refine lv_iconst (v := 0) hx hb dX7_gives_73 (by decide) ?_
    refine lv_istore (lv' := [(9, .int 0), (8, .int 1), (7, .int 0), (0, .ref (oA 0)), (1, .int (nI k)), (2, .int (nI n1)), (3, .int (nI a1)), (4, .int (nI b1)), (5, .int (nI x1)), (6, .int (nI 0))]) hx hb dX7_gives_74 hl (by decide) rfl (fun ls hl => ?_)
    have hloop_76 : ∀ (ua i : Nat), i + ua = n1 → ∀ (H : Heap) (locs : List Loc), va_P D vwCl [((oA 0), .inr (7, [.int 0, .long mt, .ref (oA 2), .int (nI (mi 3)), .int (nI (mi 4)), .int (nI (mi 5)), .int (nI (mi 6)), .int (nI (mi 7)), .int fa, .ref (oA 9), .ref (oA 10), .ref (oA 11), .ref (oA 12), .ref (oA 13), .ref (oA 14), .ref (oA 15), .ref (oA 16), .ref (oA 17), .ref (oA 18), .int (nI (mi 19)), .ref (oA 20), .ref (oA 21), .ref (oA 22), .ref (oA 23), .int (nI (mi 24)), .ref (oA 25), .ref (oA 26), .ref (oA 27), .int (nI (mi 28)), .ref (oA 29), .ref (oA 30), .int (nI (mi 31)), .ref (oA 32), .int (nI (mi 33)), .int (nI (mi 34))])), ((oA 9), .inl (cI, 4, .inl (fun j => nI ((M 9) j)))), ((oA 20), .inl (cI, 23, .inl (fun j => nI ((M 20) j))))] H → va_D A [((oA 0), .inr (7, [.int 0, .long mt, .ref (oA 2), .int (nI (mi 3)), .int (nI (mi 4)), .int (nI (mi 5)), .int (nI (mi 6)), .int (nI (mi 7)), .int fa, .ref (oA 9), .ref (oA 10), .ref (oA 11), .ref (oA 12), .ref (oA 13), .ref (oA 14), .ref (oA 15), .ref (oA 16), .ref (oA 17), .ref (oA 18), .int (nI (mi 19)), .ref (oA 20), .ref (oA 21), .ref (oA 22), .ref (oA 23), .int (nI (mi 24)), .ref (oA 25), .ref (oA 26), .ref (oA 27), .int (nI (mi 28)), .ref (oA 29), .ref (oA 30), .int (nI (mi 31)), .ref (oA 32), .int (nI (mi 33)), .int (nI (mi 34))])), ((oA 9), .inl (cI, 4, .inl (fun j => nI ((M 9) j)))), ((oA 20), .inl (cI, 23, .inl (fun j => nI ((M 20) j))))] → va_S A s.heap H locs → ∀ ls : Array Slot, lv_has ls 13 [(9, .int (nI i)), (8, .int (nI (m_ten i))), (7, .int 0), (0, .ref (oA 0)), (1, .int (nI k)), (2, .int (nI n1)), (3, .int (nI a1)), (4, .int (nI b1)), (5, .int (nI x1)), (6, .int (nI 0))] → W p l e (headSpec wsX7_gives (ly_rm 6)).room s m av below meth c H locs 0 0 (MQ below Qc av s 0 0 A) (F0 m 76 ls []) := by
      intro ua
      induction ua with
      | zero =>
        intro i hi_76 H locs hP hD hS ls hl
        obtain rfl : n1 = i := by omega
        refine lv_iload hx hb dX7_gives_76 (lv_at hl 0 rfl) ?_
        refine lv_iload_n hx hb dX7_gives_78 rfl (lv_at hl 5 rfl) ?_
        refine lv_icmp_ge (tgt := 95) hx hb dX7_gives_79 (by decide) (fun _ => ?_) (fun h_9 => absurd (nI_le (Nat.le_refl _) (by omega)) h_9)
        refine lv_iconst (v := 0) hx hb dX7_gives_95 (by decide) ?_
        refine lv_istore (lv' := [(9, .int 0), (8, .int (nI (m_ten n1))), (7, .int 0), (0, .ref (oA 0)), (1, .int (nI k)), (2, .int (nI n1)), (3, .int (nI a1)), (4, .int (nI b1)), (5, .int (nI x1)), (6, .int (nI 0))]) hx hb dX7_gives_96 hl (by decide) rfl (fun ls hl => ?_)
        have hloop_98 : ∀ (ua st : Nat), st + ua = N1 → ∀ (H : Heap) (locs : List Loc), va_P D vwCl [((oA 0), .inr (7, [.int 0, .long mt, .ref (oA 2), .int (nI (mi 3)), .int (nI (mi 4)), .int (nI (mi 5)), .int (nI (mi 6)), .int (nI (mi 7)), .int fa, .ref (oA 9), .ref (oA 10), .ref (oA 11), .ref (oA 12), .ref (oA 13), .ref (oA 14), .ref (oA 15), .ref (oA 16), .ref (oA 17), .ref (oA 18), .int (nI (mi 19)), .ref (oA 20), .ref (oA 21), .ref (oA 22), .ref (oA 23), .int (nI (mi 24)), .ref (oA 25), .ref (oA 26), .ref (oA 27), .int (nI (mi 28)), .ref (oA 29), .ref (oA 30), .int (nI (mi 31)), .ref (oA 32), .int (nI (mi 33)), .int (nI (mi 34))])), ((oA 9), .inl (cI, 4, .inl (fun j => nI ((M 9) j)))), ((oA 20), .inl (cI, 23, .inl (fun j => nI ((M 20) j))))] H → va_D A [((oA 0), .inr (7, [.int 0, .long mt, .ref (oA 2), .int (nI (mi 3)), .int (nI (mi 4)), .int (nI (mi 5)), .int (nI (mi 6)), .int (nI (mi 7)), .int fa, .ref (oA 9), .ref (oA 10), .ref (oA 11), .ref (oA 12), .ref (oA 13), .ref (oA 14), .ref (oA 15), .ref (oA 16), .ref (oA 17), .ref (oA 18), .int (nI (mi 19)), .ref (oA 20), .ref (oA 21), .ref (oA 22), .ref (oA 23), .int (nI (mi 24)), .ref (oA 25), .ref (oA 26), .ref (oA 27), .int (nI (mi 28)), .ref (oA 29), .ref (oA 30), .int (nI (mi 31)), .ref (oA 32), .int (nI (mi 33)), .int (nI (mi 34))])), ((oA 9), .inl (cI, 4, .inl (fun j => nI ((M 9) j)))), ((oA 20), .inl (cI, 23, .inl (fun j => nI ((M 20) j))))] → va_S A s.heap H locs → ∀ ls : Array Slot, lv_has ls 13 [(9, .int (nI st)), (8, .int (nI (m_ten n1))), (7, .int (nI (m_gv M k n1 a1 b1 x1 st))), (0, .ref (oA 0)), (1, .int (nI k)), (2, .int (nI n1)), (3, .int (nI a1)), (4, .int (nI b1)), (5, .int (nI x1)), (6, .int (nI 0))] → W p l e (headSpec wsX7_gives (ly_rm 6)).room s m av below meth c H locs 0 0 (MQ below Qc av s 0 0 A) (F0 m 98 ls []) := by
          intro ua
          induction ua with
          | zero =>
            intro st hi_98 H locs hP hD hS ls hl
            obtain rfl : N1 = st := by omega
            refine lv_iload hx hb dX7_gives_98 (lv_at hl 0 rfl) ?_
            refine lv_iconst (v := 1) hx hb dX7_gives_100 (by decide) ?_
            refine lv_iload_n hx hb dX7_gives_101 rfl (lv_at hl 5 rfl) ?_
            refine lv_ishl hx hb dX7_gives_102 ?_
            refine ly_eqi (show (1 <<< ((nI n1) &&& 31)) = (nI N1) from (by rw [← hN1]; exact ly_shl1 (by omega))) ?_
            refine lv_icmp_ge (tgt := 206) hx hb dX7_gives_103 (by decide) (fun _ => ?_) (fun h_9 => absurd (nI_le (Nat.le_refl _) (by omega)) h_9)
            have hgv_ := m_gv_le M k n1 a1 b1 x1 h1 h4 N1
            have hte_ := m_p10 h1
            rw [← m_ten_eq] at hte_
            have htp_ : 0 < m_ten n1 := by rw [m_ten_eq]; exact Nat.pow_pos (by decide)
            have hg0_ : 0 < Nat.gcd (m_gv M k n1 a1 b1 x1 N1) (m_ten n1) := Nat.gcd_pos_of_pos_right _ htp_
            have hg1_ : Nat.gcd (m_gv M k n1 a1 b1 x1 N1) (m_ten n1) ≤ m_ten n1 := Nat.gcd_le_right _ htp_
            have hgn_ : ¬ nI (Nat.gcd (m_gv M k n1 a1 b1 x1 N1) (m_ten n1)) = 0 := fun z => absurd ((nI_eq (a := Nat.gcd (m_gv M k n1 a1 b1 x1 N1) (m_ten n1)) (b := 0) (by omega) (by omega)).mp z) (by omega)
            refine lv_iload hx hb dX7_gives_206 (lv_at hl 2 rfl) ?_
            refine lv_iload hx hb dX7_gives_208 (lv_at hl 1 rfl) ?_
            have hPc_210 := hP.sub (ws' := []) [] rfl
            refine ly_m (wr := [((oA 0), .inr (7, [.int 0, .long mt, .ref (oA 2), .int (nI (mi 3)), .int (nI (mi 4)), .int (nI (mi 5)), .int (nI (mi 6)), .int (nI (mi 7)), .int fa, .ref (oA 9), .ref (oA 10), .ref (oA 11), .ref (oA 12), .ref (oA 13), .ref (oA 14), .ref (oA 15), .ref (oA 16), .ref (oA 17), .ref (oA 18), .int (nI (mi 19)), .ref (oA 20), .ref (oA 21), .ref (oA 22), .ref (oA 23), .int (nI (mi 24)), .ref (oA 25), .ref (oA 26), .ref (oA 27), .int (nI (mi 28)), .ref (oA 29), .ref (oA 30), .int (nI (mi 31)), .ref (oA 32), .int (nI (mi 33)), .int (nI (mi 34))])), ((oA 9), .inl (cI, 4, .inl (fun j => nI ((M 9) j)))), ((oA 20), .inl (cI, 23, .inl (fun j => nI ((M 20) j))))]) (va_runS (As := [.int (nI (m_gv M k n1 a1 b1 x1 N1)), .int (nI (m_ten n1))]) (rest := []) ⟨hx, hb, hml, hown, hts⟩ (c_X7_gcd l D cI cC cZ cN (m_gv M k n1 a1 b1 x1 N1) (m_ten n1) (by omega) (by omega) ((hD.sub [] (by decide) rfl).weaken (fun _ _ _ _ => trivial))) (va_cwS 2 hts gX7_gives_X7_gcd rfl rfl rfl (by decide +kernel) ⟨Nat.le_of_ble_eq_true rfl, Nat.le_of_ble_eq_true rfl⟩) (ly_ps hK hN hPc_210) rfl rfl hl.1 rfl (lv_room (Nat.le_of_ble_eq_true rfl)) dX7_gives_210 ⟨Nat.zero_le _, Nat.zero_le _⟩) hP hD hS [] [0, 1, 2] rfl rfl (by decide) ?_
            rintro _ _ H locs ⟨rfl, rfl⟩ - hP hD hS
            have hP : va_P D vwCl [((oA 0), .inr (7, [.int 0, .long mt, .ref (oA 2), .int (nI (mi 3)), .int (nI (mi 4)), .int (nI (mi 5)), .int (nI (mi 6)), .int (nI (mi 7)), .int fa, .ref (oA 9), .ref (oA 10), .ref (oA 11), .ref (oA 12), .ref (oA 13), .ref (oA 14), .ref (oA 15), .ref (oA 16), .ref (oA 17), .ref (oA 18), .int (nI (mi 19)), .ref (oA 20), .ref (oA 21), .ref (oA 22), .ref (oA 23), .int (nI (mi 24)), .ref (oA 25), .ref (oA 26), .ref (oA 27), .int (nI (mi 28)), .ref (oA 29), .ref (oA 30), .int (nI (mi 31)), .ref (oA 32), .int (nI (mi 33)), .int (nI (mi 34))])), ((oA 9), .inl (cI, 4, .inl (fun j => nI ((M 9) j)))), ((oA 20), .inl (cI, 23, .inl (fun j => nI ((M 20) j))))] H := hP
            have hD : va_D A [((oA 0), .inr (7, [.int 0, .long mt, .ref (oA 2), .int (nI (mi 3)), .int (nI (mi 4)), .int (nI (mi 5)), .int (nI (mi 6)), .int (nI (mi 7)), .int fa, .ref (oA 9), .ref (oA 10), .ref (oA 11), .ref (oA 12), .ref (oA 13), .ref (oA 14), .ref (oA 15), .ref (oA 16), .ref (oA 17), .ref (oA 18), .int (nI (mi 19)), .ref (oA 20), .ref (oA 21), .ref (oA 22), .ref (oA 23), .int (nI (mi 24)), .ref (oA 25), .ref (oA 26), .ref (oA 27), .int (nI (mi 28)), .ref (oA 29), .ref (oA 30), .int (nI (mi 31)), .ref (oA 32), .int (nI (mi 33)), .int (nI (mi 34))])), ((oA 9), .inl (cI, 4, .inl (fun j => nI ((M 9) j)))), ((oA 20), .inl (cI, 23, .inl (fun j => nI ((M 20) j))))] := hD
            refine W.eq (g2 := F0 m 213 ls [.int (nI (Nat.gcd (m_gv M k n1 a1 b1 x1 N1) (m_ten n1)))]) rfl ?_
            refine lv_istore (lv' := [(9, .int (nI (Nat.gcd (m_gv M k n1 a1 b1 x1 N1) (m_ten n1)))), (8, .int (nI (m_ten n1))), (7, .int (nI (m_gv M k n1 a1 b1 x1 N1))), (0, .ref (oA 0)), (1, .int (nI k)), (2, .int (nI n1)), (3, .int (nI a1)), (4, .int (nI b1)), (5, .int (nI x1)), (6, .int (nI 0))]) hx hb dX7_gives_213 hl (by decide) rfl (fun ls hl => ?_)
            refine lv_iload hx hb dX7_gives_215 (lv_at hl 9 rfl) ?_
            refine lv_if_ne (tgt := 228) hx hb dX7_gives_217 (by decide) (fun h_9 => absurd (by decide) h_9) (fun _ => ?_)
            refine lv_iload hx hb dX7_gives_220 (lv_at hl 2 rfl) ?_
            refine lv_iload hx hb dX7_gives_222 (lv_at hl 0 rfl) ?_
            refine lv_idiv hx hb dX7_gives_224 hgn_ ?_
            refine ly_eqi (show ((nI (m_gv M k n1 a1 b1 x1 N1)) / (nI (Nat.gcd (m_gv M k n1 a1 b1 x1 N1) (m_ten n1)))) = (nI ((m_gv M k n1 a1 b1 x1 N1) / Nat.gcd (m_gv M k n1 a1 b1 x1 N1) (m_ten n1))) from (pk_div (by omega) hg0_ (by omega))) ?_
            refine lv_goto (tgt := 233) hx hb dX7_gives_225 (by decide) ?_
            exact W.iret (v := (nI ((m_gv M k n1 a1 b1 x1 N1) / Nat.gcd (m_gv M k n1 a1 b1 x1 N1) (m_ten n1)))) hx hb hr (fun t_9 ht_9 _ => by rw [hQc]; exact ⟨_, [((oA 0), .inr (7, [.int 0, .long mt, .ref (oA 2), .int (nI (mi 3)), .int (nI (mi 4)), .int (nI (mi 5)), .int (nI (mi 6)), .int (nI (mi 7)), .int fa, .ref (oA 9), .ref (oA 10), .ref (oA 11), .ref (oA 12), .ref (oA 13), .ref (oA 14), .ref (oA 15), .ref (oA 16), .ref (oA 17), .ref (oA 18), .int (nI (mi 19)), .ref (oA 20), .ref (oA 21), .ref (oA 22), .ref (oA 23), .int (nI (mi 24)), .ref (oA 25), .ref (oA 26), .ref (oA 27), .int (nI (mi 28)), .ref (oA 29), .ref (oA 30), .int (nI (mi 31)), .ref (oA 32), .int (nI (mi 33)), .int (nI (mi 34))])), ((oA 9), .inl (cI, 4, .inl (fun j => nI ((M 9) j)))), ((oA 20), .inl (cI, 23, .inl (fun j => nI ((M 20) j))))], rfl, ⟨rfl, rfl⟩, by simp only [List.map_cons, List.map_nil], by rw [ht_9]; exact hP.sub [0, 1, 2] rfl, by rw [← hAe]; exact hS.F ht_9⟩) hS.2.2 dX7_gives_233
          | succ ua ih_98 =>
            intro st hi_98 H locs hP hD hS ls hl
            refine lv_iload hx hb dX7_gives_98 (lv_at hl 0 rfl) ?_
            refine lv_iconst (v := 1) hx hb dX7_gives_100 (by decide) ?_
            refine lv_iload_n hx hb dX7_gives_101 rfl (lv_at hl 5 rfl) ?_
            refine lv_ishl hx hb dX7_gives_102 ?_
            refine ly_eqi (show (1 <<< ((nI n1) &&& 31)) = (nI N1) from (by rw [← hN1]; exact ly_shl1 (by omega))) ?_
            refine lv_icmp_ge (tgt := 206) hx hb dX7_gives_103 (by decide) (fun h_9 => absurd h_9 (nI_ge (by omega) (by omega))) (fun _ => ?_)
            refine lv_iconst (v := 1) hx hb dX7_gives_106 (by decide) ?_
            refine lv_istore (lv' := [(10, .int 1), (9, .int (nI st)), (8, .int (nI (m_ten n1))), (7, .int (nI (m_gv M k n1 a1 b1 x1 st))), (0, .ref (oA 0)), (1, .int (nI k)), (2, .int (nI n1)), (3, .int (nI a1)), (4, .int (nI b1)), (5, .int (nI x1)), (6, .int (nI 0))]) hx hb dX7_gives_107 hl (by decide) rfl (fun ls hl => ?_)
            refine lv_iconst (v := 0) hx hb dX7_gives_109 (by decide) ?_
            refine lv_istore (lv' := [(11, .int 0), (10, .int 1), (9, .int (nI st)), (8, .int (nI (m_ten n1))), (7, .int (nI (m_gv M k n1 a1 b1 x1 st))), (0, .ref (oA 0)), (1, .int (nI k)), (2, .int (nI n1)), (3, .int (nI a1)), (4, .int (nI b1)), (5, .int (nI x1)), (6, .int (nI 0))]) hx hb dX7_gives_110 hl (by decide) rfl (fun ls hl => ?_)
            refine lv_iconst (v := 0) hx hb dX7_gives_112 (by decide) ?_
            refine lv_istore (lv' := [(12, .int 0), (11, .int 0), (10, .int 1), (9, .int (nI st)), (8, .int (nI (m_ten n1))), (7, .int (nI (m_gv M k n1 a1 b1 x1 st))), (0, .ref (oA 0)), (1, .int (nI k)), (2, .int (nI n1)), (3, .int (nI a1)), (4, .int (nI b1)), (5, .int (nI x1)), (6, .int (nI 0))]) hx hb dX7_gives_113 hl (by decide) rfl (fun ls hl => ?_)
            have hloop_115 : ∀ (ub i : Nat), i + ub = n1 → ∀ (H : Heap) (locs : List Loc), va_P D vwCl [((oA 0), .inr (7, [.int 0, .long mt, .ref (oA 2), .int (nI (mi 3)), .int (nI (mi 4)), .int (nI (mi 5)), .int (nI (mi 6)), .int (nI (mi 7)), .int fa, .ref (oA 9), .ref (oA 10), .ref (oA 11), .ref (oA 12), .ref (oA 13), .ref (oA 14), .ref (oA 15), .ref (oA 16), .ref (oA 17), .ref (oA 18), .int (nI (mi 19)), .ref (oA 20), .ref (oA 21), .ref (oA 22), .ref (oA 23), .int (nI (mi 24)), .ref (oA 25), .ref (oA 26), .ref (oA 27), .int (nI (mi 28)), .ref (oA 29), .ref (oA 30), .int (nI (mi 31)), .ref (oA 32), .int (nI (mi 33)), .int (nI (mi 34))])), ((oA 9), .inl (cI, 4, .inl (fun j => nI ((M 9) j)))), ((oA 20), .inl (cI, 23, .inl (fun j => nI ((M 20) j))))] H → va_D A [((oA 0), .inr (7, [.int 0, .long mt, .ref (oA 2), .int (nI (mi 3)), .int (nI (mi 4)), .int (nI (mi 5)), .int (nI (mi 6)), .int (nI (mi 7)), .int fa, .ref (oA 9), .ref (oA 10), .ref (oA 11), .ref (oA 12), .ref (oA 13), .ref (oA 14), .ref (oA 15), .ref (oA 16), .ref (oA 17), .ref (oA 18), .int (nI (mi 19)), .ref (oA 20), .ref (oA 21), .ref (oA 22), .ref (oA 23), .int (nI (mi 24)), .ref (oA 25), .ref (oA 26), .ref (oA 27), .int (nI (mi 28)), .ref (oA 29), .ref (oA 30), .int (nI (mi 31)), .ref (oA 32), .int (nI (mi 33)), .int (nI (mi 34))])), ((oA 9), .inl (cI, 4, .inl (fun j => nI ((M 9) j)))), ((oA 20), .inl (cI, 23, .inl (fun j => nI ((M 20) j))))] → va_S A s.heap H locs → ∀ ls : Array Slot, lv_has ls 13 [(12, .int (nI i)), (11, .int (nI ((m_go a1 b1 x1 st i).2))), (10, .int (nI ((m_go a1 b1 x1 st i).1))), (9, .int (nI st)), (8, .int (nI (m_ten n1))), (7, .int (nI (m_gv M k n1 a1 b1 x1 st))), (0, .ref (oA 0)), (1, .int (nI k)), (2, .int (nI n1)), (3, .int (nI a1)), (4, .int (nI b1)), (5, .int (nI x1)), (6, .int (nI 0))] → W p l e (headSpec wsX7_gives (ly_rm 6)).room s m av below meth c H locs 0 0 (MQ below Qc av s 0 0 A) (F0 m 115 ls []) := by
              intro ub
              induction ub with
              | zero =>
                intro i hi_115 H locs hP hD hS ls hl
                obtain rfl : n1 = i := by omega
                refine lv_iload hx hb dX7_gives_115 (lv_at hl 0 rfl) ?_
                refine lv_iload_n hx hb dX7_gives_117 rfl (lv_at hl 8 rfl) ?_
                refine lv_icmp_ge (tgt := 175) hx hb dX7_gives_118 (by decide) (fun _ => ?_) (fun h_9 => absurd (nI_le (Nat.le_refl _) (by omega)) h_9)
                refine lv_iload hx hb dX7_gives_175 (lv_at hl 5 rfl) ?_
                refine lv_iload hx hb dX7_gives_177 (lv_at hl 1 rfl) ?_
                refine lv_aload_n hx hb dX7_gives_179 rfl (lv_at hl 6 rfl) ?_
                refine va_get (D := D) (ci := 7) (v := .ref (oA 20)) (C := RX7) (T := TX7) (N := 35) hx hb hts hiX7 hown hK hP 0 rfl rfl 20 (by decide) f43 (fun _ h9 => h9) rfl dX7_gives_180 ?_
                refine lv_bipush (v := 11) hx hb dX7_gives_183 (by decide) ?_
                refine lv_iload_n hx hb dX7_gives_185 rfl (lv_at hl 7 rfl) ?_
                refine lv_iadd hx hb dX7_gives_186 ?_
                refine ly_eqi (show (11 + (nI k)) = (nI (11 + k)) from ly_add rfl rfl) ?_
                refine ly_iald hx hb hK hP 2 0 rfl rfl (k := 11 + k) (by decide) rfl (by omega) dX7_gives_187 ?_
                refine lv_icmp_le (tgt := 196) hx hb dX7_gives_188 (by decide) (fun c_1 => ?_) (fun c_1 => ?_)
                · refine lv_iconst (v := 0) hx hb dX7_gives_196 (by decide) ?_
                  refine lv_iadd hx hb dX7_gives_197 ?_
                  refine ly_eqi (show ((nI (m_gv M k n1 a1 b1 x1 st)) + 0) = (nI ((m_gv M k n1 a1 b1 x1 st) + 0)) from ly_add rfl rfl) ?_
                  refine lv_istore (lv' := [(7, .int (nI ((m_gv M k n1 a1 b1 x1 st) + 0))), (12, .int (nI n1)), (11, .int (nI ((m_go a1 b1 x1 st n1).2))), (10, .int (nI ((m_go a1 b1 x1 st n1).1))), (9, .int (nI st)), (8, .int (nI (m_ten n1))), (0, .ref (oA 0)), (1, .int (nI k)), (2, .int (nI n1)), (3, .int (nI a1)), (4, .int (nI b1)), (5, .int (nI x1)), (6, .int (nI 0))]) hx hb dX7_gives_198 hl (by decide) rfl (fun ls hl => ?_)
                  refine lv_iinc (v := (nI (st + 1))) (lv' := [(9, .int (nI (st + 1))), (7, .int (nI ((m_gv M k n1 a1 b1 x1 st) + 0))), (12, .int (nI n1)), (11, .int (nI ((m_go a1 b1 x1 st n1).2))), (10, .int (nI ((m_go a1 b1 x1 st n1).1))), (8, .int (nI (m_ten n1))), (0, .ref (oA 0)), (1, .int (nI k)), (2, .int (nI n1)), (3, .int (nI a1)), (4, .int (nI b1)), (5, .int (nI x1)), (6, .int (nI 0))]) hx hb dX7_gives_200 hl (k := 4) rfl (ly_add rfl rfl) (by decide) rfl (fun ls hl => ?_)
                  refine lv_goto (tgt := 98) hx hb dX7_gives_203 (by decide) ?_
                  have e_2 : m_gv M k n1 a1 b1 x1 (st + 1) = (m_gv M k n1 a1 b1 x1 st) + 0 := by show m_gvB M k n1 a1 b1 x1 st (m_gv M k n1 a1 b1 x1 st) = _; unfold m_gvB; rw [if_pos c_1]
                  exact ih_98 (st + 1) (by omega) H locs (by first | exact hP.sub [0, 1, 2] rfl | (rw [e_2]; exact hP.sub [0, 1, 2] rfl)) (by first | exact hD.sub [0, 1, 2] (by decide) rfl | (rw [e_2]; exact hD.sub [0, 1, 2] (by decide) rfl)) hS ls (by first | exact lv_sub hl [0, 5, 1, 6, 7, 8, 9, 10, 11, 12] rfl | (rw [e_2]; exact lv_sub hl [0, 5, 1, 6, 7, 8, 9, 10, 11, 12] rfl))
                · refine lv_iload hx hb dX7_gives_191 (lv_at hl 2 rfl) ?_
                  refine lv_goto (tgt := 197) hx hb dX7_gives_193 (by decide) ?_
                  refine lv_iadd hx hb dX7_gives_197 ?_
                  refine ly_eqi (show ((nI (m_gv M k n1 a1 b1 x1 st)) + (nI ((m_go a1 b1 x1 st n1).1))) = (nI ((m_gv M k n1 a1 b1 x1 st) + (m_go a1 b1 x1 st n1).1)) from ly_add rfl rfl) ?_
                  refine lv_istore (lv' := [(7, .int (nI ((m_gv M k n1 a1 b1 x1 st) + (m_go a1 b1 x1 st n1).1))), (12, .int (nI n1)), (11, .int (nI ((m_go a1 b1 x1 st n1).2))), (10, .int (nI ((m_go a1 b1 x1 st n1).1))), (9, .int (nI st)), (8, .int (nI (m_ten n1))), (0, .ref (oA 0)), (1, .int (nI k)), (2, .int (nI n1)), (3, .int (nI a1)), (4, .int (nI b1)), (5, .int (nI x1)), (6, .int (nI 0))]) hx hb dX7_gives_198 hl (by decide) rfl (fun ls hl => ?_)
                  refine lv_iinc (v := (nI (st + 1))) (lv' := [(9, .int (nI (st + 1))), (7, .int (nI ((m_gv M k n1 a1 b1 x1 st) + (m_go a1 b1 x1 st n1).1))), (12, .int (nI n1)), (11, .int (nI ((m_go a1 b1 x1 st n1).2))), (10, .int (nI ((m_go a1 b1 x1 st n1).1))), (8, .int (nI (m_ten n1))), (0, .ref (oA 0)), (1, .int (nI k)), (2, .int (nI n1)), (3, .int (nI a1)), (4, .int (nI b1)), (5, .int (nI x1)), (6, .int (nI 0))]) hx hb dX7_gives_200 hl (k := 4) rfl (ly_add rfl rfl) (by decide) rfl (fun ls hl => ?_)
                  refine lv_goto (tgt := 98) hx hb dX7_gives_203 (by decide) ?_
                  have e_3 : m_gv M k n1 a1 b1 x1 (st + 1) = (m_gv M k n1 a1 b1 x1 st) + (m_go a1 b1 x1 st n1).1 := by show m_gvB M k n1 a1 b1 x1 st (m_gv M k n1 a1 b1 x1 st) = _; unfold m_gvB; rw [if_neg c_1]
                  exact ih_98 (st + 1) (by omega) H locs (by first | exact hP.sub [0, 1, 2] rfl | (rw [e_3]; exact hP.sub [0, 1, 2] rfl)) (by first | exact hD.sub [0, 1, 2] (by decide) rfl | (rw [e_3]; exact hD.sub [0, 1, 2] (by decide) rfl)) hS ls (by first | exact lv_sub hl [0, 5, 1, 6, 7, 8, 9, 10, 11, 12] rfl | (rw [e_3]; exact lv_sub hl [0, 5, 1, 6, 7, 8, 9, 10, 11, 12] rfl))
              | succ ub ih_115 =>
                intro i hi_115 H locs hP hD hS ls hl
                refine lv_iload hx hb dX7_gives_115 (lv_at hl 0 rfl) ?_
                refine lv_iload_n hx hb dX7_gives_117 rfl (lv_at hl 8 rfl) ?_
                refine lv_icmp_ge (tgt := 175) hx hb dX7_gives_118 (by decide) (fun h_9 => absurd h_9 (nI_ge (by omega) (by omega))) (fun _ => ?_)
                refine lv_iload hx hb dX7_gives_121 (lv_at hl 2 rfl) ?_
                refine lv_iload hx hb dX7_gives_123 (lv_at hl 3 rfl) ?_
                refine lv_iload hx hb dX7_gives_125 (lv_at hl 0 rfl) ?_
                refine lv_ishr hx hb dX7_gives_127 ?_
                refine lv_iconst (v := 1) hx hb dX7_gives_128 (by decide) ?_
                refine lv_iand hx hb dX7_gives_129 ?_
                refine lv_iconst (v := 1) hx hb dX7_gives_130 (by decide) ?_
                refine lv_icmp_ne (tgt := 139) hx hb dX7_gives_131 (by decide) (fun c_4 => ?_) (fun c_4 => ?_)
                · refine lv_bipush (v := 10) hx hb dX7_gives_139 (by decide) ?_
                  refine lv_iload hx hb dX7_gives_141 (lv_at hl 11 rfl) ?_
                  refine lv_isub hx hb dX7_gives_143 ?_
                  refine ly_eqi (show (10 - (nI x1)) = (nI (10 - x1)) from ly_sub rfl rfl (by omega)) ?_
                  refine lv_imul hx hb dX7_gives_144 ?_
                  refine ly_eqi (show ((nI ((m_go a1 b1 x1 st i).1)) * (nI (10 - x1))) = (nI (((m_go a1 b1 x1 st i).1) * (10 - x1))) from ly_mul rfl rfl) ?_
                  refine lv_istore (lv' := [(10, .int (nI (((m_go a1 b1 x1 st i).1) * (10 - x1)))), (12, .int (nI i)), (11, .int (nI ((m_go a1 b1 x1 st i).2))), (9, .int (nI st)), (8, .int (nI (m_ten n1))), (7, .int (nI (m_gv M k n1 a1 b1 x1 st))), (0, .ref (oA 0)), (1, .int (nI k)), (2, .int (nI n1)), (3, .int (nI a1)), (4, .int (nI b1)), (5, .int (nI x1)), (6, .int (nI 0))]) hx hb dX7_gives_145 hl (by decide) rfl (fun ls hl => ?_)
                  refine lv_iload hx hb dX7_gives_147 (lv_at hl 2 rfl) ?_
                  refine lv_iload hx hb dX7_gives_149 (lv_at hl 3 rfl) ?_
                  refine lv_iload hx hb dX7_gives_151 (lv_at hl 1 rfl) ?_
                  refine lv_ishr hx hb dX7_gives_153 ?_
                  refine lv_iconst (v := 1) hx hb dX7_gives_154 (by decide) ?_
                  refine lv_iand hx hb dX7_gives_155 ?_
                  refine lv_iconst (v := 1) hx hb dX7_gives_156 (by decide) ?_
                  refine lv_icmp_ne (tgt := 164) hx hb dX7_gives_157 (by decide) (fun _ => ?_) (fun h_9 => absurd h_9 c_4)
                  refine lv_iload hx hb dX7_gives_164 (lv_at hl 10 rfl) ?_
                  refine lv_iadd hx hb dX7_gives_166 ?_
                  refine ly_eqi (show ((nI ((m_go a1 b1 x1 st i).2)) + (nI b1)) = (nI ((m_go a1 b1 x1 st i).2 + b1)) from ly_add rfl rfl) ?_
                  refine lv_istore (lv' := [(11, .int (nI ((m_go a1 b1 x1 st i).2 + b1))), (10, .int (nI (((m_go a1 b1 x1 st i).1) * (10 - x1)))), (12, .int (nI i)), (9, .int (nI st)), (8, .int (nI (m_ten n1))), (7, .int (nI (m_gv M k n1 a1 b1 x1 st))), (0, .ref (oA 0)), (1, .int (nI k)), (2, .int (nI n1)), (3, .int (nI a1)), (4, .int (nI b1)), (5, .int (nI x1)), (6, .int (nI 0))]) hx hb dX7_gives_167 hl (by decide) rfl (fun ls hl => ?_)
                  refine lv_iinc (v := (nI (i + 1))) (lv' := [(12, .int (nI (i + 1))), (11, .int (nI ((m_go a1 b1 x1 st i).2 + b1))), (10, .int (nI (((m_go a1 b1 x1 st i).1) * (10 - x1)))), (9, .int (nI st)), (8, .int (nI (m_ten n1))), (7, .int (nI (m_gv M k n1 a1 b1 x1 st))), (0, .ref (oA 0)), (1, .int (nI k)), (2, .int (nI n1)), (3, .int (nI a1)), (4, .int (nI b1)), (5, .int (nI x1)), (6, .int (nI 0))]) hx hb dX7_gives_169 hl (k := 2) rfl (ly_add rfl rfl) (by decide) rfl (fun ls hl => ?_)
                  refine lv_goto (tgt := 115) hx hb dX7_gives_172 (by decide) ?_
                  have e_5 : m_go a1 b1 x1 st (i + 1) = (((m_go a1 b1 x1 st i).1) * (10 - x1), (m_go a1 b1 x1 st i).2 + b1) := by show m_goB a1 b1 x1 st i ((m_go a1 b1 x1 st i).1) ((m_go a1 b1 x1 st i).2) = _; unfold m_goB; rw [if_neg c_4]
                  exact ih_115 (i + 1) (by omega) H locs (by first | exact hP.sub [0, 1, 2] rfl | (rw [e_5]; exact hP.sub [0, 1, 2] rfl)) (by first | exact hD.sub [0, 1, 2] (by decide) rfl | (rw [e_5]; exact hD.sub [0, 1, 2] (by decide) rfl)) hS ls (by first | exact lv_sub hl [0, 1, 2, 3, 4, 5, 6, 7, 8, 9, 10, 11, 12] rfl | (rw [e_5]; exact lv_sub hl [0, 1, 2, 3, 4, 5, 6, 7, 8, 9, 10, 11, 12] rfl))
                · refine lv_iload hx hb dX7_gives_134 (lv_at hl 11 rfl) ?_
                  refine lv_goto (tgt := 144) hx hb dX7_gives_136 (by decide) ?_
                  refine lv_imul hx hb dX7_gives_144 ?_
                  refine ly_eqi (show ((nI ((m_go a1 b1 x1 st i).1)) * (nI x1)) = (nI (((m_go a1 b1 x1 st i).1) * x1)) from ly_mul rfl rfl) ?_
                  refine lv_istore (lv' := [(10, .int (nI (((m_go a1 b1 x1 st i).1) * x1))), (12, .int (nI i)), (11, .int (nI ((m_go a1 b1 x1 st i).2))), (9, .int (nI st)), (8, .int (nI (m_ten n1))), (7, .int (nI (m_gv M k n1 a1 b1 x1 st))), (0, .ref (oA 0)), (1, .int (nI k)), (2, .int (nI n1)), (3, .int (nI a1)), (4, .int (nI b1)), (5, .int (nI x1)), (6, .int (nI 0))]) hx hb dX7_gives_145 hl (by decide) rfl (fun ls hl => ?_)
                  refine lv_iload hx hb dX7_gives_147 (lv_at hl 2 rfl) ?_
                  refine lv_iload hx hb dX7_gives_149 (lv_at hl 3 rfl) ?_
                  refine lv_iload hx hb dX7_gives_151 (lv_at hl 1 rfl) ?_
                  refine lv_ishr hx hb dX7_gives_153 ?_
                  refine lv_iconst (v := 1) hx hb dX7_gives_154 (by decide) ?_
                  refine lv_iand hx hb dX7_gives_155 ?_
                  refine lv_iconst (v := 1) hx hb dX7_gives_156 (by decide) ?_
                  refine lv_icmp_ne (tgt := 164) hx hb dX7_gives_157 (by decide) (fun h_9 => absurd c_4 h_9) (fun _ => ?_)
                  refine lv_iload_n hx hb dX7_gives_160 rfl (lv_at hl 9 rfl) ?_
                  refine lv_goto (tgt := 166) hx hb dX7_gives_161 (by decide) ?_
                  refine lv_iadd hx hb dX7_gives_166 ?_
                  refine ly_eqi (show ((nI ((m_go a1 b1 x1 st i).2)) + (nI a1)) = (nI ((m_go a1 b1 x1 st i).2 + a1)) from ly_add rfl rfl) ?_
                  refine lv_istore (lv' := [(11, .int (nI ((m_go a1 b1 x1 st i).2 + a1))), (10, .int (nI (((m_go a1 b1 x1 st i).1) * x1))), (12, .int (nI i)), (9, .int (nI st)), (8, .int (nI (m_ten n1))), (7, .int (nI (m_gv M k n1 a1 b1 x1 st))), (0, .ref (oA 0)), (1, .int (nI k)), (2, .int (nI n1)), (3, .int (nI a1)), (4, .int (nI b1)), (5, .int (nI x1)), (6, .int (nI 0))]) hx hb dX7_gives_167 hl (by decide) rfl (fun ls hl => ?_)
                  refine lv_iinc (v := (nI (i + 1))) (lv' := [(12, .int (nI (i + 1))), (11, .int (nI ((m_go a1 b1 x1 st i).2 + a1))), (10, .int (nI (((m_go a1 b1 x1 st i).1) * x1))), (9, .int (nI st)), (8, .int (nI (m_ten n1))), (7, .int (nI (m_gv M k n1 a1 b1 x1 st))), (0, .ref (oA 0)), (1, .int (nI k)), (2, .int (nI n1)), (3, .int (nI a1)), (4, .int (nI b1)), (5, .int (nI x1)), (6, .int (nI 0))]) hx hb dX7_gives_169 hl (k := 2) rfl (ly_add rfl rfl) (by decide) rfl (fun ls hl => ?_)
                  refine lv_goto (tgt := 115) hx hb dX7_gives_172 (by decide) ?_
                  have e_6 : m_go a1 b1 x1 st (i + 1) = (((m_go a1 b1 x1 st i).1) * x1, (m_go a1 b1 x1 st i).2 + a1) := by show m_goB a1 b1 x1 st i ((m_go a1 b1 x1 st i).1) ((m_go a1 b1 x1 st i).2) = _; unfold m_goB; rw [if_pos c_4]
                  exact ih_115 (i + 1) (by omega) H locs (by first | exact hP.sub [0, 1, 2] rfl | (rw [e_6]; exact hP.sub [0, 1, 2] rfl)) (by first | exact hD.sub [0, 1, 2] (by decide) rfl | (rw [e_6]; exact hD.sub [0, 1, 2] (by decide) rfl)) hS ls (by first | exact lv_sub hl [0, 1, 2, 3, 4, 5, 6, 7, 8, 9, 10, 11, 12] rfl | (rw [e_6]; exact lv_sub hl [0, 1, 2, 3, 4, 5, 6, 7, 8, 9, 10, 11, 12] rfl))
            exact hloop_115 n1 0 (by omega) H locs (hP.sub [0, 1, 2] rfl) (hD.sub [0, 1, 2] (by decide) rfl) hS ls (lv_sub hl [0, 1, 2, 3, 4, 5, 6, 7, 8, 9, 10, 11, 12] rfl)
        exact hloop_98 N1 0 (by omega) H locs (hP.sub [0, 1, 2] rfl) (hD.sub [0, 1, 2] (by decide) rfl) hS ls (lv_sub hl [0, 1, 2, 3, 4, 5, 6, 7, 8, 9] rfl)
      | succ ua ih_76 =>
        intro i hi_76 H locs hP hD hS ls hl
        refine lv_iload hx hb dX7_gives_76 (lv_at hl 0 rfl) ?_
        refine lv_iload_n hx hb dX7_gives_78 rfl (lv_at hl 5 rfl) ?_
        refine lv_icmp_ge (tgt := 95) hx hb dX7_gives_79 (by decide) (fun h_9 => absurd h_9 (nI_ge (by omega) (by omega))) (fun _ => ?_)
        refine lv_iload hx hb dX7_gives_82 (lv_at hl 1 rfl) ?_
        refine lv_bipush (v := 10) hx hb dX7_gives_84 (by decide) ?_
        refine lv_imul hx hb dX7_gives_86 ?_
        refine ly_eqi (show ((nI (m_ten i)) * 10) = (nI ((m_ten i) * 10)) from ly_mul rfl rfl) ?_
        refine lv_istore (lv' := [(8, .int (nI ((m_ten i) * 10))), (9, .int (nI i)), (7, .int 0), (0, .ref (oA 0)), (1, .int (nI k)), (2, .int (nI n1)), (3, .int (nI a1)), (4, .int (nI b1)), (5, .int (nI x1)), (6, .int (nI 0))]) hx hb dX7_gives_87 hl (by decide) rfl (fun ls hl => ?_)
        refine lv_iinc (v := (nI (i + 1))) (lv' := [(9, .int (nI (i + 1))), (8, .int (nI ((m_ten i) * 10))), (7, .int 0), (0, .ref (oA 0)), (1, .int (nI k)), (2, .int (nI n1)), (3, .int (nI a1)), (4, .int (nI b1)), (5, .int (nI x1)), (6, .int (nI 0))]) hx hb dX7_gives_89 hl (k := 1) rfl (ly_add rfl rfl) (by decide) rfl (fun ls hl => ?_)
        refine lv_goto (tgt := 76) hx hb dX7_gives_92 (by decide) ?_
        have e_7 : m_ten (i + 1) = (m_ten i) * 10 := by show m_tenB  i (m_ten i) = _; unfold m_tenB; rfl
        exact ih_76 (i + 1) (by omega) H locs (by first | exact hP.sub [0, 1, 2] rfl | (rw [e_7]; exact hP.sub [0, 1, 2] rfl)) (by first | exact hD.sub [0, 1, 2] (by decide) rfl | (rw [e_7]; exact hD.sub [0, 1, 2] (by decide) rfl)) hS ls (by first | exact lv_sub hl [0, 1, 2, 3, 4, 5, 6, 7, 8, 9] rfl | (rw [e_7]; exact lv_sub hl [0, 1, 2, 3, 4, 5, 6, 7, 8, 9] rfl))
    exact hloop_76 n1 0 (by omega) H locs (hP.sub [0, 1, 2] rfl) (hD.sub [0, 1, 2] (by decide) rfl) hS ls (lv_sub hl [0, 1, 2, 3, 4, 5, 6, 7, 8, 9] rfl)
  exact hmain _ _ hP va_S.rf

set_option maxHeartbeats 4000000 in
set_option maxRecDepth 100000 in
theorem c_X7_gives_1 (l : Launch) (D : va_G) (cI cC cZ cN : ClassId) (oA : Nat → Nat) (M : Nat → Nat → Nat) (mi : Nat → Nat) (fa : Int32) (mt : Int64) (k n1 a1 b1 x1 : Nat) (hk : k < M 9 0) (hn : M 9 0 ≤ 9) (h1 : n1 ≤ 6) (h2 : a1 ≤ 30) (h3 : b1 ≤ 30) (h4 : x1 ≤ 10) (N1 : Nat) (hN1 : 2 ^ n1 = N1) (hN5 : N1 ≤ 64) (hD0 : va_D (fun _ => True) [((oA 0), .inr (7, [.int 0, .long mt, .ref (oA 2), .int (nI (mi 3)), .int (nI (mi 4)), .int (nI (mi 5)), .int (nI (mi 6)), .int (nI (mi 7)), .int fa, .ref (oA 9), .ref (oA 10), .ref (oA 11), .ref (oA 12), .ref (oA 13), .ref (oA 14), .ref (oA 15), .ref (oA 16), .ref (oA 17), .ref (oA 18), .int (nI (mi 19)), .ref (oA 20), .ref (oA 21), .ref (oA 22), .ref (oA 23), .int (nI (mi 24)), .ref (oA 25), .ref (oA 26), .ref (oA 27), .int (nI (mi 28)), .ref (oA 29), .ref (oA 30), .int (nI (mi 31)), .ref (oA 32), .int (nI (mi 33)), .int (nI (mi 34))])), ((oA 9), .inl (cI, 4, .inl (fun j => nI ((M 9) j)))), ((oA 20), .inl (cI, 23, .inl (fun j => nI ((M 20) j))))]) : Met l yX7_gives wsX7_gives (ly_rm 6) (ly_Pre D (ly_tys cI cC cZ cN) [((oA 0), .inr (7, [.int 0, .long mt, .ref (oA 2), .int (nI (mi 3)), .int (nI (mi 4)), .int (nI (mi 5)), .int (nI (mi 6)), .int (nI (mi 7)), .int fa, .ref (oA 9), .ref (oA 10), .ref (oA 11), .ref (oA 12), .ref (oA 13), .ref (oA 14), .ref (oA 15), .ref (oA 16), .ref (oA 17), .ref (oA 18), .int (nI (mi 19)), .ref (oA 20), .ref (oA 21), .ref (oA 22), .ref (oA 23), .int (nI (mi 24)), .ref (oA 25), .ref (oA 26), .ref (oA 27), .int (nI (mi 28)), .ref (oA 29), .ref (oA 30), .int (nI (mi 31)), .ref (oA 32), .int (nI (mi 33)), .int (nI (mi 34))])), ((oA 9), .inl (cI, 4, .inl (fun j => nI ((M 9) j)))), ((oA 20), .inl (cI, 23, .inl (fun j => nI ((M 20) j))))] [.ref (oA 0), .int (nI k), .int (nI n1), .int (nI a1), .int (nI b1), .int (nI x1), .int (nI 1)]) (ly_Q D [((oA 0), .inr (7, [.int 0, .long mt, .ref (oA 2), .int (nI (mi 3)), .int (nI (mi 4)), .int (nI (mi 5)), .int (nI (mi 6)), .int (nI (mi 7)), .int fa, .ref (oA 9), .ref (oA 10), .ref (oA 11), .ref (oA 12), .ref (oA 13), .ref (oA 14), .ref (oA 15), .ref (oA 16), .ref (oA 17), .ref (oA 18), .int (nI (mi 19)), .ref (oA 20), .ref (oA 21), .ref (oA 22), .ref (oA 23), .int (nI (mi 24)), .ref (oA 25), .ref (oA 26), .ref (oA 27), .int (nI (mi 28)), .ref (oA 29), .ref (oA 30), .int (nI (mi 31)), .ref (oA 32), .int (nI (mi 33)), .int (nI (mi 34))])), ((oA 9), .inl (cI, 4, .inl (fun j => nI ((M 9) j)))), ((oA 20), .inl (cI, 23, .inl (fun j => nI ((M 20) j))))] (fun r_9 w_9 => r_9 = some (.int (nI ((m_ten n1) / Nat.gcd (m_gv M k n1 a1 b1 x1 N1) (m_ten n1)))) ∧ w_9 = [((oA 0), .inr (7, [.int 0, .long mt, .ref (oA 2), .int (nI (mi 3)), .int (nI (mi 4)), .int (nI (mi 5)), .int (nI (mi 6)), .int (nI (mi 7)), .int fa, .ref (oA 9), .ref (oA 10), .ref (oA 11), .ref (oA 12), .ref (oA 13), .ref (oA 14), .ref (oA 15), .ref (oA 16), .ref (oA 17), .ref (oA 18), .int (nI (mi 19)), .ref (oA 20), .ref (oA 21), .ref (oA 22), .ref (oA 23), .int (nI (mi 24)), .ref (oA 25), .ref (oA 26), .ref (oA 27), .int (nI (mi 28)), .ref (oA 29), .ref (oA 30), .int (nI (mi 31)), .ref (oA 32), .int (nI (mi 33)), .int (nI (mi 34))])), ((oA 9), .inl (cI, 4, .inl (fun j => nI ((M 9) j)))), ((oA 20), .inl (cI, 23, .inl (fun j => nI ((M 20) j))))])) 0 0 (ly_in [((oA 0), .inr (7, [.int 0, .long mt, .ref (oA 2), .int (nI (mi 3)), .int (nI (mi 4)), .int (nI (mi 5)), .int (nI (mi 6)), .int (nI (mi 7)), .int fa, .ref (oA 9), .ref (oA 10), .ref (oA 11), .ref (oA 12), .ref (oA 13), .ref (oA 14), .ref (oA 15), .ref (oA 16), .ref (oA 17), .ref (oA 18), .int (nI (mi 19)), .ref (oA 20), .ref (oA 21), .ref (oA 22), .ref (oA 23), .int (nI (mi 24)), .ref (oA 25), .ref (oA 26), .ref (oA 27), .int (nI (mi 28)), .ref (oA 29), .ref (oA 30), .int (nI (mi 31)), .ref (oA 32), .int (nI (mi 33)), .int (nI (mi 34))])), ((oA 9), .inl (cI, 4, .inl (fun j => nI ((M 9) j)))), ((oA 20), .inl (cI, 23, .inl (fun j => nI ((M 20) j))))]) := by
  refine Met.ofW (cc := cX7_gives) (maxL := 13) (ret := (some .int)) (by decide) rfl ?_
  intro p e s m args below meth c s₁ B hml hv
  obtain ⟨rfl, hP, hK, hN⟩ := hv
  have hx := B.exec
  have hb := B.bytes
  have hr := B.returns
  have hts := atoms_spec (ws := wsX7_gives) B.pre
  have hown : s.vm.findClass RX7 = some m.cls := findClass_of_methodNamed B.named
  have hlocks := B.notSynchronized
  have hl := lv_entry ([.ref (oA 0), .int (nI k), .int (nI n1), .int (nI a1), .int (nI b1), .int (nI x1), .int (nI 1)]) (n := 13) (Nat.le_of_ble_eq_true rfl)
  rw [lg_entry_eq]
  generalize (lg_sl ([.ref (oA 0), .int (nI k), .int (nI n1), .int (nI a1), .int (nI b1), .int (nI x1), .int (nI 1)]) ++ List.replicate (13 - (lg_sl ([.ref (oA 0), .int (nI k), .int (nI n1), .int (nI a1), .int (nI b1), .int (nI x1), .int (nI 1)])).length) Slot.unset).toArray = ls at hl ⊢
  have hl : lv_has ls 13 [(0, .ref (oA 0)), (1, .int (nI k)), (2, .int (nI n1)), (3, .int (nI a1)), (4, .int (nI b1)), (5, .int (nI x1)), (6, .int (nI 1))] := hl
  generalize ([.ref (oA 0), .int (nI k), .int (nI n1), .int (nI a1), .int (nI b1), .int (nI x1), .int (nI 1)] : List Value).toArray = av at hts ⊢
  obtain ⟨Qc, hQc⟩ : ∃ Qc, Qc = (ly_Q D [((oA 0), .inr (7, [.int 0, .long mt, .ref (oA 2), .int (nI (mi 3)), .int (nI (mi 4)), .int (nI (mi 5)), .int (nI (mi 6)), .int (nI (mi 7)), .int fa, .ref (oA 9), .ref (oA 10), .ref (oA 11), .ref (oA 12), .ref (oA 13), .ref (oA 14), .ref (oA 15), .ref (oA 16), .ref (oA 17), .ref (oA 18), .int (nI (mi 19)), .ref (oA 20), .ref (oA 21), .ref (oA 22), .ref (oA 23), .int (nI (mi 24)), .ref (oA 25), .ref (oA 26), .ref (oA 27), .int (nI (mi 28)), .ref (oA 29), .ref (oA 30), .int (nI (mi 31)), .ref (oA 32), .int (nI (mi 33)), .int (nI (mi 34))])), ((oA 9), .inl (cI, 4, .inl (fun j => nI ((M 9) j)))), ((oA 20), .inl (cI, 23, .inl (fun j => nI ((M 20) j))))] (fun r_9 w_9 => r_9 = some (.int (nI ((m_ten n1) / Nat.gcd (m_gv M k n1 a1 b1 x1 N1) (m_ten n1)))) ∧ w_9 = [((oA 0), .inr (7, [.int 0, .long mt, .ref (oA 2), .int (nI (mi 3)), .int (nI (mi 4)), .int (nI (mi 5)), .int (nI (mi 6)), .int (nI (mi 7)), .int fa, .ref (oA 9), .ref (oA 10), .ref (oA 11), .ref (oA 12), .ref (oA 13), .ref (oA 14), .ref (oA 15), .ref (oA 16), .ref (oA 17), .ref (oA 18), .int (nI (mi 19)), .ref (oA 20), .ref (oA 21), .ref (oA 22), .ref (oA 23), .int (nI (mi 24)), .ref (oA 25), .ref (oA 26), .ref (oA 27), .int (nI (mi 28)), .ref (oA 29), .ref (oA 30), .int (nI (mi 31)), .ref (oA 32), .int (nI (mi 33)), .int (nI (mi 34))])), ((oA 9), .inl (cI, 4, .inl (fun j => nI ((M 9) j)))), ((oA 20), .inl (cI, 23, .inl (fun j => nI ((M 20) j))))])) := ⟨_, rfl⟩
  rw [← hQc]
  obtain ⟨A, hAe⟩ : ∃ A, A = ly_in [((oA 0), .inr (7, [.int 0, .long mt, .ref (oA 2), .int (nI (mi 3)), .int (nI (mi 4)), .int (nI (mi 5)), .int (nI (mi 6)), .int (nI (mi 7)), .int fa, .ref (oA 9), .ref (oA 10), .ref (oA 11), .ref (oA 12), .ref (oA 13), .ref (oA 14), .ref (oA 15), .ref (oA 16), .ref (oA 17), .ref (oA 18), .int (nI (mi 19)), .ref (oA 20), .ref (oA 21), .ref (oA 22), .ref (oA 23), .int (nI (mi 24)), .ref (oA 25), .ref (oA 26), .ref (oA 27), .int (nI (mi 28)), .ref (oA 29), .ref (oA 30), .int (nI (mi 31)), .ref (oA 32), .int (nI (mi 33)), .int (nI (mi 34))])), ((oA 9), .inl (cI, 4, .inl (fun j => nI ((M 9) j)))), ((oA 20), .inl (cI, 23, .inl (fun j => nI ((M 20) j))))] := ⟨_, rfl⟩
  rw [← hAe]
  have hD := ly_self hD0
  rw [← hAe] at hD
  have f80 := hts (.fieldLink RX7 80 "KneesLentModel" "thrown" "I") (by decide +kernel)
  have f43 := hts (.fieldLink RX7 43 "KneesLentModel" "s" "[I") (by decide +kernel)
  have hiX7 : ∀ w ∈ u_ws RX7 TX7 35, w ∈ wsX7_gives := by decide +kernel
  have hmain : ∀ (H : Heap) (locs : List Loc), va_P D vwCl [((oA 0), .inr (7, [.int 0, .long mt, .ref (oA 2), .int (nI (mi 3)), .int (nI (mi 4)), .int (nI (mi 5)), .int (nI (mi 6)), .int (nI (mi 7)), .int fa, .ref (oA 9), .ref (oA 10), .ref (oA 11), .ref (oA 12), .ref (oA 13), .ref (oA 14), .ref (oA 15), .ref (oA 16), .ref (oA 17), .ref (oA 18), .int (nI (mi 19)), .ref (oA 20), .ref (oA 21), .ref (oA 22), .ref (oA 23), .int (nI (mi 24)), .ref (oA 25), .ref (oA 26), .ref (oA 27), .int (nI (mi 28)), .ref (oA 29), .ref (oA 30), .int (nI (mi 31)), .ref (oA 32), .int (nI (mi 33)), .int (nI (mi 34))])), ((oA 9), .inl (cI, 4, .inl (fun j => nI ((M 9) j)))), ((oA 20), .inl (cI, 23, .inl (fun j => nI ((M 20) j))))] H → va_S A s.heap H locs → W p l e (headSpec wsX7_gives (ly_rm 6)).room s m av below meth c H locs 0 0 (MQ below Qc av s 0 0 A) (F0 m 0 ls []) := by
    intro H locs hP hS
    refine lv_aload_n hx hb dX7_gives_0 rfl (lv_at hl 0 rfl) ?_
    refine lv_iconst (v := 0) hx hb dX7_gives_1 (by decide) ?_
    refine va_put (D := D) (ci := 7) (v := .int 0) (ty := .int) (C := RX7) (T := TX7) (N := 35) hx hb hts hiX7 tyX7 tyX7_ok nmX7 hown hK hP hD hS 0 rfl rfl 0 (by decide) f80 (fun _ h9 => h9) rfl (by decide +kernel) rfl rfl (Nat.le_of_ble_eq_true rfl) dX7_gives_2 (fun H locs hP hD hS => ?_)
    have hP : va_P D vwCl [((oA 0), .inr (7, [.int 0, .long mt, .ref (oA 2), .int (nI (mi 3)), .int (nI (mi 4)), .int (nI (mi 5)), .int (nI (mi 6)), .int (nI (mi 7)), .int fa, .ref (oA 9), .ref (oA 10), .ref (oA 11), .ref (oA 12), .ref (oA 13), .ref (oA 14), .ref (oA 15), .ref (oA 16), .ref (oA 17), .ref (oA 18), .int (nI (mi 19)), .ref (oA 20), .ref (oA 21), .ref (oA 22), .ref (oA 23), .int (nI (mi 24)), .ref (oA 25), .ref (oA 26), .ref (oA 27), .int (nI (mi 28)), .ref (oA 29), .ref (oA 30), .int (nI (mi 31)), .ref (oA 32), .int (nI (mi 33)), .int (nI (mi 34))])), ((oA 9), .inl (cI, 4, .inl (fun j => nI ((M 9) j)))), ((oA 20), .inl (cI, 23, .inl (fun j => nI ((M 20) j))))] H := hP
    have hD : va_D A [((oA 0), .inr (7, [.int 0, .long mt, .ref (oA 2), .int (nI (mi 3)), .int (nI (mi 4)), .int (nI (mi 5)), .int (nI (mi 6)), .int (nI (mi 7)), .int fa, .ref (oA 9), .ref (oA 10), .ref (oA 11), .ref (oA 12), .ref (oA 13), .ref (oA 14), .ref (oA 15), .ref (oA 16), .ref (oA 17), .ref (oA 18), .int (nI (mi 19)), .ref (oA 20), .ref (oA 21), .ref (oA 22), .ref (oA 23), .int (nI (mi 24)), .ref (oA 25), .ref (oA 26), .ref (oA 27), .int (nI (mi 28)), .ref (oA 29), .ref (oA 30), .int (nI (mi 31)), .ref (oA 32), .int (nI (mi 33)), .int (nI (mi 34))])), ((oA 9), .inl (cI, 4, .inl (fun j => nI ((M 9) j)))), ((oA 20), .inl (cI, 23, .inl (fun j => nI ((M 20) j))))] := hD
    refine lv_aload_n hx hb dX7_gives_5 rfl (lv_at hl 0 rfl) ?_
    refine lv_iload_n hx hb dX7_gives_6 rfl (lv_at hl 1 rfl) ?_
    have hPc_7 := hP.sub (ws' := [((oA 0), .inr (7, [.int 0, .long mt, .ref (oA 2), .int (nI (mi 3)), .int (nI (mi 4)), .int (nI (mi 5)), .int (nI (mi 6)), .int (nI (mi 7)), .int fa, .ref (oA 9), .ref (oA 10), .ref (oA 11), .ref (oA 12), .ref (oA 13), .ref (oA 14), .ref (oA 15), .ref (oA 16), .ref (oA 17), .ref (oA 18), .int (nI (mi 19)), .ref (oA 20), .ref (oA 21), .ref (oA 22), .ref (oA 23), .int (nI (mi 24)), .ref (oA 25), .ref (oA 26), .ref (oA 27), .int (nI (mi 28)), .ref (oA 29), .ref (oA 30), .int (nI (mi 31)), .ref (oA 32), .int (nI (mi 33)), .int (nI (mi 34))])), ((oA 9), .inl (cI, 4, .inl (fun j => nI ((M 9) j))))]) [0, 1] rfl
    refine ly_r (va_runV (As := [.int (nI k)]) (rest := []) ⟨hx, hb, hml, hown, hts⟩ (c_X7_isKnee l D cI cC cZ cN oA M mi fa mt (nI k)) (cwV 1 hts gX7_gives_X7_isKnee rfl rfl rfl (by decide +kernel) ⟨Nat.le_of_ble_eq_true rfl, Nat.le_of_ble_eq_true rfl⟩) (ly_pv hK hN hPc_7 0 7 rfl rfl rfl) rfl rfl hl.1 rfl (lv_room (Nat.le_of_ble_eq_true rfl)) dX7_gives_7 ⟨Nat.zero_le _, Nat.zero_le _⟩) ?_
    refine lv_if_eq (tgt := 65) hx hb dX7_gives_10 (by decide) (fun h_9 => absurd h_9 (jin_ix hk hn)) (fun _ => ?_)
    refine lv_iload_n hx hb dX7_gives_13 rfl (lv_at hl 2 rfl) ?_
    refine lv_iconst (v := 0) hx hb dX7_gives_14 (by decide) ?_
    refine lv_bipush (v := 6) hx hb dX7_gives_15 (by decide) ?_
    have hPc_17 := hP.sub (ws' := []) [] rfl
    refine ly_r (va_runS (As := [.int (nI n1), .int 0, .int 6]) (rest := []) ⟨hx, hb, hml, hown, hts⟩ (c_X7_in l D cI cC cZ cN (nI n1) 0 6) (va_cwS 3 hts gX7_gives_X7_in rfl rfl rfl (by decide +kernel) ⟨Nat.le_of_ble_eq_true rfl, Nat.le_of_ble_eq_true rfl⟩) (ly_ps hK hN hPc_17) rfl rfl hl.1 rfl (lv_room (Nat.le_of_ble_eq_true rfl)) dX7_gives_17 ⟨Nat.zero_le _, Nat.zero_le _⟩) ?_
    refine lv_if_eq (tgt := 65) hx hb dX7_gives_20 (by decide) (fun h_9 => absurd h_9 (jin_yes (b := 6) h1 (by omega))) (fun _ => ?_)
    refine lv_iload_n hx hb dX7_gives_23 rfl (lv_at hl 3 rfl) ?_
    refine lv_iconst (v := 0) hx hb dX7_gives_24 (by decide) ?_
    refine lv_bipush (v := 30) hx hb dX7_gives_25 (by decide) ?_
    have hPc_27 := hP.sub (ws' := []) [] rfl
    refine ly_r (va_runS (As := [.int (nI a1), .int 0, .int 30]) (rest := []) ⟨hx, hb, hml, hown, hts⟩ (c_X7_in l D cI cC cZ cN (nI a1) 0 30) (va_cwS 3 hts gX7_gives_X7_in rfl rfl rfl (by decide +kernel) ⟨Nat.le_of_ble_eq_true rfl, Nat.le_of_ble_eq_true rfl⟩) (ly_ps hK hN hPc_27) rfl rfl hl.1 rfl (lv_room (Nat.le_of_ble_eq_true rfl)) dX7_gives_27 ⟨Nat.zero_le _, Nat.zero_le _⟩) ?_
    refine lv_if_eq (tgt := 65) hx hb dX7_gives_30 (by decide) (fun h_9 => absurd h_9 (jin_yes (b := 30) h2 (by omega))) (fun _ => ?_)
    refine lv_iload hx hb dX7_gives_33 (lv_at hl 4 rfl) ?_
    refine lv_iconst (v := 0) hx hb dX7_gives_35 (by decide) ?_
    refine lv_bipush (v := 30) hx hb dX7_gives_36 (by decide) ?_
    have hPc_38 := hP.sub (ws' := []) [] rfl
    refine ly_r (va_runS (As := [.int (nI b1), .int 0, .int 30]) (rest := []) ⟨hx, hb, hml, hown, hts⟩ (c_X7_in l D cI cC cZ cN (nI b1) 0 30) (va_cwS 3 hts gX7_gives_X7_in rfl rfl rfl (by decide +kernel) ⟨Nat.le_of_ble_eq_true rfl, Nat.le_of_ble_eq_true rfl⟩) (ly_ps hK hN hPc_38) rfl rfl hl.1 rfl (lv_room (Nat.le_of_ble_eq_true rfl)) dX7_gives_38 ⟨Nat.zero_le _, Nat.zero_le _⟩) ?_
    refine lv_if_eq (tgt := 65) hx hb dX7_gives_41 (by decide) (fun h_9 => absurd h_9 (jin_yes (b := 30) h3 (by omega))) (fun _ => ?_)
    refine lv_iload hx hb dX7_gives_44 (lv_at hl 5 rfl) ?_
    refine lv_iconst (v := 0) hx hb dX7_gives_46 (by decide) ?_
    refine lv_bipush (v := 10) hx hb dX7_gives_47 (by decide) ?_
    have hPc_49 := hP.sub (ws' := []) [] rfl
    refine ly_r (va_runS (As := [.int (nI x1), .int 0, .int 10]) (rest := []) ⟨hx, hb, hml, hown, hts⟩ (c_X7_in l D cI cC cZ cN (nI x1) 0 10) (va_cwS 3 hts gX7_gives_X7_in rfl rfl rfl (by decide +kernel) ⟨Nat.le_of_ble_eq_true rfl, Nat.le_of_ble_eq_true rfl⟩) (ly_ps hK hN hPc_49) rfl rfl hl.1 rfl (lv_room (Nat.le_of_ble_eq_true rfl)) dX7_gives_49 ⟨Nat.zero_le _, Nat.zero_le _⟩) ?_
    refine lv_if_eq (tgt := 65) hx hb dX7_gives_52 (by decide) (fun h_9 => absurd h_9 (jin_yes (b := 10) h4 (by omega))) (fun _ => ?_)
    refine lv_iload hx hb dX7_gives_55 (lv_at hl 6 rfl) ?_
    refine lv_iconst (v := 0) hx hb dX7_gives_57 (by decide) ?_
    refine lv_iconst (v := 1) hx hb dX7_gives_58 (by decide) ?_
    have hPc_59 := hP.sub (ws' := []) [] rfl
    refine ly_r (va_runS (As := [.int (nI 1), .int 0, .int 1]) (rest := []) ⟨hx, hb, hml, hown, hts⟩ (c_X7_in l D cI cC cZ cN (nI 1) 0 1) (va_cwS 3 hts gX7_gives_X7_in rfl rfl rfl (by decide +kernel) ⟨Nat.le_of_ble_eq_true rfl, Nat.le_of_ble_eq_true rfl⟩) (ly_ps hK hN hPc_59) rfl rfl hl.1 rfl (lv_room (Nat.le_of_ble_eq_true rfl)) dX7_gives_59 ⟨Nat.zero_le _, Nat.zero_le _⟩) ?_
    refine lv_if_ne (tgt := 67) hx hb dX7_gives_62 (by decide) (fun _ => ?_) (fun h_9 => absurd h_9 (jin_yes (b := 1) (by omega) (by omega)))
    refine lv_iconst (v := 0) hx hb dX7_gives_67 (by decide) ?_
    refine lv_istore (lv' := [(7, .int 0), (0, .ref (oA 0)), (1, .int (nI k)), (2, .int (nI n1)), (3, .int (nI a1)), (4, .int (nI b1)), (5, .int (nI x1)), (6, .int (nI 1))]) hx hb dX7_gives_68 hl (by decide) rfl (fun ls hl => ?_)
    refine lv_iconst (v := 1) hx hb dX7_gives_70 (by decide) ?_
    refine lv_istore (lv' := [(8, .int 1), (7, .int 0), (0, .ref (oA 0)), (1, .int (nI k)), (2, .int (nI n1)), (3, .int (nI a1)), (4, .int (nI b1)), (5, .int (nI x1)), (6, .int (nI 1))]) hx hb dX7_gives_71 hl (by decide) rfl (fun ls hl => ?_)
    refine lv_iconst (v := 0) hx hb dX7_gives_73 (by decide) ?_
    refine lv_istore (lv' := [(9, .int 0), (8, .int 1), (7, .int 0), (0, .ref (oA 0)), (1, .int (nI k)), (2, .int (nI n1)), (3, .int (nI a1)), (4, .int (nI b1)), (5, .int (nI x1)), (6, .int (nI 1))]) hx hb dX7_gives_74 hl (by decide) rfl (fun ls hl => ?_)
    have hloop_76 : ∀ (ua i : Nat), i + ua = n1 → ∀ (H : Heap) (locs : List Loc), va_P D vwCl [((oA 0), .inr (7, [.int 0, .long mt, .ref (oA 2), .int (nI (mi 3)), .int (nI (mi 4)), .int (nI (mi 5)), .int (nI (mi 6)), .int (nI (mi 7)), .int fa, .ref (oA 9), .ref (oA 10), .ref (oA 11), .ref (oA 12), .ref (oA 13), .ref (oA 14), .ref (oA 15), .ref (oA 16), .ref (oA 17), .ref (oA 18), .int (nI (mi 19)), .ref (oA 20), .ref (oA 21), .ref (oA 22), .ref (oA 23), .int (nI (mi 24)), .ref (oA 25), .ref (oA 26), .ref (oA 27), .int (nI (mi 28)), .ref (oA 29), .ref (oA 30), .int (nI (mi 31)), .ref (oA 32), .int (nI (mi 33)), .int (nI (mi 34))])), ((oA 9), .inl (cI, 4, .inl (fun j => nI ((M 9) j)))), ((oA 20), .inl (cI, 23, .inl (fun j => nI ((M 20) j))))] H → va_D A [((oA 0), .inr (7, [.int 0, .long mt, .ref (oA 2), .int (nI (mi 3)), .int (nI (mi 4)), .int (nI (mi 5)), .int (nI (mi 6)), .int (nI (mi 7)), .int fa, .ref (oA 9), .ref (oA 10), .ref (oA 11), .ref (oA 12), .ref (oA 13), .ref (oA 14), .ref (oA 15), .ref (oA 16), .ref (oA 17), .ref (oA 18), .int (nI (mi 19)), .ref (oA 20), .ref (oA 21), .ref (oA 22), .ref (oA 23), .int (nI (mi 24)), .ref (oA 25), .ref (oA 26), .ref (oA 27), .int (nI (mi 28)), .ref (oA 29), .ref (oA 30), .int (nI (mi 31)), .ref (oA 32), .int (nI (mi 33)), .int (nI (mi 34))])), ((oA 9), .inl (cI, 4, .inl (fun j => nI ((M 9) j)))), ((oA 20), .inl (cI, 23, .inl (fun j => nI ((M 20) j))))] → va_S A s.heap H locs → ∀ ls : Array Slot, lv_has ls 13 [(9, .int (nI i)), (8, .int (nI (m_ten i))), (7, .int 0), (0, .ref (oA 0)), (1, .int (nI k)), (2, .int (nI n1)), (3, .int (nI a1)), (4, .int (nI b1)), (5, .int (nI x1)), (6, .int (nI 1))] → W p l e (headSpec wsX7_gives (ly_rm 6)).room s m av below meth c H locs 0 0 (MQ below Qc av s 0 0 A) (F0 m 76 ls []) := by
      intro ua
      induction ua with
      | zero =>
        intro i hi_76 H locs hP hD hS ls hl
        obtain rfl : n1 = i := by omega
        refine lv_iload hx hb dX7_gives_76 (lv_at hl 0 rfl) ?_
        refine lv_iload_n hx hb dX7_gives_78 rfl (lv_at hl 5 rfl) ?_
        refine lv_icmp_ge (tgt := 95) hx hb dX7_gives_79 (by decide) (fun _ => ?_) (fun h_9 => absurd (nI_le (Nat.le_refl _) (by omega)) h_9)
        refine lv_iconst (v := 0) hx hb dX7_gives_95 (by decide) ?_
        refine lv_istore (lv' := [(9, .int 0), (8, .int (nI (m_ten n1))), (7, .int 0), (0, .ref (oA 0)), (1, .int (nI k)), (2, .int (nI n1)), (3, .int (nI a1)), (4, .int (nI b1)), (5, .int (nI x1)), (6, .int (nI 1))]) hx hb dX7_gives_96 hl (by decide) rfl (fun ls hl => ?_)
        have hloop_98 : ∀ (ua st : Nat), st + ua = N1 → ∀ (H : Heap) (locs : List Loc), va_P D vwCl [((oA 0), .inr (7, [.int 0, .long mt, .ref (oA 2), .int (nI (mi 3)), .int (nI (mi 4)), .int (nI (mi 5)), .int (nI (mi 6)), .int (nI (mi 7)), .int fa, .ref (oA 9), .ref (oA 10), .ref (oA 11), .ref (oA 12), .ref (oA 13), .ref (oA 14), .ref (oA 15), .ref (oA 16), .ref (oA 17), .ref (oA 18), .int (nI (mi 19)), .ref (oA 20), .ref (oA 21), .ref (oA 22), .ref (oA 23), .int (nI (mi 24)), .ref (oA 25), .ref (oA 26), .ref (oA 27), .int (nI (mi 28)), .ref (oA 29), .ref (oA 30), .int (nI (mi 31)), .ref (oA 32), .int (nI (mi 33)), .int (nI (mi 34))])), ((oA 9), .inl (cI, 4, .inl (fun j => nI ((M 9) j)))), ((oA 20), .inl (cI, 23, .inl (fun j => nI ((M 20) j))))] H → va_D A [((oA 0), .inr (7, [.int 0, .long mt, .ref (oA 2), .int (nI (mi 3)), .int (nI (mi 4)), .int (nI (mi 5)), .int (nI (mi 6)), .int (nI (mi 7)), .int fa, .ref (oA 9), .ref (oA 10), .ref (oA 11), .ref (oA 12), .ref (oA 13), .ref (oA 14), .ref (oA 15), .ref (oA 16), .ref (oA 17), .ref (oA 18), .int (nI (mi 19)), .ref (oA 20), .ref (oA 21), .ref (oA 22), .ref (oA 23), .int (nI (mi 24)), .ref (oA 25), .ref (oA 26), .ref (oA 27), .int (nI (mi 28)), .ref (oA 29), .ref (oA 30), .int (nI (mi 31)), .ref (oA 32), .int (nI (mi 33)), .int (nI (mi 34))])), ((oA 9), .inl (cI, 4, .inl (fun j => nI ((M 9) j)))), ((oA 20), .inl (cI, 23, .inl (fun j => nI ((M 20) j))))] → va_S A s.heap H locs → ∀ ls : Array Slot, lv_has ls 13 [(9, .int (nI st)), (8, .int (nI (m_ten n1))), (7, .int (nI (m_gv M k n1 a1 b1 x1 st))), (0, .ref (oA 0)), (1, .int (nI k)), (2, .int (nI n1)), (3, .int (nI a1)), (4, .int (nI b1)), (5, .int (nI x1)), (6, .int (nI 1))] → W p l e (headSpec wsX7_gives (ly_rm 6)).room s m av below meth c H locs 0 0 (MQ below Qc av s 0 0 A) (F0 m 98 ls []) := by
          intro ua
          induction ua with
          | zero =>
            intro st hi_98 H locs hP hD hS ls hl
            obtain rfl : N1 = st := by omega
            refine lv_iload hx hb dX7_gives_98 (lv_at hl 0 rfl) ?_
            refine lv_iconst (v := 1) hx hb dX7_gives_100 (by decide) ?_
            refine lv_iload_n hx hb dX7_gives_101 rfl (lv_at hl 5 rfl) ?_
            refine lv_ishl hx hb dX7_gives_102 ?_
            refine ly_eqi (show (1 <<< ((nI n1) &&& 31)) = (nI N1) from (by rw [← hN1]; exact ly_shl1 (by omega))) ?_
            refine lv_icmp_ge (tgt := 206) hx hb dX7_gives_103 (by decide) (fun _ => ?_) (fun h_9 => absurd (nI_le (Nat.le_refl _) (by omega)) h_9)
            have hgv_ := m_gv_le M k n1 a1 b1 x1 h1 h4 N1
            have hte_ := m_p10 h1
            rw [← m_ten_eq] at hte_
            have htp_ : 0 < m_ten n1 := by rw [m_ten_eq]; exact Nat.pow_pos (by decide)
            have hg0_ : 0 < Nat.gcd (m_gv M k n1 a1 b1 x1 N1) (m_ten n1) := Nat.gcd_pos_of_pos_right _ htp_
            have hg1_ : Nat.gcd (m_gv M k n1 a1 b1 x1 N1) (m_ten n1) ≤ m_ten n1 := Nat.gcd_le_right _ htp_
            have hgn_ : ¬ nI (Nat.gcd (m_gv M k n1 a1 b1 x1 N1) (m_ten n1)) = 0 := fun z => absurd ((nI_eq (a := Nat.gcd (m_gv M k n1 a1 b1 x1 N1) (m_ten n1)) (b := 0) (by omega) (by omega)).mp z) (by omega)
            refine lv_iload hx hb dX7_gives_206 (lv_at hl 2 rfl) ?_
            refine lv_iload hx hb dX7_gives_208 (lv_at hl 1 rfl) ?_
            have hPc_210 := hP.sub (ws' := []) [] rfl
            refine ly_m (wr := [((oA 0), .inr (7, [.int 0, .long mt, .ref (oA 2), .int (nI (mi 3)), .int (nI (mi 4)), .int (nI (mi 5)), .int (nI (mi 6)), .int (nI (mi 7)), .int fa, .ref (oA 9), .ref (oA 10), .ref (oA 11), .ref (oA 12), .ref (oA 13), .ref (oA 14), .ref (oA 15), .ref (oA 16), .ref (oA 17), .ref (oA 18), .int (nI (mi 19)), .ref (oA 20), .ref (oA 21), .ref (oA 22), .ref (oA 23), .int (nI (mi 24)), .ref (oA 25), .ref (oA 26), .ref (oA 27), .int (nI (mi 28)), .ref (oA 29), .ref (oA 30), .int (nI (mi 31)), .ref (oA 32), .int (nI (mi 33)), .int (nI (mi 34))])), ((oA 9), .inl (cI, 4, .inl (fun j => nI ((M 9) j)))), ((oA 20), .inl (cI, 23, .inl (fun j => nI ((M 20) j))))]) (va_runS (As := [.int (nI (m_gv M k n1 a1 b1 x1 N1)), .int (nI (m_ten n1))]) (rest := []) ⟨hx, hb, hml, hown, hts⟩ (c_X7_gcd l D cI cC cZ cN (m_gv M k n1 a1 b1 x1 N1) (m_ten n1) (by omega) (by omega) ((hD.sub [] (by decide) rfl).weaken (fun _ _ _ _ => trivial))) (va_cwS 2 hts gX7_gives_X7_gcd rfl rfl rfl (by decide +kernel) ⟨Nat.le_of_ble_eq_true rfl, Nat.le_of_ble_eq_true rfl⟩) (ly_ps hK hN hPc_210) rfl rfl hl.1 rfl (lv_room (Nat.le_of_ble_eq_true rfl)) dX7_gives_210 ⟨Nat.zero_le _, Nat.zero_le _⟩) hP hD hS [] [0, 1, 2] rfl rfl (by decide) ?_
            rintro _ _ H locs ⟨rfl, rfl⟩ - hP hD hS
            have hP : va_P D vwCl [((oA 0), .inr (7, [.int 0, .long mt, .ref (oA 2), .int (nI (mi 3)), .int (nI (mi 4)), .int (nI (mi 5)), .int (nI (mi 6)), .int (nI (mi 7)), .int fa, .ref (oA 9), .ref (oA 10), .ref (oA 11), .ref (oA 12), .ref (oA 13), .ref (oA 14), .ref (oA 15), .ref (oA 16), .ref (oA 17), .ref (oA 18), .int (nI (mi 19)), .ref (oA 20), .ref (oA 21), .ref (oA 22), .ref (oA 23), .int (nI (mi 24)), .ref (oA 25), .ref (oA 26), .ref (oA 27), .int (nI (mi 28)), .ref (oA 29), .ref (oA 30), .int (nI (mi 31)), .ref (oA 32), .int (nI (mi 33)), .int (nI (mi 34))])), ((oA 9), .inl (cI, 4, .inl (fun j => nI ((M 9) j)))), ((oA 20), .inl (cI, 23, .inl (fun j => nI ((M 20) j))))] H := hP
            have hD : va_D A [((oA 0), .inr (7, [.int 0, .long mt, .ref (oA 2), .int (nI (mi 3)), .int (nI (mi 4)), .int (nI (mi 5)), .int (nI (mi 6)), .int (nI (mi 7)), .int fa, .ref (oA 9), .ref (oA 10), .ref (oA 11), .ref (oA 12), .ref (oA 13), .ref (oA 14), .ref (oA 15), .ref (oA 16), .ref (oA 17), .ref (oA 18), .int (nI (mi 19)), .ref (oA 20), .ref (oA 21), .ref (oA 22), .ref (oA 23), .int (nI (mi 24)), .ref (oA 25), .ref (oA 26), .ref (oA 27), .int (nI (mi 28)), .ref (oA 29), .ref (oA 30), .int (nI (mi 31)), .ref (oA 32), .int (nI (mi 33)), .int (nI (mi 34))])), ((oA 9), .inl (cI, 4, .inl (fun j => nI ((M 9) j)))), ((oA 20), .inl (cI, 23, .inl (fun j => nI ((M 20) j))))] := hD
            refine W.eq (g2 := F0 m 213 ls [.int (nI (Nat.gcd (m_gv M k n1 a1 b1 x1 N1) (m_ten n1)))]) rfl ?_
            refine lv_istore (lv' := [(9, .int (nI (Nat.gcd (m_gv M k n1 a1 b1 x1 N1) (m_ten n1)))), (8, .int (nI (m_ten n1))), (7, .int (nI (m_gv M k n1 a1 b1 x1 N1))), (0, .ref (oA 0)), (1, .int (nI k)), (2, .int (nI n1)), (3, .int (nI a1)), (4, .int (nI b1)), (5, .int (nI x1)), (6, .int (nI 1))]) hx hb dX7_gives_213 hl (by decide) rfl (fun ls hl => ?_)
            refine lv_iload hx hb dX7_gives_215 (lv_at hl 9 rfl) ?_
            refine lv_if_ne (tgt := 228) hx hb dX7_gives_217 (by decide) (fun _ => ?_) (fun h_9 => absurd h_9 (by decide))
            refine lv_iload hx hb dX7_gives_228 (lv_at hl 1 rfl) ?_
            refine lv_iload hx hb dX7_gives_230 (lv_at hl 0 rfl) ?_
            refine lv_idiv hx hb dX7_gives_232 hgn_ ?_
            refine ly_eqi (show ((nI (m_ten n1)) / (nI (Nat.gcd (m_gv M k n1 a1 b1 x1 N1) (m_ten n1)))) = (nI ((m_ten n1) / Nat.gcd (m_gv M k n1 a1 b1 x1 N1) (m_ten n1))) from (pk_div (by omega) hg0_ (by omega))) ?_
            exact W.iret (v := (nI ((m_ten n1) / Nat.gcd (m_gv M k n1 a1 b1 x1 N1) (m_ten n1)))) hx hb hr (fun t_9 ht_9 _ => by rw [hQc]; exact ⟨_, [((oA 0), .inr (7, [.int 0, .long mt, .ref (oA 2), .int (nI (mi 3)), .int (nI (mi 4)), .int (nI (mi 5)), .int (nI (mi 6)), .int (nI (mi 7)), .int fa, .ref (oA 9), .ref (oA 10), .ref (oA 11), .ref (oA 12), .ref (oA 13), .ref (oA 14), .ref (oA 15), .ref (oA 16), .ref (oA 17), .ref (oA 18), .int (nI (mi 19)), .ref (oA 20), .ref (oA 21), .ref (oA 22), .ref (oA 23), .int (nI (mi 24)), .ref (oA 25), .ref (oA 26), .ref (oA 27), .int (nI (mi 28)), .ref (oA 29), .ref (oA 30), .int (nI (mi 31)), .ref (oA 32), .int (nI (mi 33)), .int (nI (mi 34))])), ((oA 9), .inl (cI, 4, .inl (fun j => nI ((M 9) j)))), ((oA 20), .inl (cI, 23, .inl (fun j => nI ((M 20) j))))], rfl, ⟨rfl, rfl⟩, by simp only [List.map_cons, List.map_nil], by rw [ht_9]; exact hP.sub [0, 1, 2] rfl, by rw [← hAe]; exact hS.F ht_9⟩) hS.2.2 dX7_gives_233
          | succ ua ih_98 =>
            intro st hi_98 H locs hP hD hS ls hl
            refine lv_iload hx hb dX7_gives_98 (lv_at hl 0 rfl) ?_
            refine lv_iconst (v := 1) hx hb dX7_gives_100 (by decide) ?_
            refine lv_iload_n hx hb dX7_gives_101 rfl (lv_at hl 5 rfl) ?_
            refine lv_ishl hx hb dX7_gives_102 ?_
            refine ly_eqi (show (1 <<< ((nI n1) &&& 31)) = (nI N1) from (by rw [← hN1]; exact ly_shl1 (by omega))) ?_
            refine lv_icmp_ge (tgt := 206) hx hb dX7_gives_103 (by decide) (fun h_9 => absurd h_9 (nI_ge (by omega) (by omega))) (fun _ => ?_)
            refine lv_iconst (v := 1) hx hb dX7_gives_106 (by decide) ?_
            refine lv_istore (lv' := [(10, .int 1), (9, .int (nI st)), (8, .int (nI (m_ten n1))), (7, .int (nI (m_gv M k n1 a1 b1 x1 st))), (0, .ref (oA 0)), (1, .int (nI k)), (2, .int (nI n1)), (3, .int (nI a1)), (4, .int (nI b1)), (5, .int (nI x1)), (6, .int (nI 1))]) hx hb dX7_gives_107 hl (by decide) rfl (fun ls hl => ?_)
            refine lv_iconst (v := 0) hx hb dX7_gives_109 (by decide) ?_
            refine lv_istore (lv' := [(11, .int 0), (10, .int 1), (9, .int (nI st)), (8, .int (nI (m_ten n1))), (7, .int (nI (m_gv M k n1 a1 b1 x1 st))), (0, .ref (oA 0)), (1, .int (nI k)), (2, .int (nI n1)), (3, .int (nI a1)), (4, .int (nI b1)), (5, .int (nI x1)), (6, .int (nI 1))]) hx hb dX7_gives_110 hl (by decide) rfl (fun ls hl => ?_)
            refine lv_iconst (v := 0) hx hb dX7_gives_112 (by decide) ?_
            refine lv_istore (lv' := [(12, .int 0), (11, .int 0), (10, .int 1), (9, .int (nI st)), (8, .int (nI (m_ten n1))), (7, .int (nI (m_gv M k n1 a1 b1 x1 st))), (0, .ref (oA 0)), (1, .int (nI k)), (2, .int (nI n1)), (3, .int (nI a1)), (4, .int (nI b1)), (5, .int (nI x1)), (6, .int (nI 1))]) hx hb dX7_gives_113 hl (by decide) rfl (fun ls hl => ?_)
            have hloop_115 : ∀ (ub i : Nat), i + ub = n1 → ∀ (H : Heap) (locs : List Loc), va_P D vwCl [((oA 0), .inr (7, [.int 0, .long mt, .ref (oA 2), .int (nI (mi 3)), .int (nI (mi 4)), .int (nI (mi 5)), .int (nI (mi 6)), .int (nI (mi 7)), .int fa, .ref (oA 9), .ref (oA 10), .ref (oA 11), .ref (oA 12), .ref (oA 13), .ref (oA 14), .ref (oA 15), .ref (oA 16), .ref (oA 17), .ref (oA 18), .int (nI (mi 19)), .ref (oA 20), .ref (oA 21), .ref (oA 22), .ref (oA 23), .int (nI (mi 24)), .ref (oA 25), .ref (oA 26), .ref (oA 27), .int (nI (mi 28)), .ref (oA 29), .ref (oA 30), .int (nI (mi 31)), .ref (oA 32), .int (nI (mi 33)), .int (nI (mi 34))])), ((oA 9), .inl (cI, 4, .inl (fun j => nI ((M 9) j)))), ((oA 20), .inl (cI, 23, .inl (fun j => nI ((M 20) j))))] H → va_D A [((oA 0), .inr (7, [.int 0, .long mt, .ref (oA 2), .int (nI (mi 3)), .int (nI (mi 4)), .int (nI (mi 5)), .int (nI (mi 6)), .int (nI (mi 7)), .int fa, .ref (oA 9), .ref (oA 10), .ref (oA 11), .ref (oA 12), .ref (oA 13), .ref (oA 14), .ref (oA 15), .ref (oA 16), .ref (oA 17), .ref (oA 18), .int (nI (mi 19)), .ref (oA 20), .ref (oA 21), .ref (oA 22), .ref (oA 23), .int (nI (mi 24)), .ref (oA 25), .ref (oA 26), .ref (oA 27), .int (nI (mi 28)), .ref (oA 29), .ref (oA 30), .int (nI (mi 31)), .ref (oA 32), .int (nI (mi 33)), .int (nI (mi 34))])), ((oA 9), .inl (cI, 4, .inl (fun j => nI ((M 9) j)))), ((oA 20), .inl (cI, 23, .inl (fun j => nI ((M 20) j))))] → va_S A s.heap H locs → ∀ ls : Array Slot, lv_has ls 13 [(12, .int (nI i)), (11, .int (nI ((m_go a1 b1 x1 st i).2))), (10, .int (nI ((m_go a1 b1 x1 st i).1))), (9, .int (nI st)), (8, .int (nI (m_ten n1))), (7, .int (nI (m_gv M k n1 a1 b1 x1 st))), (0, .ref (oA 0)), (1, .int (nI k)), (2, .int (nI n1)), (3, .int (nI a1)), (4, .int (nI b1)), (5, .int (nI x1)), (6, .int (nI 1))] → W p l e (headSpec wsX7_gives (ly_rm 6)).room s m av below meth c H locs 0 0 (MQ below Qc av s 0 0 A) (F0 m 115 ls []) := by
              intro ub
              induction ub with
              | zero =>
                intro i hi_115 H locs hP hD hS ls hl
                obtain rfl : n1 = i := by omega
                refine lv_iload hx hb dX7_gives_115 (lv_at hl 0 rfl) ?_
                refine lv_iload_n hx hb dX7_gives_117 rfl (lv_at hl 8 rfl) ?_
                refine lv_icmp_ge (tgt := 175) hx hb dX7_gives_118 (by decide) (fun _ => ?_) (fun h_9 => absurd (nI_le (Nat.le_refl _) (by omega)) h_9)
                refine lv_iload hx hb dX7_gives_175 (lv_at hl 5 rfl) ?_
                refine lv_iload hx hb dX7_gives_177 (lv_at hl 1 rfl) ?_
                refine lv_aload_n hx hb dX7_gives_179 rfl (lv_at hl 6 rfl) ?_
                refine va_get (D := D) (ci := 7) (v := .ref (oA 20)) (C := RX7) (T := TX7) (N := 35) hx hb hts hiX7 hown hK hP 0 rfl rfl 20 (by decide) f43 (fun _ h9 => h9) rfl dX7_gives_180 ?_
                refine lv_bipush (v := 11) hx hb dX7_gives_183 (by decide) ?_
                refine lv_iload_n hx hb dX7_gives_185 rfl (lv_at hl 7 rfl) ?_
                refine lv_iadd hx hb dX7_gives_186 ?_
                refine ly_eqi (show (11 + (nI k)) = (nI (11 + k)) from ly_add rfl rfl) ?_
                refine ly_iald hx hb hK hP 2 0 rfl rfl (k := 11 + k) (by decide) rfl (by omega) dX7_gives_187 ?_
                refine lv_icmp_le (tgt := 196) hx hb dX7_gives_188 (by decide) (fun c_1 => ?_) (fun c_1 => ?_)
                · refine lv_iconst (v := 0) hx hb dX7_gives_196 (by decide) ?_
                  refine lv_iadd hx hb dX7_gives_197 ?_
                  refine ly_eqi (show ((nI (m_gv M k n1 a1 b1 x1 st)) + 0) = (nI ((m_gv M k n1 a1 b1 x1 st) + 0)) from ly_add rfl rfl) ?_
                  refine lv_istore (lv' := [(7, .int (nI ((m_gv M k n1 a1 b1 x1 st) + 0))), (12, .int (nI n1)), (11, .int (nI ((m_go a1 b1 x1 st n1).2))), (10, .int (nI ((m_go a1 b1 x1 st n1).1))), (9, .int (nI st)), (8, .int (nI (m_ten n1))), (0, .ref (oA 0)), (1, .int (nI k)), (2, .int (nI n1)), (3, .int (nI a1)), (4, .int (nI b1)), (5, .int (nI x1)), (6, .int (nI 1))]) hx hb dX7_gives_198 hl (by decide) rfl (fun ls hl => ?_)
                  refine lv_iinc (v := (nI (st + 1))) (lv' := [(9, .int (nI (st + 1))), (7, .int (nI ((m_gv M k n1 a1 b1 x1 st) + 0))), (12, .int (nI n1)), (11, .int (nI ((m_go a1 b1 x1 st n1).2))), (10, .int (nI ((m_go a1 b1 x1 st n1).1))), (8, .int (nI (m_ten n1))), (0, .ref (oA 0)), (1, .int (nI k)), (2, .int (nI n1)), (3, .int (nI a1)), (4, .int (nI b1)), (5, .int (nI x1)), (6, .int (nI 1))]) hx hb dX7_gives_200 hl (k := 4) rfl (ly_add rfl rfl) (by decide) rfl (fun ls hl => ?_)
                  refine lv_goto (tgt := 98) hx hb dX7_gives_203 (by decide) ?_
                  have e_2 : m_gv M k n1 a1 b1 x1 (st + 1) = (m_gv M k n1 a1 b1 x1 st) + 0 := by show m_gvB M k n1 a1 b1 x1 st (m_gv M k n1 a1 b1 x1 st) = _; unfold m_gvB; rw [if_pos c_1]
                  exact ih_98 (st + 1) (by omega) H locs (by first | exact hP.sub [0, 1, 2] rfl | (rw [e_2]; exact hP.sub [0, 1, 2] rfl)) (by first | exact hD.sub [0, 1, 2] (by decide) rfl | (rw [e_2]; exact hD.sub [0, 1, 2] (by decide) rfl)) hS ls (by first | exact lv_sub hl [0, 5, 1, 6, 7, 8, 9, 10, 11, 12] rfl | (rw [e_2]; exact lv_sub hl [0, 5, 1, 6, 7, 8, 9, 10, 11, 12] rfl))
                · refine lv_iload hx hb dX7_gives_191 (lv_at hl 2 rfl) ?_
                  refine lv_goto (tgt := 197) hx hb dX7_gives_193 (by decide) ?_
                  refine lv_iadd hx hb dX7_gives_197 ?_
                  refine ly_eqi (show ((nI (m_gv M k n1 a1 b1 x1 st)) + (nI ((m_go a1 b1 x1 st n1).1))) = (nI ((m_gv M k n1 a1 b1 x1 st) + (m_go a1 b1 x1 st n1).1)) from ly_add rfl rfl) ?_
                  refine lv_istore (lv' := [(7, .int (nI ((m_gv M k n1 a1 b1 x1 st) + (m_go a1 b1 x1 st n1).1))), (12, .int (nI n1)), (11, .int (nI ((m_go a1 b1 x1 st n1).2))), (10, .int (nI ((m_go a1 b1 x1 st n1).1))), (9, .int (nI st)), (8, .int (nI (m_ten n1))), (0, .ref (oA 0)), (1, .int (nI k)), (2, .int (nI n1)), (3, .int (nI a1)), (4, .int (nI b1)), (5, .int (nI x1)), (6, .int (nI 1))]) hx hb dX7_gives_198 hl (by decide) rfl (fun ls hl => ?_)
                  refine lv_iinc (v := (nI (st + 1))) (lv' := [(9, .int (nI (st + 1))), (7, .int (nI ((m_gv M k n1 a1 b1 x1 st) + (m_go a1 b1 x1 st n1).1))), (12, .int (nI n1)), (11, .int (nI ((m_go a1 b1 x1 st n1).2))), (10, .int (nI ((m_go a1 b1 x1 st n1).1))), (8, .int (nI (m_ten n1))), (0, .ref (oA 0)), (1, .int (nI k)), (2, .int (nI n1)), (3, .int (nI a1)), (4, .int (nI b1)), (5, .int (nI x1)), (6, .int (nI 1))]) hx hb dX7_gives_200 hl (k := 4) rfl (ly_add rfl rfl) (by decide) rfl (fun ls hl => ?_)
                  refine lv_goto (tgt := 98) hx hb dX7_gives_203 (by decide) ?_
                  have e_3 : m_gv M k n1 a1 b1 x1 (st + 1) = (m_gv M k n1 a1 b1 x1 st) + (m_go a1 b1 x1 st n1).1 := by show m_gvB M k n1 a1 b1 x1 st (m_gv M k n1 a1 b1 x1 st) = _; unfold m_gvB; rw [if_neg c_1]
                  exact ih_98 (st + 1) (by omega) H locs (by first | exact hP.sub [0, 1, 2] rfl | (rw [e_3]; exact hP.sub [0, 1, 2] rfl)) (by first | exact hD.sub [0, 1, 2] (by decide) rfl | (rw [e_3]; exact hD.sub [0, 1, 2] (by decide) rfl)) hS ls (by first | exact lv_sub hl [0, 5, 1, 6, 7, 8, 9, 10, 11, 12] rfl | (rw [e_3]; exact lv_sub hl [0, 5, 1, 6, 7, 8, 9, 10, 11, 12] rfl))
              | succ ub ih_115 =>
                intro i hi_115 H locs hP hD hS ls hl
                refine lv_iload hx hb dX7_gives_115 (lv_at hl 0 rfl) ?_
                refine lv_iload_n hx hb dX7_gives_117 rfl (lv_at hl 8 rfl) ?_
                refine lv_icmp_ge (tgt := 175) hx hb dX7_gives_118 (by decide) (fun h_9 => absurd h_9 (nI_ge (by omega) (by omega))) (fun _ => ?_)
                refine lv_iload hx hb dX7_gives_121 (lv_at hl 2 rfl) ?_
                refine lv_iload hx hb dX7_gives_123 (lv_at hl 3 rfl) ?_
                refine lv_iload hx hb dX7_gives_125 (lv_at hl 0 rfl) ?_
                refine lv_ishr hx hb dX7_gives_127 ?_
                refine lv_iconst (v := 1) hx hb dX7_gives_128 (by decide) ?_
                refine lv_iand hx hb dX7_gives_129 ?_
                refine lv_iconst (v := 1) hx hb dX7_gives_130 (by decide) ?_
                refine lv_icmp_ne (tgt := 139) hx hb dX7_gives_131 (by decide) (fun c_4 => ?_) (fun c_4 => ?_)
                · refine lv_bipush (v := 10) hx hb dX7_gives_139 (by decide) ?_
                  refine lv_iload hx hb dX7_gives_141 (lv_at hl 11 rfl) ?_
                  refine lv_isub hx hb dX7_gives_143 ?_
                  refine ly_eqi (show (10 - (nI x1)) = (nI (10 - x1)) from ly_sub rfl rfl (by omega)) ?_
                  refine lv_imul hx hb dX7_gives_144 ?_
                  refine ly_eqi (show ((nI ((m_go a1 b1 x1 st i).1)) * (nI (10 - x1))) = (nI (((m_go a1 b1 x1 st i).1) * (10 - x1))) from ly_mul rfl rfl) ?_
                  refine lv_istore (lv' := [(10, .int (nI (((m_go a1 b1 x1 st i).1) * (10 - x1)))), (12, .int (nI i)), (11, .int (nI ((m_go a1 b1 x1 st i).2))), (9, .int (nI st)), (8, .int (nI (m_ten n1))), (7, .int (nI (m_gv M k n1 a1 b1 x1 st))), (0, .ref (oA 0)), (1, .int (nI k)), (2, .int (nI n1)), (3, .int (nI a1)), (4, .int (nI b1)), (5, .int (nI x1)), (6, .int (nI 1))]) hx hb dX7_gives_145 hl (by decide) rfl (fun ls hl => ?_)
                  refine lv_iload hx hb dX7_gives_147 (lv_at hl 2 rfl) ?_
                  refine lv_iload hx hb dX7_gives_149 (lv_at hl 3 rfl) ?_
                  refine lv_iload hx hb dX7_gives_151 (lv_at hl 1 rfl) ?_
                  refine lv_ishr hx hb dX7_gives_153 ?_
                  refine lv_iconst (v := 1) hx hb dX7_gives_154 (by decide) ?_
                  refine lv_iand hx hb dX7_gives_155 ?_
                  refine lv_iconst (v := 1) hx hb dX7_gives_156 (by decide) ?_
                  refine lv_icmp_ne (tgt := 164) hx hb dX7_gives_157 (by decide) (fun _ => ?_) (fun h_9 => absurd h_9 c_4)
                  refine lv_iload hx hb dX7_gives_164 (lv_at hl 10 rfl) ?_
                  refine lv_iadd hx hb dX7_gives_166 ?_
                  refine ly_eqi (show ((nI ((m_go a1 b1 x1 st i).2)) + (nI b1)) = (nI ((m_go a1 b1 x1 st i).2 + b1)) from ly_add rfl rfl) ?_
                  refine lv_istore (lv' := [(11, .int (nI ((m_go a1 b1 x1 st i).2 + b1))), (10, .int (nI (((m_go a1 b1 x1 st i).1) * (10 - x1)))), (12, .int (nI i)), (9, .int (nI st)), (8, .int (nI (m_ten n1))), (7, .int (nI (m_gv M k n1 a1 b1 x1 st))), (0, .ref (oA 0)), (1, .int (nI k)), (2, .int (nI n1)), (3, .int (nI a1)), (4, .int (nI b1)), (5, .int (nI x1)), (6, .int (nI 1))]) hx hb dX7_gives_167 hl (by decide) rfl (fun ls hl => ?_)
                  refine lv_iinc (v := (nI (i + 1))) (lv' := [(12, .int (nI (i + 1))), (11, .int (nI ((m_go a1 b1 x1 st i).2 + b1))), (10, .int (nI (((m_go a1 b1 x1 st i).1) * (10 - x1)))), (9, .int (nI st)), (8, .int (nI (m_ten n1))), (7, .int (nI (m_gv M k n1 a1 b1 x1 st))), (0, .ref (oA 0)), (1, .int (nI k)), (2, .int (nI n1)), (3, .int (nI a1)), (4, .int (nI b1)), (5, .int (nI x1)), (6, .int (nI 1))]) hx hb dX7_gives_169 hl (k := 2) rfl (ly_add rfl rfl) (by decide) rfl (fun ls hl => ?_)
                  refine lv_goto (tgt := 115) hx hb dX7_gives_172 (by decide) ?_
                  have e_5 : m_go a1 b1 x1 st (i + 1) = (((m_go a1 b1 x1 st i).1) * (10 - x1), (m_go a1 b1 x1 st i).2 + b1) := by show m_goB a1 b1 x1 st i ((m_go a1 b1 x1 st i).1) ((m_go a1 b1 x1 st i).2) = _; unfold m_goB; rw [if_neg c_4]
                  exact ih_115 (i + 1) (by omega) H locs (by first | exact hP.sub [0, 1, 2] rfl | (rw [e_5]; exact hP.sub [0, 1, 2] rfl)) (by first | exact hD.sub [0, 1, 2] (by decide) rfl | (rw [e_5]; exact hD.sub [0, 1, 2] (by decide) rfl)) hS ls (by first | exact lv_sub hl [0, 1, 2, 3, 4, 5, 6, 7, 8, 9, 10, 11, 12] rfl | (rw [e_5]; exact lv_sub hl [0, 1, 2, 3, 4, 5, 6, 7, 8, 9, 10, 11, 12] rfl))
                · refine lv_iload hx hb dX7_gives_134 (lv_at hl 11 rfl) ?_
                  refine lv_goto (tgt := 144) hx hb dX7_gives_136 (by decide) ?_
                  refine lv_imul hx hb dX7_gives_144 ?_
                  refine ly_eqi (show ((nI ((m_go a1 b1 x1 st i).1)) * (nI x1)) = (nI (((m_go a1 b1 x1 st i).1) * x1)) from ly_mul rfl rfl) ?_
                  refine lv_istore (lv' := [(10, .int (nI (((m_go a1 b1 x1 st i).1) * x1))), (12, .int (nI i)), (11, .int (nI ((m_go a1 b1 x1 st i).2))), (9, .int (nI st)), (8, .int (nI (m_ten n1))), (7, .int (nI (m_gv M k n1 a1 b1 x1 st))), (0, .ref (oA 0)), (1, .int (nI k)), (2, .int (nI n1)), (3, .int (nI a1)), (4, .int (nI b1)), (5, .int (nI x1)), (6, .int (nI 1))]) hx hb dX7_gives_145 hl (by decide) rfl (fun ls hl => ?_)
                  refine lv_iload hx hb dX7_gives_147 (lv_at hl 2 rfl) ?_
                  refine lv_iload hx hb dX7_gives_149 (lv_at hl 3 rfl) ?_
                  refine lv_iload hx hb dX7_gives_151 (lv_at hl 1 rfl) ?_
                  refine lv_ishr hx hb dX7_gives_153 ?_
                  refine lv_iconst (v := 1) hx hb dX7_gives_154 (by decide) ?_
                  refine lv_iand hx hb dX7_gives_155 ?_
                  refine lv_iconst (v := 1) hx hb dX7_gives_156 (by decide) ?_
                  refine lv_icmp_ne (tgt := 164) hx hb dX7_gives_157 (by decide) (fun h_9 => absurd c_4 h_9) (fun _ => ?_)
                  refine lv_iload_n hx hb dX7_gives_160 rfl (lv_at hl 9 rfl) ?_
                  refine lv_goto (tgt := 166) hx hb dX7_gives_161 (by decide) ?_
                  refine lv_iadd hx hb dX7_gives_166 ?_
                  refine ly_eqi (show ((nI ((m_go a1 b1 x1 st i).2)) + (nI a1)) = (nI ((m_go a1 b1 x1 st i).2 + a1)) from ly_add rfl rfl) ?_
                  refine lv_istore (lv' := [(11, .int (nI ((m_go a1 b1 x1 st i).2 + a1))), (10, .int (nI (((m_go a1 b1 x1 st i).1) * x1))), (12, .int (nI i)), (9, .int (nI st)), (8, .int (nI (m_ten n1))), (7, .int (nI (m_gv M k n1 a1 b1 x1 st))), (0, .ref (oA 0)), (1, .int (nI k)), (2, .int (nI n1)), (3, .int (nI a1)), (4, .int (nI b1)), (5, .int (nI x1)), (6, .int (nI 1))]) hx hb dX7_gives_167 hl (by decide) rfl (fun ls hl => ?_)
                  refine lv_iinc (v := (nI (i + 1))) (lv' := [(12, .int (nI (i + 1))), (11, .int (nI ((m_go a1 b1 x1 st i).2 + a1))), (10, .int (nI (((m_go a1 b1 x1 st i).1) * x1))), (9, .int (nI st)), (8, .int (nI (m_ten n1))), (7, .int (nI (m_gv M k n1 a1 b1 x1 st))), (0, .ref (oA 0)), (1, .int (nI k)), (2, .int (nI n1)), (3, .int (nI a1)), (4, .int (nI b1)), (5, .int (nI x1)), (6, .int (nI 1))]) hx hb dX7_gives_169 hl (k := 2) rfl (ly_add rfl rfl) (by decide) rfl (fun ls hl => ?_)
                  refine lv_goto (tgt := 115) hx hb dX7_gives_172 (by decide) ?_
                  have e_6 : m_go a1 b1 x1 st (i + 1) = (((m_go a1 b1 x1 st i).1) * x1, (m_go a1 b1 x1 st i).2 + a1) := by show m_goB a1 b1 x1 st i ((m_go a1 b1 x1 st i).1) ((m_go a1 b1 x1 st i).2) = _; unfold m_goB; rw [if_pos c_4]
                  exact ih_115 (i + 1) (by omega) H locs (by first | exact hP.sub [0, 1, 2] rfl | (rw [e_6]; exact hP.sub [0, 1, 2] rfl)) (by first | exact hD.sub [0, 1, 2] (by decide) rfl | (rw [e_6]; exact hD.sub [0, 1, 2] (by decide) rfl)) hS ls (by first | exact lv_sub hl [0, 1, 2, 3, 4, 5, 6, 7, 8, 9, 10, 11, 12] rfl | (rw [e_6]; exact lv_sub hl [0, 1, 2, 3, 4, 5, 6, 7, 8, 9, 10, 11, 12] rfl))
            exact hloop_115 n1 0 (by omega) H locs (hP.sub [0, 1, 2] rfl) (hD.sub [0, 1, 2] (by decide) rfl) hS ls (lv_sub hl [0, 1, 2, 3, 4, 5, 6, 7, 8, 9, 10, 11, 12] rfl)
        exact hloop_98 N1 0 (by omega) H locs (hP.sub [0, 1, 2] rfl) (hD.sub [0, 1, 2] (by decide) rfl) hS ls (lv_sub hl [0, 1, 2, 3, 4, 5, 6, 7, 8, 9] rfl)
      | succ ua ih_76 =>
        intro i hi_76 H locs hP hD hS ls hl
        refine lv_iload hx hb dX7_gives_76 (lv_at hl 0 rfl) ?_
        refine lv_iload_n hx hb dX7_gives_78 rfl (lv_at hl 5 rfl) ?_
        refine lv_icmp_ge (tgt := 95) hx hb dX7_gives_79 (by decide) (fun h_9 => absurd h_9 (nI_ge (by omega) (by omega))) (fun _ => ?_)
        refine lv_iload hx hb dX7_gives_82 (lv_at hl 1 rfl) ?_
        refine lv_bipush (v := 10) hx hb dX7_gives_84 (by decide) ?_
        refine lv_imul hx hb dX7_gives_86 ?_
        refine ly_eqi (show ((nI (m_ten i)) * 10) = (nI ((m_ten i) * 10)) from ly_mul rfl rfl) ?_
        refine lv_istore (lv' := [(8, .int (nI ((m_ten i) * 10))), (9, .int (nI i)), (7, .int 0), (0, .ref (oA 0)), (1, .int (nI k)), (2, .int (nI n1)), (3, .int (nI a1)), (4, .int (nI b1)), (5, .int (nI x1)), (6, .int (nI 1))]) hx hb dX7_gives_87 hl (by decide) rfl (fun ls hl => ?_)
        refine lv_iinc (v := (nI (i + 1))) (lv' := [(9, .int (nI (i + 1))), (8, .int (nI ((m_ten i) * 10))), (7, .int 0), (0, .ref (oA 0)), (1, .int (nI k)), (2, .int (nI n1)), (3, .int (nI a1)), (4, .int (nI b1)), (5, .int (nI x1)), (6, .int (nI 1))]) hx hb dX7_gives_89 hl (k := 1) rfl (ly_add rfl rfl) (by decide) rfl (fun ls hl => ?_)
        refine lv_goto (tgt := 76) hx hb dX7_gives_92 (by decide) ?_
        have e_7 : m_ten (i + 1) = (m_ten i) * 10 := by show m_tenB  i (m_ten i) = _; unfold m_tenB; rfl
        exact ih_76 (i + 1) (by omega) H locs (by first | exact hP.sub [0, 1, 2] rfl | (rw [e_7]; exact hP.sub [0, 1, 2] rfl)) (by first | exact hD.sub [0, 1, 2] (by decide) rfl | (rw [e_7]; exact hD.sub [0, 1, 2] (by decide) rfl)) hS ls (by first | exact lv_sub hl [0, 1, 2, 3, 4, 5, 6, 7, 8, 9] rfl | (rw [e_7]; exact lv_sub hl [0, 1, 2, 3, 4, 5, 6, 7, 8, 9] rfl))
    exact hloop_76 n1 0 (by omega) H locs (hP.sub [0, 1, 2] rfl) (hD.sub [0, 1, 2] (by decide) rfl) hS ls (lv_sub hl [0, 1, 2, 3, 4, 5, 6, 7, 8, 9] rfl)
  exact hmain _ _ hP va_S.rf
