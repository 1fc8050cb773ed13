def jbit (x y : Int32) : Int32 := ((x >>> (y &&& 31)) &&& 1)
set_option maxHeartbeats 4000000 in
set_option maxRecDepth 100000 in
theorem c_X6_bit (l : Launch) (D : va_G) (cI cC cZ cN : ClassId) (x y : Int32) : Met l yX6_bit wsX6_bit (ly_rm 1) (ly_Pre D (ly_tys cI cC cZ cN) [] [.int x, .int y]) (QcRead (jbit x y)) 0 0 (fun _ => False) := by
  refine Met.ofW (cc := cX6_bit) (maxL := 2) (ret := (some .int)) (by decide) rfl ?_
  intro p e s m args below meth c s₁ B hml hv
  obtain ⟨rfl, hP, hK, hN⟩ := hv
  have hx := B.exec
  have hb := B.bytes
  have hr := B.returns
  have hts := atoms_spec (ws := wsX6_bit) B.pre
  have hown : s.vm.findClass RX6 = some m.cls := findClass_of_methodNamed B.named
  have hlocks := B.notSynchronized
  have hl := lv_entry ([.int x, .int y]) (n := 2) (Nat.le_of_ble_eq_true rfl)
  rw [lg_entry_eq]
  generalize (lg_sl ([.int x, .int y]) ++ List.replicate (2 - (lg_sl ([.int x, .int y])).length) Slot.unset).toArray = ls at hl ⊢
  have hl : lv_has ls 2 [(0, .int x), (1, .int y)] := hl
  generalize ([.int x, .int y] : List Value).toArray = av at hts ⊢
  obtain ⟨Qc, hQc⟩ : ∃ Qc, Qc = (QcRead (jbit x y)) := ⟨_, rfl⟩
  rw [← hQc]
  refine lv_iload_n hx hb dX6_bit_0 rfl (lv_at hl 0 rfl) ?_
  refine lv_iload_n hx hb dX6_bit_1 rfl (lv_at hl 1 rfl) ?_
  refine lv_ishr hx hb dX6_bit_2 ?_
  refine lv_iconst (v := 1) hx hb dX6_bit_3 (by decide) ?_
  refine lv_iand hx hb dX6_bit_4 ?_
  exact W.iret (v := ((x >>> (y &&& 31)) &&& 1)) hx hb hr (fun t_9 ht_9 _ => by rw [hQc]; exact ⟨(by unfold jbit; rfl), ht_9⟩) t_nil dX6_bit_5

def jin (x y z : Int32) : Int32 := (if x < y then 0 else (if z < x then 0 else 1))
set_option maxHeartbeats 4000000 in
set_option maxRecDepth 100000 in
theorem c_X6_within (l : Launch) (D : va_G) (cI cC cZ cN : ClassId) (x y z : Int32) : Met l yX6_within wsX6_within (ly_rm 1) (ly_Pre D (ly_tys cI cC cZ cN) [] [.int x, .int y, .int z]) (QcRead (jin x y z)) 0 0 (fun _ => False) := by
  refine Met.ofW (cc := cX6_within) (maxL := 3) (ret := (some .boolean)) (by decide) rfl ?_
  intro p e s m args below meth c s₁ B hml hv
  obtain ⟨rfl, hP, hK, hN⟩ := hv
  have hx := B.exec
  have hb := B.bytes
  have hr := B.returns
  have hts := atoms_spec (ws := wsX6_within) B.pre
  have hown : s.vm.findClass RX6 = some m.cls := findClass_of_methodNamed B.named
  have hlocks := B.notSynchronized
  have hl := lv_entry ([.int x, .int y, .int z]) (n := 3) (Nat.le_of_ble_eq_true rfl)
  rw [lg_entry_eq]
  generalize (lg_sl ([.int x, .int y, .int z]) ++ List.replicate (3 - (lg_sl ([.int x, .int y, .int z])).length) Slot.unset).toArray = ls at hl ⊢
  have hl : lv_has ls 3 [(0, .int x), (1, .int y), (2, .int z)] := hl
  generalize ([.int x, .int y, .int z] : List Value).toArray = av at hts ⊢
  obtain ⟨Qc, hQc⟩ : ∃ Qc, Qc = (QcRead (jin x y z)) := ⟨_, rfl⟩
  rw [← hQc]
  refine lv_iload_n hx hb dX6_within_0 rfl (lv_at hl 0 rfl) ?_
  refine lv_iload_n hx hb dX6_within_1 rfl (lv_at hl 1 rfl) ?_
  refine lv_icmp_lt (tgt := 14) hx hb dX6_within_2 (by decide) (fun c_1 => ?_) (fun c_1 => ?_)
  · refine lv_iconst (v := 0) hx hb dX6_within_14 (by decide) ?_
    exact W.zret (v := 0) hx hb hr rfl (fun t_9 ht_9 _ => by rw [hQc]; exact ⟨(by unfold jin; rw [if_pos c_1]), ht_9⟩) t_nil dX6_within_15
  · refine lv_iload_n hx hb dX6_within_5 rfl (lv_at hl 0 rfl) ?_
    refine lv_iload_n hx hb dX6_within_6 rfl (lv_at hl 2 rfl) ?_
    refine lv_icmp_gt (tgt := 14) hx hb dX6_within_7 (by decide) (fun c_2 => ?_) (fun c_2 => ?_)
    · refine lv_iconst (v := 0) hx hb dX6_within_14 (by decide) ?_
      exact W.zret (v := 0) hx hb hr rfl (fun t_9 ht_9 _ => by rw [hQc]; exact ⟨(by unfold jin; rw [if_neg c_1, if_pos c_2]), ht_9⟩) t_nil dX6_within_15
    · refine lv_iconst (v := 1) hx hb dX6_within_10 (by decide) ?_
      refine lv_goto (tgt := 15) hx hb dX6_within_11 (by decide) ?_
      exact W.zret (v := 1) hx hb hr rfl (fun t_9 ht_9 _ => by rw [hQc]; exact ⟨(by unfold jin; rw [if_neg c_1, if_neg c_2]), ht_9⟩) t_nil dX6_within_15

theorem jin_01 (x y z : Int32) : jin x y z = 0 ∨ jin x y z = 1 := by
  unfold jin
  split
  · exact Or.inl rfl
  · split
    · exact Or.inl rfl
    · exact Or.inr rfl

set_option maxHeartbeats 4000000 in
set_option maxRecDepth 100000 in
theorem c_X6_wear (l : Launch) (D : va_G) (cI cC cZ cN : ClassId) (x y : Nat) : Met l yX6_wear wsX6_wear (ly_rm 1) (ly_Pre D (ly_tys cI cC cZ cN) [] [.int (nI x), .int (nI y)]) (QcRead (nI (x + 2 * y))) 0 0 (fun _ => False) := by
  refine Met.ofW (cc := cX6_wear) (maxL := 2) (ret := (some .int)) (by decide) rfl ?_
  intro p e s m args below meth c s₁ B hml hv
  obtain ⟨rfl, hP, hK, hN⟩ := hv
  have hx := B.exec
  have hb := B.bytes
  have hr := B.returns
  have hts := atoms_spec (ws := wsX6_wear) B.pre
  have hown : s.vm.findClass RX6 = some m.cls := findClass_of_methodNamed B.named
  have hlocks := B.notSynchronized
  have hl := lv_entry ([.int (nI x), .int (nI y)]) (n := 2) (Nat.le_of_ble_eq_true rfl)
  rw [lg_entry_eq]
  generalize (lg_sl ([.int (nI x), .int (nI y)]) ++ List.replicate (2 - (lg_sl ([.int (nI x), .int (nI y)])).length) Slot.unset).toArray = ls at hl ⊢
  have hl : lv_has ls 2 [(0, .int (nI x)), (1, .int (nI y))] := hl
  generalize ([.int (nI x), .int (nI y)] : List Value).toArray = av at hts ⊢
  obtain ⟨Qc, hQc⟩ : ∃ Qc, Qc = (QcRead (nI (x + 2 * y))) := ⟨_, rfl⟩
  rw [← hQc]
  refine lv_iload_n hx hb dX6_wear_0 rfl (lv_at hl 0 rfl) ?_
  refine lv_iconst (v := 2) hx hb dX6_wear_1 (by decide) ?_
  refine lv_iload_n hx hb dX6_wear_2 rfl (lv_at hl 1 rfl) ?_
  refine lv_imul hx hb dX6_wear_3 ?_
  refine ly_eqi (show (2 * (nI y)) = (nI (2 * y)) from ly_mul rfl rfl) ?_
  refine lv_iadd hx hb dX6_wear_4 ?_
  refine ly_eqi (show ((nI x) + (nI (2 * y))) = (nI (x + 2 * y)) from ly_add rfl rfl) ?_
  exact W.iret (v := (nI (x + 2 * y))) hx hb hr (fun t_9 ht_9 _ => by rw [hQc]; exact ⟨rfl, ht_9⟩) t_nil dX6_wear_5

set_option maxHeartbeats 4000000 in
set_option maxRecDepth 100000 in
theorem c_X4_hasKnee (l : Launch) (D : va_G) (cI cC cZ cN : ClassId) (a : Nat → Nat) (g : Nat → Nat → Nat) (x : Int32) : Met l yX4_hasKnee wsX4_hasKnee (ly_rm 2) (ly_Pre D (ly_tys cI cC cZ cN) [((a 0), .inr (4, [.int (nI (g 0 0)), .ref (a 1), .ref (a 2), .ref (a 3), .int (nI (g 0 1)), .ref (a 4), .ref (a 5), .ref (a 6), .ref (a 7), .ref (a 8), .ref (a 9), .int (nI (g 0 2))])), ((a 1), .inl (cI, 9, .inl (fun j => nI ((g 1) j)))), ((a 2), .inl (cI, 9, .inl (fun j => nI ((g 2) j)))), ((a 3), .inl (cI, 9, .inl (fun j => nI ((g 3) j)))), ((a 4), .inl (cI, 6, .inl (fun j => nI ((g 4) j)))), ((a 5), .inl (cI, 6, .inl (fun j => nI ((g 5) j)))), ((a 6), .inl (cI, 6, .inl (fun j => nI ((g 6) j)))), ((a 7), .inl (cI, 5, .inl (fun j => nI ((g 7) j)))), ((a 8), .inl (cI, 5, .inl (fun j => nI ((g 8) j)))), ((a 9), .inl (cI, 5, .inl (fun j => ly_h ((g 9) j))))] [.ref (a 0), .int x]) (QcRead (jin x 0 (nI (g 0 0) - 1))) 0 0 (fun _ => False) := by
  refine Met.ofW (cc := cX4_hasKnee) (maxL := 2) (ret := (some .boolean)) (by decide) rfl ?_
  intro p e s m args below meth c s₁ B hml hv
  obtain ⟨rfl, hP, hK, hN⟩ := hv
  have hx := B.exec
  have hb := B.bytes
  have hr := B.returns
  have hts := atoms_spec (ws := wsX4_hasKnee) B.pre
  have hown : s.vm.findClass RX4 = some m.cls := findClass_of_methodNamed B.named
  have hlocks := B.notSynchronized
  have hl := lv_entry ([.ref (a 0), .int x]) (n := 2) (Nat.le_of_ble_eq_true rfl)
  rw [lg_entry_eq]
  generalize (lg_sl ([.ref (a 0), .int x]) ++ List.replicate (2 - (lg_sl ([.ref (a 0), .int x])).length) Slot.unset).toArray = ls at hl ⊢
  have hl : lv_has ls 2 [(0, .ref (a 0)), (1, .int x)] := hl
  generalize ([.ref (a 0), .int x] : List Value).toArray = av at hts ⊢
  obtain ⟨Qc, hQc⟩ : ∃ Qc, Qc = (QcRead (jin x 0 (nI (g 0 0) - 1))) := ⟨_, rfl⟩
  rw [← hQc]
  have f9 := hts (.fieldLink RX4 9 "KneesLent$Parish" "knees" "I") (by decide +kernel)
  have hiX4 : ∀ w ∈ u_ws RX4 TX4 12, w ∈ wsX4_hasKnee := by decide +kernel
  refine lv_iload_n hx hb dX4_hasKnee_0 rfl (lv_at hl 1 rfl) ?_
  refine lv_iconst (v := 0) hx hb dX4_hasKnee_1 (by decide) ?_
  refine lv_aload_n hx hb dX4_hasKnee_2 rfl (lv_at hl 0 rfl) ?_
  refine va_get (D := D) (ci := 4) (v := .int (nI (g 0 0))) (C := RX4) (T := TX4) (N := 12) hx hb hts hiX4 hown hK hP 0 rfl rfl 0 (by decide) f9 (fun _ h9 => h9) rfl dX4_hasKnee_3 ?_
  refine lv_iconst (v := 1) hx hb dX4_hasKnee_6 (by decide) ?_
  refine lv_isub hx hb dX4_hasKnee_7 ?_
  have hPc_8 := hP.sub (ws' := []) [] rfl
  refine ly_r (va_runSN (As := [.int x, .int 0, .int ((nI (g 0 0)) - 1)]) (rest := []) ⟨hx, hb, hml, hown, hts⟩ (c_X6_within l D cI cC cZ cN x 0 ((nI (g 0 0)) - 1)) ⟨va_cnB 3 hts gX4_hasKnee_X6_within_n58 rfl rfl rfl hN.2.2.2.2.2.2.2.1 (hts (.initialized RX6) (by decide +kernel)) (by decide +kernel) ⟨Nat.le_of_ble_eq_true rfl, Nat.le_of_ble_eq_true rfl⟩, hts (.static yX6_within) (by decide +kernel), trivial⟩ (ly_ps hK hN hPc_8) rfl rfl hl.1 rfl (lv_room (Nat.le_of_ble_eq_true rfl)) dX4_hasKnee_8 ⟨Nat.zero_le _, Nat.zero_le _⟩) ?_
  exact W.zret (v := (jin x 0 ((nI (g 0 0)) - 1))) hx hb hr (ly_bool (jin_01 _ _ _)) (fun t_9 ht_9 _ => by rw [hQc]; exact ⟨rfl, ht_9⟩) t_nil dX4_hasKnee_11

def s_needs (g : Nat → Nat → Nat) (k o : Nat) : Int32 := (if (jbit (nI ((g 4) k)) (nI o)) = 1 then 1 else 0)
set_option maxHeartbeats 4000000 in
set_option maxRecDepth 100000 in
theorem c_X4_needsSide (l : Launch) (D : va_G) (cI cC cZ cN : ClassId) (a : Nat → Nat) (g : Nat → Nat → Nat) (k o : Nat) (h1 : k < 6) : Met l yX4_needsSide wsX4_needsSide (ly_rm 2) (ly_Pre D (ly_tys cI cC cZ cN) [((a 0), .inr (4, [.int (nI (g 0 0)), .ref (a 1), .ref (a 2), .ref (a 3), .int (nI (g 0 1)), .ref (a 4), .ref (a 5), .ref (a 6), .ref (a 7), .ref (a 8), .ref (a 9), .int (nI (g 0 2))])), ((a 1), .inl (cI, 9, .inl (fun j => nI ((g 1) j)))), ((a 2), .inl (cI, 9, .inl (fun j => nI ((g 2) j)))), ((a 3), .inl (cI, 9, .inl (fun j => nI ((g 3) j)))), ((a 4), .inl (cI, 6, .inl (fun j => nI ((g 4) j)))), ((a 5), .inl (cI, 6, .inl (fun j => nI ((g 5) j)))), ((a 6), .inl (cI, 6, .inl (fun j => nI ((g 6) j)))), ((a 7), .inl (cI, 5, .inl (fun j => nI ((g 7) j)))), ((a 8), .inl (cI, 5, .inl (fun j => nI ((g 8) j)))), ((a 9), .inl (cI, 5, .inl (fun j => ly_h ((g 9) j))))] [.ref (a 0), .int (nI k), .int (nI o)]) (QcRead (s_needs g k o)) 0 0 (fun _ => False) := by
  refine Met.ofW (cc := cX4_needsSide) (maxL := 3) (ret := (some .boolean)) (by decide) rfl ?_
  intro p e s m args below meth c s₁ B hml hv
  obtain ⟨rfl, hP, hK, hN⟩ := hv
  have hx := B.exec
  have hb := B.bytes
  have hr := B.returns
  have hts := atoms_spec (ws := wsX4_needsSide) B.pre
  have hown : s.vm.findClass RX4 = some m.cls := findClass_of_methodNamed B.named
  have hlocks := B.notSynchronized
  have hl := lv_entry ([.ref (a 0), .int (nI k), .int (nI o)]) (n := 3) (Nat.le_of_ble_eq_true rfl)
  rw [lg_entry_eq]
  generalize (lg_sl ([.ref (a 0), .int (nI k), .int (nI o)]) ++ List.replicate (3 - (lg_sl ([.ref (a 0), .int (nI k), .int (nI o)])).length) Slot.unset).toArray = ls at hl ⊢
  have hl : lv_has ls 3 [(0, .ref (a 0)), (1, .int (nI k)), (2, .int (nI o))] := hl
  generalize ([.ref (a 0), .int (nI k), .int (nI o)] : List Value).toArray = av at hts ⊢
  obtain ⟨Qc, hQc⟩ : ∃ Qc, Qc = (QcRead (s_needs g k o)) := ⟨_, rfl⟩
  rw [← hQc]
  have f28 := hts (.fieldLink RX4 28 "KneesLent$Parish" "needs" "[I") (by decide +kernel)
  have hiX4 : ∀ w ∈ u_ws RX4 TX4 12, w ∈ wsX4_needsSide := by decide +kernel
  refine lv_aload_n hx hb dX4_needsSide_0 rfl (lv_at hl 0 rfl) ?_
  refine va_get (D := D) (ci := 4) (v := .ref (a 4)) (C := RX4) (T := TX4) (N := 12) hx hb hts hiX4 hown hK hP 0 rfl rfl 5 (by decide) f28 (fun _ h9 => h9) rfl dX4_needsSide_1 ?_
  refine lv_iload_n hx hb dX4_needsSide_4 rfl (lv_at hl 1 rfl) ?_
  refine ly_iald hx hb hK hP 4 0 rfl rfl (k := k) (by decide) rfl (by omega) dX4_needsSide_5 ?_
  refine lv_iload_n hx hb dX4_needsSide_6 rfl (lv_at hl 2 rfl) ?_
  have hPc_7 := hP.sub (ws' := []) [] rfl
  refine ly_r (va_runSN (As := [.int (nI ((g 4) k)), .int (nI o)]) (rest := []) ⟨hx, hb, hml, hown, hts⟩ (c_X6_bit l D cI cC cZ cN (nI ((g 4) k)) (nI o)) ⟨va_cnB 2 hts gX4_needsSide_X6_bit_n62 rfl rfl rfl hN.2.2.2.2.2.2.1 (hts (.initialized RX6) (by decide +kernel)) (by decide +kernel) ⟨Nat.le_of_ble_eq_true rfl, Nat.le_of_ble_eq_true rfl⟩, hts (.static yX6_bit) (by decide +kernel), trivial⟩ (ly_ps hK hN hPc_7) rfl rfl hl.1 rfl (lv_room (Nat.le_of_ble_eq_true rfl)) dX4_needsSide_7 ⟨Nat.zero_le _, Nat.zero_le _⟩) ?_
  refine lv_iconst (v := 1) hx hb dX4_needsSide_10 (by decide) ?_
  refine lv_icmp_ne (tgt := 18) hx hb dX4_needsSide_11 (by decide) (fun c_1 => ?_) (fun c_1 => ?_)
  · refine lv_iconst (v := 0) hx hb dX4_needsSide_18 (by decide) ?_
    exact W.zret (v := 0) hx hb hr rfl (fun t_9 ht_9 _ => by rw [hQc]; exact ⟨(by unfold s_needs; rw [if_neg c_1]), ht_9⟩) t_nil dX4_needsSide_19
  · refine lv_iconst (v := 1) hx hb dX4_needsSide_14 (by decide) ?_
    refine lv_goto (tgt := 19) hx hb dX4_needsSide_15 (by decide) ?_
    exact W.zret (v := 1) hx hb hr rfl (fun t_9 ht_9 _ => by rw [hQc]; exact ⟨(by unfold s_needs; rw [if_pos c_1]), ht_9⟩) t_nil dX4_needsSide_19

set_option maxHeartbeats 4000000 in
set_option maxRecDepth 100000 in
theorem c_X4_wearOf (l : Launch) (D : va_G) (cI cC cZ cN : ClassId) (a : Nat → Nat) (g : Nat → Nat → Nat) (k : Nat) (h1 : k < 6) : Met l yX4_wearOf wsX4_wearOf (ly_rm 2) (ly_Pre D (ly_tys cI cC cZ cN) [((a 0), .inr (4, [.int (nI (g 0 0)), .ref (a 1), .ref (a 2), .ref (a 3), .int (nI (g 0 1)), .ref (a 4), .ref (a 5), .ref (a 6), .ref (a 7), .ref (a 8), .ref (a 9), .int (nI (g 0 2))])), ((a 1), .inl (cI, 9, .inl (fun j => nI ((g 1) j)))), ((a 2), .inl (cI, 9, .inl (fun j => nI ((g 2) j)))), ((a 3), .inl (cI, 9, .inl (fun j => nI ((g 3) j)))), ((a 4), .inl (cI, 6, .inl (fun j => nI ((g 4) j)))), ((a 5), .inl (cI, 6, .inl (fun j => nI ((g 5) j)))), ((a 6), .inl (cI, 6, .inl (fun j => nI ((g 6) j)))), ((a 7), .inl (cI, 5, .inl (fun j => nI ((g 7) j)))), ((a 8), .inl (cI, 5, .inl (fun j => nI ((g 8) j)))), ((a 9), .inl (cI, 5, .inl (fun j => ly_h ((g 9) j))))] [.ref (a 0), .int (nI k)]) (QcRead (nI (g 5 k + 2 * g 6 k))) 0 0 (fun _ => False) := by
  refine Met.ofW (cc := cX4_wearOf) (maxL := 2) (ret := (some .int)) (by decide) rfl ?_
  intro p e s m args below meth c s₁ B hml hv
  obtain ⟨rfl, hP, hK, hN⟩ := hv
  have hx := B.exec
  have hb := B.bytes
  have hr := B.returns
  have hts := atoms_spec (ws := wsX4_wearOf) B.pre
  have hown : s.vm.findClass RX4 = some m.cls := findClass_of_methodNamed B.named
  have hlocks := B.notSynchronized
  have hl := lv_entry ([.ref (a 0), .int (nI k)]) (n := 2) (Nat.le_of_ble_eq_true rfl)
  rw [lg_entry_eq]
  generalize (lg_sl ([.ref (a 0), .int (nI k)]) ++ List.replicate (2 - (lg_sl ([.ref (a 0), .int (nI k)])).length) Slot.unset).toArray = ls at hl ⊢
  have hl : lv_has ls 2 [(0, .ref (a 0)), (1, .int (nI k))] := hl
  generalize ([.ref (a 0), .int (nI k)] : List Value).toArray = av at hts ⊢
  obtain ⟨Qc, hQc⟩ : ∃ Qc, Qc = (QcRead (nI (g 5 k + 2 * g 6 k))) := ⟨_, rfl⟩
  rw [← hQc]
  have f31 := hts (.fieldLink RX4 31 "KneesLent$Parish" "up" "[I") (by decide +kernel)
  have f34 := hts (.fieldLink RX4 34 "KneesLent$Parish" "down" "[I") (by decide +kernel)
  have hiX4 : ∀ w ∈ u_ws RX4 TX4 12, w ∈ wsX4_wearOf := by decide +kernel
  refine lv_aload_n hx hb dX4_wearOf_0 rfl (lv_at hl 0 rfl) ?_
  refine va_get (D := D) (ci := 4) (v := .ref (a 5)) (C := RX4) (T := TX4) (N := 12) hx hb hts hiX4 hown hK hP 0 rfl rfl 6 (by decide) f31 (fun _ h9 => h9) rfl dX4_wearOf_1 ?_
  refine lv_iload_n hx hb dX4_wearOf_4 rfl (lv_at hl 1 rfl) ?_
  refine ly_iald hx hb hK hP 5 0 rfl rfl (k := k) (by decide) rfl (by omega) dX4_wearOf_5 ?_
  refine lv_aload_n hx hb dX4_wearOf_6 rfl (lv_at hl 0 rfl) ?_
  refine va_get (D := D) (ci := 4) (v := .ref (a 6)) (C := RX4) (T := TX4) (N := 12) hx hb hts hiX4 hown hK hP 0 rfl rfl 7 (by decide) f34 (fun _ h9 => h9) rfl dX4_wearOf_7 ?_
  refine lv_iload_n hx hb dX4_wearOf_10 rfl (lv_at hl 1 rfl) ?_
  refine ly_iald hx hb hK hP 6 0 rfl rfl (k := k) (by decide) rfl (by omega) dX4_wearOf_11 ?_
  have hPc_12 := hP.sub (ws' := []) [] rfl
  refine ly_r (va_runSN (As := [.int (nI ((g 5) k)), .int (nI ((g 6) k))]) (rest := []) ⟨hx, hb, hml, hown, hts⟩ (c_X6_wear l D cI cC cZ cN ((g 5) k) ((g 6) k)) ⟨va_cnB 2 hts gX4_wearOf_X6_wear_n66 rfl rfl rfl hN.2.2.2.2.2.2.2.2.2.1 (hts (.initialized RX6) (by decide +kernel)) (by decide +kernel) ⟨Nat.le_of_ble_eq_true rfl, Nat.le_of_ble_eq_true rfl⟩, hts (.static yX6_wear) (by decide +kernel), trivial⟩ (ly_ps hK hN hPc_12) rfl rfl hl.1 rfl (lv_room (Nat.le_of_ble_eq_true rfl)) dX4_wearOf_12 ⟨Nat.zero_le _, Nat.zero_le _⟩) ?_
  exact W.iret (v := (nI (((g 5) k) + 2 * ((g 6) k)))) hx hb hr (fun t_9 ht_9 _ => by rw [hQc]; exact ⟨rfl, ht_9⟩) t_nil dX4_wearOf_15

def s_speak (g : Nat → Nat → Nat) (k o : Nat) : Int32 := (if (jbit (nI ((g 7) ((g 2) k))) (nI ((g 2) o))) = 0 then 1 else 0)
set_option maxHeartbeats 4000000 in
set_option maxRecDepth 100000 in
theorem c_X4_speak (l : Launch) (D : va_G) (cI cC cZ cN : ClassId) (a : Nat → Nat) (g : Nat → Nat → Nat) (k o : Nat) (h1 : k < 9) (h2 : o < 9) (hf : ∀ j, j < 9 → g 2 j < 5) : Met l yX4_speak wsX4_speak (ly_rm 2) (ly_Pre D (ly_tys cI cC cZ cN) [((a 0), .inr (4, [.int (nI (g 0 0)), .ref (a 1), .ref (a 2), .ref (a 3), .int (nI (g 0 1)), .ref (a 4), .ref (a 5), .ref (a 6), .ref (a 7), .ref (a 8), .ref (a 9), .int (nI (g 0 2))])), ((a 1), .inl (cI, 9, .inl (fun j => nI ((g 1) j)))), ((a 2), .inl (cI, 9, .inl (fun j => nI ((g 2) j)))), ((a 3), .inl (cI, 9, .inl (fun j => nI ((g 3) j)))), ((a 4), .inl (cI, 6, .inl (fun j => nI ((g 4) j)))), ((a 5), .inl (cI, 6, .inl (fun j => nI ((g 5) j)))), ((a 6), .inl (cI, 6, .inl (fun j => nI ((g 6) j)))), ((a 7), .inl (cI, 5, .inl (fun j => nI ((g 7) j)))), ((a 8), .inl (cI, 5, .inl (fun j => nI ((g 8) j)))), ((a 9), .inl (cI, 5, .inl (fun j => ly_h ((g 9) j))))] [.ref (a 0), .int (nI k), .int (nI o)]) (QcRead (s_speak g k o)) 0 0 (fun _ => False) := by
  refine Met.ofW (cc := cX4_speak) (maxL := 3) (ret := (some .boolean)) (by decide) rfl ?_
  intro p e s m args below meth c s₁ B hml hv
  obtain ⟨rfl, hP, hK, hN⟩ := hv
  have hx := B.exec
  have hb := B.bytes
  have hr := B.returns
  have hts := atoms_spec (ws := wsX4_speak) B.pre
  have hown : s.vm.findClass RX4 = some m.cls := findClass_of_methodNamed B.named
  have hlocks := B.notSynchronized
  have hl := lv_entry ([.ref (a 0), .int (nI k), .int (nI o)]) (n := 3) (Nat.le_of_ble_eq_true rfl)
  rw [lg_entry_eq]
  generalize (lg_sl ([.ref (a 0), .int (nI k), .int (nI o)]) ++ List.replicate (3 - (lg_sl ([.ref (a 0), .int (nI k), .int (nI o)])).length) Slot.unset).toArray = ls at hl ⊢
  have hl : lv_has ls 3 [(0, .ref (a 0)), (1, .int (nI k)), (2, .int (nI o))] := hl
  generalize ([.ref (a 0), .int (nI k), .int (nI o)] : List Value).toArray = av at hts ⊢
  obtain ⟨Qc, hQc⟩ : ∃ Qc, Qc = (QcRead (s_speak g k o)) := ⟨_, rfl⟩
  rw [← hQc]
  have f37 := hts (.fieldLink RX4 37 "KneesLent$Parish" "feuds" "[I") (by decide +kernel)
  have f19 := hts (.fieldLink RX4 19 "KneesLent$Parish" "farm" "[I") (by decide +kernel)
  have hiX4 : ∀ w ∈ u_ws RX4 TX4 12, w ∈ wsX4_speak := by decide +kernel
  refine lv_aload_n hx hb dX4_speak_0 rfl (lv_at hl 0 rfl) ?_
  refine va_get (D := D) (ci := 4) (v := .ref (a 7)) (C := RX4) (T := TX4) (N := 12) hx hb hts hiX4 hown hK hP 0 rfl rfl 8 (by decide) f37 (fun _ h9 => h9) rfl dX4_speak_1 ?_
  refine lv_aload_n hx hb dX4_speak_4 rfl (lv_at hl 0 rfl) ?_
  refine va_get (D := D) (ci := 4) (v := .ref (a 2)) (C := RX4) (T := TX4) (N := 12) hx hb hts hiX4 hown hK hP 0 rfl rfl 2 (by decide) f19 (fun _ h9 => h9) rfl dX4_speak_5 ?_
  refine lv_iload_n hx hb dX4_speak_8 rfl (lv_at hl 1 rfl) ?_
  refine ly_iald hx hb hK hP 2 0 rfl rfl (k := k) (by decide) rfl (by first | omega | exact hf _ (by omega)) dX4_speak_9 ?_
  refine ly_iald hx hb hK hP 7 0 rfl rfl (k := (g 2) k) (by decide) rfl (by first | omega | exact hf _ (by omega)) dX4_speak_10 ?_
  refine lv_aload_n hx hb dX4_speak_11 rfl (lv_at hl 0 rfl) ?_
  refine va_get (D := D) (ci := 4) (v := .ref (a 2)) (C := RX4) (T := TX4) (N := 12) hx hb hts hiX4 hown hK hP 0 rfl rfl 2 (by decide) f19 (fun _ h9 => h9) rfl dX4_speak_12 ?_
  refine lv_iload_n hx hb dX4_speak_15 rfl (lv_at hl 2 rfl) ?_
  refine ly_iald hx hb hK hP 2 0 rfl rfl (k := o) (by decide) rfl (by first | omega | exact hf _ (by omega)) dX4_speak_16 ?_
  have hPc_17 := hP.sub (ws' := []) [] rfl
  refine ly_r (va_runSN (As := [.int (nI ((g 7) ((g 2) k))), .int (nI ((g 2) o))]) (rest := []) ⟨hx, hb, hml, hown, hts⟩ (c_X6_bit l D cI cC cZ cN (nI ((g 7) ((g 2) k))) (nI ((g 2) o))) ⟨va_cnB 2 hts gX4_speak_X6_bit_n62 rfl rfl rfl hN.2.2.2.2.2.2.1 (hts (.initialized RX6) (by decide +kernel)) (by decide +kernel) ⟨Nat.le_of_ble_eq_true rfl, Nat.le_of_ble_eq_true rfl⟩, hts (.static yX6_bit) (by decide +kernel), trivial⟩ (ly_ps hK hN hPc_17) rfl rfl hl.1 rfl (lv_room (Nat.le_of_ble_eq_true rfl)) dX4_speak_17 ⟨Nat.zero_le _, Nat.zero_le _⟩) ?_
  refine lv_if_ne (tgt := 27) hx hb dX4_speak_20 (by decide) (fun c_1 => ?_) (fun c_1 => ?_)
  · refine lv_iconst (v := 0) hx hb dX4_speak_27 (by decide) ?_
    exact W.zret (v := 0) hx hb hr rfl (fun t_9 ht_9 _ => by rw [hQc]; exact ⟨(by unfold s_speak; rw [if_neg c_1]), ht_9⟩) t_nil dX4_speak_28
  · refine lv_iconst (v := 1) hx hb dX4_speak_23 (by decide) ?_
    refine lv_goto (tgt := 28) hx hb dX4_speak_24 (by decide) ?_
    exact W.zret (v := 1) hx hb hr rfl (fun t_9 ht_9 _ => by rw [hQc]; exact ⟨(by unfold s_speak; rw [if_pos c_1]), ht_9⟩) t_nil dX4_speak_28
