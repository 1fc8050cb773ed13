set_option maxHeartbeats 4000000 in
set_option maxRecDepth 100000 in
theorem c_X4_hasPerson (l : Launch) (D : va_G) (cI cC cZ cN : ClassId) (a : Nat → Nat) (g : Nat → Nat → Nat) (x : Int32) : Met l yX4_hasPerson wsX4_hasPerson (ly_rm 2) (ly_Pre D (ly_tys cI cC cZ cN) [((a 0), .inr (4, [.int (nI (g 0 0)), .ref (a 1), .ref (a 2), .ref (a 3), .int (nI (g 0 1)), .ref (a 4), .ref (a 5), .ref (a 6), .ref (a 7), .ref (a 8), .ref (a 9), .int (nI (g 0 2))])), ((a 1), .inl (cI, 9, .inl (fun j => nI ((g 1) j)))), ((a 2), .inl (cI, 9, .inl (fun j => nI ((g 2) j)))), ((a 3), .inl (cI, 9, .inl (fun j => nI ((g 3) j)))), ((a 4), .inl (cI, 6, .inl (fun j => nI ((g 4) j)))), ((a 5), .inl (cI, 6, .inl (fun j => nI ((g 5) j)))), ((a 6), .inl (cI, 6, .inl (fun j => nI ((g 6) j)))), ((a 7), .inl (cI, 5, .inl (fun j => nI ((g 7) j)))), ((a 8), .inl (cI, 5, .inl (fun j => nI ((g 8) j)))), ((a 9), .inl (cI, 5, .inl (fun j => ly_h ((g 9) j))))] [.ref (a 0), .int x]) (QcRead (jin x 0 (nI (g 0 1) - 1))) 0 0 (fun _ => False) := by
  refine Met.ofW (cc := cX4_hasPerson) (maxL := 2) (ret := (some .boolean)) (by decide) rfl ?_
  intro p e s m args below meth c s₁ B hml hv
  obtain ⟨rfl, hP, hK, hN⟩ := hv
  have hx := B.exec
  have hb := B.bytes
  have hr := B.returns
  have hts := atoms_spec (ws := wsX4_hasPerson) B.pre
  have hown : s.vm.findClass RX4 = some m.cls := findClass_of_methodNamed B.named
  have hlocks := B.notSynchronized
  have hl := lv_entry ([.ref (a 0), .int x]) (n := 2) (Nat.le_of_ble_eq_true rfl)
  rw [lg_entry_eq]
  generalize (lg_sl ([.ref (a 0), .int x]) ++ List.replicate (2 - (lg_sl ([.ref (a 0), .int x])).length) Slot.unset).toArray = ls at hl ⊢
  have hl : lv_has ls 2 [(0, .ref (a 0)), (1, .int x)] := hl
  generalize ([.ref (a 0), .int x] : List Value).toArray = av at hts ⊢
  obtain ⟨Qc, hQc⟩ : ∃ Qc, Qc = (QcRead (jin x 0 (nI (g 0 1) - 1))) := ⟨_, rfl⟩
  rw [← hQc]
  have f25 := hts (.fieldLink RX4 25 "KneesLent$Parish" "people" "I") (by decide +kernel)
  have hiX4 : ∀ w ∈ u_ws RX4 TX4 12, w ∈ wsX4_hasPerson := by decide +kernel
  refine lv_iload_n hx hb dX4_hasPerson_0 rfl (lv_at hl 1 rfl) ?_
  refine lv_iconst (v := 0) hx hb dX4_hasPerson_1 (by decide) ?_
  refine lv_aload_n hx hb dX4_hasPerson_2 rfl (lv_at hl 0 rfl) ?_
  refine va_get (D := D) (ci := 4) (v := .int (nI (g 0 1))) (C := RX4) (T := TX4) (N := 12) hx hb hts hiX4 hown hK hP 0 rfl rfl 4 (by decide) f25 (fun _ h9 => h9) rfl dX4_hasPerson_3 ?_
  refine lv_iconst (v := 1) hx hb dX4_hasPerson_6 (by decide) ?_
  refine lv_isub hx hb dX4_hasPerson_7 ?_
  have hPc_8 := hP.sub (ws' := []) [] rfl
  refine ly_r (va_runSN (As := [.int x, .int 0, .int ((nI (g 0 1)) - 1)]) (rest := []) ⟨hx, hb, hml, hown, hts⟩ (c_X6_within l D cI cC cZ cN x 0 ((nI (g 0 1)) - 1)) ⟨va_cnB 3 hts gX4_hasPerson_X6_within_n58 rfl rfl rfl hN.2.2.2.2.2.2.2.1 (hts (.initialized RX6) (by decide +kernel)) (by decide +kernel) ⟨Nat.le_of_ble_eq_true rfl, Nat.le_of_ble_eq_true rfl⟩, hts (.static yX6_within) (by decide +kernel), trivial⟩ (ly_ps hK hN hPc_8) rfl rfl hl.1 rfl (lv_room (Nat.le_of_ble_eq_true rfl)) dX4_hasPerson_8 ⟨Nat.zero_le _, Nat.zero_le _⟩) ?_
  exact W.zret (v := (jin x 0 ((nI (g 0 1)) - 1))) hx hb hr (ly_bool (jin_01 _ _ _)) (fun t_9 ht_9 _ => by rw [hQc]; exact ⟨rfl, ht_9⟩) t_nil dX4_hasPerson_11

set_option maxHeartbeats 4000000 in
set_option maxRecDepth 100000 in
theorem c_X6_knee_b (l : Launch) (D : va_G) (cI cC cZ cN : ClassId) (t a2 : Nat → Nat) (lt : Nat) (tr : Int64) (a : Nat → Nat) (g : Nat → Nat → Nat) (b : Nat → Nat) (d ho le : Nat → Nat) (x y : Int32) (hb9 : jin x 0 (nI (g 0 0) - 1) = 0) : Met l yX6_knee wsX6_knee (ly_rm 5) (ly_Pre D (ly_tys cI cC cZ cN) [((t 0), .inr (6, [.ref (t 1), .int (nI lt), .ref (t 2), .ref (a 0), .ref (a2 0), .ref (b 0), .ref (t 4), .ref (t 5), .ref (t 6), .ref (t 7), .ref (t 8), .long tr])), ((a 0), .inr (4, [.int (nI (g 0 0)), .ref (a 1), .ref (a 2), .ref (a 3), .int (nI (g 0 1)), .ref (a 4), .ref (a 5), .ref (a 6), .ref (a 7), .ref (a 8), .ref (a 9), .int (nI (g 0 2))])), ((a 1), .inl (cI, 9, .inl (fun j => nI ((g 1) j)))), ((a 2), .inl (cI, 9, .inl (fun j => nI ((g 2) j)))), ((a 3), .inl (cI, 9, .inl (fun j => nI ((g 3) j)))), ((a 4), .inl (cI, 6, .inl (fun j => nI ((g 4) j)))), ((a 5), .inl (cI, 6, .inl (fun j => nI ((g 5) j)))), ((a 6), .inl (cI, 6, .inl (fun j => nI ((g 6) j)))), ((a 7), .inl (cI, 5, .inl (fun j => nI ((g 7) j)))), ((a 8), .inl (cI, 5, .inl (fun j => nI ((g 8) j)))), ((a 9), .inl (cI, 5, .inl (fun j => ly_h ((g 9) j)))), ((b 0), .inr (3, [.int (nI (d 0)), .int (nI (d 1)), .int (nI (d 2)), .int (nI (d 3)), .int (nI (d 4)), .ref (b 1), .ref (b 2)])), ((b 1), .inl (cI, 9, .inl (fun j => ly_h (ho j)))), ((b 2), .inl (cI, 9, .inl (fun j => nI (le j))))] [.ref (t 0), .int x, .int y]) (QcRead (-1)) 0 0 (fun _ => False) := by
  refine Met.ofW (cc := cX6_knee) (maxL := 3) (ret := (some .int)) (by decide) rfl ?_
  intro p e s m args below meth c s₁ B hml hv
  obtain ⟨rfl, hP, hK, hN⟩ := hv
  have hx := B.exec
  have hb := B.bytes
  have hr := B.returns
  have hts := atoms_spec (ws := wsX6_knee) B.pre
  have hown : s.vm.findClass RX6 = some m.cls := findClass_of_methodNamed B.named
  have hlocks := B.notSynchronized
  have hl := lv_entry ([.ref (t 0), .int x, .int y]) (n := 3) (Nat.le_of_ble_eq_true rfl)
  rw [lg_entry_eq]
  generalize (lg_sl ([.ref (t 0), .int x, .int y]) ++ List.replicate (3 - (lg_sl ([.ref (t 0), .int x, .int y])).length) Slot.unset).toArray = ls at hl ⊢
  have hl : lv_has ls 3 [(0, .ref (t 0)), (1, .int x), (2, .int y)] := hl
  generalize ([.ref (t 0), .int x, .int y] : List Value).toArray = av at hts ⊢
  obtain ⟨Qc, hQc⟩ : ∃ Qc, Qc = (QcRead (-1)) := ⟨_, rfl⟩
  rw [← hQc]
  have f27 := hts (.fieldLink RX6 27 "KneesLent" "parish" "LKneesLent$Parish;") (by decide +kernel)
  have hiX6 : ∀ w ∈ u_ws RX6 TX6 12, w ∈ wsX6_knee := by decide +kernel
  refine lv_aload_n hx hb dX6_knee_0 rfl (lv_at hl 0 rfl) ?_
  refine va_get (D := D) (ci := 6) (v := .ref (a 0)) (C := RX6) (T := TX6) (N := 12) hx hb hts hiX6 hown hK hP 0 rfl rfl 3 (by decide) f27 (fun _ h9 => h9) rfl dX6_knee_1 ?_
  refine lv_iload_n hx hb dX6_knee_4 rfl (lv_at hl 1 rfl) ?_
  have hPc_5 := hP.sub (ws' := [((a 0), .inr (4, [.int (nI (g 0 0)), .ref (a 1), .ref (a 2), .ref (a 3), .int (nI (g 0 1)), .ref (a 4), .ref (a 5), .ref (a 6), .ref (a 7), .ref (a 8), .ref (a 9), .int (nI (g 0 2))])), ((a 1), .inl (cI, 9, .inl (fun j => nI ((g 1) j)))), ((a 2), .inl (cI, 9, .inl (fun j => nI ((g 2) j)))), ((a 3), .inl (cI, 9, .inl (fun j => nI ((g 3) j)))), ((a 4), .inl (cI, 6, .inl (fun j => nI ((g 4) j)))), ((a 5), .inl (cI, 6, .inl (fun j => nI ((g 5) j)))), ((a 6), .inl (cI, 6, .inl (fun j => nI ((g 6) j)))), ((a 7), .inl (cI, 5, .inl (fun j => nI ((g 7) j)))), ((a 8), .inl (cI, 5, .inl (fun j => nI ((g 8) j)))), ((a 9), .inl (cI, 5, .inl (fun j => ly_h ((g 9) j))))]) [1, 2, 3, 4, 5, 6, 7, 8, 9, 10] rfl
  refine ly_r (va_runV (As := [.int x]) (rest := []) ⟨hx, hb, hml, hown, hts⟩ (c_X4_hasKnee l D cI cC cZ cN a g x) (cwV 1 hts gX6_knee_X4_hasKnee rfl rfl rfl (by decide +kernel) ⟨Nat.le_of_ble_eq_true rfl, Nat.le_of_ble_eq_true rfl⟩) (ly_pv hK hN hPc_5 0 4 rfl rfl rfl) rfl rfl hl.1 rfl (lv_room (Nat.le_of_ble_eq_true rfl)) dX6_knee_5 ⟨Nat.zero_le _, Nat.zero_le _⟩) ?_
  refine lv_if_ne (tgt := 13) hx hb dX6_knee_8 (by decide) (fun h_9 => absurd hb9 h_9) (fun _ => ?_)
  refine lv_iconst (v := (-1)) hx hb dX6_knee_11 (by decide) ?_
  exact W.iret (v := (-1)) hx hb hr (fun t_9 ht_9 _ => by rw [hQc]; exact ⟨rfl, ht_9⟩) t_nil dX6_knee_12

set_option maxHeartbeats 4000000 in
set_option maxRecDepth 100000 in
theorem c_X6_knee_w (l : Launch) (D : va_G) (cI cC cZ cN : ClassId) (t a2 : Nat → Nat) (lt : Nat) (tr : Int64) (a : Nat → Nat) (g : Nat → Nat → Nat) (b : Nat → Nat) (d ho le : Nat → Nat) (k : Nat) (y : Int32) (hk : k < g 0 0) (hn : g 0 0 ≤ 9) (hw : y.toInt < 0 ∨ 4 < y.toInt) : Met l yX6_knee wsX6_knee (ly_rm 5) (ly_Pre D (ly_tys cI cC cZ cN) [((t 0), .inr (6, [.ref (t 1), .int (nI lt), .ref (t 2), .ref (a 0), .ref (a2 0), .ref (b 0), .ref (t 4), .ref (t 5), .ref (t 6), .ref (t 7), .ref (t 8), .long tr])), ((a 0), .inr (4, [.int (nI (g 0 0)), .ref (a 1), .ref (a 2), .ref (a 3), .int (nI (g 0 1)), .ref (a 4), .ref (a 5), .ref (a 6), .ref (a 7), .ref (a 8), .ref (a 9), .int (nI (g 0 2))])), ((a 1), .inl (cI, 9, .inl (fun j => nI ((g 1) j)))), ((a 2), .inl (cI, 9, .inl (fun j => nI ((g 2) j)))), ((a 3), .inl (cI, 9, .inl (fun j => nI ((g 3) j)))), ((a 4), .inl (cI, 6, .inl (fun j => nI ((g 4) j)))), ((a 5), .inl (cI, 6, .inl (fun j => nI ((g 5) j)))), ((a 6), .inl (cI, 6, .inl (fun j => nI ((g 6) j)))), ((a 7), .inl (cI, 5, .inl (fun j => nI ((g 7) j)))), ((a 8), .inl (cI, 5, .inl (fun j => nI ((g 8) j)))), ((a 9), .inl (cI, 5, .inl (fun j => ly_h ((g 9) j)))), ((b 0), .inr (3, [.int (nI (d 0)), .int (nI (d 1)), .int (nI (d 2)), .int (nI (d 3)), .int (nI (d 4)), .ref (b 1), .ref (b 2)])), ((b 1), .inl (cI, 9, .inl (fun j => ly_h (ho j)))), ((b 2), .inl (cI, 9, .inl (fun j => nI (le j))))] [.ref (t 0), .int (nI k), .int y]) (QcRead (-1)) 0 0 (fun _ => False) := by
  refine Met.ofW (cc := cX6_knee) (maxL := 3) (ret := (some .int)) (by decide) rfl ?_
  intro p e s m args below meth c s₁ B hml hv
  obtain ⟨rfl, hP, hK, hN⟩ := hv
  have hx := B.exec
  have hb := B.bytes
  have hr := B.returns
  have hts := atoms_spec (ws := wsX6_knee) B.pre
  have hown : s.vm.findClass RX6 = some m.cls := findClass_of_methodNamed B.named
  have hlocks := B.notSynchronized
  have hl := lv_entry ([.ref (t 0), .int (nI k), .int y]) (n := 3) (Nat.le_of_ble_eq_true rfl)
  rw [lg_entry_eq]
  generalize (lg_sl ([.ref (t 0), .int (nI k), .int y]) ++ List.replicate (3 - (lg_sl ([.ref (t 0), .int (nI k), .int y])).length) Slot.unset).toArray = ls at hl ⊢
  have hl : lv_has ls 3 [(0, .ref (t 0)), (1, .int (nI k)), (2, .int y)] := hl
  generalize ([.ref (t 0), .int (nI k), .int y] : List Value).toArray = av at hts ⊢
  obtain ⟨Qc, hQc⟩ : ∃ Qc, Qc = (QcRead (-1)) := ⟨_, rfl⟩
  rw [← hQc]
  have f27 := hts (.fieldLink RX6 27 "KneesLent" "parish" "LKneesLent$Parish;") (by decide +kernel)
  have hiX6 : ∀ w ∈ u_ws RX6 TX6 12, w ∈ wsX6_knee := by decide +kernel
  refine lv_aload_n hx hb dX6_knee_0 rfl (lv_at hl 0 rfl) ?_
  refine va_get (D := D) (ci := 6) (v := .ref (a 0)) (C := RX6) (T := TX6) (N := 12) hx hb hts hiX6 hown hK hP 0 rfl rfl 3 (by decide) f27 (fun _ h9 => h9) rfl dX6_knee_1 ?_
  refine lv_iload_n hx hb dX6_knee_4 rfl (lv_at hl 1 rfl) ?_
  have hPc_5 := hP.sub (ws' := [((a 0), .inr (4, [.int (nI (g 0 0)), .ref (a 1), .ref (a 2), .ref (a 3), .int (nI (g 0 1)), .ref (a 4), .ref (a 5), .ref (a 6), .ref (a 7), .ref (a 8), .ref (a 9), .int (nI (g 0 2))])), ((a 1), .inl (cI, 9, .inl (fun j => nI ((g 1) j)))), ((a 2), .inl (cI, 9, .inl (fun j => nI ((g 2) j)))), ((a 3), .inl (cI, 9, .inl (fun j => nI ((g 3) j)))), ((a 4), .inl (cI, 6, .inl (fun j => nI ((g 4) j)))), ((a 5), .inl (cI, 6, .inl (fun j => nI ((g 5) j)))), ((a 6), .inl (cI, 6, .inl (fun j => nI ((g 6) j)))), ((a 7), .inl (cI, 5, .inl (fun j => nI ((g 7) j)))), ((a 8), .inl (cI, 5, .inl (fun j => nI ((g 8) j)))), ((a 9), .inl (cI, 5, .inl (fun j => ly_h ((g 9) j))))]) [1, 2, 3, 4, 5, 6, 7, 8, 9, 10] rfl
  refine ly_r (va_runV (As := [.int (nI k)]) (rest := []) ⟨hx, hb, hml, hown, hts⟩ (c_X4_hasKnee l D cI cC cZ cN a g (nI k)) (cwV 1 hts gX6_knee_X4_hasKnee rfl rfl rfl (by decide +kernel) ⟨Nat.le_of_ble_eq_true rfl, Nat.le_of_ble_eq_true rfl⟩) (ly_pv hK hN hPc_5 0 4 rfl rfl rfl) rfl rfl hl.1 rfl (lv_room (Nat.le_of_ble_eq_true rfl)) dX6_knee_5 ⟨Nat.zero_le _, Nat.zero_le _⟩) ?_
  refine lv_if_ne (tgt := 13) hx hb dX6_knee_8 (by decide) (fun _ => ?_) (fun h_9 => absurd h_9 (jin_ix hk hn))
  refine lv_iload_n hx hb dX6_knee_13 rfl (lv_at hl 2 rfl) ?_
  refine lv_tableOut (tgt := 100) hx hb dX6_knee_14 hw (by decide) ?_
  refine lv_iconst (v := (-1)) hx hb dX6_knee_100 (by decide) ?_
  exact W.iret (v := (-1)) hx hb hr (fun t_9 ht_9 _ => by rw [hQc]; exact ⟨rfl, ht_9⟩) t_nil dX6_knee_101

set_option maxHeartbeats 4000000 in
set_option maxRecDepth 100000 in
theorem c_X6_knee_0 (l : Launch) (D : va_G) (cI cC cZ cN : ClassId) (t a2 : Nat → Nat) (lt : Nat) (tr : Int64) (a : Nat → Nat) (g : Nat → Nat → Nat) (b : Nat → Nat) (d ho le : Nat → Nat) (k : Nat) (hk : k < g 0 0) (hn : g 0 0 ≤ 9) : Met l yX6_knee wsX6_knee (ly_rm 5) (ly_Pre D (ly_tys cI cC cZ cN) [((t 0), .inr (6, [.ref (t 1), .int (nI lt), .ref (t 2), .ref (a 0), .ref (a2 0), .ref (b 0), .ref (t 4), .ref (t 5), .ref (t 6), .ref (t 7), .ref (t 8), .long tr])), ((a 0), .inr (4, [.int (nI (g 0 0)), .ref (a 1), .ref (a 2), .ref (a 3), .int (nI (g 0 1)), .ref (a 4), .ref (a 5), .ref (a 6), .ref (a 7), .ref (a 8), .ref (a 9), .int (nI (g 0 2))])), ((a 1), .inl (cI, 9, .inl (fun j => nI ((g 1) j)))), ((a 2), .inl (cI, 9, .inl (fun j => nI ((g 2) j)))), ((a 3), .inl (cI, 9, .inl (fun j => nI ((g 3) j)))), ((a 4), .inl (cI, 6, .inl (fun j => nI ((g 4) j)))), ((a 5), .inl (cI, 6, .inl (fun j => nI ((g 5) j)))), ((a 6), .inl (cI, 6, .inl (fun j => nI ((g 6) j)))), ((a 7), .inl (cI, 5, .inl (fun j => nI ((g 7) j)))), ((a 8), .inl (cI, 5, .inl (fun j => nI ((g 8) j)))), ((a 9), .inl (cI, 5, .inl (fun j => ly_h ((g 9) j)))), ((b 0), .inr (3, [.int (nI (d 0)), .int (nI (d 1)), .int (nI (d 2)), .int (nI (d 3)), .int (nI (d 4)), .ref (b 1), .ref (b 2)])), ((b 1), .inl (cI, 9, .inl (fun j => ly_h (ho j)))), ((b 2), .inl (cI, 9, .inl (fun j => nI (le j))))] [.ref (t 0), .int (nI k), .int (nI 0)]) (QcRead (nI (g 1 k))) 0 0 (fun _ => False) := by
  refine Met.ofW (cc := cX6_knee) (maxL := 3) (ret := (some .int)) (by decide) rfl ?_
  intro p e s m args below meth c s₁ B hml hv
  obtain ⟨rfl, hP, hK, hN⟩ := hv
  have hx := B.exec
  have hb := B.bytes
  have hr := B.returns
  have hts := atoms_spec (ws := wsX6_knee) B.pre
  have hown : s.vm.findClass RX6 = some m.cls := findClass_of_methodNamed B.named
  have hlocks := B.notSynchronized
  have hl := lv_entry ([.ref (t 0), .int (nI k), .int (nI 0)]) (n := 3) (Nat.le_of_ble_eq_true rfl)
  rw [lg_entry_eq]
  generalize (lg_sl ([.ref (t 0), .int (nI k), .int (nI 0)]) ++ List.replicate (3 - (lg_sl ([.ref (t 0), .int (nI k), .int (nI 0)])).length) Slot.unset).toArray = ls at hl ⊢
  have hl : lv_has ls 3 [(0, .ref (t 0)), (1, .int (nI k)), (2, .int (nI 0))] := hl
  generalize ([.ref (t 0), .int (nI k), .int (nI 0)] : List Value).toArray = av at hts ⊢
  obtain ⟨Qc, hQc⟩ : ∃ Qc, Qc = (QcRead (nI (g 1 k))) := ⟨_, rfl⟩
  rw [← hQc]
  have f27 := hts (.fieldLink RX6 27 "KneesLent" "parish" "LKneesLent$Parish;") (by decide +kernel)
  have f105 := hts (.fieldLink RX6 105 "KneesLent$Parish" "side" "[I") (by decide +kernel)
  have hiX6 : ∀ w ∈ u_ws RX6 TX6 12, w ∈ wsX6_knee := by decide +kernel
  have hiX4 : ∀ w ∈ u_ws RX4 TX4 12, w ∈ wsX6_knee := by decide +kernel
  refine lv_aload_n hx hb dX6_knee_0 rfl (lv_at hl 0 rfl) ?_
  refine va_get (D := D) (ci := 6) (v := .ref (a 0)) (C := RX6) (T := TX6) (N := 12) hx hb hts hiX6 hown hK hP 0 rfl rfl 3 (by decide) f27 (fun _ h9 => h9) rfl dX6_knee_1 ?_
  refine lv_iload_n hx hb dX6_knee_4 rfl (lv_at hl 1 rfl) ?_
  have hPc_5 := hP.sub (ws' := [((a 0), .inr (4, [.int (nI (g 0 0)), .ref (a 1), .ref (a 2), .ref (a 3), .int (nI (g 0 1)), .ref (a 4), .ref (a 5), .ref (a 6), .ref (a 7), .ref (a 8), .ref (a 9), .int (nI (g 0 2))])), ((a 1), .inl (cI, 9, .inl (fun j => nI ((g 1) j)))), ((a 2), .inl (cI, 9, .inl (fun j => nI ((g 2) j)))), ((a 3), .inl (cI, 9, .inl (fun j => nI ((g 3) j)))), ((a 4), .inl (cI, 6, .inl (fun j => nI ((g 4) j)))), ((a 5), .inl (cI, 6, .inl (fun j => nI ((g 5) j)))), ((a 6), .inl (cI, 6, .inl (fun j => nI ((g 6) j)))), ((a 7), .inl (cI, 5, .inl (fun j => nI ((g 7) j)))), ((a 8), .inl (cI, 5, .inl (fun j => nI ((g 8) j)))), ((a 9), .inl (cI, 5, .inl (fun j => ly_h ((g 9) j))))]) [1, 2, 3, 4, 5, 6, 7, 8, 9, 10] rfl
  refine ly_r (va_runV (As := [.int (nI k)]) (rest := []) ⟨hx, hb, hml, hown, hts⟩ (c_X4_hasKnee l D cI cC cZ cN a g (nI k)) (cwV 1 hts gX6_knee_X4_hasKnee rfl rfl rfl (by decide +kernel) ⟨Nat.le_of_ble_eq_true rfl, Nat.le_of_ble_eq_true rfl⟩) (ly_pv hK hN hPc_5 0 4 rfl rfl rfl) rfl rfl hl.1 rfl (lv_room (Nat.le_of_ble_eq_true rfl)) dX6_knee_5 ⟨Nat.zero_le _, Nat.zero_le _⟩) ?_
  refine lv_if_ne (tgt := 13) hx hb dX6_knee_8 (by decide) (fun _ => ?_) (fun h_9 => absurd h_9 (jin_ix hk hn))
  refine lv_iload_n hx hb dX6_knee_13 rfl (lv_at hl 2 rfl) ?_
  refine lv_tableIn (off := 34) (tgt := 48) hx hb dX6_knee_14 (by decide) (by decide) (by decide) (by decide) ?_
  refine lv_aload_n hx hb dX6_knee_48 rfl (lv_at hl 0 rfl) ?_
  refine va_get (D := D) (ci := 6) (v := .ref (a 0)) (C := RX6) (T := TX6) (N := 12) hx hb hts hiX6 hown hK hP 0 rfl rfl 3 (by decide) f27 (fun _ h9 => h9) rfl dX6_knee_49 ?_
  refine va_get (D := D) (ci := 4) (v := .ref (a 1)) (C := RX4) (T := TX4) (N := 12) hx hb hts hiX4 hown hK hP 1 rfl rfl 1 (by decide) f105 (fun _ h9 => h9) rfl dX6_knee_52 ?_
  refine lv_iload_n hx hb dX6_knee_55 rfl (lv_at hl 1 rfl) ?_
  refine ly_iald hx hb hK hP 2 0 rfl rfl (k := k) (by decide) rfl (by omega) dX6_knee_56 ?_
  exact W.iret (v := (nI ((g 1) k))) hx hb hr (fun t_9 ht_9 _ => by rw [hQc]; exact ⟨rfl, ht_9⟩) t_nil dX6_knee_57

set_option maxHeartbeats 4000000 in
set_option maxRecDepth 100000 in
theorem c_X6_knee_1 (l : Launch) (D : va_G) (cI cC cZ cN : ClassId) (t a2 : Nat → Nat) (lt : Nat) (tr : Int64) (a : Nat → Nat) (g : Nat → Nat → Nat) (b : Nat → Nat) (d ho le : Nat → Nat) (k : Nat) (hk : k < g 0 0) (hn : g 0 0 ≤ 9) : Met l yX6_knee wsX6_knee (ly_rm 5) (ly_Pre D (ly_tys cI cC cZ cN) [((t 0), .inr (6, [.ref (t 1), .int (nI lt), .ref (t 2), .ref (a 0), .ref (a2 0), .ref (b 0), .ref (t 4), .ref (t 5), .ref (t 6), .ref (t 7), .ref (t 8), .long tr])), ((a 0), .inr (4, [.int (nI (g 0 0)), .ref (a 1), .ref (a 2), .ref (a 3), .int (nI (g 0 1)), .ref (a 4), .ref (a 5), .ref (a 6), .ref (a 7), .ref (a 8), .ref (a 9), .int (nI (g 0 2))])), ((a 1), .inl (cI, 9, .inl (fun j => nI ((g 1) j)))), ((a 2), .inl (cI, 9, .inl (fun j => nI ((g 2) j)))), ((a 3), .inl (cI, 9, .inl (fun j => nI ((g 3) j)))), ((a 4), .inl (cI, 6, .inl (fun j => nI ((g 4) j)))), ((a 5), .inl (cI, 6, .inl (fun j => nI ((g 5) j)))), ((a 6), .inl (cI, 6, .inl (fun j => nI ((g 6) j)))), ((a 7), .inl (cI, 5, .inl (fun j => nI ((g 7) j)))), ((a 8), .inl (cI, 5, .inl (fun j => nI ((g 8) j)))), ((a 9), .inl (cI, 5, .inl (fun j => ly_h ((g 9) j)))), ((b 0), .inr (3, [.int (nI (d 0)), .int (nI (d 1)), .int (nI (d 2)), .int (nI (d 3)), .int (nI (d 4)), .ref (b 1), .ref (b 2)])), ((b 1), .inl (cI, 9, .inl (fun j => ly_h (ho j)))), ((b 2), .inl (cI, 9, .inl (fun j => nI (le j))))] [.ref (t 0), .int (nI k), .int (nI 1)]) (QcRead (nI (g 2 k))) 0 0 (fun _ => False) := by
  refine Met.ofW (cc := cX6_knee) (maxL := 3) (ret := (some .int)) (by decide) rfl ?_
  intro p e s m args below meth c s₁ B hml hv
  obtain ⟨rfl, hP, hK, hN⟩ := hv
  have hx := B.exec
  have hb := B.bytes
  have hr := B.returns
  have hts := atoms_spec (ws := wsX6_knee) B.pre
  have hown : s.vm.findClass RX6 = some m.cls := findClass_of_methodNamed B.named
  have hlocks := B.notSynchronized
  have hl := lv_entry ([.ref (t 0), .int (nI k), .int (nI 1)]) (n := 3) (Nat.le_of_ble_eq_true rfl)
  rw [lg_entry_eq]
  generalize (lg_sl ([.ref (t 0), .int (nI k), .int (nI 1)]) ++ List.replicate (3 - (lg_sl ([.ref (t 0), .int (nI k), .int (nI 1)])).length) Slot.unset).toArray = ls at hl ⊢
  have hl : lv_has ls 3 [(0, .ref (t 0)), (1, .int (nI k)), (2, .int (nI 1))] := hl
  generalize ([.ref (t 0), .int (nI k), .int (nI 1)] : List Value).toArray = av at hts ⊢
  obtain ⟨Qc, hQc⟩ : ∃ Qc, Qc = (QcRead (nI (g 2 k))) := ⟨_, rfl⟩
  rw [← hQc]
  have f27 := hts (.fieldLink RX6 27 "KneesLent" "parish" "LKneesLent$Parish;") (by decide +kernel)
  have f109 := hts (.fieldLink RX6 109 "KneesLent$Parish" "farm" "[I") (by decide +kernel)
  have hiX6 : ∀ w ∈ u_ws RX6 TX6 12, w ∈ wsX6_knee := by decide +kernel
  have hiX4 : ∀ w ∈ u_ws RX4 TX4 12, w ∈ wsX6_knee := by decide +kernel
  refine lv_aload_n hx hb dX6_knee_0 rfl (lv_at hl 0 rfl) ?_
  refine va_get (D := D) (ci := 6) (v := .ref (a 0)) (C := RX6) (T := TX6) (N := 12) hx hb hts hiX6 hown hK hP 0 rfl rfl 3 (by decide) f27 (fun _ h9 => h9) rfl dX6_knee_1 ?_
  refine lv_iload_n hx hb dX6_knee_4 rfl (lv_at hl 1 rfl) ?_
  have hPc_5 := hP.sub (ws' := [((a 0), .inr (4, [.int (nI (g 0 0)), .ref (a 1), .ref (a 2), .ref (a 3), .int (nI (g 0 1)), .ref (a 4), .ref (a 5), .ref (a 6), .ref (a 7), .ref (a 8), .ref (a 9), .int (nI (g 0 2))])), ((a 1), .inl (cI, 9, .inl (fun j => nI ((g 1) j)))), ((a 2), .inl (cI, 9, .inl (fun j => nI ((g 2) j)))), ((a 3), .inl (cI, 9, .inl (fun j => nI ((g 3) j)))), ((a 4), .inl (cI, 6, .inl (fun j => nI ((g 4) j)))), ((a 5), .inl (cI, 6, .inl (fun j => nI ((g 5) j)))), ((a 6), .inl (cI, 6, .inl (fun j => nI ((g 6) j)))), ((a 7), .inl (cI, 5, .inl (fun j => nI ((g 7) j)))), ((a 8), .inl (cI, 5, .inl (fun j => nI ((g 8) j)))), ((a 9), .inl (cI, 5, .inl (fun j => ly_h ((g 9) j))))]) [1, 2, 3, 4, 5, 6, 7, 8, 9, 10] rfl
  refine ly_r (va_runV (As := [.int (nI k)]) (rest := []) ⟨hx, hb, hml, hown, hts⟩ (c_X4_hasKnee l D cI cC cZ cN a g (nI k)) (cwV 1 hts gX6_knee_X4_hasKnee rfl rfl rfl (by decide +kernel) ⟨Nat.le_of_ble_eq_true rfl, Nat.le_of_ble_eq_true rfl⟩) (ly_pv hK hN hPc_5 0 4 rfl rfl rfl) rfl rfl hl.1 rfl (lv_room (Nat.le_of_ble_eq_true rfl)) dX6_knee_5 ⟨Nat.zero_le _, Nat.zero_le _⟩) ?_
  refine lv_if_ne (tgt := 13) hx hb dX6_knee_8 (by decide) (fun _ => ?_) (fun h_9 => absurd h_9 (jin_ix hk hn))
  refine lv_iload_n hx hb dX6_knee_13 rfl (lv_at hl 2 rfl) ?_
  refine lv_tableIn (off := 44) (tgt := 58) hx hb dX6_knee_14 (by decide) (by decide) (by decide) (by decide) ?_
  refine lv_aload_n hx hb dX6_knee_58 rfl (lv_at hl 0 rfl) ?_
  refine va_get (D := D) (ci := 6) (v := .ref (a 0)) (C := RX6) (T := TX6) (N := 12) hx hb hts hiX6 hown hK hP 0 rfl rfl 3 (by decide) f27 (fun _ h9 => h9) rfl dX6_knee_59 ?_
  refine va_get (D := D) (ci := 4) (v := .ref (a 2)) (C := RX4) (T := TX4) (N := 12) hx hb hts hiX4 hown hK hP 1 rfl rfl 2 (by decide) f109 (fun _ h9 => h9) rfl dX6_knee_62 ?_
  refine lv_iload_n hx hb dX6_knee_65 rfl (lv_at hl 1 rfl) ?_
  refine ly_iald hx hb hK hP 3 0 rfl rfl (k := k) (by decide) rfl (by omega) dX6_knee_66 ?_
  exact W.iret (v := (nI ((g 2) k))) hx hb hr (fun t_9 ht_9 _ => by rw [hQc]; exact ⟨rfl, ht_9⟩) t_nil dX6_knee_67

set_option maxHeartbeats 4000000 in
set_option maxRecDepth 100000 in
theorem c_X6_knee_2 (l : Launch) (D : va_G) (cI cC cZ cN : ClassId) (t a2 : Nat → Nat) (lt : Nat) (tr : Int64) (a : Nat → Nat) (g : Nat → Nat → Nat) (b : Nat → Nat) (d ho le : Nat → Nat) (k : Nat) (hk : k < g 0 0) (hn : g 0 0 ≤ 9) : Met l yX6_knee wsX6_knee (ly_rm 5) (ly_Pre D (ly_tys cI cC cZ cN) [((t 0), .inr (6, [.ref (t 1), .int (nI lt), .ref (t 2), .ref (a 0), .ref (a2 0), .ref (b 0), .ref (t 4), .ref (t 5), .ref (t 6), .ref (t 7), .ref (t 8), .long tr])), ((a 0), .inr (4, [.int (nI (g 0 0)), .ref (a 1), .ref (a 2), .ref (a 3), .int (nI (g 0 1)), .ref (a 4), .ref (a 5), .ref (a 6), .ref (a 7), .ref (a 8), .ref (a 9), .int (nI (g 0 2))])), ((a 1), .inl (cI, 9, .inl (fun j => nI ((g 1) j)))), ((a 2), .inl (cI, 9, .inl (fun j => nI ((g 2) j)))), ((a 3), .inl (cI, 9, .inl (fun j => nI ((g 3) j)))), ((a 4), .inl (cI, 6, .inl (fun j => nI ((g 4) j)))), ((a 5), .inl (cI, 6, .inl (fun j => nI ((g 5) j)))), ((a 6), .inl (cI, 6, .inl (fun j => nI ((g 6) j)))), ((a 7), .inl (cI, 5, .inl (fun j => nI ((g 7) j)))), ((a 8), .inl (cI, 5, .inl (fun j => nI ((g 8) j)))), ((a 9), .inl (cI, 5, .inl (fun j => ly_h ((g 9) j)))), ((b 0), .inr (3, [.int (nI (d 0)), .int (nI (d 1)), .int (nI (d 2)), .int (nI (d 3)), .int (nI (d 4)), .ref (b 1), .ref (b 2)])), ((b 1), .inl (cI, 9, .inl (fun j => ly_h (ho j)))), ((b 2), .inl (cI, 9, .inl (fun j => nI (le j))))] [.ref (t 0), .int (nI k), .int (nI 2)]) (QcRead (nI (le k))) 0 0 (fun _ => False) := by
  refine Met.ofW (cc := cX6_knee) (maxL := 3) (ret := (some .int)) (by decide) rfl ?_
  intro p e s m args below meth c s₁ B hml hv
  obtain ⟨rfl, hP, hK, hN⟩ := hv
  have hx := B.exec
  have hb := B.bytes
  have hr := B.returns
  have hts := atoms_spec (ws := wsX6_knee) B.pre
  have hown : s.vm.findClass RX6 = some m.cls := findClass_of_methodNamed B.named
  have hlocks := B.notSynchronized
  have hl := lv_entry ([.ref (t 0), .int (nI k), .int (nI 2)]) (n := 3) (Nat.le_of_ble_eq_true rfl)
  rw [lg_entry_eq]
  generalize (lg_sl ([.ref (t 0), .int (nI k), .int (nI 2)]) ++ List.replicate (3 - (lg_sl ([.ref (t 0), .int (nI k), .int (nI 2)])).length) Slot.unset).toArray = ls at hl ⊢
  have hl : lv_has ls 3 [(0, .ref (t 0)), (1, .int (nI k)), (2, .int (nI 2))] := hl
  generalize ([.ref (t 0), .int (nI k), .int (nI 2)] : List Value).toArray = av at hts ⊢
  obtain ⟨Qc, hQc⟩ : ∃ Qc, Qc = (QcRead (nI (le k))) := ⟨_, rfl⟩
  rw [← hQc]
  have f27 := hts (.fieldLink RX6 27 "KneesLent" "parish" "LKneesLent$Parish;") (by decide +kernel)
  have f37 := hts (.fieldLink RX6 37 "KneesLent" "now" "LKneesLent$Now;") (by decide +kernel)
  have f112 := hts (.fieldLink RX6 112 "KneesLent$Now" "left" "[I") (by decide +kernel)
  have hiX6 : ∀ w ∈ u_ws RX6 TX6 12, w ∈ wsX6_knee := by decide +kernel
  have hiX3 : ∀ w ∈ u_ws RX3 TX3 7, w ∈ wsX6_knee := by decide +kernel
  refine lv_aload_n hx hb dX6_knee_0 rfl (lv_at hl 0 rfl) ?_
  refine va_get (D := D) (ci := 6) (v := .ref (a 0)) (C := RX6) (T := TX6) (N := 12) hx hb hts hiX6 hown hK hP 0 rfl rfl 3 (by decide) f27 (fun _ h9 => h9) rfl dX6_knee_1 ?_
  refine lv_iload_n hx hb dX6_knee_4 rfl (lv_at hl 1 rfl) ?_
  have hPc_5 := hP.sub (ws' := [((a 0), .inr (4, [.int (nI (g 0 0)), .ref (a 1), .ref (a 2), .ref (a 3), .int (nI (g 0 1)), .ref (a 4), .ref (a 5), .ref (a 6), .ref (a 7), .ref (a 8), .ref (a 9), .int (nI (g 0 2))])), ((a 1), .inl (cI, 9, .inl (fun j => nI ((g 1) j)))), ((a 2), .inl (cI, 9, .inl (fun j => nI ((g 2) j)))), ((a 3), .inl (cI, 9, .inl (fun j => nI ((g 3) j)))), ((a 4), .inl (cI, 6, .inl (fun j => nI ((g 4) j)))), ((a 5), .inl (cI, 6, .inl (fun j => nI ((g 5) j)))), ((a 6), .inl (cI, 6, .inl (fun j => nI ((g 6) j)))), ((a 7), .inl (cI, 5, .inl (fun j => nI ((g 7) j)))), ((a 8), .inl (cI, 5, .inl (fun j => nI ((g 8) j)))), ((a 9), .inl (cI, 5, .inl (fun j => ly_h ((g 9) j))))]) [1, 2, 3, 4, 5, 6, 7, 8, 9, 10] rfl
  refine ly_r (va_runV (As := [.int (nI k)]) (rest := []) ⟨hx, hb, hml, hown, hts⟩ (c_X4_hasKnee l D cI cC cZ cN a g (nI k)) (cwV 1 hts gX6_knee_X4_hasKnee rfl rfl rfl (by decide +kernel) ⟨Nat.le_of_ble_eq_true rfl, Nat.le_of_ble_eq_true rfl⟩) (ly_pv hK hN hPc_5 0 4 rfl rfl rfl) rfl rfl hl.1 rfl (lv_room (Nat.le_of_ble_eq_true rfl)) dX6_knee_5 ⟨Nat.zero_le _, Nat.zero_le _⟩) ?_
  refine lv_if_ne (tgt := 13) hx hb dX6_knee_8 (by decide) (fun _ => ?_) (fun h_9 => absurd h_9 (jin_ix hk hn))
  refine lv_iload_n hx hb dX6_knee_13 rfl (lv_at hl 2 rfl) ?_
  refine lv_tableIn (off := 54) (tgt := 68) hx hb dX6_knee_14 (by decide) (by decide) (by decide) (by decide) ?_
  refine lv_aload_n hx hb dX6_knee_68 rfl (lv_at hl 0 rfl) ?_
  refine va_get (D := D) (ci := 6) (v := .ref (b 0)) (C := RX6) (T := TX6) (N := 12) hx hb hts hiX6 hown hK hP 0 rfl rfl 5 (by decide) f37 (fun _ h9 => h9) rfl dX6_knee_69 ?_
  refine va_get (D := D) (ci := 3) (v := .ref (b 2)) (C := RX3) (T := TX3) (N := 7) hx hb hts hiX3 hown hK hP 11 rfl rfl 6 (by decide) f112 (fun _ h9 => h9) rfl dX6_knee_72 ?_
  refine lv_iload_n hx hb dX6_knee_75 rfl (lv_at hl 1 rfl) ?_
  refine ly_iald hx hb hK hP 13 0 rfl rfl (k := k) (by decide) rfl (by omega) dX6_knee_76 ?_
  exact W.iret (v := (nI (le k))) hx hb hr (fun t_9 ht_9 _ => by rw [hQc]; exact ⟨rfl, ht_9⟩) t_nil dX6_knee_77

set_option maxHeartbeats 4000000 in
set_option maxRecDepth 100000 in
theorem c_X6_knee_3 (l : Launch) (D : va_G) (cI cC cZ cN : ClassId) (t a2 : Nat → Nat) (lt : Nat) (tr : Int64) (a : Nat → Nat) (g : Nat → Nat → Nat) (b : Nat → Nat) (d ho le : Nat → Nat) (k : Nat) (hk : k < g 0 0) (hn : g 0 0 ≤ 9) : Met l yX6_knee wsX6_knee (ly_rm 5) (ly_Pre D (ly_tys cI cC cZ cN) [((t 0), .inr (6, [.ref (t 1), .int (nI lt), .ref (t 2), .ref (a 0), .ref (a2 0), .ref (b 0), .ref (t 4), .ref (t 5), .ref (t 6), .ref (t 7), .ref (t 8), .long tr])), ((a 0), .inr (4, [.int (nI (g 0 0)), .ref (a 1), .ref (a 2), .ref (a 3), .int (nI (g 0 1)), .ref (a 4), .ref (a 5), .ref (a 6), .ref (a 7), .ref (a 8), .ref (a 9), .int (nI (g 0 2))])), ((a 1), .inl (cI, 9, .inl (fun j => nI ((g 1) j)))), ((a 2), .inl (cI, 9, .inl (fun j => nI ((g 2) j)))), ((a 3), .inl (cI, 9, .inl (fun j => nI ((g 3) j)))), ((a 4), .inl (cI, 6, .inl (fun j => nI ((g 4) j)))), ((a 5), .inl (cI, 6, .inl (fun j => nI ((g 5) j)))), ((a 6), .inl (cI, 6, .inl (fun j => nI ((g 6) j)))), ((a 7), .inl (cI, 5, .inl (fun j => nI ((g 7) j)))), ((a 8), .inl (cI, 5, .inl (fun j => nI ((g 8) j)))), ((a 9), .inl (cI, 5, .inl (fun j => ly_h ((g 9) j)))), ((b 0), .inr (3, [.int (nI (d 0)), .int (nI (d 1)), .int (nI (d 2)), .int (nI (d 3)), .int (nI (d 4)), .ref (b 1), .ref (b 2)])), ((b 1), .inl (cI, 9, .inl (fun j => ly_h (ho j)))), ((b 2), .inl (cI, 9, .inl (fun j => nI (le j))))] [.ref (t 0), .int (nI k), .int (nI 3)]) (QcRead (ly_h (ho k))) 0 0 (fun _ => False) := by
  refine Met.ofW (cc := cX6_knee) (maxL := 3) (ret := (some .int)) (by decide) rfl ?_
  intro p e s m args below meth c s₁ B hml hv
  obtain ⟨rfl, hP, hK, hN⟩ := hv
  have hx := B.exec
  have hb := B.bytes
  have hr := B.returns
  have hts := atoms_spec (ws := wsX6_knee) B.pre
  have hown : s.vm.findClass RX6 = some m.cls := findClass_of_methodNamed B.named
  have hlocks := B.notSynchronized
  have hl := lv_entry ([.ref (t 0), .int (nI k), .int (nI 3)]) (n := 3) (Nat.le_of_ble_eq_true rfl)
  rw [lg_entry_eq]
  generalize (lg_sl ([.ref (t 0), .int (nI k), .int (nI 3)]) ++ List.replicate (3 - (lg_sl ([.ref (t 0), .int (nI k), .int (nI 3)])).length) Slot.unset).toArray = ls at hl ⊢
  have hl : lv_has ls 3 [(0, .ref (t 0)), (1, .int (nI k)), (2, .int (nI 3))] := hl
  generalize ([.ref (t 0), .int (nI k), .int (nI 3)] : List Value).toArray = av at hts ⊢
  obtain ⟨Qc, hQc⟩ : ∃ Qc, Qc = (QcRead (ly_h (ho k))) := ⟨_, rfl⟩
  rw [← hQc]
  have f27 := hts (.fieldLink RX6 27 "KneesLent" "parish" "LKneesLent$Parish;") (by decide +kernel)
  have f37 := hts (.fieldLink RX6 37 "KneesLent" "now" "LKneesLent$Now;") (by decide +kernel)
  have f115 := hts (.fieldLink RX6 115 "KneesLent$Now" "holder" "[I") (by decide +kernel)
  have hiX6 : ∀ w ∈ u_ws RX6 TX6 12, w ∈ wsX6_knee := by decide +kernel
  have hiX3 : ∀ w ∈ u_ws RX3 TX3 7, w ∈ wsX6_knee := by decide +kernel
  refine lv_aload_n hx hb dX6_knee_0 rfl (lv_at hl 0 rfl) ?_
  refine va_get (D := D) (ci := 6) (v := .ref (a 0)) (C := RX6) (T := TX6) (N := 12) hx hb hts hiX6 hown hK hP 0 rfl rfl 3 (by decide) f27 (fun _ h9 => h9) rfl dX6_knee_1 ?_
  refine lv_iload_n hx hb dX6_knee_4 rfl (lv_at hl 1 rfl) ?_
  have hPc_5 := hP.sub (ws' := [((a 0), .inr (4, [.int (nI (g 0 0)), .ref (a 1), .ref (a 2), .ref (a 3), .int (nI (g 0 1)), .ref (a 4), .ref (a 5), .ref (a 6), .ref (a 7), .ref (a 8), .ref (a 9), .int (nI (g 0 2))])), ((a 1), .inl (cI, 9, .inl (fun j => nI ((g 1) j)))), ((a 2), .inl (cI, 9, .inl (fun j => nI ((g 2) j)))), ((a 3), .inl (cI, 9, .inl (fun j => nI ((g 3) j)))), ((a 4), .inl (cI, 6, .inl (fun j => nI ((g 4) j)))), ((a 5), .inl (cI, 6, .inl (fun j => nI ((g 5) j)))), ((a 6), .inl (cI, 6, .inl (fun j => nI ((g 6) j)))), ((a 7), .inl (cI, 5, .inl (fun j => nI ((g 7) j)))), ((a 8), .inl (cI, 5, .inl (fun j => nI ((g 8) j)))), ((a 9), .inl (cI, 5, .inl (fun j => ly_h ((g 9) j))))]) [1, 2, 3, 4, 5, 6, 7, 8, 9, 10] rfl
  refine ly_r (va_runV (As := [.int (nI k)]) (rest := []) ⟨hx, hb, hml, hown, hts⟩ (c_X4_hasKnee l D cI cC cZ cN a g (nI k)) (cwV 1 hts gX6_knee_X4_hasKnee rfl rfl rfl (by decide +kernel) ⟨Nat.le_of_ble_eq_true rfl, Nat.le_of_ble_eq_true rfl⟩) (ly_pv hK hN hPc_5 0 4 rfl rfl rfl) rfl rfl hl.1 rfl (lv_room (Nat.le_of_ble_eq_true rfl)) dX6_knee_5 ⟨Nat.zero_le _, Nat.zero_le _⟩) ?_
  refine lv_if_ne (tgt := 13) hx hb dX6_knee_8 (by decide) (fun _ => ?_) (fun h_9 => absurd h_9 (jin_ix hk hn))
  refine lv_iload_n hx hb dX6_knee_13 rfl (lv_at hl 2 rfl) ?_
  refine lv_tableIn (off := 64) (tgt := 78) hx hb dX6_knee_14 (by decide) (by decide) (by decide) (by decide) ?_
  refine lv_aload_n hx hb dX6_knee_78 rfl (lv_at hl 0 rfl) ?_
  refine va_get (D := D) (ci := 6) (v := .ref (b 0)) (C := RX6) (T := TX6) (N := 12) hx hb hts hiX6 hown hK hP 0 rfl rfl 5 (by decide) f37 (fun _ h9 => h9) rfl dX6_knee_79 ?_
  refine va_get (D := D) (ci := 3) (v := .ref (b 1)) (C := RX3) (T := TX3) (N := 7) hx hb hts hiX3 hown hK hP 11 rfl rfl 5 (by decide) f115 (fun _ h9 => h9) rfl dX6_knee_82 ?_
  refine lv_iload_n hx hb dX6_knee_85 rfl (lv_at hl 1 rfl) ?_
  refine ly_iald hx hb hK hP 12 0 rfl rfl (k := k) (by decide) rfl (by omega) dX6_knee_86 ?_
  exact W.iret (v := (ly_h (ho k))) hx hb hr (fun t_9 ht_9 _ => by rw [hQc]; exact ⟨rfl, ht_9⟩) t_nil dX6_knee_87

set_option maxHeartbeats 4000000 in
set_option maxRecDepth 100000 in
theorem c_X6_knee_4 (l : Launch) (D : va_G) (cI cC cZ cN : ClassId) (t a2 : Nat → Nat) (lt : Nat) (tr : Int64) (a : Nat → Nat) (g : Nat → Nat → Nat) (b : Nat → Nat) (d ho le : Nat → Nat) (k : Nat) (hk : k < g 0 0) (hn : g 0 0 ≤ 9) : Met l yX6_knee wsX6_knee (ly_rm 5) (ly_Pre D (ly_tys cI cC cZ cN) [((t 0), .inr (6, [.ref (t 1), .int (nI lt), .ref (t 2), .ref (a 0), .ref (a2 0), .ref (b 0), .ref (t 4), .ref (t 5), .ref (t 6), .ref (t 7), .ref (t 8), .long tr])), ((a 0), .inr (4, [.int (nI (g 0 0)), .ref (a 1), .ref (a 2), .ref (a 3), .int (nI (g 0 1)), .ref (a 4), .ref (a 5), .ref (a 6), .ref (a 7), .ref (a 8), .ref (a 9), .int (nI (g 0 2))])), ((a 1), .inl (cI, 9, .inl (fun j => nI ((g 1) j)))), ((a 2), .inl (cI, 9, .inl (fun j => nI ((g 2) j)))), ((a 3), .inl (cI, 9, .inl (fun j => nI ((g 3) j)))), ((a 4), .inl (cI, 6, .inl (fun j => nI ((g 4) j)))), ((a 5), .inl (cI, 6, .inl (fun j => nI ((g 5) j)))), ((a 6), .inl (cI, 6, .inl (fun j => nI ((g 6) j)))), ((a 7), .inl (cI, 5, .inl (fun j => nI ((g 7) j)))), ((a 8), .inl (cI, 5, .inl (fun j => nI ((g 8) j)))), ((a 9), .inl (cI, 5, .inl (fun j => ly_h ((g 9) j)))), ((b 0), .inr (3, [.int (nI (d 0)), .int (nI (d 1)), .int (nI (d 2)), .int (nI (d 3)), .int (nI (d 4)), .ref (b 1), .ref (b 2)])), ((b 1), .inl (cI, 9, .inl (fun j => ly_h (ho j)))), ((b 2), .inl (cI, 9, .inl (fun j => nI (le j))))] [.ref (t 0), .int (nI k), .int (nI 4)]) (QcRead (jbit (nI (d 4)) (nI k))) 0 0 (fun _ => False) := by
  refine Met.ofW (cc := cX6_knee) (maxL := 3) (ret := (some .int)) (by decide) rfl ?_
  intro p e s m args below meth c s₁ B hml hv
  obtain ⟨rfl, hP, hK, hN⟩ := hv
  have hx := B.exec
  have hb := B.bytes
  have hr := B.returns
  have hts := atoms_spec (ws := wsX6_knee) B.pre
  have hown : s.vm.findClass RX6 = some m.cls := findClass_of_methodNamed B.named
  have hlocks := B.notSynchronized
  have hl := lv_entry ([.ref (t 0), .int (nI k), .int (nI 4)]) (n := 3) (Nat.le_of_ble_eq_true rfl)
  rw [lg_entry_eq]
  generalize (lg_sl ([.ref (t 0), .int (nI k), .int (nI 4)]) ++ List.replicate (3 - (lg_sl ([.ref (t 0), .int (nI k), .int (nI 4)])).length) Slot.unset).toArray = ls at hl ⊢
  have hl : lv_has ls 3 [(0, .ref (t 0)), (1, .int (nI k)), (2, .int (nI 4))] := hl
  generalize ([.ref (t 0), .int (nI k), .int (nI 4)] : List Value).toArray = av at hts ⊢
  obtain ⟨Qc, hQc⟩ : ∃ Qc, Qc = (QcRead (jbit (nI (d 4)) (nI k))) := ⟨_, rfl⟩
  rw [← hQc]
  have f27 := hts (.fieldLink RX6 27 "KneesLent" "parish" "LKneesLent$Parish;") (by decide +kernel)
  have f37 := hts (.fieldLink RX6 37 "KneesLent" "now" "LKneesLent$Now;") (by decide +kernel)
  have f118 := hts (.fieldLink RX6 118 "KneesLent$Now" "pledged" "I") (by decide +kernel)
  have hiX6 : ∀ w ∈ u_ws RX6 TX6 12, w ∈ wsX6_knee := by decide +kernel
  have hiX3 : ∀ w ∈ u_ws RX3 TX3 7, w ∈ wsX6_knee := by decide +kernel
  refine lv_aload_n hx hb dX6_knee_0 rfl (lv_at hl 0 rfl) ?_
  refine va_get (D := D) (ci := 6) (v := .ref (a 0)) (C := RX6) (T := TX6) (N := 12) hx hb hts hiX6 hown hK hP 0 rfl rfl 3 (by decide) f27 (fun _ h9 => h9) rfl dX6_knee_1 ?_
  refine lv_iload_n hx hb dX6_knee_4 rfl (lv_at hl 1 rfl) ?_
  have hPc_5 := hP.sub (ws' := [((a 0), .inr (4, [.int (nI (g 0 0)), .ref (a 1), .ref (a 2), .ref (a 3), .int (nI (g 0 1)), .ref (a 4), .ref (a 5), .ref (a 6), .ref (a 7), .ref (a 8), .ref (a 9), .int (nI (g 0 2))])), ((a 1), .inl (cI, 9, .inl (fun j => nI ((g 1) j)))), ((a 2), .inl (cI, 9, .inl (fun j => nI ((g 2) j)))), ((a 3), .inl (cI, 9, .inl (fun j => nI ((g 3) j)))), ((a 4), .inl (cI, 6, .inl (fun j => nI ((g 4) j)))), ((a 5), .inl (cI, 6, .inl (fun j => nI ((g 5) j)))), ((a 6), .inl (cI, 6, .inl (fun j => nI ((g 6) j)))), ((a 7), .inl (cI, 5, .inl (fun j => nI ((g 7) j)))), ((a 8), .inl (cI, 5, .inl (fun j => nI ((g 8) j)))), ((a 9), .inl (cI, 5, .inl (fun j => ly_h ((g 9) j))))]) [1, 2, 3, 4, 5, 6, 7, 8, 9, 10] rfl
  refine ly_r (va_runV (As := [.int (nI k)]) (rest := []) ⟨hx, hb, hml, hown, hts⟩ (c_X4_hasKnee l D cI cC cZ cN a g (nI k)) (cwV 1 hts gX6_knee_X4_hasKnee rfl rfl rfl (by decide +kernel) ⟨Nat.le_of_ble_eq_true rfl, Nat.le_of_ble_eq_true rfl⟩) (ly_pv hK hN hPc_5 0 4 rfl rfl rfl) rfl rfl hl.1 rfl (lv_room (Nat.le_of_ble_eq_true rfl)) dX6_knee_5 ⟨Nat.zero_le _, Nat.zero_le _⟩) ?_
  refine lv_if_ne (tgt := 13) hx hb dX6_knee_8 (by decide) (fun _ => ?_) (fun h_9 => absurd h_9 (jin_ix hk hn))
  refine lv_iload_n hx hb dX6_knee_13 rfl (lv_at hl 2 rfl) ?_
  refine lv_tableIn (off := 74) (tgt := 88) hx hb dX6_knee_14 (by decide) (by decide) (by decide) (by decide) ?_
  refine lv_aload_n hx hb dX6_knee_88 rfl (lv_at hl 0 rfl) ?_
  refine va_get (D := D) (ci := 6) (v := .ref (b 0)) (C := RX6) (T := TX6) (N := 12) hx hb hts hiX6 hown hK hP 0 rfl rfl 5 (by decide) f37 (fun _ h9 => h9) rfl dX6_knee_89 ?_
  refine va_get (D := D) (ci := 3) (v := .int (nI (d 4))) (C := RX3) (T := TX3) (N := 7) hx hb hts hiX3 hown hK hP 11 rfl rfl 4 (by decide) f118 (fun _ h9 => h9) rfl dX6_knee_92 ?_
  refine lv_iload_n hx hb dX6_knee_95 rfl (lv_at hl 1 rfl) ?_
  have hPc_96 := hP.sub (ws' := []) [] rfl
  refine ly_r (va_runS (As := [.int (nI (d 4)), .int (nI k)]) (rest := []) ⟨hx, hb, hml, hown, hts⟩ (c_X6_bit l D cI cC cZ cN (nI (d 4)) (nI k)) (va_cwS 2 hts gX6_knee_X6_bit rfl rfl rfl (by decide +kernel) ⟨Nat.le_of_ble_eq_true rfl, Nat.le_of_ble_eq_true rfl⟩) (ly_ps hK hN hPc_96) rfl rfl hl.1 rfl (lv_room (Nat.le_of_ble_eq_true rfl)) dX6_knee_96 ⟨Nat.zero_le _, Nat.zero_le _⟩) ?_
  exact W.iret (v := (jbit (nI (d 4)) (nI k))) hx hb hr (fun t_9 ht_9 _ => by rw [hQc]; exact ⟨rfl, ht_9⟩) t_nil dX6_knee_99

set_option maxHeartbeats 4000000 in
set_option maxRecDepth 100000 in
theorem c_X6_person_b (l : Launch) (D : va_G) (cI cC cZ cN : ClassId) (t a2 : Nat → Nat) (lt : Nat) (tr : Int64) (a : Nat → Nat) (g : Nat → Nat → Nat) (b : Nat → Nat) (d ho le : Nat → Nat) (x y : Int32) (hb9 : jin x 0 (nI (g 0 1) - 1) = 0) : Met l yX6_person wsX6_person (ly_rm 5) (ly_Pre D (ly_tys cI cC cZ cN) [((t 0), .inr (6, [.ref (t 1), .int (nI lt), .ref (t 2), .ref (a 0), .ref (a2 0), .ref (b 0), .ref (t 4), .ref (t 5), .ref (t 6), .ref (t 7), .ref (t 8), .long tr])), ((a 0), .inr (4, [.int (nI (g 0 0)), .ref (a 1), .ref (a 2), .ref (a 3), .int (nI (g 0 1)), .ref (a 4), .ref (a 5), .ref (a 6), .ref (a 7), .ref (a 8), .ref (a 9), .int (nI (g 0 2))])), ((a 1), .inl (cI, 9, .inl (fun j => nI ((g 1) j)))), ((a 2), .inl (cI, 9, .inl (fun j => nI ((g 2) j)))), ((a 3), .inl (cI, 9, .inl (fun j => nI ((g 3) j)))), ((a 4), .inl (cI, 6, .inl (fun j => nI ((g 4) j)))), ((a 5), .inl (cI, 6, .inl (fun j => nI ((g 5) j)))), ((a 6), .inl (cI, 6, .inl (fun j => nI ((g 6) j)))), ((a 7), .inl (cI, 5, .inl (fun j => nI ((g 7) j)))), ((a 8), .inl (cI, 5, .inl (fun j => nI ((g 8) j)))), ((a 9), .inl (cI, 5, .inl (fun j => ly_h ((g 9) j)))), ((b 0), .inr (3, [.int (nI (d 0)), .int (nI (d 1)), .int (nI (d 2)), .int (nI (d 3)), .int (nI (d 4)), .ref (b 1), .ref (b 2)])), ((b 1), .inl (cI, 9, .inl (fun j => ly_h (ho j)))), ((b 2), .inl (cI, 9, .inl (fun j => nI (le j))))] [.ref (t 0), .int x, .int y]) (QcRead (-1)) 0 0 (fun _ => False) := by
  refine Met.ofW (cc := cX6_person) (maxL := 3) (ret := (some .int)) (by decide) rfl ?_
  intro p e s m args below meth c s₁ B hml hv
  obtain ⟨rfl, hP, hK, hN⟩ := hv
  have hx := B.exec
  have hb := B.bytes
  have hr := B.returns
  have hts := atoms_spec (ws := wsX6_person) B.pre
  have hown : s.vm.findClass RX6 = some m.cls := findClass_of_methodNamed B.named
  have hlocks := B.notSynchronized
  have hl := lv_entry ([.ref (t 0), .int x, .int y]) (n := 3) (Nat.le_of_ble_eq_true rfl)
  rw [lg_entry_eq]
  generalize (lg_sl ([.ref (t 0), .int x, .int y]) ++ List.replicate (3 - (lg_sl ([.ref (t 0), .int x, .int y])).length) Slot.unset).toArray = ls at hl ⊢
  have hl : lv_has ls 3 [(0, .ref (t 0)), (1, .int x), (2, .int y)] := hl
  generalize ([.ref (t 0), .int x, .int y] : List Value).toArray = av at hts ⊢
  obtain ⟨Qc, hQc⟩ : ∃ Qc, Qc = (QcRead (-1)) := ⟨_, rfl⟩
  rw [← hQc]
  have f27 := hts (.fieldLink RX6 27 "KneesLent" "parish" "LKneesLent$Parish;") (by decide +kernel)
  have hiX6 : ∀ w ∈ u_ws RX6 TX6 12, w ∈ wsX6_person := by decide +kernel
  refine lv_aload_n hx hb dX6_person_0 rfl (lv_at hl 0 rfl) ?_
  refine va_get (D := D) (ci := 6) (v := .ref (a 0)) (C := RX6) (T := TX6) (N := 12) hx hb hts hiX6 hown hK hP 0 rfl rfl 3 (by decide) f27 (fun _ h9 => h9) rfl dX6_person_1 ?_
  refine lv_iload_n hx hb dX6_person_4 rfl (lv_at hl 1 rfl) ?_
  have hPc_5 := hP.sub (ws' := [((a 0), .inr (4, [.int (nI (g 0 0)), .ref (a 1), .ref (a 2), .ref (a 3), .int (nI (g 0 1)), .ref (a 4), .ref (a 5), .ref (a 6), .ref (a 7), .ref (a 8), .ref (a 9), .int (nI (g 0 2))])), ((a 1), .inl (cI, 9, .inl (fun j => nI ((g 1) j)))), ((a 2), .inl (cI, 9, .inl (fun j => nI ((g 2) j)))), ((a 3), .inl (cI, 9, .inl (fun j => nI ((g 3) j)))), ((a 4), .inl (cI, 6, .inl (fun j => nI ((g 4) j)))), ((a 5), .inl (cI, 6, .inl (fun j => nI ((g 5) j)))), ((a 6), .inl (cI, 6, .inl (fun j => nI ((g 6) j)))), ((a 7), .inl (cI, 5, .inl (fun j => nI ((g 7) j)))), ((a 8), .inl (cI, 5, .inl (fun j => nI ((g 8) j)))), ((a 9), .inl (cI, 5, .inl (fun j => ly_h ((g 9) j))))]) [1, 2, 3, 4, 5, 6, 7, 8, 9, 10] rfl
  refine ly_r (va_runV (As := [.int x]) (rest := []) ⟨hx, hb, hml, hown, hts⟩ (c_X4_hasPerson l D cI cC cZ cN a g x) (cwV 1 hts gX6_person_X4_hasPerson rfl rfl rfl (by decide +kernel) ⟨Nat.le_of_ble_eq_true rfl, Nat.le_of_ble_eq_true rfl⟩) (ly_pv hK hN hPc_5 0 4 rfl rfl rfl) rfl rfl hl.1 rfl (lv_room (Nat.le_of_ble_eq_true rfl)) dX6_person_5 ⟨Nat.zero_le _, Nat.zero_le _⟩) ?_
  refine lv_if_ne (tgt := 13) hx hb dX6_person_8 (by decide) (fun h_9 => absurd hb9 h_9) (fun _ => ?_)
  refine lv_iconst (v := (-1)) hx hb dX6_person_11 (by decide) ?_
  exact W.iret (v := (-1)) hx hb hr (fun t_9 ht_9 _ => by rw [hQc]; exact ⟨rfl, ht_9⟩) t_nil dX6_person_12

set_option maxHeartbeats 4000000 in
set_option maxRecDepth 100000 in
theorem c_X6_person_w (l : Launch) (D : va_G) (cI cC cZ cN : ClassId) (t a2 : Nat → Nat) (lt : Nat) (tr : Int64) (a : Nat → Nat) (g : Nat → Nat → Nat) (b : Nat → Nat) (d ho le : Nat → Nat) (q : Nat) (y : Int32) (hp9 : q < g 0 1) (hm6 : g 0 1 ≤ 6) (hw : y.toInt < 0 ∨ 5 < y.toInt) : Met l yX6_person wsX6_person (ly_rm 5) (ly_Pre D (ly_tys cI cC cZ cN) [((t 0), .inr (6, [.ref (t 1), .int (nI lt), .ref (t 2), .ref (a 0), .ref (a2 0), .ref (b 0), .ref (t 4), .ref (t 5), .ref (t 6), .ref (t 7), .ref (t 8), .long tr])), ((a 0), .inr (4, [.int (nI (g 0 0)), .ref (a 1), .ref (a 2), .ref (a 3), .int (nI (g 0 1)), .ref (a 4), .ref (a 5), .ref (a 6), .ref (a 7), .ref (a 8), .ref (a 9), .int (nI (g 0 2))])), ((a 1), .inl (cI, 9, .inl (fun j => nI ((g 1) j)))), ((a 2), .inl (cI, 9, .inl (fun j => nI ((g 2) j)))), ((a 3), .inl (cI, 9, .inl (fun j => nI ((g 3) j)))), ((a 4), .inl (cI, 6, .inl (fun j => nI ((g 4) j)))), ((a 5), .inl (cI, 6, .inl (fun j => nI ((g 5) j)))), ((a 6), .inl (cI, 6, .inl (fun j => nI ((g 6) j)))), ((a 7), .inl (cI, 5, .inl (fun j => nI ((g 7) j)))), ((a 8), .inl (cI, 5, .inl (fun j => nI ((g 8) j)))), ((a 9), .inl (cI, 5, .inl (fun j => ly_h ((g 9) j)))), ((b 0), .inr (3, [.int (nI (d 0)), .int (nI (d 1)), .int (nI (d 2)), .int (nI (d 3)), .int (nI (d 4)), .ref (b 1), .ref (b 2)])), ((b 1), .inl (cI, 9, .inl (fun j => ly_h (ho j)))), ((b 2), .inl (cI, 9, .inl (fun j => nI (le j))))] [.ref (t 0), .int (nI q), .int y]) (QcRead (-1)) 0 0 (fun _ => False) := by
  refine Met.ofW (cc := cX6_person) (maxL := 3) (ret := (some .int)) (by decide) rfl ?_
  intro p e s m args below meth c s₁ B hml hv
  obtain ⟨rfl, hP, hK, hN⟩ := hv
  have hx := B.exec
  have hb := B.bytes
  have hr := B.returns
  have hts := atoms_spec (ws := wsX6_person) B.pre
  have hown : s.vm.findClass RX6 = some m.cls := findClass_of_methodNamed B.named
  have hlocks := B.notSynchronized
  have hl := lv_entry ([.ref (t 0), .int (nI q), .int y]) (n := 3) (Nat.le_of_ble_eq_true rfl)
  rw [lg_entry_eq]
  generalize (lg_sl ([.ref (t 0), .int (nI q), .int y]) ++ List.replicate (3 - (lg_sl ([.ref (t 0), .int (nI q), .int y])).length) Slot.unset).toArray = ls at hl ⊢
  have hl : lv_has ls 3 [(0, .ref (t 0)), (1, .int (nI q)), (2, .int y)] := hl
  generalize ([.ref (t 0), .int (nI q), .int y] : List Value).toArray = av at hts ⊢
  obtain ⟨Qc, hQc⟩ : ∃ Qc, Qc = (QcRead (-1)) := ⟨_, rfl⟩
  rw [← hQc]
  have f27 := hts (.fieldLink RX6 27 "KneesLent" "parish" "LKneesLent$Parish;") (by decide +kernel)
  have hiX6 : ∀ w ∈ u_ws RX6 TX6 12, w ∈ wsX6_person := by decide +kernel
  refine lv_aload_n hx hb dX6_person_0 rfl (lv_at hl 0 rfl) ?_
  refine va_get (D := D) (ci := 6) (v := .ref (a 0)) (C := RX6) (T := TX6) (N := 12) hx hb hts hiX6 hown hK hP 0 rfl rfl 3 (by decide) f27 (fun _ h9 => h9) rfl dX6_person_1 ?_
  refine lv_iload_n hx hb dX6_person_4 rfl (lv_at hl 1 rfl) ?_
  have hPc_5 := hP.sub (ws' := [((a 0), .inr (4, [.int (nI (g 0 0)), .ref (a 1), .ref (a 2), .ref (a 3), .int (nI (g 0 1)), .ref (a 4), .ref (a 5), .ref (a 6), .ref (a 7), .ref (a 8), .ref (a 9), .int (nI (g 0 2))])), ((a 1), .inl (cI, 9, .inl (fun j => nI ((g 1) j)))), ((a 2), .inl (cI, 9, .inl (fun j => nI ((g 2) j)))), ((a 3), .inl (cI, 9, .inl (fun j => nI ((g 3) j)))), ((a 4), .inl (cI, 6, .inl (fun j => nI ((g 4) j)))), ((a 5), .inl (cI, 6, .inl (fun j => nI ((g 5) j)))), ((a 6), .inl (cI, 6, .inl (fun j => nI ((g 6) j)))), ((a 7), .inl (cI, 5, .inl (fun j => nI ((g 7) j)))), ((a 8), .inl (cI, 5, .inl (fun j => nI ((g 8) j)))), ((a 9), .inl (cI, 5, .inl (fun j => ly_h ((g 9) j))))]) [1, 2, 3, 4, 5, 6, 7, 8, 9, 10] rfl
  refine ly_r (va_runV (As := [.int (nI q)]) (rest := []) ⟨hx, hb, hml, hown, hts⟩ (c_X4_hasPerson l D cI cC cZ cN a g (nI q)) (cwV 1 hts gX6_person_X4_hasPerson rfl rfl rfl (by decide +kernel) ⟨Nat.le_of_ble_eq_true rfl, Nat.le_of_ble_eq_true rfl⟩) (ly_pv hK hN hPc_5 0 4 rfl rfl rfl) rfl rfl hl.1 rfl (lv_room (Nat.le_of_ble_eq_true rfl)) dX6_person_5 ⟨Nat.zero_le _, Nat.zero_le _⟩) ?_
  refine lv_if_ne (tgt := 13) hx hb dX6_person_8 (by decide) (fun _ => ?_) (fun h_9 => absurd h_9 (jin_ix hp9 (by omega)))
  refine lv_iload_n hx hb dX6_person_13 rfl (lv_at hl 2 rfl) ?_
  refine lv_tableOut (tgt := 110) hx hb dX6_person_14 hw (by decide) ?_
  refine lv_iconst (v := (-1)) hx hb dX6_person_110 (by decide) ?_
  exact W.iret (v := (-1)) hx hb hr (fun t_9 ht_9 _ => by rw [hQc]; exact ⟨rfl, ht_9⟩) t_nil dX6_person_111

set_option maxHeartbeats 4000000 in
set_option maxRecDepth 100000 in
theorem c_X6_person_0 (l : Launch) (D : va_G) (cI cC cZ cN : ClassId) (t a2 : Nat → Nat) (lt : Nat) (tr : Int64) (a : Nat → Nat) (g : Nat → Nat → Nat) (b : Nat → Nat) (d ho le : Nat → Nat) (q : Nat) (hp9 : q < g 0 1) (hm6 : g 0 1 ≤ 6) (hn : g 0 0 ≤ 9) : Met l yX6_person wsX6_person (ly_rm 5) (ly_Pre D (ly_tys cI cC cZ cN) [((t 0), .inr (6, [.ref (t 1), .int (nI lt), .ref (t 2), .ref (a 0), .ref (a2 0), .ref (b 0), .ref (t 4), .ref (t 5), .ref (t 6), .ref (t 7), .ref (t 8), .long tr])), ((a 0), .inr (4, [.int (nI (g 0 0)), .ref (a 1), .ref (a 2), .ref (a 3), .int (nI (g 0 1)), .ref (a 4), .ref (a 5), .ref (a 6), .ref (a 7), .ref (a 8), .ref (a 9), .int (nI (g 0 2))])), ((a 1), .inl (cI, 9, .inl (fun j => nI ((g 1) j)))), ((a 2), .inl (cI, 9, .inl (fun j => nI ((g 2) j)))), ((a 3), .inl (cI, 9, .inl (fun j => nI ((g 3) j)))), ((a 4), .inl (cI, 6, .inl (fun j => nI ((g 4) j)))), ((a 5), .inl (cI, 6, .inl (fun j => nI ((g 5) j)))), ((a 6), .inl (cI, 6, .inl (fun j => nI ((g 6) j)))), ((a 7), .inl (cI, 5, .inl (fun j => nI ((g 7) j)))), ((a 8), .inl (cI, 5, .inl (fun j => nI ((g 8) j)))), ((a 9), .inl (cI, 5, .inl (fun j => ly_h ((g 9) j)))), ((b 0), .inr (3, [.int (nI (d 0)), .int (nI (d 1)), .int (nI (d 2)), .int (nI (d 3)), .int (nI (d 4)), .ref (b 1), .ref (b 2)])), ((b 1), .inl (cI, 9, .inl (fun j => ly_h (ho j)))), ((b 2), .inl (cI, 9, .inl (fun j => nI (le j))))] [.ref (t 0), .int (nI q), .int (nI 0)]) (QcRead (nI (g 4 q))) 0 0 (fun _ => False) := by
  refine Met.ofW (cc := cX6_person) (maxL := 3) (ret := (some .int)) (by decide) rfl ?_
  intro p e s m args below meth c s₁ B hml hv
  obtain ⟨rfl, hP, hK, hN⟩ := hv
  have hx := B.exec
  have hb := B.bytes
  have hr := B.returns
  have hts := atoms_spec (ws := wsX6_person) B.pre
  have hown : s.vm.findClass RX6 = some m.cls := findClass_of_methodNamed B.named
  have hlocks := B.notSynchronized
  have hl := lv_entry ([.ref (t 0), .int (nI q), .int (nI 0)]) (n := 3) (Nat.le_of_ble_eq_true rfl)
  rw [lg_entry_eq]
  generalize (lg_sl ([.ref (t 0), .int (nI q), .int (nI 0)]) ++ List.replicate (3 - (lg_sl ([.ref (t 0), .int (nI q), .int (nI 0)])).length) Slot.unset).toArray = ls at hl ⊢
  have hl : lv_has ls 3 [(0, .ref (t 0)), (1, .int (nI q)), (2, .int (nI 0))] := hl
  generalize ([.ref (t 0), .int (nI q), .int (nI 0)] : List Value).toArray = av at hts ⊢
  obtain ⟨Qc, hQc⟩ : ∃ Qc, Qc = (QcRead (nI (g 4 q))) := ⟨_, rfl⟩
  rw [← hQc]
  have f27 := hts (.fieldLink RX6 27 "KneesLent" "parish" "LKneesLent$Parish;") (by decide +kernel)
  have f128 := hts (.fieldLink RX6 128 "KneesLent$Parish" "needs" "[I") (by decide +kernel)
  have hiX6 : ∀ w ∈ u_ws RX6 TX6 12, w ∈ wsX6_person := by decide +kernel
  have hiX4 : ∀ w ∈ u_ws RX4 TX4 12, w ∈ wsX6_person := by decide +kernel
  refine lv_aload_n hx hb dX6_person_0 rfl (lv_at hl 0 rfl) ?_
  refine va_get (D := D) (ci := 6) (v := .ref (a 0)) (C := RX6) (T := TX6) (N := 12) hx hb hts hiX6 hown hK hP 0 rfl rfl 3 (by decide) f27 (fun _ h9 => h9) rfl dX6_person_1 ?_
  refine lv_iload_n hx hb dX6_person_4 rfl (lv_at hl 1 rfl) ?_
  have hPc_5 := hP.sub (ws' := [((a 0), .inr (4, [.int (nI (g 0 0)), .ref (a 1), .ref (a 2), .ref (a 3), .int (nI (g 0 1)), .ref (a 4), .ref (a 5), .ref (a 6), .ref (a 7), .ref (a 8), .ref (a 9), .int (nI (g 0 2))])), ((a 1), .inl (cI, 9, .inl (fun j => nI ((g 1) j)))), ((a 2), .inl (cI, 9, .inl (fun j => nI ((g 2) j)))), ((a 3), .inl (cI, 9, .inl (fun j => nI ((g 3) j)))), ((a 4), .inl (cI, 6, .inl (fun j => nI ((g 4) j)))), ((a 5), .inl (cI, 6, .inl (fun j => nI ((g 5) j)))), ((a 6), .inl (cI, 6, .inl (fun j => nI ((g 6) j)))), ((a 7), .inl (cI, 5, .inl (fun j => nI ((g 7) j)))), ((a 8), .inl (cI, 5, .inl (fun j => nI ((g 8) j)))), ((a 9), .inl (cI, 5, .inl (fun j => ly_h ((g 9) j))))]) [1, 2, 3, 4, 5, 6, 7, 8, 9, 10] rfl
  refine ly_r (va_runV (As := [.int (nI q)]) (rest := []) ⟨hx, hb, hml, hown, hts⟩ (c_X4_hasPerson l D cI cC cZ cN a g (nI q)) (cwV 1 hts gX6_person_X4_hasPerson rfl rfl rfl (by decide +kernel) ⟨Nat.le_of_ble_eq_true rfl, Nat.le_of_ble_eq_true rfl⟩) (ly_pv hK hN hPc_5 0 4 rfl rfl rfl) rfl rfl hl.1 rfl (lv_room (Nat.le_of_ble_eq_true rfl)) dX6_person_5 ⟨Nat.zero_le _, Nat.zero_le _⟩) ?_
  refine lv_if_ne (tgt := 13) hx hb dX6_person_8 (by decide) (fun _ => ?_) (fun h_9 => absurd h_9 (jin_ix hp9 (by omega)))
  refine lv_iload_n hx hb dX6_person_13 rfl (lv_at hl 2 rfl) ?_
  refine lv_tableIn (off := 38) (tgt := 52) hx hb dX6_person_14 (by decide) (by decide) (by decide) (by decide) ?_
  refine lv_aload_n hx hb dX6_person_52 rfl (lv_at hl 0 rfl) ?_
  refine va_get (D := D) (ci := 6) (v := .ref (a 0)) (C := RX6) (T := TX6) (N := 12) hx hb hts hiX6 hown hK hP 0 rfl rfl 3 (by decide) f27 (fun _ h9 => h9) rfl dX6_person_53 ?_
  refine va_get (D := D) (ci := 4) (v := .ref (a 4)) (C := RX4) (T := TX4) (N := 12) hx hb hts hiX4 hown hK hP 1 rfl rfl 5 (by decide) f128 (fun _ h9 => h9) rfl dX6_person_56 ?_
  refine lv_iload_n hx hb dX6_person_59 rfl (lv_at hl 1 rfl) ?_
  refine ly_iald hx hb hK hP 5 0 rfl rfl (k := q) (by decide) rfl (by omega) dX6_person_60 ?_
  exact W.iret (v := (nI ((g 4) q))) hx hb hr (fun t_9 ht_9 _ => by rw [hQc]; exact ⟨rfl, ht_9⟩) t_nil dX6_person_61

set_option maxHeartbeats 4000000 in
set_option maxRecDepth 100000 in
theorem c_X6_person_1 (l : Launch) (D : va_G) (cI cC cZ cN : ClassId) (t a2 : Nat → Nat) (lt : Nat) (tr : Int64) (a : Nat → Nat) (g : Nat → Nat → Nat) (b : Nat → Nat) (d ho le : Nat → Nat) (q : Nat) (hp9 : q < g 0 1) (hm6 : g 0 1 ≤ 6) (hn : g 0 0 ≤ 9) : Met l yX6_person wsX6_person (ly_rm 5) (ly_Pre D (ly_tys cI cC cZ cN) [((t 0), .inr (6, [.ref (t 1), .int (nI lt), .ref (t 2), .ref (a 0), .ref (a2 0), .ref (b 0), .ref (t 4), .ref (t 5), .ref (t 6), .ref (t 7), .ref (t 8), .long tr])), ((a 0), .inr (4, [.int (nI (g 0 0)), .ref (a 1), .ref (a 2), .ref (a 3), .int (nI (g 0 1)), .ref (a 4), .ref (a 5), .ref (a 6), .ref (a 7), .ref (a 8), .ref (a 9), .int (nI (g 0 2))])), ((a 1), .inl (cI, 9, .inl (fun j => nI ((g 1) j)))), ((a 2), .inl (cI, 9, .inl (fun j => nI ((g 2) j)))), ((a 3), .inl (cI, 9, .inl (fun j => nI ((g 3) j)))), ((a 4), .inl (cI, 6, .inl (fun j => nI ((g 4) j)))), ((a 5), .inl (cI, 6, .inl (fun j => nI ((g 5) j)))), ((a 6), .inl (cI, 6, .inl (fun j => nI ((g 6) j)))), ((a 7), .inl (cI, 5, .inl (fun j => nI ((g 7) j)))), ((a 8), .inl (cI, 5, .inl (fun j => nI ((g 8) j)))), ((a 9), .inl (cI, 5, .inl (fun j => ly_h ((g 9) j)))), ((b 0), .inr (3, [.int (nI (d 0)), .int (nI (d 1)), .int (nI (d 2)), .int (nI (d 3)), .int (nI (d 4)), .ref (b 1), .ref (b 2)])), ((b 1), .inl (cI, 9, .inl (fun j => ly_h (ho j)))), ((b 2), .inl (cI, 9, .inl (fun j => nI (le j))))] [.ref (t 0), .int (nI q), .int (nI 1)]) (QcRead (nI (g 5 q))) 0 0 (fun _ => False) := by
  refine Met.ofW (cc := cX6_person) (maxL := 3) (ret := (some .int)) (by decide) rfl ?_
  intro p e s m args below meth c s₁ B hml hv
  obtain ⟨rfl, hP, hK, hN⟩ := hv
  have hx := B.exec
  have hb := B.bytes
  have hr := B.returns
  have hts := atoms_spec (ws := wsX6_person) B.pre
  have hown : s.vm.findClass RX6 = some m.cls := findClass_of_methodNamed B.named
  have hlocks := B.notSynchronized
  have hl := lv_entry ([.ref (t 0), .int (nI q), .int (nI 1)]) (n := 3) (Nat.le_of_ble_eq_true rfl)
  rw [lg_entry_eq]
  generalize (lg_sl ([.ref (t 0), .int (nI q), .int (nI 1)]) ++ List.replicate (3 - (lg_sl ([.ref (t 0), .int (nI q), .int (nI 1)])).length) Slot.unset).toArray = ls at hl ⊢
  have hl : lv_has ls 3 [(0, .ref (t 0)), (1, .int (nI q)), (2, .int (nI 1))] := hl
  generalize ([.ref (t 0), .int (nI q), .int (nI 1)] : List Value).toArray = av at hts ⊢
  obtain ⟨Qc, hQc⟩ : ∃ Qc, Qc = (QcRead (nI (g 5 q))) := ⟨_, rfl⟩
  rw [← hQc]
  have f27 := hts (.fieldLink RX6 27 "KneesLent" "parish" "LKneesLent$Parish;") (by decide +kernel)
  have f131 := hts (.fieldLink RX6 131 "KneesLent$Parish" "up" "[I") (by decide +kernel)
  have hiX6 : ∀ w ∈ u_ws RX6 TX6 12, w ∈ wsX6_person := by decide +kernel
  have hiX4 : ∀ w ∈ u_ws RX4 TX4 12, w ∈ wsX6_person := by decide +kernel
  refine lv_aload_n hx hb dX6_person_0 rfl (lv_at hl 0 rfl) ?_
  refine va_get (D := D) (ci := 6) (v := .ref (a 0)) (C := RX6) (T := TX6) (N := 12) hx hb hts hiX6 hown hK hP 0 rfl rfl 3 (by decide) f27 (fun _ h9 => h9) rfl dX6_person_1 ?_
  refine lv_iload_n hx hb dX6_person_4 rfl (lv_at hl 1 rfl) ?_
  have hPc_5 := hP.sub (ws' := [((a 0), .inr (4, [.int (nI (g 0 0)), .ref (a 1), .ref (a 2), .ref (a 3), .int (nI (g 0 1)), .ref (a 4), .ref (a 5), .ref (a 6), .ref (a 7), .ref (a 8), .ref (a 9), .int (nI (g 0 2))])), ((a 1), .inl (cI, 9, .inl (fun j => nI ((g 1) j)))), ((a 2), .inl (cI, 9, .inl (fun j => nI ((g 2) j)))), ((a 3), .inl (cI, 9, .inl (fun j => nI ((g 3) j)))), ((a 4), .inl (cI, 6, .inl (fun j => nI ((g 4) j)))), ((a 5), .inl (cI, 6, .inl (fun j => nI ((g 5) j)))), ((a 6), .inl (cI, 6, .inl (fun j => nI ((g 6) j)))), ((a 7), .inl (cI, 5, .inl (fun j => nI ((g 7) j)))), ((a 8), .inl (cI, 5, .inl (fun j => nI ((g 8) j)))), ((a 9), .inl (cI, 5, .inl (fun j => ly_h ((g 9) j))))]) [1, 2, 3, 4, 5, 6, 7, 8, 9, 10] rfl
  refine ly_r (va_runV (As := [.int (nI q)]) (rest := []) ⟨hx, hb, hml, hown, hts⟩ (c_X4_hasPerson l D cI cC cZ cN a g (nI q)) (cwV 1 hts gX6_person_X4_hasPerson rfl rfl rfl (by decide +kernel) ⟨Nat.le_of_ble_eq_true rfl, Nat.le_of_ble_eq_true rfl⟩) (ly_pv hK hN hPc_5 0 4 rfl rfl rfl) rfl rfl hl.1 rfl (lv_room (Nat.le_of_ble_eq_true rfl)) dX6_person_5 ⟨Nat.zero_le _, Nat.zero_le _⟩) ?_
  refine lv_if_ne (tgt := 13) hx hb dX6_person_8 (by decide) (fun _ => ?_) (fun h_9 => absurd h_9 (jin_ix hp9 (by omega)))
  refine lv_iload_n hx hb dX6_person_13 rfl (lv_at hl 2 rfl) ?_
  refine lv_tableIn (off := 48) (tgt := 62) hx hb dX6_person_14 (by decide) (by decide) (by decide) (by decide) ?_
  refine lv_aload_n hx hb dX6_person_62 rfl (lv_at hl 0 rfl) ?_
  refine va_get (D := D) (ci := 6) (v := .ref (a 0)) (C := RX6) (T := TX6) (N := 12) hx hb hts hiX6 hown hK hP 0 rfl rfl 3 (by decide) f27 (fun _ h9 => h9) rfl dX6_person_63 ?_
  refine va_get (D := D) (ci := 4) (v := .ref (a 5)) (C := RX4) (T := TX4) (N := 12) hx hb hts hiX4 hown hK hP 1 rfl rfl 6 (by decide) f131 (fun _ h9 => h9) rfl dX6_person_66 ?_
  refine lv_iload_n hx hb dX6_person_69 rfl (lv_at hl 1 rfl) ?_
  refine ly_iald hx hb hK hP 6 0 rfl rfl (k := q) (by decide) rfl (by omega) dX6_person_70 ?_
  exact W.iret (v := (nI ((g 5) q))) hx hb hr (fun t_9 ht_9 _ => by rw [hQc]; exact ⟨rfl, ht_9⟩) t_nil dX6_person_71

set_option maxHeartbeats 4000000 in
set_option maxRecDepth 100000 in
theorem c_X6_person_2 (l : Launch) (D : va_G) (cI cC cZ cN : ClassId) (t a2 : Nat → Nat) (lt : Nat) (tr : Int64) (a : Nat → Nat) (g : Nat → Nat → Nat) (b : Nat → Nat) (d ho le : Nat → Nat) (q : Nat) (hp9 : q < g 0 1) (hm6 : g 0 1 ≤ 6) (hn : g 0 0 ≤ 9) : Met l yX6_person wsX6_person (ly_rm 5) (ly_Pre D (ly_tys cI cC cZ cN) [((t 0), .inr (6, [.ref (t 1), .int (nI lt), .ref (t 2), .ref (a 0), .ref (a2 0), .ref (b 0), .ref (t 4), .ref (t 5), .ref (t 6), .ref (t 7), .ref (t 8), .long tr])), ((a 0), .inr (4, [.int (nI (g 0 0)), .ref (a 1), .ref (a 2), .ref (a 3), .int (nI (g 0 1)), .ref (a 4), .ref (a 5), .ref (a 6), .ref (a 7), .ref (a 8), .ref (a 9), .int (nI (g 0 2))])), ((a 1), .inl (cI, 9, .inl (fun j => nI ((g 1) j)))), ((a 2), .inl (cI, 9, .inl (fun j => nI ((g 2) j)))), ((a 3), .inl (cI, 9, .inl (fun j => nI ((g 3) j)))), ((a 4), .inl (cI, 6, .inl (fun j => nI ((g 4) j)))), ((a 5), .inl (cI, 6, .inl (fun j => nI ((g 5) j)))), ((a 6), .inl (cI, 6, .inl (fun j => nI ((g 6) j)))), ((a 7), .inl (cI, 5, .inl (fun j => nI ((g 7) j)))), ((a 8), .inl (cI, 5, .inl (fun j => nI ((g 8) j)))), ((a 9), .inl (cI, 5, .inl (fun j => ly_h ((g 9) j)))), ((b 0), .inr (3, [.int (nI (d 0)), .int (nI (d 1)), .int (nI (d 2)), .int (nI (d 3)), .int (nI (d 4)), .ref (b 1), .ref (b 2)])), ((b 1), .inl (cI, 9, .inl (fun j => ly_h (ho j)))), ((b 2), .inl (cI, 9, .inl (fun j => nI (le j))))] [.ref (t 0), .int (nI q), .int (nI 2)]) (QcRead (nI (g 6 q))) 0 0 (fun _ => False) := by
  refine Met.ofW (cc := cX6_person) (maxL := 3) (ret := (some .int)) (by decide) rfl ?_
  intro p e s m args below meth c s₁ B hml hv
  obtain ⟨rfl, hP, hK, hN⟩ := hv
  have hx := B.exec
  have hb := B.bytes
  have hr := B.returns
  have hts := atoms_spec (ws := wsX6_person) B.pre
  have hown : s.vm.findClass RX6 = some m.cls := findClass_of_methodNamed B.named
  have hlocks := B.notSynchronized
  have hl := lv_entry ([.ref (t 0), .int (nI q), .int (nI 2)]) (n := 3) (Nat.le_of_ble_eq_true rfl)
  rw [lg_entry_eq]
  generalize (lg_sl ([.ref (t 0), .int (nI q), .int (nI 2)]) ++ List.replicate (3 - (lg_sl ([.ref (t 0), .int (nI q), .int (nI 2)])).length) Slot.unset).toArray = ls at hl ⊢
  have hl : lv_has ls 3 [(0, .ref (t 0)), (1, .int (nI q)), (2, .int (nI 2))] := hl
  generalize ([.ref (t 0), .int (nI q), .int (nI 2)] : List Value).toArray = av at hts ⊢
  obtain ⟨Qc, hQc⟩ : ∃ Qc, Qc = (QcRead (nI (g 6 q))) := ⟨_, rfl⟩
  rw [← hQc]
  have f27 := hts (.fieldLink RX6 27 "KneesLent" "parish" "LKneesLent$Parish;") (by decide +kernel)
  have f134 := hts (.fieldLink RX6 134 "KneesLent$Parish" "down" "[I") (by decide +kernel)
  have hiX6 : ∀ w ∈ u_ws RX6 TX6 12, w ∈ wsX6_person := by decide +kernel
  have hiX4 : ∀ w ∈ u_ws RX4 TX4 12, w ∈ wsX6_person := by decide +kernel
  refine lv_aload_n hx hb dX6_person_0 rfl (lv_at hl 0 rfl) ?_
  refine va_get (D := D) (ci := 6) (v := .ref (a 0)) (C := RX6) (T := TX6) (N := 12) hx hb hts hiX6 hown hK hP 0 rfl rfl 3 (by decide) f27 (fun _ h9 => h9) rfl dX6_person_1 ?_
  refine lv_iload_n hx hb dX6_person_4 rfl (lv_at hl 1 rfl) ?_
  have hPc_5 := hP.sub (ws' := [((a 0), .inr (4, [.int (nI (g 0 0)), .ref (a 1), .ref (a 2), .ref (a 3), .int (nI (g 0 1)), .ref (a 4), .ref (a 5), .ref (a 6), .ref (a 7), .ref (a 8), .ref (a 9), .int (nI (g 0 2))])), ((a 1), .inl (cI, 9, .inl (fun j => nI ((g 1) j)))), ((a 2), .inl (cI, 9, .inl (fun j => nI ((g 2) j)))), ((a 3), .inl (cI, 9, .inl (fun j => nI ((g 3) j)))), ((a 4), .inl (cI, 6, .inl (fun j => nI ((g 4) j)))), ((a 5), .inl (cI, 6, .inl (fun j => nI ((g 5) j)))), ((a 6), .inl (cI, 6, .inl (fun j => nI ((g 6) j)))), ((a 7), .inl (cI, 5, .inl (fun j => nI ((g 7) j)))), ((a 8), .inl (cI, 5, .inl (fun j => nI ((g 8) j)))), ((a 9), .inl (cI, 5, .inl (fun j => ly_h ((g 9) j))))]) [1, 2, 3, 4, 5, 6, 7, 8, 9, 10] rfl
  refine ly_r (va_runV (As := [.int (nI q)]) (rest := []) ⟨hx, hb, hml, hown, hts⟩ (c_X4_hasPerson l D cI cC cZ cN a g (nI q)) (cwV 1 hts gX6_person_X4_hasPerson rfl rfl rfl (by decide +kernel) ⟨Nat.le_of_ble_eq_true rfl, Nat.le_of_ble_eq_true rfl⟩) (ly_pv hK hN hPc_5 0 4 rfl rfl rfl) rfl rfl hl.1 rfl (lv_room (Nat.le_of_ble_eq_true rfl)) dX6_person_5 ⟨Nat.zero_le _, Nat.zero_le _⟩) ?_
  refine lv_if_ne (tgt := 13) hx hb dX6_person_8 (by decide) (fun _ => ?_) (fun h_9 => absurd h_9 (jin_ix hp9 (by omega)))
  refine lv_iload_n hx hb dX6_person_13 rfl (lv_at hl 2 rfl) ?_
  refine lv_tableIn (off := 58) (tgt := 72) hx hb dX6_person_14 (by decide) (by decide) (by decide) (by decide) ?_
  refine lv_aload_n hx hb dX6_person_72 rfl (lv_at hl 0 rfl) ?_
  refine va_get (D := D) (ci := 6) (v := .ref (a 0)) (C := RX6) (T := TX6) (N := 12) hx hb hts hiX6 hown hK hP 0 rfl rfl 3 (by decide) f27 (fun _ h9 => h9) rfl dX6_person_73 ?_
  refine va_get (D := D) (ci := 4) (v := .ref (a 6)) (C := RX4) (T := TX4) (N := 12) hx hb hts hiX4 hown hK hP 1 rfl rfl 7 (by decide) f134 (fun _ h9 => h9) rfl dX6_person_76 ?_
  refine lv_iload_n hx hb dX6_person_79 rfl (lv_at hl 1 rfl) ?_
  refine ly_iald hx hb hK hP 7 0 rfl rfl (k := q) (by decide) rfl (by omega) dX6_person_80 ?_
  exact W.iret (v := (nI ((g 6) q))) hx hb hr (fun t_9 ht_9 _ => by rw [hQc]; exact ⟨rfl, ht_9⟩) t_nil dX6_person_81

set_option maxHeartbeats 4000000 in
set_option maxRecDepth 100000 in
theorem c_X6_person_3 (l : Launch) (D : va_G) (cI cC cZ cN : ClassId) (t a2 : Nat → Nat) (lt : Nat) (tr : Int64) (a : Nat → Nat) (g : Nat → Nat → Nat) (b : Nat → Nat) (d ho le : Nat → Nat) (q : Nat) (hp9 : q < g 0 1) (hm6 : g 0 1 ≤ 6) (hn : g 0 0 ≤ 9) : Met l yX6_person wsX6_person (ly_rm 5) (ly_Pre D (ly_tys cI cC cZ cN) [((t 0), .inr (6, [.ref (t 1), .int (nI lt), .ref (t 2), .ref (a 0), .ref (a2 0), .ref (b 0), .ref (t 4), .ref (t 5), .ref (t 6), .ref (t 7), .ref (t 8), .long tr])), ((a 0), .inr (4, [.int (nI (g 0 0)), .ref (a 1), .ref (a 2), .ref (a 3), .int (nI (g 0 1)), .ref (a 4), .ref (a 5), .ref (a 6), .ref (a 7), .ref (a 8), .ref (a 9), .int (nI (g 0 2))])), ((a 1), .inl (cI, 9, .inl (fun j => nI ((g 1) j)))), ((a 2), .inl (cI, 9, .inl (fun j => nI ((g 2) j)))), ((a 3), .inl (cI, 9, .inl (fun j => nI ((g 3) j)))), ((a 4), .inl (cI, 6, .inl (fun j => nI ((g 4) j)))), ((a 5), .inl (cI, 6, .inl (fun j => nI ((g 5) j)))), ((a 6), .inl (cI, 6, .inl (fun j => nI ((g 6) j)))), ((a 7), .inl (cI, 5, .inl (fun j => nI ((g 7) j)))), ((a 8), .inl (cI, 5, .inl (fun j => nI ((g 8) j)))), ((a 9), .inl (cI, 5, .inl (fun j => ly_h ((g 9) j)))), ((b 0), .inr (3, [.int (nI (d 0)), .int (nI (d 1)), .int (nI (d 2)), .int (nI (d 3)), .int (nI (d 4)), .ref (b 1), .ref (b 2)])), ((b 1), .inl (cI, 9, .inl (fun j => ly_h (ho j)))), ((b 2), .inl (cI, 9, .inl (fun j => nI (le j))))] [.ref (t 0), .int (nI q), .int (nI 3)]) (QcRead (s_held g ho q 0 (g 0 0) 0)) 0 0 (fun _ => False) := by
  refine Met.ofW (cc := cX6_person) (maxL := 3) (ret := (some .int)) (by decide) rfl ?_
  intro p e s m args below meth c s₁ B hml hv
  obtain ⟨rfl, hP, hK, hN⟩ := hv
  have hx := B.exec
  have hb := B.bytes
  have hr := B.returns
  have hts := atoms_spec (ws := wsX6_person) B.pre
  have hown : s.vm.findClass RX6 = some m.cls := findClass_of_methodNamed B.named
  have hlocks := B.notSynchronized
  have hl := lv_entry ([.ref (t 0), .int (nI q), .int (nI 3)]) (n := 3) (Nat.le_of_ble_eq_true rfl)
  rw [lg_entry_eq]
  generalize (lg_sl ([.ref (t 0), .int (nI q), .int (nI 3)]) ++ List.replicate (3 - (lg_sl ([.ref (t 0), .int (nI q), .int (nI 3)])).length) Slot.unset).toArray = ls at hl ⊢
  have hl : lv_has ls 3 [(0, .ref (t 0)), (1, .int (nI q)), (2, .int (nI 3))] := hl
  generalize ([.ref (t 0), .int (nI q), .int (nI 3)] : List Value).toArray = av at hts ⊢
  obtain ⟨Qc, hQc⟩ : ∃ Qc, Qc = (QcRead (s_held g ho q 0 (g 0 0) 0)) := ⟨_, rfl⟩
  rw [← hQc]
  have f27 := hts (.fieldLink RX6 27 "KneesLent" "parish" "LKneesLent$Parish;") (by decide +kernel)
  have hiX6 : ∀ w ∈ u_ws RX6 TX6 12, w ∈ wsX6_person := by decide +kernel
  refine lv_aload_n hx hb dX6_person_0 rfl (lv_at hl 0 rfl) ?_
  refine va_get (D := D) (ci := 6) (v := .ref (a 0)) (C := RX6) (T := TX6) (N := 12) hx hb hts hiX6 hown hK hP 0 rfl rfl 3 (by decide) f27 (fun _ h9 => h9) rfl dX6_person_1 ?_
  refine lv_iload_n hx hb dX6_person_4 rfl (lv_at hl 1 rfl) ?_
  have hPc_5 := hP.sub (ws' := [((a 0), .inr (4, [.int (nI (g 0 0)), .ref (a 1), .ref (a 2), .ref (a 3), .int (nI (g 0 1)), .ref (a 4), .ref (a 5), .ref (a 6), .ref (a 7), .ref (a 8), .ref (a 9), .int (nI (g 0 2))])), ((a 1), .inl (cI, 9, .inl (fun j => nI ((g 1) j)))), ((a 2), .inl (cI, 9, .inl (fun j => nI ((g 2) j)))), ((a 3), .inl (cI, 9, .inl (fun j => nI ((g 3) j)))), ((a 4), .inl (cI, 6, .inl (fun j => nI ((g 4) j)))), ((a 5), .inl (cI, 6, .inl (fun j => nI ((g 5) j)))), ((a 6), .inl (cI, 6, .inl (fun j => nI ((g 6) j)))), ((a 7), .inl (cI, 5, .inl (fun j => nI ((g 7) j)))), ((a 8), .inl (cI, 5, .inl (fun j => nI ((g 8) j)))), ((a 9), .inl (cI, 5, .inl (fun j => ly_h ((g 9) j))))]) [1, 2, 3, 4, 5, 6, 7, 8, 9, 10] rfl
  refine ly_r (va_runV (As := [.int (nI q)]) (rest := []) ⟨hx, hb, hml, hown, hts⟩ (c_X4_hasPerson l D cI cC cZ cN a g (nI q)) (cwV 1 hts gX6_person_X4_hasPerson rfl rfl rfl (by decide +kernel) ⟨Nat.le_of_ble_eq_true rfl, Nat.le_of_ble_eq_true rfl⟩) (ly_pv hK hN hPc_5 0 4 rfl rfl rfl) rfl rfl hl.1 rfl (lv_room (Nat.le_of_ble_eq_true rfl)) dX6_person_5 ⟨Nat.zero_le _, Nat.zero_le _⟩) ?_
  refine lv_if_ne (tgt := 13) hx hb dX6_person_8 (by decide) (fun _ => ?_) (fun h_9 => absurd h_9 (jin_ix hp9 (by omega)))
  refine lv_iload_n hx hb dX6_person_13 rfl (lv_at hl 2 rfl) ?_
  refine lv_tableIn (off := 68) (tgt := 82) hx hb dX6_person_14 (by decide) (by decide) (by decide) (by decide) ?_
  refine lv_aload_n hx hb dX6_person_82 rfl (lv_at hl 0 rfl) ?_
  refine lv_iload_n hx hb dX6_person_83 rfl (lv_at hl 1 rfl) ?_
  refine lv_iconst (v := 0) hx hb dX6_person_84 (by decide) ?_
  have hPc_85 := hP.sub (ws' := [((t 0), .inr (6, [.ref (t 1), .int (nI lt), .ref (t 2), .ref (a 0), .ref (a2 0), .ref (b 0), .ref (t 4), .ref (t 5), .ref (t 6), .ref (t 7), .ref (t 8), .long tr])), ((a 0), .inr (4, [.int (nI (g 0 0)), .ref (a 1), .ref (a 2), .ref (a 3), .int (nI (g 0 1)), .ref (a 4), .ref (a 5), .ref (a 6), .ref (a 7), .ref (a 8), .ref (a 9), .int (nI (g 0 2))])), ((a 1), .inl (cI, 9, .inl (fun j => nI ((g 1) j)))), ((a 2), .inl (cI, 9, .inl (fun j => nI ((g 2) j)))), ((a 3), .inl (cI, 9, .inl (fun j => nI ((g 3) j)))), ((a 4), .inl (cI, 6, .inl (fun j => nI ((g 4) j)))), ((a 5), .inl (cI, 6, .inl (fun j => nI ((g 5) j)))), ((a 6), .inl (cI, 6, .inl (fun j => nI ((g 6) j)))), ((a 7), .inl (cI, 5, .inl (fun j => nI ((g 7) j)))), ((a 8), .inl (cI, 5, .inl (fun j => nI ((g 8) j)))), ((a 9), .inl (cI, 5, .inl (fun j => ly_h ((g 9) j)))), ((b 0), .inr (3, [.int (nI (d 0)), .int (nI (d 1)), .int (nI (d 2)), .int (nI (d 3)), .int (nI (d 4)), .ref (b 1), .ref (b 2)])), ((b 1), .inl (cI, 9, .inl (fun j => ly_h (ho j)))), ((b 2), .inl (cI, 9, .inl (fun j => nI (le j))))]) [0, 1, 2, 3, 4, 5, 6, 7, 8, 9, 10, 11, 12, 13] rfl
  refine ly_r (va_runV (As := [.int (nI q), .int 0]) (rest := []) ⟨hx, hb, hml, hown, hts⟩ (c_X6_kneeHeld l D cI cC cZ cN t a2 lt tr a g b d ho le q 0 hn) (cwV 2 hts gX6_person_X6_kneeHeld rfl rfl rfl (by decide +kernel) ⟨Nat.le_of_ble_eq_true rfl, Nat.le_of_ble_eq_true rfl⟩) (ly_pv hK hN hPc_85 0 6 rfl rfl rfl) rfl rfl hl.1 rfl (lv_room (Nat.le_of_ble_eq_true rfl)) dX6_person_85 ⟨Nat.zero_le _, Nat.zero_le _⟩) ?_
  exact W.iret (v := (s_held g ho q 0 (g 0 0) 0)) hx hb hr (fun t_9 ht_9 _ => by rw [hQc]; exact ⟨rfl, ht_9⟩) t_nil dX6_person_88

set_option maxHeartbeats 4000000 in
set_option maxRecDepth 100000 in
theorem c_X6_person_4 (l : Launch) (D : va_G) (cI cC cZ cN : ClassId) (t a2 : Nat → Nat) (lt : Nat) (tr : Int64) (a : Nat → Nat) (g : Nat → Nat → Nat) (b : Nat → Nat) (d ho le : Nat → Nat) (q : Nat) (hp9 : q < g 0 1) (hm6 : g 0 1 ≤ 6) (hn : g 0 0 ≤ 9) : Met l yX6_person wsX6_person (ly_rm 5) (ly_Pre D (ly_tys cI cC cZ cN) [((t 0), .inr (6, [.ref (t 1), .int (nI lt), .ref (t 2), .ref (a 0), .ref (a2 0), .ref (b 0), .ref (t 4), .ref (t 5), .ref (t 6), .ref (t 7), .ref (t 8), .long tr])), ((a 0), .inr (4, [.int (nI (g 0 0)), .ref (a 1), .ref (a 2), .ref (a 3), .int (nI (g 0 1)), .ref (a 4), .ref (a 5), .ref (a 6), .ref (a 7), .ref (a 8), .ref (a 9), .int (nI (g 0 2))])), ((a 1), .inl (cI, 9, .inl (fun j => nI ((g 1) j)))), ((a 2), .inl (cI, 9, .inl (fun j => nI ((g 2) j)))), ((a 3), .inl (cI, 9, .inl (fun j => nI ((g 3) j)))), ((a 4), .inl (cI, 6, .inl (fun j => nI ((g 4) j)))), ((a 5), .inl (cI, 6, .inl (fun j => nI ((g 5) j)))), ((a 6), .inl (cI, 6, .inl (fun j => nI ((g 6) j)))), ((a 7), .inl (cI, 5, .inl (fun j => nI ((g 7) j)))), ((a 8), .inl (cI, 5, .inl (fun j => nI ((g 8) j)))), ((a 9), .inl (cI, 5, .inl (fun j => ly_h ((g 9) j)))), ((b 0), .inr (3, [.int (nI (d 0)), .int (nI (d 1)), .int (nI (d 2)), .int (nI (d 3)), .int (nI (d 4)), .ref (b 1), .ref (b 2)])), ((b 1), .inl (cI, 9, .inl (fun j => ly_h (ho j)))), ((b 2), .inl (cI, 9, .inl (fun j => nI (le j))))] [.ref (t 0), .int (nI q), .int (nI 4)]) (QcRead (s_held g ho q 1 (g 0 0) 0)) 0 0 (fun _ => False) := by
  refine Met.ofW (cc := cX6_person) (maxL := 3) (ret := (some .int)) (by decide) rfl ?_
  intro p e s m args below meth c s₁ B hml hv
  obtain ⟨rfl, hP, hK, hN⟩ := hv
  have hx := B.exec
  have hb := B.bytes
  have hr := B.returns
  have hts := atoms_spec (ws := wsX6_person) B.pre
  have hown : s.vm.findClass RX6 = some m.cls := findClass_of_methodNamed B.named
  have hlocks := B.notSynchronized
  have hl := lv_entry ([.ref (t 0), .int (nI q), .int (nI 4)]) (n := 3) (Nat.le_of_ble_eq_true rfl)
  rw [lg_entry_eq]
  generalize (lg_sl ([.ref (t 0), .int (nI q), .int (nI 4)]) ++ List.replicate (3 - (lg_sl ([.ref (t 0), .int (nI q), .int (nI 4)])).length) Slot.unset).toArray = ls at hl ⊢
  have hl : lv_has ls 3 [(0, .ref (t 0)), (1, .int (nI q)), (2, .int (nI 4))] := hl
  generalize ([.ref (t 0), .int (nI q), .int (nI 4)] : List Value).toArray = av at hts ⊢
  obtain ⟨Qc, hQc⟩ : ∃ Qc, Qc = (QcRead (s_held g ho q 1 (g 0 0) 0)) := ⟨_, rfl⟩
  rw [← hQc]
  have f27 := hts (.fieldLink RX6 27 "KneesLent" "parish" "LKneesLent$Parish;") (by decide +kernel)
  have hiX6 : ∀ w ∈ u_ws RX6 TX6 12, w ∈ wsX6_person := by decide +kernel
  refine lv_aload_n hx hb dX6_person_0 rfl (lv_at hl 0 rfl) ?_
  refine va_get (D := D) (ci := 6) (v := .ref (a 0)) (C := RX6) (T := TX6) (N := 12) hx hb hts hiX6 hown hK hP 0 rfl rfl 3 (by decide) f27 (fun _ h9 => h9) rfl dX6_person_1 ?_
  refine lv_iload_n hx hb dX6_person_4 rfl (lv_at hl 1 rfl) ?_
  have hPc_5 := hP.sub (ws' := [((a 0), .inr (4, [.int (nI (g 0 0)), .ref (a 1), .ref (a 2), .ref (a 3), .int (nI (g 0 1)), .ref (a 4), .ref (a 5), .ref (a 6), .ref (a 7), .ref (a 8), .ref (a 9), .int (nI (g 0 2))])), ((a 1), .inl (cI, 9, .inl (fun j => nI ((g 1) j)))), ((a 2), .inl (cI, 9, .inl (fun j => nI ((g 2) j)))), ((a 3), .inl (cI, 9, .inl (fun j => nI ((g 3) j)))), ((a 4), .inl (cI, 6, .inl (fun j => nI ((g 4) j)))), ((a 5), .inl (cI, 6, .inl (fun j => nI ((g 5) j)))), ((a 6), .inl (cI, 6, .inl (fun j => nI ((g 6) j)))), ((a 7), .inl (cI, 5, .inl (fun j => nI ((g 7) j)))), ((a 8), .inl (cI, 5, .inl (fun j => nI ((g 8) j)))), ((a 9), .inl (cI, 5, .inl (fun j => ly_h ((g 9) j))))]) [1, 2, 3, 4, 5, 6, 7, 8, 9, 10] rfl
  refine ly_r (va_runV (As := [.int (nI q)]) (rest := []) ⟨hx, hb, hml, hown, hts⟩ (c_X4_hasPerson l D cI cC cZ cN a g (nI q)) (cwV 1 hts gX6_person_X4_hasPerson rfl rfl rfl (by decide +kernel) ⟨Nat.le_of_ble_eq_true rfl, Nat.le_of_ble_eq_true rfl⟩) (ly_pv hK hN hPc_5 0 4 rfl rfl rfl) rfl rfl hl.1 rfl (lv_room (Nat.le_of_ble_eq_true rfl)) dX6_person_5 ⟨Nat.zero_le _, Nat.zero_le _⟩) ?_
  refine lv_if_ne (tgt := 13) hx hb dX6_person_8 (by decide) (fun _ => ?_) (fun h_9 => absurd h_9 (jin_ix hp9 (by omega)))
  refine lv_iload_n hx hb dX6_person_13 rfl (lv_at hl 2 rfl) ?_
  refine lv_tableIn (off := 75) (tgt := 89) hx hb dX6_person_14 (by decide) (by decide) (by decide) (by decide) ?_
  refine lv_aload_n hx hb dX6_person_89 rfl (lv_at hl 0 rfl) ?_
  refine lv_iload_n hx hb dX6_person_90 rfl (lv_at hl 1 rfl) ?_
  refine lv_iconst (v := 1) hx hb dX6_person_91 (by decide) ?_
  have hPc_92 := hP.sub (ws' := [((t 0), .inr (6, [.ref (t 1), .int (nI lt), .ref (t 2), .ref (a 0), .ref (a2 0), .ref (b 0), .ref (t 4), .ref (t 5), .ref (t 6), .ref (t 7), .ref (t 8), .long tr])), ((a 0), .inr (4, [.int (nI (g 0 0)), .ref (a 1), .ref (a 2), .ref (a 3), .int (nI (g 0 1)), .ref (a 4), .ref (a 5), .ref (a 6), .ref (a 7), .ref (a 8), .ref (a 9), .int (nI (g 0 2))])), ((a 1), .inl (cI, 9, .inl (fun j => nI ((g 1) j)))), ((a 2), .inl (cI, 9, .inl (fun j => nI ((g 2) j)))), ((a 3), .inl (cI, 9, .inl (fun j => nI ((g 3) j)))), ((a 4), .inl (cI, 6, .inl (fun j => nI ((g 4) j)))), ((a 5), .inl (cI, 6, .inl (fun j => nI ((g 5) j)))), ((a 6), .inl (cI, 6, .inl (fun j => nI ((g 6) j)))), ((a 7), .inl (cI, 5, .inl (fun j => nI ((g 7) j)))), ((a 8), .inl (cI, 5, .inl (fun j => nI ((g 8) j)))), ((a 9), .inl (cI, 5, .inl (fun j => ly_h ((g 9) j)))), ((b 0), .inr (3, [.int (nI (d 0)), .int (nI (d 1)), .int (nI (d 2)), .int (nI (d 3)), .int (nI (d 4)), .ref (b 1), .ref (b 2)])), ((b 1), .inl (cI, 9, .inl (fun j => ly_h (ho j)))), ((b 2), .inl (cI, 9, .inl (fun j => nI (le j))))]) [0, 1, 2, 3, 4, 5, 6, 7, 8, 9, 10, 11, 12, 13] rfl
  refine ly_r (va_runV (As := [.int (nI q), .int 1]) (rest := []) ⟨hx, hb, hml, hown, hts⟩ (c_X6_kneeHeld l D cI cC cZ cN t a2 lt tr a g b d ho le q 1 hn) (cwV 2 hts gX6_person_X6_kneeHeld rfl rfl rfl (by decide +kernel) ⟨Nat.le_of_ble_eq_true rfl, Nat.le_of_ble_eq_true rfl⟩) (ly_pv hK hN hPc_92 0 6 rfl rfl rfl) rfl rfl hl.1 rfl (lv_room (Nat.le_of_ble_eq_true rfl)) dX6_person_92 ⟨Nat.zero_le _, Nat.zero_le _⟩) ?_
  exact W.iret (v := (s_held g ho q 1 (g 0 0) 0)) hx hb hr (fun t_9 ht_9 _ => by rw [hQc]; exact ⟨rfl, ht_9⟩) t_nil dX6_person_95

def s_ready1 (g : Nat → Nat → Nat) (ho : Nat → Nat) (q : Nat) : Int32 := (if (s_ready g ho q) = 0 then 0 else 1)
set_option maxHeartbeats 4000000 in
set_option maxRecDepth 100000 in
theorem c_X6_person_5 (l : Launch) (D : va_G) (cI cC cZ cN : ClassId) (t a2 : Nat → Nat) (lt : Nat) (tr : Int64) (a : Nat → Nat) (g : Nat → Nat → Nat) (b : Nat → Nat) (d ho le : Nat → Nat) (q : Nat) (hp9 : q < g 0 1) (hm6 : g 0 1 ≤ 6) (hn : g 0 0 ≤ 9) : Met l yX6_person wsX6_person (ly_rm 5) (ly_Pre D (ly_tys cI cC cZ cN) [((t 0), .inr (6, [.ref (t 1), .int (nI lt), .ref (t 2), .ref (a 0), .ref (a2 0), .ref (b 0), .ref (t 4), .ref (t 5), .ref (t 6), .ref (t 7), .ref (t 8), .long tr])), ((a 0), .inr (4, [.int (nI (g 0 0)), .ref (a 1), .ref (a 2), .ref (a 3), .int (nI (g 0 1)), .ref (a 4), .ref (a 5), .ref (a 6), .ref (a 7), .ref (a 8), .ref (a 9), .int (nI (g 0 2))])), ((a 1), .inl (cI, 9, .inl (fun j => nI ((g 1) j)))), ((a 2), .inl (cI, 9, .inl (fun j => nI ((g 2) j)))), ((a 3), .inl (cI, 9, .inl (fun j => nI ((g 3) j)))), ((a 4), .inl (cI, 6, .inl (fun j => nI ((g 4) j)))), ((a 5), .inl (cI, 6, .inl (fun j => nI ((g 5) j)))), ((a 6), .inl (cI, 6, .inl (fun j => nI ((g 6) j)))), ((a 7), .inl (cI, 5, .inl (fun j => nI ((g 7) j)))), ((a 8), .inl (cI, 5, .inl (fun j => nI ((g 8) j)))), ((a 9), .inl (cI, 5, .inl (fun j => ly_h ((g 9) j)))), ((b 0), .inr (3, [.int (nI (d 0)), .int (nI (d 1)), .int (nI (d 2)), .int (nI (d 3)), .int (nI (d 4)), .ref (b 1), .ref (b 2)])), ((b 1), .inl (cI, 9, .inl (fun j => ly_h (ho j)))), ((b 2), .inl (cI, 9, .inl (fun j => nI (le j))))] [.ref (t 0), .int (nI q), .int (nI 5)]) (QcRead (s_ready1 g ho q)) 0 0 (fun _ => False) := by
  refine Met.ofW (cc := cX6_person) (maxL := 3) (ret := (some .int)) (by decide) rfl ?_
  intro p e s m args below meth c s₁ B hml hv
  obtain ⟨rfl, hP, hK, hN⟩ := hv
  have hx := B.exec
  have hb := B.bytes
  have hr := B.returns
  have hts := atoms_spec (ws := wsX6_person) B.pre
  have hown : s.vm.findClass RX6 = some m.cls := findClass_of_methodNamed B.named
  have hlocks := B.notSynchronized
  have hl := lv_entry ([.ref (t 0), .int (nI q), .int (nI 5)]) (n := 3) (Nat.le_of_ble_eq_true rfl)
  rw [lg_entry_eq]
  generalize (lg_sl ([.ref (t 0), .int (nI q), .int (nI 5)]) ++ List.replicate (3 - (lg_sl ([.ref (t 0), .int (nI q), .int (nI 5)])).length) Slot.unset).toArray = ls at hl ⊢
  have hl : lv_has ls 3 [(0, .ref (t 0)), (1, .int (nI q)), (2, .int (nI 5))] := hl
  generalize ([.ref (t 0), .int (nI q), .int (nI 5)] : List Value).toArray = av at hts ⊢
  obtain ⟨Qc, hQc⟩ : ∃ Qc, Qc = (QcRead (s_ready1 g ho q)) := ⟨_, rfl⟩
  rw [← hQc]
  have f27 := hts (.fieldLink RX6 27 "KneesLent" "parish" "LKneesLent$Parish;") (by decide +kernel)
  have hiX6 : ∀ w ∈ u_ws RX6 TX6 12, w ∈ wsX6_person := by decide +kernel
  refine lv_aload_n hx hb dX6_person_0 rfl (lv_at hl 0 rfl) ?_
  refine va_get (D := D) (ci := 6) (v := .ref (a 0)) (C := RX6) (T := TX6) (N := 12) hx hb hts hiX6 hown hK hP 0 rfl rfl 3 (by decide) f27 (fun _ h9 => h9) rfl dX6_person_1 ?_
  refine lv_iload_n hx hb dX6_person_4 rfl (lv_at hl 1 rfl) ?_
  have hPc_5 := hP.sub (ws' := [((a 0), .inr (4, [.int (nI (g 0 0)), .ref (a 1), .ref (a 2), .ref (a 3), .int (nI (g 0 1)), .ref (a 4), .ref (a 5), .ref (a 6), .ref (a 7), .ref (a 8), .ref (a 9), .int (nI (g 0 2))])), ((a 1), .inl (cI, 9, .inl (fun j => nI ((g 1) j)))), ((a 2), .inl (cI, 9, .inl (fun j => nI ((g 2) j)))), ((a 3), .inl (cI, 9, .inl (fun j => nI ((g 3) j)))), ((a 4), .inl (cI, 6, .inl (fun j => nI ((g 4) j)))), ((a 5), .inl (cI, 6, .inl (fun j => nI ((g 5) j)))), ((a 6), .inl (cI, 6, .inl (fun j => nI ((g 6) j)))), ((a 7), .inl (cI, 5, .inl (fun j => nI ((g 7) j)))), ((a 8), .inl (cI, 5, .inl (fun j => nI ((g 8) j)))), ((a 9), .inl (cI, 5, .inl (fun j => ly_h ((g 9) j))))]) [1, 2, 3, 4, 5, 6, 7, 8, 9, 10] rfl
  refine ly_r (va_runV (As := [.int (nI q)]) (rest := []) ⟨hx, hb, hml, hown, hts⟩ (c_X4_hasPerson l D cI cC cZ cN a g (nI q)) (cwV 1 hts gX6_person_X4_hasPerson rfl rfl rfl (by decide +kernel) ⟨Nat.le_of_ble_eq_true rfl, Nat.le_of_ble_eq_true rfl⟩) (ly_pv hK hN hPc_5 0 4 rfl rfl rfl) rfl rfl hl.1 rfl (lv_room (Nat.le_of_ble_eq_true rfl)) dX6_person_5 ⟨Nat.zero_le _, Nat.zero_le _⟩) ?_
  refine lv_if_ne (tgt := 13) hx hb dX6_person_8 (by decide) (fun _ => ?_) (fun h_9 => absurd h_9 (jin_ix hp9 (by omega)))
  refine lv_iload_n hx hb dX6_person_13 rfl (lv_at hl 2 rfl) ?_
  refine lv_tableIn (off := 82) (tgt := 96) hx hb dX6_person_14 (by decide) (by decide) (by decide) (by decide) ?_
  refine lv_aload_n hx hb dX6_person_96 rfl (lv_at hl 0 rfl) ?_
  refine lv_iload_n hx hb dX6_person_97 rfl (lv_at hl 1 rfl) ?_
  have hPc_98 := hP.sub (ws' := [((t 0), .inr (6, [.ref (t 1), .int (nI lt), .ref (t 2), .ref (a 0), .ref (a2 0), .ref (b 0), .ref (t 4), .ref (t 5), .ref (t 6), .ref (t 7), .ref (t 8), .long tr])), ((a 0), .inr (4, [.int (nI (g 0 0)), .ref (a 1), .ref (a 2), .ref (a 3), .int (nI (g 0 1)), .ref (a 4), .ref (a 5), .ref (a 6), .ref (a 7), .ref (a 8), .ref (a 9), .int (nI (g 0 2))])), ((a 1), .inl (cI, 9, .inl (fun j => nI ((g 1) j)))), ((a 2), .inl (cI, 9, .inl (fun j => nI ((g 2) j)))), ((a 3), .inl (cI, 9, .inl (fun j => nI ((g 3) j)))), ((a 4), .inl (cI, 6, .inl (fun j => nI ((g 4) j)))), ((a 5), .inl (cI, 6, .inl (fun j => nI ((g 5) j)))), ((a 6), .inl (cI, 6, .inl (fun j => nI ((g 6) j)))), ((a 7), .inl (cI, 5, .inl (fun j => nI ((g 7) j)))), ((a 8), .inl (cI, 5, .inl (fun j => nI ((g 8) j)))), ((a 9), .inl (cI, 5, .inl (fun j => ly_h ((g 9) j)))), ((b 0), .inr (3, [.int (nI (d 0)), .int (nI (d 1)), .int (nI (d 2)), .int (nI (d 3)), .int (nI (d 4)), .ref (b 1), .ref (b 2)])), ((b 1), .inl (cI, 9, .inl (fun j => ly_h (ho j)))), ((b 2), .inl (cI, 9, .inl (fun j => nI (le j))))]) [0, 1, 2, 3, 4, 5, 6, 7, 8, 9, 10, 11, 12, 13] rfl
  refine ly_r (va_runV (As := [.int (nI q)]) (rest := []) ⟨hx, hb, hml, hown, hts⟩ (c_X6_isReady l D cI cC cZ cN t a2 lt tr a g b d ho le q (by omega) hn) (cwV 1 hts gX6_person_X6_isReady rfl rfl rfl (by decide +kernel) ⟨Nat.le_of_ble_eq_true rfl, Nat.le_of_ble_eq_true rfl⟩) (ly_pv hK hN hPc_98 0 6 rfl rfl rfl) rfl rfl hl.1 rfl (lv_room (Nat.le_of_ble_eq_true rfl)) dX6_person_98 ⟨Nat.zero_le _, Nat.zero_le _⟩) ?_
  refine lv_if_eq (tgt := 108) hx hb dX6_person_101 (by decide) (fun c_1 => ?_) (fun c_1 => ?_)
  · refine lv_iconst (v := 0) hx hb dX6_person_108 (by decide) ?_
    exact W.iret (v := 0) hx hb hr (fun t_9 ht_9 _ => by rw [hQc]; exact ⟨(by unfold s_ready1; rw [if_pos c_1]), ht_9⟩) t_nil dX6_person_109
  · refine lv_iconst (v := 1) hx hb dX6_person_104 (by decide) ?_
    refine lv_goto (tgt := 109) hx hb dX6_person_105 (by decide) ?_
    exact W.iret (v := 1) hx hb hr (fun t_9 ht_9 _ => by rw [hQc]; exact ⟨(by unfold s_ready1; rw [if_neg c_1]), ht_9⟩) t_nil dX6_person_109

set_option maxHeartbeats 4000000 in
set_option maxRecDepth 100000 in
theorem c_X6_farm_b (l : Launch) (D : va_G) (cI cC cZ cN : ClassId) (t a2 b : Nat → Nat) (lt : Nat) (tr : Int64) (a : Nat → Nat) (g : Nat → Nat → Nat) (x y : Int32) (hb9 : jin x 0 4 = 0) : Met l yX6_farm wsX6_farm (ly_rm 5) (ly_Pre D (ly_tys cI cC cZ cN) [((t 0), .inr (6, [.ref (t 1), .int (nI lt), .ref (t 2), .ref (a 0), .ref (a2 0), .ref (b 0), .ref (t 4), .ref (t 5), .ref (t 6), .ref (t 7), .ref (t 8), .long tr])), ((a 0), .inr (4, [.int (nI (g 0 0)), .ref (a 1), .ref (a 2), .ref (a 3), .int (nI (g 0 1)), .ref (a 4), .ref (a 5), .ref (a 6), .ref (a 7), .ref (a 8), .ref (a 9), .int (nI (g 0 2))])), ((a 1), .inl (cI, 9, .inl (fun j => nI ((g 1) j)))), ((a 2), .inl (cI, 9, .inl (fun j => nI ((g 2) j)))), ((a 3), .inl (cI, 9, .inl (fun j => nI ((g 3) j)))), ((a 4), .inl (cI, 6, .inl (fun j => nI ((g 4) j)))), ((a 5), .inl (cI, 6, .inl (fun j => nI ((g 5) j)))), ((a 6), .inl (cI, 6, .inl (fun j => nI ((g 6) j)))), ((a 7), .inl (cI, 5, .inl (fun j => nI ((g 7) j)))), ((a 8), .inl (cI, 5, .inl (fun j => nI ((g 8) j)))), ((a 9), .inl (cI, 5, .inl (fun j => ly_h ((g 9) j))))] [.ref (t 0), .int x, .int y]) (QcRead (-1)) 0 0 (fun _ => False) := by
  refine Met.ofW (cc := cX6_farm) (maxL := 3) (ret := (some .int)) (by decide) rfl ?_
  intro p e s m args below meth c s₁ B hml hv
  obtain ⟨rfl, hP, hK, hN⟩ := hv
  have hx := B.exec
  have hb := B.bytes
  have hr := B.returns
  have hts := atoms_spec (ws := wsX6_farm) B.pre
  have hown : s.vm.findClass RX6 = some m.cls := findClass_of_methodNamed B.named
  have hlocks := B.notSynchronized
  have hl := lv_entry ([.ref (t 0), .int x, .int y]) (n := 3) (Nat.le_of_ble_eq_true rfl)
  rw [lg_entry_eq]
  generalize (lg_sl ([.ref (t 0), .int x, .int y]) ++ List.replicate (3 - (lg_sl ([.ref (t 0), .int x, .int y])).length) Slot.unset).toArray = ls at hl ⊢
  have hl : lv_has ls 3 [(0, .ref (t 0)), (1, .int x), (2, .int y)] := hl
  generalize ([.ref (t 0), .int x, .int y] : List Value).toArray = av at hts ⊢
  obtain ⟨Qc, hQc⟩ : ∃ Qc, Qc = (QcRead (-1)) := ⟨_, rfl⟩
  rw [← hQc]
  refine lv_iload_n hx hb dX6_farm_0 rfl (lv_at hl 1 rfl) ?_
  refine lv_iconst (v := 0) hx hb dX6_farm_1 (by decide) ?_
  refine lv_iconst (v := 4) hx hb dX6_farm_2 (by decide) ?_
  have hPc_3 := hP.sub (ws' := []) [] rfl
  refine ly_r (va_runS (As := [.int x, .int 0, .int 4]) (rest := []) ⟨hx, hb, hml, hown, hts⟩ (c_X6_within l D cI cC cZ cN x 0 4) (va_cwS 3 hts gX6_farm_X6_within rfl rfl rfl (by decide +kernel) ⟨Nat.le_of_ble_eq_true rfl, Nat.le_of_ble_eq_true rfl⟩) (ly_ps hK hN hPc_3) rfl rfl hl.1 rfl (lv_room (Nat.le_of_ble_eq_true rfl)) dX6_farm_3 ⟨Nat.zero_le _, Nat.zero_le _⟩) ?_
  refine lv_if_ne (tgt := 11) hx hb dX6_farm_6 (by decide) (fun h_9 => absurd hb9 h_9) (fun _ => ?_)
  refine lv_iconst (v := (-1)) hx hb dX6_farm_9 (by decide) ?_
  exact W.iret (v := (-1)) hx hb hr (fun t_9 ht_9 _ => by rw [hQc]; exact ⟨rfl, ht_9⟩) t_nil dX6_farm_10

set_option maxHeartbeats 4000000 in
set_option maxRecDepth 100000 in
theorem c_X6_farm_w (l : Launch) (D : va_G) (cI cC cZ cN : ClassId) (t a2 b : Nat → Nat) (lt : Nat) (tr : Int64) (a : Nat → Nat) (g : Nat → Nat → Nat) (f : Nat) (y : Int32) (hf5 : f < 5) (hw : y.toInt < 0 ∨ 3 < y.toInt) : Met l yX6_farm wsX6_farm (ly_rm 5) (ly_Pre D (ly_tys cI cC cZ cN) [((t 0), .inr (6, [.ref (t 1), .int (nI lt), .ref (t 2), .ref (a 0), .ref (a2 0), .ref (b 0), .ref (t 4), .ref (t 5), .ref (t 6), .ref (t 7), .ref (t 8), .long tr])), ((a 0), .inr (4, [.int (nI (g 0 0)), .ref (a 1), .ref (a 2), .ref (a 3), .int (nI (g 0 1)), .ref (a 4), .ref (a 5), .ref (a 6), .ref (a 7), .ref (a 8), .ref (a 9), .int (nI (g 0 2))])), ((a 1), .inl (cI, 9, .inl (fun j => nI ((g 1) j)))), ((a 2), .inl (cI, 9, .inl (fun j => nI ((g 2) j)))), ((a 3), .inl (cI, 9, .inl (fun j => nI ((g 3) j)))), ((a 4), .inl (cI, 6, .inl (fun j => nI ((g 4) j)))), ((a 5), .inl (cI, 6, .inl (fun j => nI ((g 5) j)))), ((a 6), .inl (cI, 6, .inl (fun j => nI ((g 6) j)))), ((a 7), .inl (cI, 5, .inl (fun j => nI ((g 7) j)))), ((a 8), .inl (cI, 5, .inl (fun j => nI ((g 8) j)))), ((a 9), .inl (cI, 5, .inl (fun j => ly_h ((g 9) j))))] [.ref (t 0), .int (nI f), .int y]) (QcRead (-1)) 0 0 (fun _ => False) := by
  refine Met.ofW (cc := cX6_farm) (maxL := 3) (ret := (some .int)) (by decide) rfl ?_
  intro p e s m args below meth c s₁ B hml hv
  obtain ⟨rfl, hP, hK, hN⟩ := hv
  have hx := B.exec
  have hb := B.bytes
  have hr := B.returns
  have hts := atoms_spec (ws := wsX6_farm) B.pre
  have hown : s.vm.findClass RX6 = some m.cls := findClass_of_methodNamed B.named
  have hlocks := B.notSynchronized
  have hl := lv_entry ([.ref (t 0), .int (nI f), .int y]) (n := 3) (Nat.le_of_ble_eq_true rfl)
  rw [lg_entry_eq]
  generalize (lg_sl ([.ref (t 0), .int (nI f), .int y]) ++ List.replicate (3 - (lg_sl ([.ref (t 0), .int (nI f), .int y])).length) Slot.unset).toArray = ls at hl ⊢
  have hl : lv_has ls 3 [(0, .ref (t 0)), (1, .int (nI f)), (2, .int y)] := hl
  generalize ([.ref (t 0), .int (nI f), .int y] : List Value).toArray = av at hts ⊢
  obtain ⟨Qc, hQc⟩ : ∃ Qc, Qc = (QcRead (-1)) := ⟨_, rfl⟩
  rw [← hQc]
  refine lv_iload_n hx hb dX6_farm_0 rfl (lv_at hl 1 rfl) ?_
  refine lv_iconst (v := 0) hx hb dX6_farm_1 (by decide) ?_
  refine lv_iconst (v := 4) hx hb dX6_farm_2 (by decide) ?_
  have hPc_3 := hP.sub (ws' := []) [] rfl
  refine ly_r (va_runS (As := [.int (nI f), .int 0, .int 4]) (rest := []) ⟨hx, hb, hml, hown, hts⟩ (c_X6_within l D cI cC cZ cN (nI f) 0 4) (va_cwS 3 hts gX6_farm_X6_within rfl rfl rfl (by decide +kernel) ⟨Nat.le_of_ble_eq_true rfl, Nat.le_of_ble_eq_true rfl⟩) (ly_ps hK hN hPc_3) rfl rfl hl.1 rfl (lv_room (Nat.le_of_ble_eq_true rfl)) dX6_farm_3 ⟨Nat.zero_le _, Nat.zero_le _⟩) ?_
  refine lv_if_ne (tgt := 11) hx hb dX6_farm_6 (by decide) (fun _ => ?_) (fun h_9 => absurd h_9 (jin_yes (b := 4) (by omega) (by omega)))
  refine lv_iload_n hx hb dX6_farm_11 rfl (lv_at hl 2 rfl) ?_
  refine lv_tableOut (tgt := 83) hx hb dX6_farm_12 hw (by decide) ?_
  refine lv_iconst (v := (-1)) hx hb dX6_farm_83 (by decide) ?_
  exact W.iret (v := (-1)) hx hb hr (fun t_9 ht_9 _ => by rw [hQc]; exact ⟨rfl, ht_9⟩) t_nil dX6_farm_84

set_option maxHeartbeats 4000000 in
set_option maxRecDepth 100000 in
theorem c_X6_farm_0 (l : Launch) (D : va_G) (cI cC cZ cN : ClassId) (t a2 b : Nat → Nat) (lt : Nat) (tr : Int64) (a : Nat → Nat) (g : Nat → Nat → Nat) (f : Nat) (hf5 : f < 5) (hn : g 0 0 ≤ 9) : Met l yX6_farm wsX6_farm (ly_rm 5) (ly_Pre D (ly_tys cI cC cZ cN) [((t 0), .inr (6, [.ref (t 1), .int (nI lt), .ref (t 2), .ref (a 0), .ref (a2 0), .ref (b 0), .ref (t 4), .ref (t 5), .ref (t 6), .ref (t 7), .ref (t 8), .long tr])), ((a 0), .inr (4, [.int (nI (g 0 0)), .ref (a 1), .ref (a 2), .ref (a 3), .int (nI (g 0 1)), .ref (a 4), .ref (a 5), .ref (a 6), .ref (a 7), .ref (a 8), .ref (a 9), .int (nI (g 0 2))])), ((a 1), .inl (cI, 9, .inl (fun j => nI ((g 1) j)))), ((a 2), .inl (cI, 9, .inl (fun j => nI ((g 2) j)))), ((a 3), .inl (cI, 9, .inl (fun j => nI ((g 3) j)))), ((a 4), .inl (cI, 6, .inl (fun j => nI ((g 4) j)))), ((a 5), .inl (cI, 6, .inl (fun j => nI ((g 5) j)))), ((a 6), .inl (cI, 6, .inl (fun j => nI ((g 6) j)))), ((a 7), .inl (cI, 5, .inl (fun j => nI ((g 7) j)))), ((a 8), .inl (cI, 5, .inl (fun j => nI ((g 8) j)))), ((a 9), .inl (cI, 5, .inl (fun j => ly_h ((g 9) j))))] [.ref (t 0), .int (nI f), .int (nI 0)]) (QcRead (nI (g 8 f))) 0 0 (fun _ => False) := by
  refine Met.ofW (cc := cX6_farm) (maxL := 3) (ret := (some .int)) (by decide) rfl ?_
  intro p e s m args below meth c s₁ B hml hv
  obtain ⟨rfl, hP, hK, hN⟩ := hv
  have hx := B.exec
  have hb := B.bytes
  have hr := B.returns
  have hts := atoms_spec (ws := wsX6_farm) B.pre
  have hown : s.vm.findClass RX6 = some m.cls := findClass_of_methodNamed B.named
  have hlocks := B.notSynchronized
  have hl := lv_entry ([.ref (t 0), .int (nI f), .int (nI 0)]) (n := 3) (Nat.le_of_ble_eq_true rfl)
  rw [lg_entry_eq]
  generalize (lg_sl ([.ref (t 0), .int (nI f), .int (nI 0)]) ++ List.replicate (3 - (lg_sl ([.ref (t 0), .int (nI f), .int (nI 0)])).length) Slot.unset).toArray = ls at hl ⊢
  have hl : lv_has ls 3 [(0, .ref (t 0)), (1, .int (nI f)), (2, .int (nI 0))] := hl
  generalize ([.ref (t 0), .int (nI f), .int (nI 0)] : List Value).toArray = av at hts ⊢
  obtain ⟨Qc, hQc⟩ : ∃ Qc, Qc = (QcRead (nI (g 8 f))) := ⟨_, rfl⟩
  rw [← hQc]
  have f27 := hts (.fieldLink RX6 27 "KneesLent" "parish" "LKneesLent$Parish;") (by decide +kernel)
  have f143 := hts (.fieldLink RX6 143 "KneesLent$Parish" "oil" "[I") (by decide +kernel)
  have hiX6 : ∀ w ∈ u_ws RX6 TX6 12, w ∈ wsX6_farm := by decide +kernel
  have hiX4 : ∀ w ∈ u_ws RX4 TX4 12, w ∈ wsX6_farm := by decide +kernel
  refine lv_iload_n hx hb dX6_farm_0 rfl (lv_at hl 1 rfl) ?_
  refine lv_iconst (v := 0) hx hb dX6_farm_1 (by decide) ?_
  refine lv_iconst (v := 4) hx hb dX6_farm_2 (by decide) ?_
  have hPc_3 := hP.sub (ws' := []) [] rfl
  refine ly_r (va_runS (As := [.int (nI f), .int 0, .int 4]) (rest := []) ⟨hx, hb, hml, hown, hts⟩ (c_X6_within l D cI cC cZ cN (nI f) 0 4) (va_cwS 3 hts gX6_farm_X6_within rfl rfl rfl (by decide +kernel) ⟨Nat.le_of_ble_eq_true rfl, Nat.le_of_ble_eq_true rfl⟩) (ly_ps hK hN hPc_3) rfl rfl hl.1 rfl (lv_room (Nat.le_of_ble_eq_true rfl)) dX6_farm_3 ⟨Nat.zero_le _, Nat.zero_le _⟩) ?_
  refine lv_if_ne (tgt := 11) hx hb dX6_farm_6 (by decide) (fun _ => ?_) (fun h_9 => absurd h_9 (jin_yes (b := 4) (by omega) (by omega)))
  refine lv_iload_n hx hb dX6_farm_11 rfl (lv_at hl 2 rfl) ?_
  refine lv_tableIn (off := 32) (tgt := 44) hx hb dX6_farm_12 (by decide) (by decide) (by decide) (by decide) ?_
  refine lv_aload_n hx hb dX6_farm_44 rfl (lv_at hl 0 rfl) ?_
  refine va_get (D := D) (ci := 6) (v := .ref (a 0)) (C := RX6) (T := TX6) (N := 12) hx hb hts hiX6 hown hK hP 0 rfl rfl 3 (by decide) f27 (fun _ h9 => h9) rfl dX6_farm_45 ?_
  refine va_get (D := D) (ci := 4) (v := .ref (a 8)) (C := RX4) (T := TX4) (N := 12) hx hb hts hiX4 hown hK hP 1 rfl rfl 9 (by decide) f143 (fun _ h9 => h9) rfl dX6_farm_48 ?_
  refine lv_iload_n hx hb dX6_farm_51 rfl (lv_at hl 1 rfl) ?_
  refine ly_iald hx hb hK hP 9 0 rfl rfl (k := f) (by decide) rfl (by omega) dX6_farm_52 ?_
  exact W.iret (v := (nI ((g 8) f))) hx hb hr (fun t_9 ht_9 _ => by rw [hQc]; exact ⟨rfl, ht_9⟩) t_nil dX6_farm_53

set_option maxHeartbeats 4000000 in
set_option maxRecDepth 100000 in
theorem c_X6_farm_1 (l : Launch) (D : va_G) (cI cC cZ cN : ClassId) (t a2 b : Nat → Nat) (lt : Nat) (tr : Int64) (a : Nat → Nat) (g : Nat → Nat → Nat) (f : Nat) (hf5 : f < 5) (hn : g 0 0 ≤ 9) : Met l yX6_farm wsX6_farm (ly_rm 5) (ly_Pre D (ly_tys cI cC cZ cN) [((t 0), .inr (6, [.ref (t 1), .int (nI lt), .ref (t 2), .ref (a 0), .ref (a2 0), .ref (b 0), .ref (t 4), .ref (t 5), .ref (t 6), .ref (t 7), .ref (t 8), .long tr])), ((a 0), .inr (4, [.int (nI (g 0 0)), .ref (a 1), .ref (a 2), .ref (a 3), .int (nI (g 0 1)), .ref (a 4), .ref (a 5), .ref (a 6), .ref (a 7), .ref (a 8), .ref (a 9), .int (nI (g 0 2))])), ((a 1), .inl (cI, 9, .inl (fun j => nI ((g 1) j)))), ((a 2), .inl (cI, 9, .inl (fun j => nI ((g 2) j)))), ((a 3), .inl (cI, 9, .inl (fun j => nI ((g 3) j)))), ((a 4), .inl (cI, 6, .inl (fun j => nI ((g 4) j)))), ((a 5), .inl (cI, 6, .inl (fun j => nI ((g 5) j)))), ((a 6), .inl (cI, 6, .inl (fun j => nI ((g 6) j)))), ((a 7), .inl (cI, 5, .inl (fun j => nI ((g 7) j)))), ((a 8), .inl (cI, 5, .inl (fun j => nI ((g 8) j)))), ((a 9), .inl (cI, 5, .inl (fun j => ly_h ((g 9) j))))] [.ref (t 0), .int (nI f), .int (nI 1)]) (QcRead (nI (g 7 f))) 0 0 (fun _ => False) := by
  refine Met.ofW (cc := cX6_farm) (maxL := 3) (ret := (some .int)) (by decide) rfl ?_
  intro p e s m args below meth c s₁ B hml hv
  obtain ⟨rfl, hP, hK, hN⟩ := hv
  have hx := B.exec
  have hb := B.bytes
  have hr := B.returns
  have hts := atoms_spec (ws := wsX6_farm) B.pre
  have hown : s.vm.findClass RX6 = some m.cls := findClass_of_methodNamed B.named
  have hlocks := B.notSynchronized
  have hl := lv_entry ([.ref (t 0), .int (nI f), .int (nI 1)]) (n := 3) (Nat.le_of_ble_eq_true rfl)
  rw [lg_entry_eq]
  generalize (lg_sl ([.ref (t 0), .int (nI f), .int (nI 1)]) ++ List.replicate (3 - (lg_sl ([.ref (t 0), .int (nI f), .int (nI 1)])).length) Slot.unset).toArray = ls at hl ⊢
  have hl : lv_has ls 3 [(0, .ref (t 0)), (1, .int (nI f)), (2, .int (nI 1))] := hl
  generalize ([.ref (t 0), .int (nI f), .int (nI 1)] : List Value).toArray = av at hts ⊢
  obtain ⟨Qc, hQc⟩ : ∃ Qc, Qc = (QcRead (nI (g 7 f))) := ⟨_, rfl⟩
  rw [← hQc]
  have f27 := hts (.fieldLink RX6 27 "KneesLent" "parish" "LKneesLent$Parish;") (by decide +kernel)
  have f146 := hts (.fieldLink RX6 146 "KneesLent$Parish" "feuds" "[I") (by decide +kernel)
  have hiX6 : ∀ w ∈ u_ws RX6 TX6 12, w ∈ wsX6_farm := by decide +kernel
  have hiX4 : ∀ w ∈ u_ws RX4 TX4 12, w ∈ wsX6_farm := by decide +kernel
  refine lv_iload_n hx hb dX6_farm_0 rfl (lv_at hl 1 rfl) ?_
  refine lv_iconst (v := 0) hx hb dX6_farm_1 (by decide) ?_
  refine lv_iconst (v := 4) hx hb dX6_farm_2 (by decide) ?_
  have hPc_3 := hP.sub (ws' := []) [] rfl
  refine ly_r (va_runS (As := [.int (nI f), .int 0, .int 4]) (rest := []) ⟨hx, hb, hml, hown, hts⟩ (c_X6_within l D cI cC cZ cN (nI f) 0 4) (va_cwS 3 hts gX6_farm_X6_within rfl rfl rfl (by decide +kernel) ⟨Nat.le_of_ble_eq_true rfl, Nat.le_of_ble_eq_true rfl⟩) (ly_ps hK hN hPc_3) rfl rfl hl.1 rfl (lv_room (Nat.le_of_ble_eq_true rfl)) dX6_farm_3 ⟨Nat.zero_le _, Nat.zero_le _⟩) ?_
  refine lv_if_ne (tgt := 11) hx hb dX6_farm_6 (by decide) (fun _ => ?_) (fun h_9 => absurd h_9 (jin_yes (b := 4) (by omega) (by omega)))
  refine lv_iload_n hx hb dX6_farm_11 rfl (lv_at hl 2 rfl) ?_
  refine lv_tableIn (off := 42) (tgt := 54) hx hb dX6_farm_12 (by decide) (by decide) (by decide) (by decide) ?_
  refine lv_aload_n hx hb dX6_farm_54 rfl (lv_at hl 0 rfl) ?_
  refine va_get (D := D) (ci := 6) (v := .ref (a 0)) (C := RX6) (T := TX6) (N := 12) hx hb hts hiX6 hown hK hP 0 rfl rfl 3 (by decide) f27 (fun _ h9 => h9) rfl dX6_farm_55 ?_
  refine va_get (D := D) (ci := 4) (v := .ref (a 7)) (C := RX4) (T := TX4) (N := 12) hx hb hts hiX4 hown hK hP 1 rfl rfl 8 (by decide) f146 (fun _ h9 => h9) rfl dX6_farm_58 ?_
  refine lv_iload_n hx hb dX6_farm_61 rfl (lv_at hl 1 rfl) ?_
  refine ly_iald hx hb hK hP 8 0 rfl rfl (k := f) (by decide) rfl (by omega) dX6_farm_62 ?_
  exact W.iret (v := (nI ((g 7) f))) hx hb hr (fun t_9 ht_9 _ => by rw [hQc]; exact ⟨rfl, ht_9⟩) t_nil dX6_farm_63

set_option maxHeartbeats 4000000 in
set_option maxRecDepth 100000 in
theorem c_X6_farm_2 (l : Launch) (D : va_G) (cI cC cZ cN : ClassId) (t a2 b : Nat → Nat) (lt : Nat) (tr : Int64) (a : Nat → Nat) (g : Nat → Nat → Nat) (f : Nat) (hf5 : f < 5) (hn : g 0 0 ≤ 9) : Met l yX6_farm wsX6_farm (ly_rm 5) (ly_Pre D (ly_tys cI cC cZ cN) [((t 0), .inr (6, [.ref (t 1), .int (nI lt), .ref (t 2), .ref (a 0), .ref (a2 0), .ref (b 0), .ref (t 4), .ref (t 5), .ref (t 6), .ref (t 7), .ref (t 8), .long tr])), ((a 0), .inr (4, [.int (nI (g 0 0)), .ref (a 1), .ref (a 2), .ref (a 3), .int (nI (g 0 1)), .ref (a 4), .ref (a 5), .ref (a 6), .ref (a 7), .ref (a 8), .ref (a 9), .int (nI (g 0 2))])), ((a 1), .inl (cI, 9, .inl (fun j => nI ((g 1) j)))), ((a 2), .inl (cI, 9, .inl (fun j => nI ((g 2) j)))), ((a 3), .inl (cI, 9, .inl (fun j => nI ((g 3) j)))), ((a 4), .inl (cI, 6, .inl (fun j => nI ((g 4) j)))), ((a 5), .inl (cI, 6, .inl (fun j => nI ((g 5) j)))), ((a 6), .inl (cI, 6, .inl (fun j => nI ((g 6) j)))), ((a 7), .inl (cI, 5, .inl (fun j => nI ((g 7) j)))), ((a 8), .inl (cI, 5, .inl (fun j => nI ((g 8) j)))), ((a 9), .inl (cI, 5, .inl (fun j => ly_h ((g 9) j))))] [.ref (t 0), .int (nI f), .int (nI 2)]) (QcRead (s_kneesOf g f (g 0 0))) 0 0 (fun _ => False) := by
  refine Met.ofW (cc := cX6_farm) (maxL := 3) (ret := (some .int)) (by decide) rfl ?_
  intro p e s m args below meth c s₁ B hml hv
  obtain ⟨rfl, hP, hK, hN⟩ := hv
  have hx := B.exec
  have hb := B.bytes
  have hr := B.returns
  have hts := atoms_spec (ws := wsX6_farm) B.pre
  have hown : s.vm.findClass RX6 = some m.cls := findClass_of_methodNamed B.named
  have hlocks := B.notSynchronized
  have hl := lv_entry ([.ref (t 0), .int (nI f), .int (nI 2)]) (n := 3) (Nat.le_of_ble_eq_true rfl)
  rw [lg_entry_eq]
  generalize (lg_sl ([.ref (t 0), .int (nI f), .int (nI 2)]) ++ List.replicate (3 - (lg_sl ([.ref (t 0), .int (nI f), .int (nI 2)])).length) Slot.unset).toArray = ls at hl ⊢
  have hl : lv_has ls 3 [(0, .ref (t 0)), (1, .int (nI f)), (2, .int (nI 2))] := hl
  generalize ([.ref (t 0), .int (nI f), .int (nI 2)] : List Value).toArray = av at hts ⊢
  obtain ⟨Qc, hQc⟩ : ∃ Qc, Qc = (QcRead (s_kneesOf g f (g 0 0))) := ⟨_, rfl⟩
  rw [← hQc]
  have f27 := hts (.fieldLink RX6 27 "KneesLent" "parish" "LKneesLent$Parish;") (by decide +kernel)
  have hiX6 : ∀ w ∈ u_ws RX6 TX6 12, w ∈ wsX6_farm := by decide +kernel
  refine lv_iload_n hx hb dX6_farm_0 rfl (lv_at hl 1 rfl) ?_
  refine lv_iconst (v := 0) hx hb dX6_farm_1 (by decide) ?_
  refine lv_iconst (v := 4) hx hb dX6_farm_2 (by decide) ?_
  have hPc_3 := hP.sub (ws' := []) [] rfl
  refine ly_r (va_runS (As := [.int (nI f), .int 0, .int 4]) (rest := []) ⟨hx, hb, hml, hown, hts⟩ (c_X6_within l D cI cC cZ cN (nI f) 0 4) (va_cwS 3 hts gX6_farm_X6_within rfl rfl rfl (by decide +kernel) ⟨Nat.le_of_ble_eq_true rfl, Nat.le_of_ble_eq_true rfl⟩) (ly_ps hK hN hPc_3) rfl rfl hl.1 rfl (lv_room (Nat.le_of_ble_eq_true rfl)) dX6_farm_3 ⟨Nat.zero_le _, Nat.zero_le _⟩) ?_
  refine lv_if_ne (tgt := 11) hx hb dX6_farm_6 (by decide) (fun _ => ?_) (fun h_9 => absurd h_9 (jin_yes (b := 4) (by omega) (by omega)))
  refine lv_iload_n hx hb dX6_farm_11 rfl (lv_at hl 2 rfl) ?_
  refine lv_tableIn (off := 52) (tgt := 64) hx hb dX6_farm_12 (by decide) (by decide) (by decide) (by decide) ?_
  refine lv_aload_n hx hb dX6_farm_64 rfl (lv_at hl 0 rfl) ?_
  refine va_get (D := D) (ci := 6) (v := .ref (a 0)) (C := RX6) (T := TX6) (N := 12) hx hb hts hiX6 hown hK hP 0 rfl rfl 3 (by decide) f27 (fun _ h9 => h9) rfl dX6_farm_65 ?_
  refine lv_iload_n hx hb dX6_farm_68 rfl (lv_at hl 1 rfl) ?_
  have hPc_69 := hP.sub (ws' := [((a 0), .inr (4, [.int (nI (g 0 0)), .ref (a 1), .ref (a 2), .ref (a 3), .int (nI (g 0 1)), .ref (a 4), .ref (a 5), .ref (a 6), .ref (a 7), .ref (a 8), .ref (a 9), .int (nI (g 0 2))])), ((a 1), .inl (cI, 9, .inl (fun j => nI ((g 1) j)))), ((a 2), .inl (cI, 9, .inl (fun j => nI ((g 2) j)))), ((a 3), .inl (cI, 9, .inl (fun j => nI ((g 3) j)))), ((a 4), .inl (cI, 6, .inl (fun j => nI ((g 4) j)))), ((a 5), .inl (cI, 6, .inl (fun j => nI ((g 5) j)))), ((a 6), .inl (cI, 6, .inl (fun j => nI ((g 6) j)))), ((a 7), .inl (cI, 5, .inl (fun j => nI ((g 7) j)))), ((a 8), .inl (cI, 5, .inl (fun j => nI ((g 8) j)))), ((a 9), .inl (cI, 5, .inl (fun j => ly_h ((g 9) j))))]) [1, 2, 3, 4, 5, 6, 7, 8, 9, 10] rfl
  refine ly_r (va_runV (As := [.int (nI f)]) (rest := []) ⟨hx, hb, hml, hown, hts⟩ (c_X4_kneesOf l D cI cC cZ cN a g f hn) (cwV 1 hts gX6_farm_X4_kneesOf rfl rfl rfl (by decide +kernel) ⟨Nat.le_of_ble_eq_true rfl, Nat.le_of_ble_eq_true rfl⟩) (ly_pv hK hN hPc_69 0 4 rfl rfl rfl) rfl rfl hl.1 rfl (lv_room (Nat.le_of_ble_eq_true rfl)) dX6_farm_69 ⟨Nat.zero_le _, Nat.zero_le _⟩) ?_
  exact W.iret (v := (s_kneesOf g f (g 0 0))) hx hb hr (fun t_9 ht_9 _ => by rw [hQc]; exact ⟨rfl, ht_9⟩) t_nil dX6_farm_72

set_option maxHeartbeats 4000000 in
set_option maxRecDepth 100000 in
theorem c_X6_farm_3 (l : Launch) (D : va_G) (cI cC cZ cN : ClassId) (t a2 b : Nat → Nat) (lt : Nat) (tr : Int64) (a : Nat → Nat) (g : Nat → Nat → Nat) (f : Nat) (hf5 : f < 5) (hn : g 0 0 ≤ 9) : Met l yX6_farm wsX6_farm (ly_rm 5) (ly_Pre D (ly_tys cI cC cZ cN) [((t 0), .inr (6, [.ref (t 1), .int (nI lt), .ref (t 2), .ref (a 0), .ref (a2 0), .ref (b 0), .ref (t 4), .ref (t 5), .ref (t 6), .ref (t 7), .ref (t 8), .long tr])), ((a 0), .inr (4, [.int (nI (g 0 0)), .ref (a 1), .ref (a 2), .ref (a 3), .int (nI (g 0 1)), .ref (a 4), .ref (a 5), .ref (a 6), .ref (a 7), .ref (a 8), .ref (a 9), .int (nI (g 0 2))])), ((a 1), .inl (cI, 9, .inl (fun j => nI ((g 1) j)))), ((a 2), .inl (cI, 9, .inl (fun j => nI ((g 2) j)))), ((a 3), .inl (cI, 9, .inl (fun j => nI ((g 3) j)))), ((a 4), .inl (cI, 6, .inl (fun j => nI ((g 4) j)))), ((a 5), .inl (cI, 6, .inl (fun j => nI ((g 5) j)))), ((a 6), .inl (cI, 6, .inl (fun j => nI ((g 6) j)))), ((a 7), .inl (cI, 5, .inl (fun j => nI ((g 7) j)))), ((a 8), .inl (cI, 5, .inl (fun j => nI ((g 8) j)))), ((a 9), .inl (cI, 5, .inl (fun j => ly_h ((g 9) j))))] [.ref (t 0), .int (nI f), .int (nI 3)]) (QcRead (ly_h (g 9 f))) 0 0 (fun _ => False) := by
  refine Met.ofW (cc := cX6_farm) (maxL := 3) (ret := (some .int)) (by decide) rfl ?_
  intro p e s m args below meth c s₁ B hml hv
  obtain ⟨rfl, hP, hK, hN⟩ := hv
  have hx := B.exec
  have hb := B.bytes
  have hr := B.returns
  have hts := atoms_spec (ws := wsX6_farm) B.pre
  have hown : s.vm.findClass RX6 = some m.cls := findClass_of_methodNamed B.named
  have hlocks := B.notSynchronized
  have hl := lv_entry ([.ref (t 0), .int (nI f), .int (nI 3)]) (n := 3) (Nat.le_of_ble_eq_true rfl)
  rw [lg_entry_eq]
  generalize (lg_sl ([.ref (t 0), .int (nI f), .int (nI 3)]) ++ List.replicate (3 - (lg_sl ([.ref (t 0), .int (nI f), .int (nI 3)])).length) Slot.unset).toArray = ls at hl ⊢
  have hl : lv_has ls 3 [(0, .ref (t 0)), (1, .int (nI f)), (2, .int (nI 3))] := hl
  generalize ([.ref (t 0), .int (nI f), .int (nI 3)] : List Value).toArray = av at hts ⊢
  obtain ⟨Qc, hQc⟩ : ∃ Qc, Qc = (QcRead (ly_h (g 9 f))) := ⟨_, rfl⟩
  rw [← hQc]
  have f27 := hts (.fieldLink RX6 27 "KneesLent" "parish" "LKneesLent$Parish;") (by decide +kernel)
  have f153 := hts (.fieldLink RX6 153 "KneesLent$Parish" "table" "[I") (by decide +kernel)
  have hiX6 : ∀ w ∈ u_ws RX6 TX6 12, w ∈ wsX6_farm := by decide +kernel
  have hiX4 : ∀ w ∈ u_ws RX4 TX4 12, w ∈ wsX6_farm := by decide +kernel
  refine lv_iload_n hx hb dX6_farm_0 rfl (lv_at hl 1 rfl) ?_
  refine lv_iconst (v := 0) hx hb dX6_farm_1 (by decide) ?_
  refine lv_iconst (v := 4) hx hb dX6_farm_2 (by decide) ?_
  have hPc_3 := hP.sub (ws' := []) [] rfl
  refine ly_r (va_runS (As := [.int (nI f), .int 0, .int 4]) (rest := []) ⟨hx, hb, hml, hown, hts⟩ (c_X6_within l D cI cC cZ cN (nI f) 0 4) (va_cwS 3 hts gX6_farm_X6_within rfl rfl rfl (by decide +kernel) ⟨Nat.le_of_ble_eq_true rfl, Nat.le_of_ble_eq_true rfl⟩) (ly_ps hK hN hPc_3) rfl rfl hl.1 rfl (lv_room (Nat.le_of_ble_eq_true rfl)) dX6_farm_3 ⟨Nat.zero_le _, Nat.zero_le _⟩) ?_
  refine lv_if_ne (tgt := 11) hx hb dX6_farm_6 (by decide) (fun _ => ?_) (fun h_9 => absurd h_9 (jin_yes (b := 4) (by omega) (by omega)))
  refine lv_iload_n hx hb dX6_farm_11 rfl (lv_at hl 2 rfl) ?_
  refine lv_tableIn (off := 61) (tgt := 73) hx hb dX6_farm_12 (by decide) (by decide) (by decide) (by decide) ?_
  refine lv_aload_n hx hb dX6_farm_73 rfl (lv_at hl 0 rfl) ?_
  refine va_get (D := D) (ci := 6) (v := .ref (a 0)) (C := RX6) (T := TX6) (N := 12) hx hb hts hiX6 hown hK hP 0 rfl rfl 3 (by decide) f27 (fun _ h9 => h9) rfl dX6_farm_74 ?_
  refine va_get (D := D) (ci := 4) (v := .ref (a 9)) (C := RX4) (T := TX4) (N := 12) hx hb hts hiX4 hown hK hP 1 rfl rfl 10 (by decide) f153 (fun _ h9 => h9) rfl dX6_farm_77 ?_
  refine lv_iload_n hx hb dX6_farm_80 rfl (lv_at hl 1 rfl) ?_
  refine ly_iald hx hb hK hP 10 0 rfl rfl (k := f) (by decide) rfl (by omega) dX6_farm_81 ?_
  exact W.iret (v := (ly_h ((g 9) f))) hx hb hr (fun t_9 ht_9 _ => by rw [hQc]; exact ⟨rfl, ht_9⟩) t_nil dX6_farm_82

set_option maxHeartbeats 4000000 in
set_option maxRecDepth 100000 in
theorem c_X6_now_b (l : Launch) (D : va_G) (cI cC cZ cN : ClassId) (t a2 : Nat → Nat) (lt : Nat) (tr : Int64) (a : Nat → Nat) (g : Nat → Nat → Nat) (b : Nat → Nat) (d ho le : Nat → Nat) (y : Int32) (hw : y.toInt < 0 ∨ 7 < y.toInt) : Met l yX6_now wsX6_now (ly_rm 5) (ly_Pre D (ly_tys cI cC cZ cN) [((t 0), .inr (6, [.ref (t 1), .int (nI lt), .ref (t 2), .ref (a 0), .ref (a2 0), .ref (b 0), .ref (t 4), .ref (t 5), .ref (t 6), .ref (t 7), .ref (t 8), .long tr])), ((a 0), .inr (4, [.int (nI (g 0 0)), .ref (a 1), .ref (a 2), .ref (a 3), .int (nI (g 0 1)), .ref (a 4), .ref (a 5), .ref (a 6), .ref (a 7), .ref (a 8), .ref (a 9), .int (nI (g 0 2))])), ((a 1), .inl (cI, 9, .inl (fun j => nI ((g 1) j)))), ((a 2), .inl (cI, 9, .inl (fun j => nI ((g 2) j)))), ((a 3), .inl (cI, 9, .inl (fun j => nI ((g 3) j)))), ((a 4), .inl (cI, 6, .inl (fun j => nI ((g 4) j)))), ((a 5), .inl (cI, 6, .inl (fun j => nI ((g 5) j)))), ((a 6), .inl (cI, 6, .inl (fun j => nI ((g 6) j)))), ((a 7), .inl (cI, 5, .inl (fun j => nI ((g 7) j)))), ((a 8), .inl (cI, 5, .inl (fun j => nI ((g 8) j)))), ((a 9), .inl (cI, 5, .inl (fun j => ly_h ((g 9) j)))), ((b 0), .inr (3, [.int (nI (d 0)), .int (nI (d 1)), .int (nI (d 2)), .int (nI (d 3)), .int (nI (d 4)), .ref (b 1), .ref (b 2)])), ((b 1), .inl (cI, 9, .inl (fun j => ly_h (ho j)))), ((b 2), .inl (cI, 9, .inl (fun j => nI (le j))))] [.ref (t 0), .int y]) (QcRead (-1)) 0 0 (fun _ => False) := by
  refine Met.ofW (cc := cX6_now) (maxL := 2) (ret := (some .int)) (by decide) rfl ?_
  intro p e s m args below meth c s₁ B hml hv
  obtain ⟨rfl, hP, hK, hN⟩ := hv
  have hx := B.exec
  have hb := B.bytes
  have hr := B.returns
  have hts := atoms_spec (ws := wsX6_now) B.pre
  have hown : s.vm.findClass RX6 = some m.cls := findClass_of_methodNamed B.named
  have hlocks := B.notSynchronized
  have hl := lv_entry ([.ref (t 0), .int y]) (n := 2) (Nat.le_of_ble_eq_true rfl)
  rw [lg_entry_eq]
  generalize (lg_sl ([.ref (t 0), .int y]) ++ List.replicate (2 - (lg_sl ([.ref (t 0), .int y])).length) Slot.unset).toArray = ls at hl ⊢
  have hl : lv_has ls 2 [(0, .ref (t 0)), (1, .int y)] := hl
  generalize ([.ref (t 0), .int y] : List Value).toArray = av at hts ⊢
  obtain ⟨Qc, hQc⟩ : ∃ Qc, Qc = (QcRead (-1)) := ⟨_, rfl⟩
  rw [← hQc]
  refine lv_iload_n hx hb dX6_now_0 rfl (lv_at hl 1 rfl) ?_
  refine lv_tableOut (tgt := 106) hx hb dX6_now_1 hw (by decide) ?_
  refine lv_iconst (v := (-1)) hx hb dX6_now_106 (by decide) ?_
  exact W.iret (v := (-1)) hx hb hr (fun t_9 ht_9 _ => by rw [hQc]; exact ⟨rfl, ht_9⟩) t_nil dX6_now_107

set_option maxHeartbeats 4000000 in
set_option maxRecDepth 100000 in
theorem c_X6_now_0 (l : Launch) (D : va_G) (cI cC cZ cN : ClassId) (t a2 : Nat → Nat) (lt : Nat) (tr : Int64) (a : Nat → Nat) (g : Nat → Nat → Nat) (b : Nat → Nat) (d ho le : Nat → Nat) (hn : g 0 0 ≤ 9) : Met l yX6_now wsX6_now (ly_rm 5) (ly_Pre D (ly_tys cI cC cZ cN) [((t 0), .inr (6, [.ref (t 1), .int (nI lt), .ref (t 2), .ref (a 0), .ref (a2 0), .ref (b 0), .ref (t 4), .ref (t 5), .ref (t 6), .ref (t 7), .ref (t 8), .long tr])), ((a 0), .inr (4, [.int (nI (g 0 0)), .ref (a 1), .ref (a 2), .ref (a 3), .int (nI (g 0 1)), .ref (a 4), .ref (a 5), .ref (a 6), .ref (a 7), .ref (a 8), .ref (a 9), .int (nI (g 0 2))])), ((a 1), .inl (cI, 9, .inl (fun j => nI ((g 1) j)))), ((a 2), .inl (cI, 9, .inl (fun j => nI ((g 2) j)))), ((a 3), .inl (cI, 9, .inl (fun j => nI ((g 3) j)))), ((a 4), .inl (cI, 6, .inl (fun j => nI ((g 4) j)))), ((a 5), .inl (cI, 6, .inl (fun j => nI ((g 5) j)))), ((a 6), .inl (cI, 6, .inl (fun j => nI ((g 6) j)))), ((a 7), .inl (cI, 5, .inl (fun j => nI ((g 7) j)))), ((a 8), .inl (cI, 5, .inl (fun j => nI ((g 8) j)))), ((a 9), .inl (cI, 5, .inl (fun j => ly_h ((g 9) j)))), ((b 0), .inr (3, [.int (nI (d 0)), .int (nI (d 1)), .int (nI (d 2)), .int (nI (d 3)), .int (nI (d 4)), .ref (b 1), .ref (b 2)])), ((b 1), .inl (cI, 9, .inl (fun j => ly_h (ho j)))), ((b 2), .inl (cI, 9, .inl (fun j => nI (le j))))] [.ref (t 0), .int (nI 0)]) (QcRead (nI (d 0))) 0 0 (fun _ => False) := by
  refine Met.ofW (cc := cX6_now) (maxL := 2) (ret := (some .int)) (by decide) rfl ?_
  intro p e s m args below meth c s₁ B hml hv
  obtain ⟨rfl, hP, hK, hN⟩ := hv
  have hx := B.exec
  have hb := B.bytes
  have hr := B.returns
  have hts := atoms_spec (ws := wsX6_now) B.pre
  have hown : s.vm.findClass RX6 = some m.cls := findClass_of_methodNamed B.named
  have hlocks := B.notSynchronized
  have hl := lv_entry ([.ref (t 0), .int (nI 0)]) (n := 2) (Nat.le_of_ble_eq_true rfl)
  rw [lg_entry_eq]
  generalize (lg_sl ([.ref (t 0), .int (nI 0)]) ++ List.replicate (2 - (lg_sl ([.ref (t 0), .int (nI 0)])).length) Slot.unset).toArray = ls at hl ⊢
  have hl : lv_has ls 2 [(0, .ref (t 0)), (1, .int (nI 0))] := hl
  generalize ([.ref (t 0), .int (nI 0)] : List Value).toArray = av at hts ⊢
  obtain ⟨Qc, hQc⟩ : ∃ Qc, Qc = (QcRead (nI (d 0))) := ⟨_, rfl⟩
  rw [← hQc]
  have f37 := hts (.fieldLink RX6 37 "KneesLent" "now" "LKneesLent$Now;") (by decide +kernel)
  have f156 := hts (.fieldLink RX6 156 "KneesLent$Now" "day" "I") (by decide +kernel)
  have hiX6 : ∀ w ∈ u_ws RX6 TX6 12, w ∈ wsX6_now := by decide +kernel
  have hiX3 : ∀ w ∈ u_ws RX3 TX3 7, w ∈ wsX6_now := by decide +kernel
  refine lv_iload_n hx hb dX6_now_0 rfl (lv_at hl 1 rfl) ?_
  refine lv_tableIn (off := 47) (tgt := 48) hx hb dX6_now_1 (by decide) (by decide) (by decide) (by decide) ?_
  refine lv_aload_n hx hb dX6_now_48 rfl (lv_at hl 0 rfl) ?_
  refine va_get (D := D) (ci := 6) (v := .ref (b 0)) (C := RX6) (T := TX6) (N := 12) hx hb hts hiX6 hown hK hP 0 rfl rfl 5 (by decide) f37 (fun _ h9 => h9) rfl dX6_now_49 ?_
  refine va_get (D := D) (ci := 3) (v := .int (nI (d 0))) (C := RX3) (T := TX3) (N := 7) hx hb hts hiX3 hown hK hP 11 rfl rfl 0 (by decide) f156 (fun _ h9 => h9) rfl dX6_now_52 ?_
  exact W.iret (v := (nI (d 0))) hx hb hr (fun t_9 ht_9 _ => by rw [hQc]; exact ⟨rfl, ht_9⟩) t_nil dX6_now_55

set_option maxHeartbeats 4000000 in
set_option maxRecDepth 100000 in
theorem c_X6_now_1 (l : Launch) (D : va_G) (cI cC cZ cN : ClassId) (t a2 : Nat → Nat) (lt : Nat) (tr : Int64) (a : Nat → Nat) (g : Nat → Nat → Nat) (b : Nat → Nat) (d ho le : Nat → Nat) (hn : g 0 0 ≤ 9) : Met l yX6_now wsX6_now (ly_rm 5) (ly_Pre D (ly_tys cI cC cZ cN) [((t 0), .inr (6, [.ref (t 1), .int (nI lt), .ref (t 2), .ref (a 0), .ref (a2 0), .ref (b 0), .ref (t 4), .ref (t 5), .ref (t 6), .ref (t 7), .ref (t 8), .long tr])), ((a 0), .inr (4, [.int (nI (g 0 0)), .ref (a 1), .ref (a 2), .ref (a 3), .int (nI (g 0 1)), .ref (a 4), .ref (a 5), .ref (a 6), .ref (a 7), .ref (a 8), .ref (a 9), .int (nI (g 0 2))])), ((a 1), .inl (cI, 9, .inl (fun j => nI ((g 1) j)))), ((a 2), .inl (cI, 9, .inl (fun j => nI ((g 2) j)))), ((a 3), .inl (cI, 9, .inl (fun j => nI ((g 3) j)))), ((a 4), .inl (cI, 6, .inl (fun j => nI ((g 4) j)))), ((a 5), .inl (cI, 6, .inl (fun j => nI ((g 5) j)))), ((a 6), .inl (cI, 6, .inl (fun j => nI ((g 6) j)))), ((a 7), .inl (cI, 5, .inl (fun j => nI ((g 7) j)))), ((a 8), .inl (cI, 5, .inl (fun j => nI ((g 8) j)))), ((a 9), .inl (cI, 5, .inl (fun j => ly_h ((g 9) j)))), ((b 0), .inr (3, [.int (nI (d 0)), .int (nI (d 1)), .int (nI (d 2)), .int (nI (d 3)), .int (nI (d 4)), .ref (b 1), .ref (b 2)])), ((b 1), .inl (cI, 9, .inl (fun j => ly_h (ho j)))), ((b 2), .inl (cI, 9, .inl (fun j => nI (le j))))] [.ref (t 0), .int (nI 1)]) (QcRead (s_home ho (g 0 0))) 0 0 (fun _ => False) := by
  refine Met.ofW (cc := cX6_now) (maxL := 2) (ret := (some .int)) (by decide) rfl ?_
  intro p e s m args below meth c s₁ B hml hv
  obtain ⟨rfl, hP, hK, hN⟩ := hv
  have hx := B.exec
  have hb := B.bytes
  have hr := B.returns
  have hts := atoms_spec (ws := wsX6_now) B.pre
  have hown : s.vm.findClass RX6 = some m.cls := findClass_of_methodNamed B.named
  have hlocks := B.notSynchronized
  have hl := lv_entry ([.ref (t 0), .int (nI 1)]) (n := 2) (Nat.le_of_ble_eq_true rfl)
  rw [lg_entry_eq]
  generalize (lg_sl ([.ref (t 0), .int (nI 1)]) ++ List.replicate (2 - (lg_sl ([.ref (t 0), .int (nI 1)])).length) Slot.unset).toArray = ls at hl ⊢
  have hl : lv_has ls 2 [(0, .ref (t 0)), (1, .int (nI 1))] := hl
  generalize ([.ref (t 0), .int (nI 1)] : List Value).toArray = av at hts ⊢
  obtain ⟨Qc, hQc⟩ : ∃ Qc, Qc = (QcRead (s_home ho (g 0 0))) := ⟨_, rfl⟩
  rw [← hQc]
  refine lv_iload_n hx hb dX6_now_0 rfl (lv_at hl 1 rfl) ?_
  refine lv_tableIn (off := 55) (tgt := 56) hx hb dX6_now_1 (by decide) (by decide) (by decide) (by decide) ?_
  refine lv_aload_n hx hb dX6_now_56 rfl (lv_at hl 0 rfl) ?_
  have hPc_57 := hP.sub (ws' := [((t 0), .inr (6, [.ref (t 1), .int (nI lt), .ref (t 2), .ref (a 0), .ref (a2 0), .ref (b 0), .ref (t 4), .ref (t 5), .ref (t 6), .ref (t 7), .ref (t 8), .long tr])), ((a 0), .inr (4, [.int (nI (g 0 0)), .ref (a 1), .ref (a 2), .ref (a 3), .int (nI (g 0 1)), .ref (a 4), .ref (a 5), .ref (a 6), .ref (a 7), .ref (a 8), .ref (a 9), .int (nI (g 0 2))])), ((a 1), .inl (cI, 9, .inl (fun j => nI ((g 1) j)))), ((a 2), .inl (cI, 9, .inl (fun j => nI ((g 2) j)))), ((a 3), .inl (cI, 9, .inl (fun j => nI ((g 3) j)))), ((a 4), .inl (cI, 6, .inl (fun j => nI ((g 4) j)))), ((a 5), .inl (cI, 6, .inl (fun j => nI ((g 5) j)))), ((a 6), .inl (cI, 6, .inl (fun j => nI ((g 6) j)))), ((a 7), .inl (cI, 5, .inl (fun j => nI ((g 7) j)))), ((a 8), .inl (cI, 5, .inl (fun j => nI ((g 8) j)))), ((a 9), .inl (cI, 5, .inl (fun j => ly_h ((g 9) j)))), ((b 0), .inr (3, [.int (nI (d 0)), .int (nI (d 1)), .int (nI (d 2)), .int (nI (d 3)), .int (nI (d 4)), .ref (b 1), .ref (b 2)])), ((b 1), .inl (cI, 9, .inl (fun j => ly_h (ho j)))), ((b 2), .inl (cI, 9, .inl (fun j => nI (le j))))]) [0, 1, 2, 3, 4, 5, 6, 7, 8, 9, 10, 11, 12, 13] rfl
  refine ly_r (va_runV (As := []) (rest := []) ⟨hx, hb, hml, hown, hts⟩ (c_X6_kneesAtHome l D cI cC cZ cN t a2 lt tr a g b d ho le hn) (cwV 0 hts gX6_now_X6_kneesAtHome rfl rfl rfl (by decide +kernel) ⟨Nat.le_of_ble_eq_true rfl, Nat.le_of_ble_eq_true rfl⟩) (ly_pv hK hN hPc_57 0 6 rfl rfl rfl) rfl rfl hl.1 rfl (lv_room (Nat.le_of_ble_eq_true rfl)) dX6_now_57 ⟨Nat.zero_le _, Nat.zero_le _⟩) ?_
  exact W.iret (v := (s_home ho (g 0 0))) hx hb hr (fun t_9 ht_9 _ => by rw [hQc]; exact ⟨rfl, ht_9⟩) t_nil dX6_now_60

set_option maxHeartbeats 4000000 in
set_option maxRecDepth 100000 in
theorem c_X6_now_2 (l : Launch) (D : va_G) (cI cC cZ cN : ClassId) (t a2 : Nat → Nat) (lt : Nat) (tr : Int64) (a : Nat → Nat) (g : Nat → Nat → Nat) (b : Nat → Nat) (d ho le : Nat → Nat) (hn : g 0 0 ≤ 9) : Met l yX6_now wsX6_now (ly_rm 5) (ly_Pre D (ly_tys cI cC cZ cN) [((t 0), .inr (6, [.ref (t 1), .int (nI lt), .ref (t 2), .ref (a 0), .ref (a2 0), .ref (b 0), .ref (t 4), .ref (t 5), .ref (t 6), .ref (t 7), .ref (t 8), .long tr])), ((a 0), .inr (4, [.int (nI (g 0 0)), .ref (a 1), .ref (a 2), .ref (a 3), .int (nI (g 0 1)), .ref (a 4), .ref (a 5), .ref (a 6), .ref (a 7), .ref (a 8), .ref (a 9), .int (nI (g 0 2))])), ((a 1), .inl (cI, 9, .inl (fun j => nI ((g 1) j)))), ((a 2), .inl (cI, 9, .inl (fun j => nI ((g 2) j)))), ((a 3), .inl (cI, 9, .inl (fun j => nI ((g 3) j)))), ((a 4), .inl (cI, 6, .inl (fun j => nI ((g 4) j)))), ((a 5), .inl (cI, 6, .inl (fun j => nI ((g 5) j)))), ((a 6), .inl (cI, 6, .inl (fun j => nI ((g 6) j)))), ((a 7), .inl (cI, 5, .inl (fun j => nI ((g 7) j)))), ((a 8), .inl (cI, 5, .inl (fun j => nI ((g 8) j)))), ((a 9), .inl (cI, 5, .inl (fun j => ly_h ((g 9) j)))), ((b 0), .inr (3, [.int (nI (d 0)), .int (nI (d 1)), .int (nI (d 2)), .int (nI (d 3)), .int (nI (d 4)), .ref (b 1), .ref (b 2)])), ((b 1), .inl (cI, 9, .inl (fun j => ly_h (ho j)))), ((b 2), .inl (cI, 9, .inl (fun j => nI (le j))))] [.ref (t 0), .int (nI 2)]) (QcRead (nI (d 1))) 0 0 (fun _ => False) := by
  refine Met.ofW (cc := cX6_now) (maxL := 2) (ret := (some .int)) (by decide) rfl ?_
  intro p e s m args below meth c s₁ B hml hv
  obtain ⟨rfl, hP, hK, hN⟩ := hv
  have hx := B.exec
  have hb := B.bytes
  have hr := B.returns
  have hts := atoms_spec (ws := wsX6_now) B.pre
  have hown : s.vm.findClass RX6 = some m.cls := findClass_of_methodNamed B.named
  have hlocks := B.notSynchronized
  have hl := lv_entry ([.ref (t 0), .int (nI 2)]) (n := 2) (Nat.le_of_ble_eq_true rfl)
  rw [lg_entry_eq]
  generalize (lg_sl ([.ref (t 0), .int (nI 2)]) ++ List.replicate (2 - (lg_sl ([.ref (t 0), .int (nI 2)])).length) Slot.unset).toArray = ls at hl ⊢
  have hl : lv_has ls 2 [(0, .ref (t 0)), (1, .int (nI 2))] := hl
  generalize ([.ref (t 0), .int (nI 2)] : List Value).toArray = av at hts ⊢
  obtain ⟨Qc, hQc⟩ : ∃ Qc, Qc = (QcRead (nI (d 1))) := ⟨_, rfl⟩
  rw [← hQc]
  have f37 := hts (.fieldLink RX6 37 "KneesLent" "now" "LKneesLent$Now;") (by decide +kernel)
  have f163 := hts (.fieldLink RX6 163 "KneesLent$Now" "oil" "I") (by decide +kernel)
  have hiX6 : ∀ w ∈ u_ws RX6 TX6 12, w ∈ wsX6_now := by decide +kernel
  have hiX3 : ∀ w ∈ u_ws RX3 TX3 7, w ∈ wsX6_now := by decide +kernel
  refine lv_iload_n hx hb dX6_now_0 rfl (lv_at hl 1 rfl) ?_
  refine lv_tableIn (off := 60) (tgt := 61) hx hb dX6_now_1 (by decide) (by decide) (by decide) (by decide) ?_
  refine lv_aload_n hx hb dX6_now_61 rfl (lv_at hl 0 rfl) ?_
  refine va_get (D := D) (ci := 6) (v := .ref (b 0)) (C := RX6) (T := TX6) (N := 12) hx hb hts hiX6 hown hK hP 0 rfl rfl 5 (by decide) f37 (fun _ h9 => h9) rfl dX6_now_62 ?_
  refine va_get (D := D) (ci := 3) (v := .int (nI (d 1))) (C := RX3) (T := TX3) (N := 7) hx hb hts hiX3 hown hK hP 11 rfl rfl 1 (by decide) f163 (fun _ h9 => h9) rfl dX6_now_65 ?_
  exact W.iret (v := (nI (d 1))) hx hb hr (fun t_9 ht_9 _ => by rw [hQc]; exact ⟨rfl, ht_9⟩) t_nil dX6_now_68

set_option maxHeartbeats 4000000 in
set_option maxRecDepth 100000 in
theorem c_X6_now_3 (l : Launch) (D : va_G) (cI cC cZ cN : ClassId) (t a2 : Nat → Nat) (lt : Nat) (tr : Int64) (a : Nat → Nat) (g : Nat → Nat → Nat) (b : Nat → Nat) (d ho le : Nat → Nat) (hn : g 0 0 ≤ 9) : Met l yX6_now wsX6_now (ly_rm 5) (ly_Pre D (ly_tys cI cC cZ cN) [((t 0), .inr (6, [.ref (t 1), .int (nI lt), .ref (t 2), .ref (a 0), .ref (a2 0), .ref (b 0), .ref (t 4), .ref (t 5), .ref (t 6), .ref (t 7), .ref (t 8), .long tr])), ((a 0), .inr (4, [.int (nI (g 0 0)), .ref (a 1), .ref (a 2), .ref (a 3), .int (nI (g 0 1)), .ref (a 4), .ref (a 5), .ref (a 6), .ref (a 7), .ref (a 8), .ref (a 9), .int (nI (g 0 2))])), ((a 1), .inl (cI, 9, .inl (fun j => nI ((g 1) j)))), ((a 2), .inl (cI, 9, .inl (fun j => nI ((g 2) j)))), ((a 3), .inl (cI, 9, .inl (fun j => nI ((g 3) j)))), ((a 4), .inl (cI, 6, .inl (fun j => nI ((g 4) j)))), ((a 5), .inl (cI, 6, .inl (fun j => nI ((g 5) j)))), ((a 6), .inl (cI, 6, .inl (fun j => nI ((g 6) j)))), ((a 7), .inl (cI, 5, .inl (fun j => nI ((g 7) j)))), ((a 8), .inl (cI, 5, .inl (fun j => nI ((g 8) j)))), ((a 9), .inl (cI, 5, .inl (fun j => ly_h ((g 9) j)))), ((b 0), .inr (3, [.int (nI (d 0)), .int (nI (d 1)), .int (nI (d 2)), .int (nI (d 3)), .int (nI (d 4)), .ref (b 1), .ref (b 2)])), ((b 1), .inl (cI, 9, .inl (fun j => ly_h (ho j)))), ((b 2), .inl (cI, 9, .inl (fun j => nI (le j))))] [.ref (t 0), .int (nI 3)]) (QcRead (nI (d 2))) 0 0 (fun _ => False) := by
  refine Met.ofW (cc := cX6_now) (maxL := 2) (ret := (some .int)) (by decide) rfl ?_
  intro p e s m args below meth c s₁ B hml hv
  obtain ⟨rfl, hP, hK, hN⟩ := hv
  have hx := B.exec
  have hb := B.bytes
  have hr := B.returns
  have hts := atoms_spec (ws := wsX6_now) B.pre
  have hown : s.vm.findClass RX6 = some m.cls := findClass_of_methodNamed B.named
  have hlocks := B.notSynchronized
  have hl := lv_entry ([.ref (t 0), .int (nI 3)]) (n := 2) (Nat.le_of_ble_eq_true rfl)
  rw [lg_entry_eq]
  generalize (lg_sl ([.ref (t 0), .int (nI 3)]) ++ List.replicate (2 - (lg_sl ([.ref (t 0), .int (nI 3)])).length) Slot.unset).toArray = ls at hl ⊢
  have hl : lv_has ls 2 [(0, .ref (t 0)), (1, .int (nI 3))] := hl
  generalize ([.ref (t 0), .int (nI 3)] : List Value).toArray = av at hts ⊢
  obtain ⟨Qc, hQc⟩ : ∃ Qc, Qc = (QcRead (nI (d 2))) := ⟨_, rfl⟩
  rw [← hQc]
  have f37 := hts (.fieldLink RX6 37 "KneesLent" "now" "LKneesLent$Now;") (by decide +kernel)
  have f165 := hts (.fieldLink RX6 165 "KneesLent$Now" "fines" "I") (by decide +kernel)
  have hiX6 : ∀ w ∈ u_ws RX6 TX6 12, w ∈ wsX6_now := by decide +kernel
  have hiX3 : ∀ w ∈ u_ws RX3 TX3 7, w ∈ wsX6_now := by decide +kernel
  refine lv_iload_n hx hb dX6_now_0 rfl (lv_at hl 1 rfl) ?_
  refine lv_tableIn (off := 68) (tgt := 69) hx hb dX6_now_1 (by decide) (by decide) (by decide) (by decide) ?_
  refine lv_aload_n hx hb dX6_now_69 rfl (lv_at hl 0 rfl) ?_
  refine va_get (D := D) (ci := 6) (v := .ref (b 0)) (C := RX6) (T := TX6) (N := 12) hx hb hts hiX6 hown hK hP 0 rfl rfl 5 (by decide) f37 (fun _ h9 => h9) rfl dX6_now_70 ?_
  refine va_get (D := D) (ci := 3) (v := .int (nI (d 2))) (C := RX3) (T := TX3) (N := 7) hx hb hts hiX3 hown hK hP 11 rfl rfl 2 (by decide) f165 (fun _ h9 => h9) rfl dX6_now_73 ?_
  exact W.iret (v := (nI (d 2))) hx hb hr (fun t_9 ht_9 _ => by rw [hQc]; exact ⟨rfl, ht_9⟩) t_nil dX6_now_76

set_option maxHeartbeats 4000000 in
set_option maxRecDepth 100000 in
theorem c_X6_now_4 (l : Launch) (D : va_G) (cI cC cZ cN : ClassId) (t a2 : Nat → Nat) (lt : Nat) (tr : Int64) (a : Nat → Nat) (g : Nat → Nat → Nat) (b : Nat → Nat) (d ho le : Nat → Nat) (hn : g 0 0 ≤ 9) : Met l yX6_now wsX6_now (ly_rm 5) (ly_Pre D (ly_tys cI cC cZ cN) [((t 0), .inr (6, [.ref (t 1), .int (nI lt), .ref (t 2), .ref (a 0), .ref (a2 0), .ref (b 0), .ref (t 4), .ref (t 5), .ref (t 6), .ref (t 7), .ref (t 8), .long tr])), ((a 0), .inr (4, [.int (nI (g 0 0)), .ref (a 1), .ref (a 2), .ref (a 3), .int (nI (g 0 1)), .ref (a 4), .ref (a 5), .ref (a 6), .ref (a 7), .ref (a 8), .ref (a 9), .int (nI (g 0 2))])), ((a 1), .inl (cI, 9, .inl (fun j => nI ((g 1) j)))), ((a 2), .inl (cI, 9, .inl (fun j => nI ((g 2) j)))), ((a 3), .inl (cI, 9, .inl (fun j => nI ((g 3) j)))), ((a 4), .inl (cI, 6, .inl (fun j => nI ((g 4) j)))), ((a 5), .inl (cI, 6, .inl (fun j => nI ((g 5) j)))), ((a 6), .inl (cI, 6, .inl (fun j => nI ((g 6) j)))), ((a 7), .inl (cI, 5, .inl (fun j => nI ((g 7) j)))), ((a 8), .inl (cI, 5, .inl (fun j => nI ((g 8) j)))), ((a 9), .inl (cI, 5, .inl (fun j => ly_h ((g 9) j)))), ((b 0), .inr (3, [.int (nI (d 0)), .int (nI (d 1)), .int (nI (d 2)), .int (nI (d 3)), .int (nI (d 4)), .ref (b 1), .ref (b 2)])), ((b 1), .inl (cI, 9, .inl (fun j => ly_h (ho j)))), ((b 2), .inl (cI, 9, .inl (fun j => nI (le j))))] [.ref (t 0), .int (nI 4)]) (QcRead (nI (d 3))) 0 0 (fun _ => False) := by
  refine Met.ofW (cc := cX6_now) (maxL := 2) (ret := (some .int)) (by decide) rfl ?_
  intro p e s m args below meth c s₁ B hml hv
  obtain ⟨rfl, hP, hK, hN⟩ := hv
  have hx := B.exec
  have hb := B.bytes
  have hr := B.returns
  have hts := atoms_spec (ws := wsX6_now) B.pre
  have hown : s.vm.findClass RX6 = some m.cls := findClass_of_methodNamed B.named
  have hlocks := B.notSynchronized
  have hl := lv_entry ([.ref (t 0), .int (nI 4)]) (n := 2) (Nat.le_of_ble_eq_true rfl)
  rw [lg_entry_eq]
  generalize (lg_sl ([.ref (t 0), .int (nI 4)]) ++ List.replicate (2 - (lg_sl ([.ref (t 0), .int (nI 4)])).length) Slot.unset).toArray = ls at hl ⊢
  have hl : lv_has ls 2 [(0, .ref (t 0)), (1, .int (nI 4))] := hl
  generalize ([.ref (t 0), .int (nI 4)] : List Value).toArray = av at hts ⊢
  obtain ⟨Qc, hQc⟩ : ∃ Qc, Qc = (QcRead (nI (d 3))) := ⟨_, rfl⟩
  rw [← hQc]
  have f37 := hts (.fieldLink RX6 37 "KneesLent" "now" "LKneesLent$Now;") (by decide +kernel)
  have f168 := hts (.fieldLink RX6 168 "KneesLent$Now" "gave" "I") (by decide +kernel)
  have hiX6 : ∀ w ∈ u_ws RX6 TX6 12, w ∈ wsX6_now := by decide +kernel
  have hiX3 : ∀ w ∈ u_ws RX3 TX3 7, w ∈ wsX6_now := by decide +kernel
  refine lv_iload_n hx hb dX6_now_0 rfl (lv_at hl 1 rfl) ?_
  refine lv_tableIn (off := 76) (tgt := 77) hx hb dX6_now_1 (by decide) (by decide) (by decide) (by decide) ?_
  refine lv_aload_n hx hb dX6_now_77 rfl (lv_at hl 0 rfl) ?_
  refine va_get (D := D) (ci := 6) (v := .ref (b 0)) (C := RX6) (T := TX6) (N := 12) hx hb hts hiX6 hown hK hP 0 rfl rfl 5 (by decide) f37 (fun _ h9 => h9) rfl dX6_now_78 ?_
  refine va_get (D := D) (ci := 3) (v := .int (nI (d 3))) (C := RX3) (T := TX3) (N := 7) hx hb hts hiX3 hown hK hP 11 rfl rfl 3 (by decide) f168 (fun _ h9 => h9) rfl dX6_now_81 ?_
  exact W.iret (v := (nI (d 3))) hx hb hr (fun t_9 ht_9 _ => by rw [hQc]; exact ⟨rfl, ht_9⟩) t_nil dX6_now_84

set_option maxHeartbeats 4000000 in
set_option maxRecDepth 100000 in
theorem c_X6_now_5 (l : Launch) (D : va_G) (cI cC cZ cN : ClassId) (t a2 : Nat → Nat) (lt : Nat) (tr : Int64) (a : Nat → Nat) (g : Nat → Nat → Nat) (b : Nat → Nat) (d ho le : Nat → Nat) (hn : g 0 0 ≤ 9) : Met l yX6_now wsX6_now (ly_rm 5) (ly_Pre D (ly_tys cI cC cZ cN) [((t 0), .inr (6, [.ref (t 1), .int (nI lt), .ref (t 2), .ref (a 0), .ref (a2 0), .ref (b 0), .ref (t 4), .ref (t 5), .ref (t 6), .ref (t 7), .ref (t 8), .long tr])), ((a 0), .inr (4, [.int (nI (g 0 0)), .ref (a 1), .ref (a 2), .ref (a 3), .int (nI (g 0 1)), .ref (a 4), .ref (a 5), .ref (a 6), .ref (a 7), .ref (a 8), .ref (a 9), .int (nI (g 0 2))])), ((a 1), .inl (cI, 9, .inl (fun j => nI ((g 1) j)))), ((a 2), .inl (cI, 9, .inl (fun j => nI ((g 2) j)))), ((a 3), .inl (cI, 9, .inl (fun j => nI ((g 3) j)))), ((a 4), .inl (cI, 6, .inl (fun j => nI ((g 4) j)))), ((a 5), .inl (cI, 6, .inl (fun j => nI ((g 5) j)))), ((a 6), .inl (cI, 6, .inl (fun j => nI ((g 6) j)))), ((a 7), .inl (cI, 5, .inl (fun j => nI ((g 7) j)))), ((a 8), .inl (cI, 5, .inl (fun j => nI ((g 8) j)))), ((a 9), .inl (cI, 5, .inl (fun j => ly_h ((g 9) j)))), ((b 0), .inr (3, [.int (nI (d 0)), .int (nI (d 1)), .int (nI (d 2)), .int (nI (d 3)), .int (nI (d 4)), .ref (b 1), .ref (b 2)])), ((b 1), .inl (cI, 9, .inl (fun j => ly_h (ho j)))), ((b 2), .inl (cI, 9, .inl (fun j => nI (le j))))] [.ref (t 0), .int (nI 5)]) (QcRead (ly_h (s_rest d ho le (g 0 0)))) 0 0 (fun _ => False) := by
  refine Met.ofW (cc := cX6_now) (maxL := 2) (ret := (some .int)) (by decide) rfl ?_
  intro p e s m args below meth c s₁ B hml hv
  obtain ⟨rfl, hP, hK, hN⟩ := hv
  have hx := B.exec
  have hb := B.bytes
  have hr := B.returns
  have hts := atoms_spec (ws := wsX6_now) B.pre
  have hown : s.vm.findClass RX6 = some m.cls := findClass_of_methodNamed B.named
  have hlocks := B.notSynchronized
  have hl := lv_entry ([.ref (t 0), .int (nI 5)]) (n := 2) (Nat.le_of_ble_eq_true rfl)
  rw [lg_entry_eq]
  generalize (lg_sl ([.ref (t 0), .int (nI 5)]) ++ List.replicate (2 - (lg_sl ([.ref (t 0), .int (nI 5)])).length) Slot.unset).toArray = ls at hl ⊢
  have hl : lv_has ls 2 [(0, .ref (t 0)), (1, .int (nI 5))] := hl
  generalize ([.ref (t 0), .int (nI 5)] : List Value).toArray = av at hts ⊢
  obtain ⟨Qc, hQc⟩ : ∃ Qc, Qc = (QcRead (ly_h (s_rest d ho le (g 0 0)))) := ⟨_, rfl⟩
  rw [← hQc]
  refine lv_iload_n hx hb dX6_now_0 rfl (lv_at hl 1 rfl) ?_
  refine lv_tableIn (off := 84) (tgt := 85) hx hb dX6_now_1 (by decide) (by decide) (by decide) (by decide) ?_
  refine lv_aload_n hx hb dX6_now_85 rfl (lv_at hl 0 rfl) ?_
  have hPc_86 := hP.sub (ws' := [((t 0), .inr (6, [.ref (t 1), .int (nI lt), .ref (t 2), .ref (a 0), .ref (a2 0), .ref (b 0), .ref (t 4), .ref (t 5), .ref (t 6), .ref (t 7), .ref (t 8), .long tr])), ((a 0), .inr (4, [.int (nI (g 0 0)), .ref (a 1), .ref (a 2), .ref (a 3), .int (nI (g 0 1)), .ref (a 4), .ref (a 5), .ref (a 6), .ref (a 7), .ref (a 8), .ref (a 9), .int (nI (g 0 2))])), ((a 1), .inl (cI, 9, .inl (fun j => nI ((g 1) j)))), ((a 2), .inl (cI, 9, .inl (fun j => nI ((g 2) j)))), ((a 3), .inl (cI, 9, .inl (fun j => nI ((g 3) j)))), ((a 4), .inl (cI, 6, .inl (fun j => nI ((g 4) j)))), ((a 5), .inl (cI, 6, .inl (fun j => nI ((g 5) j)))), ((a 6), .inl (cI, 6, .inl (fun j => nI ((g 6) j)))), ((a 7), .inl (cI, 5, .inl (fun j => nI ((g 7) j)))), ((a 8), .inl (cI, 5, .inl (fun j => nI ((g 8) j)))), ((a 9), .inl (cI, 5, .inl (fun j => ly_h ((g 9) j)))), ((b 0), .inr (3, [.int (nI (d 0)), .int (nI (d 1)), .int (nI (d 2)), .int (nI (d 3)), .int (nI (d 4)), .ref (b 1), .ref (b 2)])), ((b 1), .inl (cI, 9, .inl (fun j => ly_h (ho j)))), ((b 2), .inl (cI, 9, .inl (fun j => nI (le j))))]) [0, 1, 2, 3, 4, 5, 6, 7, 8, 9, 10, 11, 12, 13] rfl
  refine ly_r (va_runV (As := []) (rest := []) ⟨hx, hb, hml, hown, hts⟩ (c_X6_restingKnee l D cI cC cZ cN t a2 lt tr a g b d ho le hn) (cwV 0 hts gX6_now_X6_restingKnee rfl rfl rfl (by decide +kernel) ⟨Nat.le_of_ble_eq_true rfl, Nat.le_of_ble_eq_true rfl⟩) (ly_pv hK hN hPc_86 0 6 rfl rfl rfl) rfl rfl hl.1 rfl (lv_room (Nat.le_of_ble_eq_true rfl)) dX6_now_86 ⟨Nat.zero_le _, Nat.zero_le _⟩) ?_
  exact W.iret (v := (ly_h (s_rest d ho le (g 0 0)))) hx hb hr (fun t_9 ht_9 _ => by rw [hQc]; exact ⟨rfl, ht_9⟩) t_nil dX6_now_89

set_option maxHeartbeats 4000000 in
set_option maxRecDepth 100000 in
theorem c_X6_now_6 (l : Launch) (D : va_G) (cI cC cZ cN : ClassId) (t a2 : Nat → Nat) (lt : Nat) (tr : Int64) (a : Nat → Nat) (g : Nat → Nat → Nat) (b : Nat → Nat) (d ho le : Nat → Nat) (hn : g 0 0 ≤ 9) : Met l yX6_now wsX6_now (ly_rm 5) (ly_Pre D (ly_tys cI cC cZ cN) [((t 0), .inr (6, [.ref (t 1), .int (nI lt), .ref (t 2), .ref (a 0), .ref (a2 0), .ref (b 0), .ref (t 4), .ref (t 5), .ref (t 6), .ref (t 7), .ref (t 8), .long tr])), ((a 0), .inr (4, [.int (nI (g 0 0)), .ref (a 1), .ref (a 2), .ref (a 3), .int (nI (g 0 1)), .ref (a 4), .ref (a 5), .ref (a 6), .ref (a 7), .ref (a 8), .ref (a 9), .int (nI (g 0 2))])), ((a 1), .inl (cI, 9, .inl (fun j => nI ((g 1) j)))), ((a 2), .inl (cI, 9, .inl (fun j => nI ((g 2) j)))), ((a 3), .inl (cI, 9, .inl (fun j => nI ((g 3) j)))), ((a 4), .inl (cI, 6, .inl (fun j => nI ((g 4) j)))), ((a 5), .inl (cI, 6, .inl (fun j => nI ((g 5) j)))), ((a 6), .inl (cI, 6, .inl (fun j => nI ((g 6) j)))), ((a 7), .inl (cI, 5, .inl (fun j => nI ((g 7) j)))), ((a 8), .inl (cI, 5, .inl (fun j => nI ((g 8) j)))), ((a 9), .inl (cI, 5, .inl (fun j => ly_h ((g 9) j)))), ((b 0), .inr (3, [.int (nI (d 0)), .int (nI (d 1)), .int (nI (d 2)), .int (nI (d 3)), .int (nI (d 4)), .ref (b 1), .ref (b 2)])), ((b 1), .inl (cI, 9, .inl (fun j => ly_h (ho j)))), ((b 2), .inl (cI, 9, .inl (fun j => nI (le j))))] [.ref (t 0), .int (nI 6)]) (QcRead (nI (g 0 2))) 0 0 (fun _ => False) := by
  refine Met.ofW (cc := cX6_now) (maxL := 2) (ret := (some .int)) (by decide) rfl ?_
  intro p e s m args below meth c s₁ B hml hv
  obtain ⟨rfl, hP, hK, hN⟩ := hv
  have hx := B.exec
  have hb := B.bytes
  have hr := B.returns
  have hts := atoms_spec (ws := wsX6_now) B.pre
  have hown : s.vm.findClass RX6 = some m.cls := findClass_of_methodNamed B.named
  have hlocks := B.notSynchronized
  have hl := lv_entry ([.ref (t 0), .int (nI 6)]) (n := 2) (Nat.le_of_ble_eq_true rfl)
  rw [lg_entry_eq]
  generalize (lg_sl ([.ref (t 0), .int (nI 6)]) ++ List.replicate (2 - (lg_sl ([.ref (t 0), .int (nI 6)])).length) Slot.unset).toArray = ls at hl ⊢
  have hl : lv_has ls 2 [(0, .ref (t 0)), (1, .int (nI 6))] := hl
  generalize ([.ref (t 0), .int (nI 6)] : List Value).toArray = av at hts ⊢
  obtain ⟨Qc, hQc⟩ : ∃ Qc, Qc = (QcRead (nI (g 0 2))) := ⟨_, rfl⟩
  rw [← hQc]
  have f27 := hts (.fieldLink RX6 27 "KneesLent" "parish" "LKneesLent$Parish;") (by decide +kernel)
  have f174 := hts (.fieldLink RX6 174 "KneesLent$Parish" "tables" "I") (by decide +kernel)
  have hiX6 : ∀ w ∈ u_ws RX6 TX6 12, w ∈ wsX6_now := by decide +kernel
  have hiX4 : ∀ w ∈ u_ws RX4 TX4 12, w ∈ wsX6_now := by decide +kernel
  refine lv_iload_n hx hb dX6_now_0 rfl (lv_at hl 1 rfl) ?_
  refine lv_tableIn (off := 89) (tgt := 90) hx hb dX6_now_1 (by decide) (by decide) (by decide) (by decide) ?_
  refine lv_aload_n hx hb dX6_now_90 rfl (lv_at hl 0 rfl) ?_
  refine va_get (D := D) (ci := 6) (v := .ref (a 0)) (C := RX6) (T := TX6) (N := 12) hx hb hts hiX6 hown hK hP 0 rfl rfl 3 (by decide) f27 (fun _ h9 => h9) rfl dX6_now_91 ?_
  refine va_get (D := D) (ci := 4) (v := .int (nI (g 0 2))) (C := RX4) (T := TX4) (N := 12) hx hb hts hiX4 hown hK hP 1 rfl rfl 11 (by decide) f174 (fun _ h9 => h9) rfl dX6_now_94 ?_
  exact W.iret (v := (nI (g 0 2))) hx hb hr (fun t_9 ht_9 _ => by rw [hQc]; exact ⟨rfl, ht_9⟩) t_nil dX6_now_97

set_option maxHeartbeats 4000000 in
set_option maxRecDepth 100000 in
theorem c_X6_now_7 (l : Launch) (D : va_G) (cI cC cZ cN : ClassId) (t a2 a b : Nat → Nat) (lt : Nat) (tr : Int64) (nx kn : Nat) : Met l yX6_now wsX6_now (ly_rm 5) (ly_Pre D (ly_tys cI cC cZ cN) [((t 0), .inr (6, [.ref (t 1), .int (nI lt), .ref (t 2), .ref (a 0), .ref (a2 0), .ref (b 0), .ref (t 4), .ref (t 5), .ref (t 6), .ref (t 7), .ref (t 8), .long tr])), ((t 4), .inr (0, [.ref (t 9), .int (nI nx), .int (nI kn)]))] [.ref (t 0), .int (nI 7)]) (QcRead (nI kn)) 0 0 (fun _ => False) := by
  refine Met.ofW (cc := cX6_now) (maxL := 2) (ret := (some .int)) (by decide) rfl ?_
  intro p e s m args below meth c s₁ B hml hv
  obtain ⟨rfl, hP, hK, hN⟩ := hv
  have hx := B.exec
  have hb := B.bytes
  have hr := B.returns
  have hts := atoms_spec (ws := wsX6_now) B.pre
  have hown : s.vm.findClass RX6 = some m.cls := findClass_of_methodNamed B.named
  have hlocks := B.notSynchronized
  have hl := lv_entry ([.ref (t 0), .int (nI 7)]) (n := 2) (Nat.le_of_ble_eq_true rfl)
  rw [lg_entry_eq]
  generalize (lg_sl ([.ref (t 0), .int (nI 7)]) ++ List.replicate (2 - (lg_sl ([.ref (t 0), .int (nI 7)])).length) Slot.unset).toArray = ls at hl ⊢
  have hl : lv_has ls 2 [(0, .ref (t 0)), (1, .int (nI 7))] := hl
  generalize ([.ref (t 0), .int (nI 7)] : List Value).toArray = av at hts ⊢
  obtain ⟨Qc, hQc⟩ : ∃ Qc, Qc = (QcRead (nI kn)) := ⟨_, rfl⟩
  rw [← hQc]
  have f44 := hts (.fieldLink RX6 44 "KneesLent" "deeds" "LKneesLent$Deeds;") (by decide +kernel)
  have f92 := hts (.fieldLink RX6 92 "KneesLent$Deeds" "known" "I") (by decide +kernel)
  have hiX6 : ∀ w ∈ u_ws RX6 TX6 12, w ∈ wsX6_now := by decide +kernel
  have hiX0 : ∀ w ∈ u_ws RX0 TX0 3, w ∈ wsX6_now := by decide +kernel
  refine lv_iload_n hx hb dX6_now_0 rfl (lv_at hl 1 rfl) ?_
  refine lv_tableIn (off := 97) (tgt := 98) hx hb dX6_now_1 (by decide) (by decide) (by decide) (by decide) ?_
  refine lv_aload_n hx hb dX6_now_98 rfl (lv_at hl 0 rfl) ?_
  refine va_get (D := D) (ci := 6) (v := .ref (t 4)) (C := RX6) (T := TX6) (N := 12) hx hb hts hiX6 hown hK hP 0 rfl rfl 6 (by decide) f44 (fun _ h9 => h9) rfl dX6_now_99 ?_
  refine va_get (D := D) (ci := 0) (v := .int (nI kn)) (C := RX0) (T := TX0) (N := 3) hx hb hts hiX0 hown hK hP 1 rfl rfl 2 (by decide) f92 (fun _ h9 => h9) rfl dX6_now_102 ?_
  exact W.iret (v := (nI kn)) hx hb hr (fun t_9 ht_9 _ => by rw [hQc]; exact ⟨rfl, ht_9⟩) t_nil dX6_now_105

set_option maxHeartbeats 4000000 in
set_option maxRecDepth 100000 in
theorem c_X6_canGo_b1 (l : Launch) (D : va_G) (cI cC cZ cN : ClassId) (t a2 : Nat → Nat) (lt : Nat) (tr : Int64) (a : Nat → Nat) (g : Nat → Nat → Nat) (b : Nat → Nat) (d ho le : Nat → Nat) (x y : Int32) (hb9 : jin x 0 (nI (g 0 0) - 1) = 0) : Met l yX6_canGo wsX6_canGo (ly_rm 5) (ly_Pre D (ly_tys cI cC cZ cN) [((t 0), .inr (6, [.ref (t 1), .int (nI lt), .ref (t 2), .ref (a 0), .ref (a2 0), .ref (b 0), .ref (t 4), .ref (t 5), .ref (t 6), .ref (t 7), .ref (t 8), .long tr])), ((a 0), .inr (4, [.int (nI (g 0 0)), .ref (a 1), .ref (a 2), .ref (a 3), .int (nI (g 0 1)), .ref (a 4), .ref (a 5), .ref (a 6), .ref (a 7), .ref (a 8), .ref (a 9), .int (nI (g 0 2))])), ((a 1), .inl (cI, 9, .inl (fun j => nI ((g 1) j)))), ((a 2), .inl (cI, 9, .inl (fun j => nI ((g 2) j)))), ((a 3), .inl (cI, 9, .inl (fun j => nI ((g 3) j)))), ((a 4), .inl (cI, 6, .inl (fun j => nI ((g 4) j)))), ((a 5), .inl (cI, 6, .inl (fun j => nI ((g 5) j)))), ((a 6), .inl (cI, 6, .inl (fun j => nI ((g 6) j)))), ((a 7), .inl (cI, 5, .inl (fun j => nI ((g 7) j)))), ((a 8), .inl (cI, 5, .inl (fun j => nI ((g 8) j)))), ((a 9), .inl (cI, 5, .inl (fun j => ly_h ((g 9) j)))), ((b 0), .inr (3, [.int (nI (d 0)), .int (nI (d 1)), .int (nI (d 2)), .int (nI (d 3)), .int (nI (d 4)), .ref (b 1), .ref (b 2)])), ((b 1), .inl (cI, 9, .inl (fun j => ly_h (ho j)))), ((b 2), .inl (cI, 9, .inl (fun j => nI (le j))))] [.ref (t 0), .int x, .int y]) (QcRead (-1)) 0 0 (fun _ => False) := by
  refine Met.ofW (cc := cX6_canGo) (maxL := 3) (ret := (some .int)) (by decide) rfl ?_
  intro p e s m args below meth c s₁ B hml hv
  obtain ⟨rfl, hP, hK, hN⟩ := hv
  have hx := B.exec
  have hb := B.bytes
  have hr := B.returns
  have hts := atoms_spec (ws := wsX6_canGo) B.pre
  have hown : s.vm.findClass RX6 = some m.cls := findClass_of_methodNamed B.named
  have hlocks := B.notSynchronized
  have hl := lv_entry ([.ref (t 0), .int x, .int y]) (n := 3) (Nat.le_of_ble_eq_true rfl)
  rw [lg_entry_eq]
  generalize (lg_sl ([.ref (t 0), .int x, .int y]) ++ List.replicate (3 - (lg_sl ([.ref (t 0), .int x, .int y])).length) Slot.unset).toArray = ls at hl ⊢
  have hl : lv_has ls 3 [(0, .ref (t 0)), (1, .int x), (2, .int y)] := hl
  generalize ([.ref (t 0), .int x, .int y] : List Value).toArray = av at hts ⊢
  obtain ⟨Qc, hQc⟩ : ∃ Qc, Qc = (QcRead (-1)) := ⟨_, rfl⟩
  rw [← hQc]
  have f27 := hts (.fieldLink RX6 27 "KneesLent" "parish" "LKneesLent$Parish;") (by decide +kernel)
  have hiX6 : ∀ w ∈ u_ws RX6 TX6 12, w ∈ wsX6_canGo := by decide +kernel
  refine lv_aload_n hx hb dX6_canGo_0 rfl (lv_at hl 0 rfl) ?_
  refine va_get (D := D) (ci := 6) (v := .ref (a 0)) (C := RX6) (T := TX6) (N := 12) hx hb hts hiX6 hown hK hP 0 rfl rfl 3 (by decide) f27 (fun _ h9 => h9) rfl dX6_canGo_1 ?_
  refine lv_iload_n hx hb dX6_canGo_4 rfl (lv_at hl 1 rfl) ?_
  have hPc_5 := hP.sub (ws' := [((a 0), .inr (4, [.int (nI (g 0 0)), .ref (a 1), .ref (a 2), .ref (a 3), .int (nI (g 0 1)), .ref (a 4), .ref (a 5), .ref (a 6), .ref (a 7), .ref (a 8), .ref (a 9), .int (nI (g 0 2))])), ((a 1), .inl (cI, 9, .inl (fun j => nI ((g 1) j)))), ((a 2), .inl (cI, 9, .inl (fun j => nI ((g 2) j)))), ((a 3), .inl (cI, 9, .inl (fun j => nI ((g 3) j)))), ((a 4), .inl (cI, 6, .inl (fun j => nI ((g 4) j)))), ((a 5), .inl (cI, 6, .inl (fun j => nI ((g 5) j)))), ((a 6), .inl (cI, 6, .inl (fun j => nI ((g 6) j)))), ((a 7), .inl (cI, 5, .inl (fun j => nI ((g 7) j)))), ((a 8), .inl (cI, 5, .inl (fun j => nI ((g 8) j)))), ((a 9), .inl (cI, 5, .inl (fun j => ly_h ((g 9) j))))]) [1, 2, 3, 4, 5, 6, 7, 8, 9, 10] rfl
  refine ly_r (va_runV (As := [.int x]) (rest := []) ⟨hx, hb, hml, hown, hts⟩ (c_X4_hasKnee l D cI cC cZ cN a g x) (cwV 1 hts gX6_canGo_X4_hasKnee rfl rfl rfl (by decide +kernel) ⟨Nat.le_of_ble_eq_true rfl, Nat.le_of_ble_eq_true rfl⟩) (ly_pv hK hN hPc_5 0 4 rfl rfl rfl) rfl rfl hl.1 rfl (lv_room (Nat.le_of_ble_eq_true rfl)) dX6_canGo_5 ⟨Nat.zero_le _, Nat.zero_le _⟩) ?_
  refine lv_if_eq (tgt := 22) hx hb dX6_canGo_8 (by decide) (fun _ => ?_) (fun h_9 => absurd hb9 h_9)
  refine lv_iconst (v := (-1)) hx hb dX6_canGo_22 (by decide) ?_
  exact W.iret (v := (-1)) hx hb hr (fun t_9 ht_9 _ => by rw [hQc]; exact ⟨rfl, ht_9⟩) t_nil dX6_canGo_23

set_option maxHeartbeats 4000000 in
set_option maxRecDepth 100000 in
theorem c_X6_canGo_b2 (l : Launch) (D : va_G) (cI cC cZ cN : ClassId) (t a2 : Nat → Nat) (lt : Nat) (tr : Int64) (a : Nat → Nat) (g : Nat → Nat → Nat) (b : Nat → Nat) (d ho le : Nat → Nat) (k : Nat) (y : Int32) (hk : k < g 0 0) (hn : g 0 0 ≤ 9) (hb9 : jin y 0 (nI (g 0 1) - 1) = 0) : Met l yX6_canGo wsX6_canGo (ly_rm 5) (ly_Pre D (ly_tys cI cC cZ cN) [((t 0), .inr (6, [.ref (t 1), .int (nI lt), .ref (t 2), .ref (a 0), .ref (a2 0), .ref (b 0), .ref (t 4), .ref (t 5), .ref (t 6), .ref (t 7), .ref (t 8), .long tr])), ((a 0), .inr (4, [.int (nI (g 0 0)), .ref (a 1), .ref (a 2), .ref (a 3), .int (nI (g 0 1)), .ref (a 4), .ref (a 5), .ref (a 6), .ref (a 7), .ref (a 8), .ref (a 9), .int (nI (g 0 2))])), ((a 1), .inl (cI, 9, .inl (fun j => nI ((g 1) j)))), ((a 2), .inl (cI, 9, .inl (fun j => nI ((g 2) j)))), ((a 3), .inl (cI, 9, .inl (fun j => nI ((g 3) j)))), ((a 4), .inl (cI, 6, .inl (fun j => nI ((g 4) j)))), ((a 5), .inl (cI, 6, .inl (fun j => nI ((g 5) j)))), ((a 6), .inl (cI, 6, .inl (fun j => nI ((g 6) j)))), ((a 7), .inl (cI, 5, .inl (fun j => nI ((g 7) j)))), ((a 8), .inl (cI, 5, .inl (fun j => nI ((g 8) j)))), ((a 9), .inl (cI, 5, .inl (fun j => ly_h ((g 9) j)))), ((b 0), .inr (3, [.int (nI (d 0)), .int (nI (d 1)), .int (nI (d 2)), .int (nI (d 3)), .int (nI (d 4)), .ref (b 1), .ref (b 2)])), ((b 1), .inl (cI, 9, .inl (fun j => ly_h (ho j)))), ((b 2), .inl (cI, 9, .inl (fun j => nI (le j))))] [.ref (t 0), .int (nI k), .int y]) (QcRead (-1)) 0 0 (fun _ => False) := by
  refine Met.ofW (cc := cX6_canGo) (maxL := 3) (ret := (some .int)) (by decide) rfl ?_
  intro p e s m args below meth c s₁ B hml hv
  obtain ⟨rfl, hP, hK, hN⟩ := hv
  have hx := B.exec
  have hb := B.bytes
  have hr := B.returns
  have hts := atoms_spec (ws := wsX6_canGo) B.pre
  have hown : s.vm.findClass RX6 = some m.cls := findClass_of_methodNamed B.named
  have hlocks := B.notSynchronized
  have hl := lv_entry ([.ref (t 0), .int (nI k), .int y]) (n := 3) (Nat.le_of_ble_eq_true rfl)
  rw [lg_entry_eq]
  generalize (lg_sl ([.ref (t 0), .int (nI k), .int y]) ++ List.replicate (3 - (lg_sl ([.ref (t 0), .int (nI k), .int y])).length) Slot.unset).toArray = ls at hl ⊢
  have hl : lv_has ls 3 [(0, .ref (t 0)), (1, .int (nI k)), (2, .int y)] := hl
  generalize ([.ref (t 0), .int (nI k), .int y] : List Value).toArray = av at hts ⊢
  obtain ⟨Qc, hQc⟩ : ∃ Qc, Qc = (QcRead (-1)) := ⟨_, rfl⟩
  rw [← hQc]
  have f27 := hts (.fieldLink RX6 27 "KneesLent" "parish" "LKneesLent$Parish;") (by decide +kernel)
  have hiX6 : ∀ w ∈ u_ws RX6 TX6 12, w ∈ wsX6_canGo := by decide +kernel
  refine lv_aload_n hx hb dX6_canGo_0 rfl (lv_at hl 0 rfl) ?_
  refine va_get (D := D) (ci := 6) (v := .ref (a 0)) (C := RX6) (T := TX6) (N := 12) hx hb hts hiX6 hown hK hP 0 rfl rfl 3 (by decide) f27 (fun _ h9 => h9) rfl dX6_canGo_1 ?_
  refine lv_iload_n hx hb dX6_canGo_4 rfl (lv_at hl 1 rfl) ?_
  have hPc_5 := hP.sub (ws' := [((a 0), .inr (4, [.int (nI (g 0 0)), .ref (a 1), .ref (a 2), .ref (a 3), .int (nI (g 0 1)), .ref (a 4), .ref (a 5), .ref (a 6), .ref (a 7), .ref (a 8), .ref (a 9), .int (nI (g 0 2))])), ((a 1), .inl (cI, 9, .inl (fun j => nI ((g 1) j)))), ((a 2), .inl (cI, 9, .inl (fun j => nI ((g 2) j)))), ((a 3), .inl (cI, 9, .inl (fun j => nI ((g 3) j)))), ((a 4), .inl (cI, 6, .inl (fun j => nI ((g 4) j)))), ((a 5), .inl (cI, 6, .inl (fun j => nI ((g 5) j)))), ((a 6), .inl (cI, 6, .inl (fun j => nI ((g 6) j)))), ((a 7), .inl (cI, 5, .inl (fun j => nI ((g 7) j)))), ((a 8), .inl (cI, 5, .inl (fun j => nI ((g 8) j)))), ((a 9), .inl (cI, 5, .inl (fun j => ly_h ((g 9) j))))]) [1, 2, 3, 4, 5, 6, 7, 8, 9, 10] rfl
  refine ly_r (va_runV (As := [.int (nI k)]) (rest := []) ⟨hx, hb, hml, hown, hts⟩ (c_X4_hasKnee l D cI cC cZ cN a g (nI k)) (cwV 1 hts gX6_canGo_X4_hasKnee rfl rfl rfl (by decide +kernel) ⟨Nat.le_of_ble_eq_true rfl, Nat.le_of_ble_eq_true rfl⟩) (ly_pv hK hN hPc_5 0 4 rfl rfl rfl) rfl rfl hl.1 rfl (lv_room (Nat.le_of_ble_eq_true rfl)) dX6_canGo_5 ⟨Nat.zero_le _, Nat.zero_le _⟩) ?_
  refine lv_if_eq (tgt := 22) hx hb dX6_canGo_8 (by decide) (fun h_9 => absurd h_9 (jin_ix hk hn)) (fun _ => ?_)
  refine lv_aload_n hx hb dX6_canGo_11 rfl (lv_at hl 0 rfl) ?_
  refine va_get (D := D) (ci := 6) (v := .ref (a 0)) (C := RX6) (T := TX6) (N := 12) hx hb hts hiX6 hown hK hP 0 rfl rfl 3 (by decide) f27 (fun _ h9 => h9) rfl dX6_canGo_12 ?_
  refine lv_iload_n hx hb dX6_canGo_15 rfl (lv_at hl 2 rfl) ?_
  have hPc_16 := hP.sub (ws' := [((a 0), .inr (4, [.int (nI (g 0 0)), .ref (a 1), .ref (a 2), .ref (a 3), .int (nI (g 0 1)), .ref (a 4), .ref (a 5), .ref (a 6), .ref (a 7), .ref (a 8), .ref (a 9), .int (nI (g 0 2))])), ((a 1), .inl (cI, 9, .inl (fun j => nI ((g 1) j)))), ((a 2), .inl (cI, 9, .inl (fun j => nI ((g 2) j)))), ((a 3), .inl (cI, 9, .inl (fun j => nI ((g 3) j)))), ((a 4), .inl (cI, 6, .inl (fun j => nI ((g 4) j)))), ((a 5), .inl (cI, 6, .inl (fun j => nI ((g 5) j)))), ((a 6), .inl (cI, 6, .inl (fun j => nI ((g 6) j)))), ((a 7), .inl (cI, 5, .inl (fun j => nI ((g 7) j)))), ((a 8), .inl (cI, 5, .inl (fun j => nI ((g 8) j)))), ((a 9), .inl (cI, 5, .inl (fun j => ly_h ((g 9) j))))]) [1, 2, 3, 4, 5, 6, 7, 8, 9, 10] rfl
  refine ly_r (va_runV (As := [.int y]) (rest := []) ⟨hx, hb, hml, hown, hts⟩ (c_X4_hasPerson l D cI cC cZ cN a g y) (cwV 1 hts gX6_canGo_X4_hasPerson rfl rfl rfl (by decide +kernel) ⟨Nat.le_of_ble_eq_true rfl, Nat.le_of_ble_eq_true rfl⟩) (ly_pv hK hN hPc_16 0 4 rfl rfl rfl) rfl rfl hl.1 rfl (lv_room (Nat.le_of_ble_eq_true rfl)) dX6_canGo_16 ⟨Nat.zero_le _, Nat.zero_le _⟩) ?_
  refine lv_if_ne (tgt := 24) hx hb dX6_canGo_19 (by decide) (fun h_9 => absurd hb9 h_9) (fun _ => ?_)
  refine lv_iconst (v := (-1)) hx hb dX6_canGo_22 (by decide) ?_
  exact W.iret (v := (-1)) hx hb hr (fun t_9 ht_9 _ => by rw [hQc]; exact ⟨rfl, ht_9⟩) t_nil dX6_canGo_23

set_option maxHeartbeats 4000000 in
set_option maxRecDepth 100000 in
theorem c_X6_span_b1 (l : Launch) (D : va_G) (cI cC cZ cN : ClassId) (t a2 : Nat → Nat) (lt : Nat) (tr : Int64) (a : Nat → Nat) (g : Nat → Nat → Nat) (b : Nat → Nat) (d ho le : Nat → Nat) (x y : Int32) (hb9 : jin x 0 (nI (g 0 0) - 1) = 0) : Met l yX6_span wsX6_span (ly_rm 5) (ly_Pre D (ly_tys cI cC cZ cN) [((t 0), .inr (6, [.ref (t 1), .int (nI lt), .ref (t 2), .ref (a 0), .ref (a2 0), .ref (b 0), .ref (t 4), .ref (t 5), .ref (t 6), .ref (t 7), .ref (t 8), .long tr])), ((a 0), .inr (4, [.int (nI (g 0 0)), .ref (a 1), .ref (a 2), .ref (a 3), .int (nI (g 0 1)), .ref (a 4), .ref (a 5), .ref (a 6), .ref (a 7), .ref (a 8), .ref (a 9), .int (nI (g 0 2))])), ((a 1), .inl (cI, 9, .inl (fun j => nI ((g 1) j)))), ((a 2), .inl (cI, 9, .inl (fun j => nI ((g 2) j)))), ((a 3), .inl (cI, 9, .inl (fun j => nI ((g 3) j)))), ((a 4), .inl (cI, 6, .inl (fun j => nI ((g 4) j)))), ((a 5), .inl (cI, 6, .inl (fun j => nI ((g 5) j)))), ((a 6), .inl (cI, 6, .inl (fun j => nI ((g 6) j)))), ((a 7), .inl (cI, 5, .inl (fun j => nI ((g 7) j)))), ((a 8), .inl (cI, 5, .inl (fun j => nI ((g 8) j)))), ((a 9), .inl (cI, 5, .inl (fun j => ly_h ((g 9) j)))), ((b 0), .inr (3, [.int (nI (d 0)), .int (nI (d 1)), .int (nI (d 2)), .int (nI (d 3)), .int (nI (d 4)), .ref (b 1), .ref (b 2)])), ((b 1), .inl (cI, 9, .inl (fun j => ly_h (ho j)))), ((b 2), .inl (cI, 9, .inl (fun j => nI (le j))))] [.ref (t 0), .int x, .int y]) (QcRead (-1)) 0 0 (fun _ => False) := by
  refine Met.ofW (cc := cX6_span) (maxL := 4) (ret := (some .int)) (by decide) rfl ?_
  intro p e s m args below meth c s₁ B hml hv
  obtain ⟨rfl, hP, hK, hN⟩ := hv
  have hx := B.exec
  have hb := B.bytes
  have hr := B.returns
  have hts := atoms_spec (ws := wsX6_span) B.pre
  have hown : s.vm.findClass RX6 = some m.cls := findClass_of_methodNamed B.named
  have hlocks := B.notSynchronized
  have hl := lv_entry ([.ref (t 0), .int x, .int y]) (n := 4) (Nat.le_of_ble_eq_true rfl)
  rw [lg_entry_eq]
  generalize (lg_sl ([.ref (t 0), .int x, .int y]) ++ List.replicate (4 - (lg_sl ([.ref (t 0), .int x, .int y])).length) Slot.unset).toArray = ls at hl ⊢
  have hl : lv_has ls 4 [(0, .ref (t 0)), (1, .int x), (2, .int y)] := hl
  generalize ([.ref (t 0), .int x, .int y] : List Value).toArray = av at hts ⊢
  obtain ⟨Qc, hQc⟩ : ∃ Qc, Qc = (QcRead (-1)) := ⟨_, rfl⟩
  rw [← hQc]
  have f27 := hts (.fieldLink RX6 27 "KneesLent" "parish" "LKneesLent$Parish;") (by decide +kernel)
  have hiX6 : ∀ w ∈ u_ws RX6 TX6 12, w ∈ wsX6_span := by decide +kernel
  refine lv_aload_n hx hb dX6_span_0 rfl (lv_at hl 0 rfl) ?_
  refine va_get (D := D) (ci := 6) (v := .ref (a 0)) (C := RX6) (T := TX6) (N := 12) hx hb hts hiX6 hown hK hP 0 rfl rfl 3 (by decide) f27 (fun _ h9 => h9) rfl dX6_span_1 ?_
  refine lv_iload_n hx hb dX6_span_4 rfl (lv_at hl 1 rfl) ?_
  have hPc_5 := hP.sub (ws' := [((a 0), .inr (4, [.int (nI (g 0 0)), .ref (a 1), .ref (a 2), .ref (a 3), .int (nI (g 0 1)), .ref (a 4), .ref (a 5), .ref (a 6), .ref (a 7), .ref (a 8), .ref (a 9), .int (nI (g 0 2))])), ((a 1), .inl (cI, 9, .inl (fun j => nI ((g 1) j)))), ((a 2), .inl (cI, 9, .inl (fun j => nI ((g 2) j)))), ((a 3), .inl (cI, 9, .inl (fun j => nI ((g 3) j)))), ((a 4), .inl (cI, 6, .inl (fun j => nI ((g 4) j)))), ((a 5), .inl (cI, 6, .inl (fun j => nI ((g 5) j)))), ((a 6), .inl (cI, 6, .inl (fun j => nI ((g 6) j)))), ((a 7), .inl (cI, 5, .inl (fun j => nI ((g 7) j)))), ((a 8), .inl (cI, 5, .inl (fun j => nI ((g 8) j)))), ((a 9), .inl (cI, 5, .inl (fun j => ly_h ((g 9) j))))]) [1, 2, 3, 4, 5, 6, 7, 8, 9, 10] rfl
  refine ly_r (va_runV (As := [.int x]) (rest := []) ⟨hx, hb, hml, hown, hts⟩ (c_X4_hasKnee l D cI cC cZ cN a g x) (cwV 1 hts gX6_span_X4_hasKnee rfl rfl rfl (by decide +kernel) ⟨Nat.le_of_ble_eq_true rfl, Nat.le_of_ble_eq_true rfl⟩) (ly_pv hK hN hPc_5 0 4 rfl rfl rfl) rfl rfl hl.1 rfl (lv_room (Nat.le_of_ble_eq_true rfl)) dX6_span_5 ⟨Nat.zero_le _, Nat.zero_le _⟩) ?_
  refine lv_if_eq (tgt := 22) hx hb dX6_span_8 (by decide) (fun _ => ?_) (fun h_9 => absurd hb9 h_9)
  refine lv_iconst (v := (-1)) hx hb dX6_span_22 (by decide) ?_
  exact W.iret (v := (-1)) hx hb hr (fun t_9 ht_9 _ => by rw [hQc]; exact ⟨rfl, ht_9⟩) t_nil dX6_span_23

set_option maxHeartbeats 4000000 in
set_option maxRecDepth 100000 in
theorem c_X6_span_b2 (l : Launch) (D : va_G) (cI cC cZ cN : ClassId) (t a2 : Nat → Nat) (lt : Nat) (tr : Int64) (a : Nat → Nat) (g : Nat → Nat → Nat) (b : Nat → Nat) (d ho le : Nat → Nat) (k : Nat) (y : Int32) (hk : k < g 0 0) (hn : g 0 0 ≤ 9) (hb9 : jin y 0 (nI (g 0 1) - 1) = 0) : Met l yX6_span wsX6_span (ly_rm 5) (ly_Pre D (ly_tys cI cC cZ cN) [((t 0), .inr (6, [.ref (t 1), .int (nI lt), .ref (t 2), .ref (a 0), .ref (a2 0), .ref (b 0), .ref (t 4), .ref (t 5), .ref (t 6), .ref (t 7), .ref (t 8), .long tr])), ((a 0), .inr (4, [.int (nI (g 0 0)), .ref (a 1), .ref (a 2), .ref (a 3), .int (nI (g 0 1)), .ref (a 4), .ref (a 5), .ref (a 6), .ref (a 7), .ref (a 8), .ref (a 9), .int (nI (g 0 2))])), ((a 1), .inl (cI, 9, .inl (fun j => nI ((g 1) j)))), ((a 2), .inl (cI, 9, .inl (fun j => nI ((g 2) j)))), ((a 3), .inl (cI, 9, .inl (fun j => nI ((g 3) j)))), ((a 4), .inl (cI, 6, .inl (fun j => nI ((g 4) j)))), ((a 5), .inl (cI, 6, .inl (fun j => nI ((g 5) j)))), ((a 6), .inl (cI, 6, .inl (fun j => nI ((g 6) j)))), ((a 7), .inl (cI, 5, .inl (fun j => nI ((g 7) j)))), ((a 8), .inl (cI, 5, .inl (fun j => nI ((g 8) j)))), ((a 9), .inl (cI, 5, .inl (fun j => ly_h ((g 9) j)))), ((b 0), .inr (3, [.int (nI (d 0)), .int (nI (d 1)), .int (nI (d 2)), .int (nI (d 3)), .int (nI (d 4)), .ref (b 1), .ref (b 2)])), ((b 1), .inl (cI, 9, .inl (fun j => ly_h (ho j)))), ((b 2), .inl (cI, 9, .inl (fun j => nI (le j))))] [.ref (t 0), .int (nI k), .int y]) (QcRead (-1)) 0 0 (fun _ => False) := by
  refine Met.ofW (cc := cX6_span) (maxL := 4) (ret := (some .int)) (by decide) rfl ?_
  intro p e s m args below meth c s₁ B hml hv
  obtain ⟨rfl, hP, hK, hN⟩ := hv
  have hx := B.exec
  have hb := B.bytes
  have hr := B.returns
  have hts := atoms_spec (ws := wsX6_span) B.pre
  have hown : s.vm.findClass RX6 = some m.cls := findClass_of_methodNamed B.named
  have hlocks := B.notSynchronized
  have hl := lv_entry ([.ref (t 0), .int (nI k), .int y]) (n := 4) (Nat.le_of_ble_eq_true rfl)
  rw [lg_entry_eq]
  generalize (lg_sl ([.ref (t 0), .int (nI k), .int y]) ++ List.replicate (4 - (lg_sl ([.ref (t 0), .int (nI k), .int y])).length) Slot.unset).toArray = ls at hl ⊢
  have hl : lv_has ls 4 [(0, .ref (t 0)), (1, .int (nI k)), (2, .int y)] := hl
  generalize ([.ref (t 0), .int (nI k), .int y] : List Value).toArray = av at hts ⊢
  obtain ⟨Qc, hQc⟩ : ∃ Qc, Qc = (QcRead (-1)) := ⟨_, rfl⟩
  rw [← hQc]
  have f27 := hts (.fieldLink RX6 27 "KneesLent" "parish" "LKneesLent$Parish;") (by decide +kernel)
  have hiX6 : ∀ w ∈ u_ws RX6 TX6 12, w ∈ wsX6_span := by decide +kernel
  refine lv_aload_n hx hb dX6_span_0 rfl (lv_at hl 0 rfl) ?_
  refine va_get (D := D) (ci := 6) (v := .ref (a 0)) (C := RX6) (T := TX6) (N := 12) hx hb hts hiX6 hown hK hP 0 rfl rfl 3 (by decide) f27 (fun _ h9 => h9) rfl dX6_span_1 ?_
  refine lv_iload_n hx hb dX6_span_4 rfl (lv_at hl 1 rfl) ?_
  have hPc_5 := hP.sub (ws' := [((a 0), .inr (4, [.int (nI (g 0 0)), .ref (a 1), .ref (a 2), .ref (a 3), .int (nI (g 0 1)), .ref (a 4), .ref (a 5), .ref (a 6), .ref (a 7), .ref (a 8), .ref (a 9), .int (nI (g 0 2))])), ((a 1), .inl (cI, 9, .inl (fun j => nI ((g 1) j)))), ((a 2), .inl (cI, 9, .inl (fun j => nI ((g 2) j)))), ((a 3), .inl (cI, 9, .inl (fun j => nI ((g 3) j)))), ((a 4), .inl (cI, 6, .inl (fun j => nI ((g 4) j)))), ((a 5), .inl (cI, 6, .inl (fun j => nI ((g 5) j)))), ((a 6), .inl (cI, 6, .inl (fun j => nI ((g 6) j)))), ((a 7), .inl (cI, 5, .inl (fun j => nI ((g 7) j)))), ((a 8), .inl (cI, 5, .inl (fun j => nI ((g 8) j)))), ((a 9), .inl (cI, 5, .inl (fun j => ly_h ((g 9) j))))]) [1, 2, 3, 4, 5, 6, 7, 8, 9, 10] rfl
  refine ly_r (va_runV (As := [.int (nI k)]) (rest := []) ⟨hx, hb, hml, hown, hts⟩ (c_X4_hasKnee l D cI cC cZ cN a g (nI k)) (cwV 1 hts gX6_span_X4_hasKnee rfl rfl rfl (by decide +kernel) ⟨Nat.le_of_ble_eq_true rfl, Nat.le_of_ble_eq_true rfl⟩) (ly_pv hK hN hPc_5 0 4 rfl rfl rfl) rfl rfl hl.1 rfl (lv_room (Nat.le_of_ble_eq_true rfl)) dX6_span_5 ⟨Nat.zero_le _, Nat.zero_le _⟩) ?_
  refine lv_if_eq (tgt := 22) hx hb dX6_span_8 (by decide) (fun h_9 => absurd h_9 (jin_ix hk hn)) (fun _ => ?_)
  refine lv_aload_n hx hb dX6_span_11 rfl (lv_at hl 0 rfl) ?_
  refine va_get (D := D) (ci := 6) (v := .ref (a 0)) (C := RX6) (T := TX6) (N := 12) hx hb hts hiX6 hown hK hP 0 rfl rfl 3 (by decide) f27 (fun _ h9 => h9) rfl dX6_span_12 ?_
  refine lv_iload_n hx hb dX6_span_15 rfl (lv_at hl 2 rfl) ?_
  have hPc_16 := hP.sub (ws' := [((a 0), .inr (4, [.int (nI (g 0 0)), .ref (a 1), .ref (a 2), .ref (a 3), .int (nI (g 0 1)), .ref (a 4), .ref (a 5), .ref (a 6), .ref (a 7), .ref (a 8), .ref (a 9), .int (nI (g 0 2))])), ((a 1), .inl (cI, 9, .inl (fun j => nI ((g 1) j)))), ((a 2), .inl (cI, 9, .inl (fun j => nI ((g 2) j)))), ((a 3), .inl (cI, 9, .inl (fun j => nI ((g 3) j)))), ((a 4), .inl (cI, 6, .inl (fun j => nI ((g 4) j)))), ((a 5), .inl (cI, 6, .inl (fun j => nI ((g 5) j)))), ((a 6), .inl (cI, 6, .inl (fun j => nI ((g 6) j)))), ((a 7), .inl (cI, 5, .inl (fun j => nI ((g 7) j)))), ((a 8), .inl (cI, 5, .inl (fun j => nI ((g 8) j)))), ((a 9), .inl (cI, 5, .inl (fun j => ly_h ((g 9) j))))]) [1, 2, 3, 4, 5, 6, 7, 8, 9, 10] rfl
  refine ly_r (va_runV (As := [.int y]) (rest := []) ⟨hx, hb, hml, hown, hts⟩ (c_X4_hasPerson l D cI cC cZ cN a g y) (cwV 1 hts gX6_span_X4_hasPerson rfl rfl rfl (by decide +kernel) ⟨Nat.le_of_ble_eq_true rfl, Nat.le_of_ble_eq_true rfl⟩) (ly_pv hK hN hPc_16 0 4 rfl rfl rfl) rfl rfl hl.1 rfl (lv_room (Nat.le_of_ble_eq_true rfl)) dX6_span_16 ⟨Nat.zero_le _, Nat.zero_le _⟩) ?_
  refine lv_if_ne (tgt := 24) hx hb dX6_span_19 (by decide) (fun h_9 => absurd hb9 h_9) (fun _ => ?_)
  refine lv_iconst (v := (-1)) hx hb dX6_span_22 (by decide) ?_
  exact W.iret (v := (-1)) hx hb hr (fun t_9 ht_9 _ => by rw [hQc]; exact ⟨rfl, ht_9⟩) t_nil dX6_span_23

def s_canGo (g : Nat → Nat → Nat) (d ho le : Nat → Nat) (k q : Nat) : Int32 := (if (s_offers g d ho le k q) = 0 then 0 else 1)
set_option maxHeartbeats 4000000 in
set_option maxRecDepth 100000 in
theorem c_X6_canGo_g (l : Launch) (D : va_G) (cI cC cZ cN : ClassId) (t a2 : Nat → Nat) (lt : Nat) (tr : Int64) (a : Nat → Nat) (g : Nat → Nat → Nat) (b : Nat → Nat) (d ho le : Nat → Nat) (k q : Nat) (hk : k < g 0 0) (hp9 : q < g 0 1) (hm6 : g 0 1 ≤ 6) (hn : g 0 0 ≤ 9) : Met l yX6_canGo wsX6_canGo (ly_rm 5) (ly_Pre D (ly_tys cI cC cZ cN) [((t 0), .inr (6, [.ref (t 1), .int (nI lt), .ref (t 2), .ref (a 0), .ref (a2 0), .ref (b 0), .ref (t 4), .ref (t 5), .ref (t 6), .ref (t 7), .ref (t 8), .long tr])), ((a 0), .inr (4, [.int (nI (g 0 0)), .ref (a 1), .ref (a 2), .ref (a 3), .int (nI (g 0 1)), .ref (a 4), .ref (a 5), .ref (a 6), .ref (a 7), .ref (a 8), .ref (a 9), .int (nI (g 0 2))])), ((a 1), .inl (cI, 9, .inl (fun j => nI ((g 1) j)))), ((a 2), .inl (cI, 9, .inl (fun j => nI ((g 2) j)))), ((a 3), .inl (cI, 9, .inl (fun j => nI ((g 3) j)))), ((a 4), .inl (cI, 6, .inl (fun j => nI ((g 4) j)))), ((a 5), .inl (cI, 6, .inl (fun j => nI ((g 5) j)))), ((a 6), .inl (cI, 6, .inl (fun j => nI ((g 6) j)))), ((a 7), .inl (cI, 5, .inl (fun j => nI ((g 7) j)))), ((a 8), .inl (cI, 5, .inl (fun j => nI ((g 8) j)))), ((a 9), .inl (cI, 5, .inl (fun j => ly_h ((g 9) j)))), ((b 0), .inr (3, [.int (nI (d 0)), .int (nI (d 1)), .int (nI (d 2)), .int (nI (d 3)), .int (nI (d 4)), .ref (b 1), .ref (b 2)])), ((b 1), .inl (cI, 9, .inl (fun j => ly_h (ho j)))), ((b 2), .inl (cI, 9, .inl (fun j => nI (le j))))] [.ref (t 0), .int (nI k), .int (nI q)]) (QcRead (s_canGo g d ho le k q)) 0 0 (fun _ => False) := by
  refine Met.ofW (cc := cX6_canGo) (maxL := 3) (ret := (some .int)) (by decide) rfl ?_
  intro p e s m args below meth c s₁ B hml hv
  obtain ⟨rfl, hP, hK, hN⟩ := hv
  have hx := B.exec
  have hb := B.bytes
  have hr := B.returns
  have hts := atoms_spec (ws := wsX6_canGo) B.pre
  have hown : s.vm.findClass RX6 = some m.cls := findClass_of_methodNamed B.named
  have hlocks := B.notSynchronized
  have hl := lv_entry ([.ref (t 0), .int (nI k), .int (nI q)]) (n := 3) (Nat.le_of_ble_eq_true rfl)
  rw [lg_entry_eq]
  generalize (lg_sl ([.ref (t 0), .int (nI k), .int (nI q)]) ++ List.replicate (3 - (lg_sl ([.ref (t 0), .int (nI k), .int (nI q)])).length) Slot.unset).toArray = ls at hl ⊢
  have hl : lv_has ls 3 [(0, .ref (t 0)), (1, .int (nI k)), (2, .int (nI q))] := hl
  generalize ([.ref (t 0), .int (nI k), .int (nI q)] : List Value).toArray = av at hts ⊢
  obtain ⟨Qc, hQc⟩ : ∃ Qc, Qc = (QcRead (s_canGo g d ho le k q)) := ⟨_, rfl⟩
  rw [← hQc]
  have f27 := hts (.fieldLink RX6 27 "KneesLent" "parish" "LKneesLent$Parish;") (by decide +kernel)
  have f37 := hts (.fieldLink RX6 37 "KneesLent" "now" "LKneesLent$Now;") (by decide +kernel)
  have hiX6 : ∀ w ∈ u_ws RX6 TX6 12, w ∈ wsX6_canGo := by decide +kernel
  refine lv_aload_n hx hb dX6_canGo_0 rfl (lv_at hl 0 rfl) ?_
  refine va_get (D := D) (ci := 6) (v := .ref (a 0)) (C := RX6) (T := TX6) (N := 12) hx hb hts hiX6 hown hK hP 0 rfl rfl 3 (by decide) f27 (fun _ h9 => h9) rfl dX6_canGo_1 ?_
  refine lv_iload_n hx hb dX6_canGo_4 rfl (lv_at hl 1 rfl) ?_
  have hPc_5 := hP.sub (ws' := [((a 0), .inr (4, [.int (nI (g 0 0)), .ref (a 1), .ref (a 2), .ref (a 3), .int (nI (g 0 1)), .ref (a 4), .ref (a 5), .ref (a 6), .ref (a 7), .ref (a 8), .ref (a 9), .int (nI (g 0 2))])), ((a 1), .inl (cI, 9, .inl (fun j => nI ((g 1) j)))), ((a 2), .inl (cI, 9, .inl (fun j => nI ((g 2) j)))), ((a 3), .inl (cI, 9, .inl (fun j => nI ((g 3) j)))), ((a 4), .inl (cI, 6, .inl (fun j => nI ((g 4) j)))), ((a 5), .inl (cI, 6, .inl (fun j => nI ((g 5) j)))), ((a 6), .inl (cI, 6, .inl (fun j => nI ((g 6) j)))), ((a 7), .inl (cI, 5, .inl (fun j => nI ((g 7) j)))), ((a 8), .inl (cI, 5, .inl (fun j => nI ((g 8) j)))), ((a 9), .inl (cI, 5, .inl (fun j => ly_h ((g 9) j))))]) [1, 2, 3, 4, 5, 6, 7, 8, 9, 10] rfl
  refine ly_r (va_runV (As := [.int (nI k)]) (rest := []) ⟨hx, hb, hml, hown, hts⟩ (c_X4_hasKnee l D cI cC cZ cN a g (nI k)) (cwV 1 hts gX6_canGo_X4_hasKnee rfl rfl rfl (by decide +kernel) ⟨Nat.le_of_ble_eq_true rfl, Nat.le_of_ble_eq_true rfl⟩) (ly_pv hK hN hPc_5 0 4 rfl rfl rfl) rfl rfl hl.1 rfl (lv_room (Nat.le_of_ble_eq_true rfl)) dX6_canGo_5 ⟨Nat.zero_le _, Nat.zero_le _⟩) ?_
  refine lv_if_eq (tgt := 22) hx hb dX6_canGo_8 (by decide) (fun h_9 => absurd h_9 (jin_ix hk hn)) (fun _ => ?_)
  refine lv_aload_n hx hb dX6_canGo_11 rfl (lv_at hl 0 rfl) ?_
  refine va_get (D := D) (ci := 6) (v := .ref (a 0)) (C := RX6) (T := TX6) (N := 12) hx hb hts hiX6 hown hK hP 0 rfl rfl 3 (by decide) f27 (fun _ h9 => h9) rfl dX6_canGo_12 ?_
  refine lv_iload_n hx hb dX6_canGo_15 rfl (lv_at hl 2 rfl) ?_
  have hPc_16 := hP.sub (ws' := [((a 0), .inr (4, [.int (nI (g 0 0)), .ref (a 1), .ref (a 2), .ref (a 3), .int (nI (g 0 1)), .ref (a 4), .ref (a 5), .ref (a 6), .ref (a 7), .ref (a 8), .ref (a 9), .int (nI (g 0 2))])), ((a 1), .inl (cI, 9, .inl (fun j => nI ((g 1) j)))), ((a 2), .inl (cI, 9, .inl (fun j => nI ((g 2) j)))), ((a 3), .inl (cI, 9, .inl (fun j => nI ((g 3) j)))), ((a 4), .inl (cI, 6, .inl (fun j => nI ((g 4) j)))), ((a 5), .inl (cI, 6, .inl (fun j => nI ((g 5) j)))), ((a 6), .inl (cI, 6, .inl (fun j => nI ((g 6) j)))), ((a 7), .inl (cI, 5, .inl (fun j => nI ((g 7) j)))), ((a 8), .inl (cI, 5, .inl (fun j => nI ((g 8) j)))), ((a 9), .inl (cI, 5, .inl (fun j => ly_h ((g 9) j))))]) [1, 2, 3, 4, 5, 6, 7, 8, 9, 10] rfl
  refine ly_r (va_runV (As := [.int (nI q)]) (rest := []) ⟨hx, hb, hml, hown, hts⟩ (c_X4_hasPerson l D cI cC cZ cN a g (nI q)) (cwV 1 hts gX6_canGo_X4_hasPerson rfl rfl rfl (by decide +kernel) ⟨Nat.le_of_ble_eq_true rfl, Nat.le_of_ble_eq_true rfl⟩) (ly_pv hK hN hPc_16 0 4 rfl rfl rfl) rfl rfl hl.1 rfl (lv_room (Nat.le_of_ble_eq_true rfl)) dX6_canGo_16 ⟨Nat.zero_le _, Nat.zero_le _⟩) ?_
  refine lv_if_ne (tgt := 24) hx hb dX6_canGo_19 (by decide) (fun _ => ?_) (fun h_9 => absurd h_9 (jin_ix hp9 (by omega)))
  refine lv_aload_n hx hb dX6_canGo_24 rfl (lv_at hl 0 rfl) ?_
  refine va_get (D := D) (ci := 6) (v := .ref (b 0)) (C := RX6) (T := TX6) (N := 12) hx hb hts hiX6 hown hK hP 0 rfl rfl 5 (by decide) f37 (fun _ h9 => h9) rfl dX6_canGo_25 ?_
  refine lv_aload_n hx hb dX6_canGo_28 rfl (lv_at hl 0 rfl) ?_
  refine va_get (D := D) (ci := 6) (v := .ref (a 0)) (C := RX6) (T := TX6) (N := 12) hx hb hts hiX6 hown hK hP 0 rfl rfl 3 (by decide) f27 (fun _ h9 => h9) rfl dX6_canGo_29 ?_
  refine lv_iload_n hx hb dX6_canGo_32 rfl (lv_at hl 1 rfl) ?_
  refine lv_iload_n hx hb dX6_canGo_33 rfl (lv_at hl 2 rfl) ?_
  have hPc_34 := hP.sub (ws' := [((b 0), .inr (3, [.int (nI (d 0)), .int (nI (d 1)), .int (nI (d 2)), .int (nI (d 3)), .int (nI (d 4)), .ref (b 1), .ref (b 2)])), ((b 1), .inl (cI, 9, .inl (fun j => ly_h (ho j)))), ((b 2), .inl (cI, 9, .inl (fun j => nI (le j)))), ((a 0), .inr (4, [.int (nI (g 0 0)), .ref (a 1), .ref (a 2), .ref (a 3), .int (nI (g 0 1)), .ref (a 4), .ref (a 5), .ref (a 6), .ref (a 7), .ref (a 8), .ref (a 9), .int (nI (g 0 2))])), ((a 1), .inl (cI, 9, .inl (fun j => nI ((g 1) j)))), ((a 2), .inl (cI, 9, .inl (fun j => nI ((g 2) j)))), ((a 3), .inl (cI, 9, .inl (fun j => nI ((g 3) j)))), ((a 4), .inl (cI, 6, .inl (fun j => nI ((g 4) j)))), ((a 5), .inl (cI, 6, .inl (fun j => nI ((g 5) j)))), ((a 6), .inl (cI, 6, .inl (fun j => nI ((g 6) j)))), ((a 7), .inl (cI, 5, .inl (fun j => nI ((g 7) j)))), ((a 8), .inl (cI, 5, .inl (fun j => nI ((g 8) j)))), ((a 9), .inl (cI, 5, .inl (fun j => ly_h ((g 9) j))))]) [11, 12, 13, 1, 2, 3, 4, 5, 6, 7, 8, 9, 10] rfl
  refine ly_r (va_runV (As := [.ref (a 0), .int (nI k), .int (nI q)]) (rest := []) ⟨hx, hb, hml, hown, hts⟩ (c_X3_offers l D cI cC cZ cN b d ho le a g k q (by omega) (by omega)) (cwV 3 hts gX6_canGo_X3_offers rfl rfl rfl (by decide +kernel) ⟨Nat.le_of_ble_eq_true rfl, Nat.le_of_ble_eq_true rfl⟩) (ly_pv hK hN hPc_34 0 3 rfl rfl rfl) rfl rfl hl.1 rfl (lv_room (Nat.le_of_ble_eq_true rfl)) dX6_canGo_34 ⟨Nat.zero_le _, Nat.zero_le _⟩) ?_
  refine lv_if_eq (tgt := 44) hx hb dX6_canGo_37 (by decide) (fun c_1 => ?_) (fun c_1 => ?_)
  · refine lv_iconst (v := 0) hx hb dX6_canGo_44 (by decide) ?_
    exact W.iret (v := 0) hx hb hr (fun t_9 ht_9 _ => by rw [hQc]; exact ⟨(by unfold s_canGo; rw [if_pos c_1]), ht_9⟩) t_nil dX6_canGo_45
  · refine lv_iconst (v := 1) hx hb dX6_canGo_40 (by decide) ?_
    refine lv_goto (tgt := 45) hx hb dX6_canGo_41 (by decide) ?_
    exact W.iret (v := 1) hx hb hr (fun t_9 ht_9 _ => by rw [hQc]; exact ⟨(by unfold s_canGo; rw [if_neg c_1]), ht_9⟩) t_nil dX6_canGo_45

def s_span (g : Nat → Nat → Nat) (le : Nat → Nat) (k q : Nat) : Int32 := (if (nI (g 5 q + 2 * g 6 q)) = 0 then (-9) else ((nI (le k)) / (nI (g 5 q + 2 * g 6 q))))
set_option maxHeartbeats 4000000 in
set_option maxRecDepth 100000 in
theorem c_X6_span_g (l : Launch) (D : va_G) (cI cC cZ cN : ClassId) (t a2 : Nat → Nat) (lt : Nat) (tr : Int64) (a : Nat → Nat) (g : Nat → Nat → Nat) (b : Nat → Nat) (d ho le : Nat → Nat) (k q : Nat) (hk : k < g 0 0) (hp9 : q < g 0 1) (hm6 : g 0 1 ≤ 6) (hn : g 0 0 ≤ 9) : Met l yX6_span wsX6_span (ly_rm 5) (ly_Pre D (ly_tys cI cC cZ cN) [((t 0), .inr (6, [.ref (t 1), .int (nI lt), .ref (t 2), .ref (a 0), .ref (a2 0), .ref (b 0), .ref (t 4), .ref (t 5), .ref (t 6), .ref (t 7), .ref (t 8), .long tr])), ((a 0), .inr (4, [.int (nI (g 0 0)), .ref (a 1), .ref (a 2), .ref (a 3), .int (nI (g 0 1)), .ref (a 4), .ref (a 5), .ref (a 6), .ref (a 7), .ref (a 8), .ref (a 9), .int (nI (g 0 2))])), ((a 1), .inl (cI, 9, .inl (fun j => nI ((g 1) j)))), ((a 2), .inl (cI, 9, .inl (fun j => nI ((g 2) j)))), ((a 3), .inl (cI, 9, .inl (fun j => nI ((g 3) j)))), ((a 4), .inl (cI, 6, .inl (fun j => nI ((g 4) j)))), ((a 5), .inl (cI, 6, .inl (fun j => nI ((g 5) j)))), ((a 6), .inl (cI, 6, .inl (fun j => nI ((g 6) j)))), ((a 7), .inl (cI, 5, .inl (fun j => nI ((g 7) j)))), ((a 8), .inl (cI, 5, .inl (fun j => nI ((g 8) j)))), ((a 9), .inl (cI, 5, .inl (fun j => ly_h ((g 9) j)))), ((b 0), .inr (3, [.int (nI (d 0)), .int (nI (d 1)), .int (nI (d 2)), .int (nI (d 3)), .int (nI (d 4)), .ref (b 1), .ref (b 2)])), ((b 1), .inl (cI, 9, .inl (fun j => ly_h (ho j)))), ((b 2), .inl (cI, 9, .inl (fun j => nI (le j))))] [.ref (t 0), .int (nI k), .int (nI q)]) (QcRead (s_span g le k q)) 0 0 (fun _ => False) := by
  refine Met.ofW (cc := cX6_span) (maxL := 4) (ret := (some .int)) (by decide) rfl ?_
  intro p e s m args below meth c s₁ B hml hv
  obtain ⟨rfl, hP, hK, hN⟩ := hv
  have hx := B.exec
  have hb := B.bytes
  have hr := B.returns
  have hts := atoms_spec (ws := wsX6_span) B.pre
  have hown : s.vm.findClass RX6 = some m.cls := findClass_of_methodNamed B.named
  have hlocks := B.notSynchronized
  have hl := lv_entry ([.ref (t 0), .int (nI k), .int (nI q)]) (n := 4) (Nat.le_of_ble_eq_true rfl)
  rw [lg_entry_eq]
  generalize (lg_sl ([.ref (t 0), .int (nI k), .int (nI q)]) ++ List.replicate (4 - (lg_sl ([.ref (t 0), .int (nI k), .int (nI q)])).length) Slot.unset).toArray = ls at hl ⊢
  have hl : lv_has ls 4 [(0, .ref (t 0)), (1, .int (nI k)), (2, .int (nI q))] := hl
  generalize ([.ref (t 0), .int (nI k), .int (nI q)] : List Value).toArray = av at hts ⊢
  obtain ⟨Qc, hQc⟩ : ∃ Qc, Qc = (QcRead (s_span g le k q)) := ⟨_, rfl⟩
  rw [← hQc]
  have f27 := hts (.fieldLink RX6 27 "KneesLent" "parish" "LKneesLent$Parish;") (by decide +kernel)
  have f37 := hts (.fieldLink RX6 37 "KneesLent" "now" "LKneesLent$Now;") (by decide +kernel)
  have f112 := hts (.fieldLink RX6 112 "KneesLent$Now" "left" "[I") (by decide +kernel)
  have hiX6 : ∀ w ∈ u_ws RX6 TX6 12, w ∈ wsX6_span := by decide +kernel
  have hiX3 : ∀ w ∈ u_ws RX3 TX3 7, w ∈ wsX6_span := by decide +kernel
  refine lv_aload_n hx hb dX6_span_0 rfl (lv_at hl 0 rfl) ?_
  refine va_get (D := D) (ci := 6) (v := .ref (a 0)) (C := RX6) (T := TX6) (N := 12) hx hb hts hiX6 hown hK hP 0 rfl rfl 3 (by decide) f27 (fun _ h9 => h9) rfl dX6_span_1 ?_
  refine lv_iload_n hx hb dX6_span_4 rfl (lv_at hl 1 rfl) ?_
  have hPc_5 := hP.sub (ws' := [((a 0), .inr (4, [.int (nI (g 0 0)), .ref (a 1), .ref (a 2), .ref (a 3), .int (nI (g 0 1)), .ref (a 4), .ref (a 5), .ref (a 6), .ref (a 7), .ref (a 8), .ref (a 9), .int (nI (g 0 2))])), ((a 1), .inl (cI, 9, .inl (fun j => nI ((g 1) j)))), ((a 2), .inl (cI, 9, .inl (fun j => nI ((g 2) j)))), ((a 3), .inl (cI, 9, .inl (fun j => nI ((g 3) j)))), ((a 4), .inl (cI, 6, .inl (fun j => nI ((g 4) j)))), ((a 5), .inl (cI, 6, .inl (fun j => nI ((g 5) j)))), ((a 6), .inl (cI, 6, .inl (fun j => nI ((g 6) j)))), ((a 7), .inl (cI, 5, .inl (fun j => nI ((g 7) j)))), ((a 8), .inl (cI, 5, .inl (fun j => nI ((g 8) j)))), ((a 9), .inl (cI, 5, .inl (fun j => ly_h ((g 9) j))))]) [1, 2, 3, 4, 5, 6, 7, 8, 9, 10] rfl
  refine ly_r (va_runV (As := [.int (nI k)]) (rest := []) ⟨hx, hb, hml, hown, hts⟩ (c_X4_hasKnee l D cI cC cZ cN a g (nI k)) (cwV 1 hts gX6_span_X4_hasKnee rfl rfl rfl (by decide +kernel) ⟨Nat.le_of_ble_eq_true rfl, Nat.le_of_ble_eq_true rfl⟩) (ly_pv hK hN hPc_5 0 4 rfl rfl rfl) rfl rfl hl.1 rfl (lv_room (Nat.le_of_ble_eq_true rfl)) dX6_span_5 ⟨Nat.zero_le _, Nat.zero_le _⟩) ?_
  refine lv_if_eq (tgt := 22) hx hb dX6_span_8 (by decide) (fun h_9 => absurd h_9 (jin_ix hk hn)) (fun _ => ?_)
  refine lv_aload_n hx hb dX6_span_11 rfl (lv_at hl 0 rfl) ?_
  refine va_get (D := D) (ci := 6) (v := .ref (a 0)) (C := RX6) (T := TX6) (N := 12) hx hb hts hiX6 hown hK hP 0 rfl rfl 3 (by decide) f27 (fun _ h9 => h9) rfl dX6_span_12 ?_
  refine lv_iload_n hx hb dX6_span_15 rfl (lv_at hl 2 rfl) ?_
  have hPc_16 := hP.sub (ws' := [((a 0), .inr (4, [.int (nI (g 0 0)), .ref (a 1), .ref (a 2), .ref (a 3), .int (nI (g 0 1)), .ref (a 4), .ref (a 5), .ref (a 6), .ref (a 7), .ref (a 8), .ref (a 9), .int (nI (g 0 2))])), ((a 1), .inl (cI, 9, .inl (fun j => nI ((g 1) j)))), ((a 2), .inl (cI, 9, .inl (fun j => nI ((g 2) j)))), ((a 3), .inl (cI, 9, .inl (fun j => nI ((g 3) j)))), ((a 4), .inl (cI, 6, .inl (fun j => nI ((g 4) j)))), ((a 5), .inl (cI, 6, .inl (fun j => nI ((g 5) j)))), ((a 6), .inl (cI, 6, .inl (fun j => nI ((g 6) j)))), ((a 7), .inl (cI, 5, .inl (fun j => nI ((g 7) j)))), ((a 8), .inl (cI, 5, .inl (fun j => nI ((g 8) j)))), ((a 9), .inl (cI, 5, .inl (fun j => ly_h ((g 9) j))))]) [1, 2, 3, 4, 5, 6, 7, 8, 9, 10] rfl
  refine ly_r (va_runV (As := [.int (nI q)]) (rest := []) ⟨hx, hb, hml, hown, hts⟩ (c_X4_hasPerson l D cI cC cZ cN a g (nI q)) (cwV 1 hts gX6_span_X4_hasPerson rfl rfl rfl (by decide +kernel) ⟨Nat.le_of_ble_eq_true rfl, Nat.le_of_ble_eq_true rfl⟩) (ly_pv hK hN hPc_16 0 4 rfl rfl rfl) rfl rfl hl.1 rfl (lv_room (Nat.le_of_ble_eq_true rfl)) dX6_span_16 ⟨Nat.zero_le _, Nat.zero_le _⟩) ?_
  refine lv_if_ne (tgt := 24) hx hb dX6_span_19 (by decide) (fun _ => ?_) (fun h_9 => absurd h_9 (jin_ix hp9 (by omega)))
  refine lv_aload_n hx hb dX6_span_24 rfl (lv_at hl 0 rfl) ?_
  refine va_get (D := D) (ci := 6) (v := .ref (a 0)) (C := RX6) (T := TX6) (N := 12) hx hb hts hiX6 hown hK hP 0 rfl rfl 3 (by decide) f27 (fun _ h9 => h9) rfl dX6_span_25 ?_
  refine lv_iload_n hx hb dX6_span_28 rfl (lv_at hl 2 rfl) ?_
  have hPc_29 := hP.sub (ws' := [((a 0), .inr (4, [.int (nI (g 0 0)), .ref (a 1), .ref (a 2), .ref (a 3), .int (nI (g 0 1)), .ref (a 4), .ref (a 5), .ref (a 6), .ref (a 7), .ref (a 8), .ref (a 9), .int (nI (g 0 2))])), ((a 1), .inl (cI, 9, .inl (fun j => nI ((g 1) j)))), ((a 2), .inl (cI, 9, .inl (fun j => nI ((g 2) j)))), ((a 3), .inl (cI, 9, .inl (fun j => nI ((g 3) j)))), ((a 4), .inl (cI, 6, .inl (fun j => nI ((g 4) j)))), ((a 5), .inl (cI, 6, .inl (fun j => nI ((g 5) j)))), ((a 6), .inl (cI, 6, .inl (fun j => nI ((g 6) j)))), ((a 7), .inl (cI, 5, .inl (fun j => nI ((g 7) j)))), ((a 8), .inl (cI, 5, .inl (fun j => nI ((g 8) j)))), ((a 9), .inl (cI, 5, .inl (fun j => ly_h ((g 9) j))))]) [1, 2, 3, 4, 5, 6, 7, 8, 9, 10] rfl
  refine ly_r (va_runV (As := [.int (nI q)]) (rest := []) ⟨hx, hb, hml, hown, hts⟩ (c_X4_wearOf l D cI cC cZ cN a g q (by omega)) (cwV 1 hts gX6_span_X4_wearOf rfl rfl rfl (by decide +kernel) ⟨Nat.le_of_ble_eq_true rfl, Nat.le_of_ble_eq_true rfl⟩) (ly_pv hK hN hPc_29 0 4 rfl rfl rfl) rfl rfl hl.1 rfl (lv_room (Nat.le_of_ble_eq_true rfl)) dX6_span_29 ⟨Nat.zero_le _, Nat.zero_le _⟩) ?_
  refine lv_istore_n (lv' := [(3, .int (nI (g 5 q + 2 * g 6 q))), (0, .ref (t 0)), (1, .int (nI k)), (2, .int (nI q))]) hx hb dX6_span_32 rfl hl (by decide) rfl (fun ls hl => ?_)
  refine lv_iload_n hx hb dX6_span_33 rfl (lv_at hl 0 rfl) ?_
  refine lv_if_ne (tgt := 42) hx hb dX6_span_34 (by decide) (fun c_1 => ?_) (fun c_1 => ?_)
  · refine lv_aload_n hx hb dX6_span_42 rfl (lv_at hl 1 rfl) ?_
    refine va_get (D := D) (ci := 6) (v := .ref (b 0)) (C := RX6) (T := TX6) (N := 12) hx hb hts hiX6 hown hK hP 0 rfl rfl 5 (by decide) f37 (fun _ h9 => h9) rfl dX6_span_43 ?_
    refine va_get (D := D) (ci := 3) (v := .ref (b 2)) (C := RX3) (T := TX3) (N := 7) hx hb hts hiX3 hown hK hP 11 rfl rfl 6 (by decide) f112 (fun _ h9 => h9) rfl dX6_span_46 ?_
    refine lv_iload_n hx hb dX6_span_49 rfl (lv_at hl 2 rfl) ?_
    refine ly_iald hx hb hK hP 13 0 rfl rfl (k := k) (by decide) rfl (by omega) dX6_span_50 ?_
    refine lv_iload_n hx hb dX6_span_51 rfl (lv_at hl 0 rfl) ?_
    refine lv_idiv hx hb dX6_span_52 c_1 ?_
    exact W.iret (v := ((nI (le k)) / (nI (g 5 q + 2 * g 6 q)))) hx hb hr (fun t_9 ht_9 _ => by rw [hQc]; exact ⟨(by unfold s_span; rw [if_neg c_1]), ht_9⟩) t_nil dX6_span_53
  · refine lv_bipush (v := (-9)) hx hb dX6_span_37 (by decide) ?_
    refine lv_goto (tgt := 53) hx hb dX6_span_39 (by decide) ?_
    exact W.iret (v := (-9)) hx hb hr (fun t_9 ht_9 _ => by rw [hQc]; exact ⟨(by unfold s_span; rw [if_pos c_1]), ht_9⟩) t_nil dX6_span_53

set_option maxHeartbeats 4000000 in
set_option maxRecDepth 100000 in
theorem c_X6_downhill_b (l : Launch) (D : va_G) (cI cC cZ cN : ClassId) (t a2 a b : Nat → Nat) (lt : Nat) (tr : Int64) (hv : Nat → Nat) (y : Int32) (h0 : ¬ y = 0) (h1 : ¬ y = 1) : Met l yX6_downhill wsX6_downhill (ly_rm 5) (ly_Pre D (ly_tys cI cC cZ cN) [((t 0), .inr (6, [.ref (t 1), .int (nI lt), .ref (t 2), .ref (a 0), .ref (a2 0), .ref (b 0), .ref (t 4), .ref (t 5), .ref (t 6), .ref (t 7), .ref (t 8), .long tr])), ((t 5), .inr (1, [.int (nI (hv 0)), .int (nI (hv 1)), .int (nI (hv 2)), .int (nI (hv 3)), .int (nI (hv 4)), .int (nI (hv 5))]))] [.ref (t 0), .int y]) (QcRead (-1)) 0 0 (fun _ => False) := by
  refine Met.ofW (cc := cX6_downhill) (maxL := 2) (ret := (some .int)) (by decide) rfl ?_
  intro p e s m args below meth c s₁ B hml hv
  obtain ⟨rfl, hP, hK, hN⟩ := hv
  have hx := B.exec
  have hb := B.bytes
  have hr := B.returns
  have hts := atoms_spec (ws := wsX6_downhill) B.pre
  have hown : s.vm.findClass RX6 = some m.cls := findClass_of_methodNamed B.named
  have hlocks := B.notSynchronized
  have hl := lv_entry ([.ref (t 0), .int y]) (n := 2) (Nat.le_of_ble_eq_true rfl)
  rw [lg_entry_eq]
  generalize (lg_sl ([.ref (t 0), .int y]) ++ List.replicate (2 - (lg_sl ([.ref (t 0), .int y])).length) Slot.unset).toArray = ls at hl ⊢
  have hl : lv_has ls 2 [(0, .ref (t 0)), (1, .int y)] := hl
  generalize ([.ref (t 0), .int y] : List Value).toArray = av at hts ⊢
  obtain ⟨Qc, hQc⟩ : ∃ Qc, Qc = (QcRead (-1)) := ⟨_, rfl⟩
  rw [← hQc]
  refine lv_iload_n hx hb dX6_downhill_0 rfl (lv_at hl 1 rfl) ?_
  refine lv_lookup (off := 43) (tgt := 44) hx hb dX6_downhill_1 (by decide) (by show Op.lookupswitch.offset [(0, 27), (1, 35)] 43 y.toInt = 43; rw [lv_osw h0 (by decide), lv_osw h1 (by decide)]; rfl) (by decide) ?_
  refine lv_iconst (v := (-1)) hx hb dX6_downhill_44 (by decide) ?_
  exact W.iret (v := (-1)) hx hb hr (fun t_9 ht_9 _ => by rw [hQc]; exact ⟨rfl, ht_9⟩) t_nil dX6_downhill_45

set_option maxHeartbeats 4000000 in
set_option maxRecDepth 100000 in
theorem c_X6_downhill_0 (l : Launch) (D : va_G) (cI cC cZ cN : ClassId) (t a2 a b : Nat → Nat) (lt : Nat) (tr : Int64) (hv : Nat → Nat) : Met l yX6_downhill wsX6_downhill (ly_rm 5) (ly_Pre D (ly_tys cI cC cZ cN) [((t 0), .inr (6, [.ref (t 1), .int (nI lt), .ref (t 2), .ref (a 0), .ref (a2 0), .ref (b 0), .ref (t 4), .ref (t 5), .ref (t 6), .ref (t 7), .ref (t 8), .long tr])), ((t 5), .inr (1, [.int (nI (hv 0)), .int (nI (hv 1)), .int (nI (hv 2)), .int (nI (hv 3)), .int (nI (hv 4)), .int (nI (hv 5))]))] [.ref (t 0), .int (nI 0)]) (QcRead (nI (hv 1))) 0 0 (fun _ => False) := by
  refine Met.ofW (cc := cX6_downhill) (maxL := 2) (ret := (some .int)) (by decide) rfl ?_
  intro p e s m args below meth c s₁ B hml hv
  obtain ⟨rfl, hP, hK, hN⟩ := hv
  have hx := B.exec
  have hb := B.bytes
  have hr := B.returns
  have hts := atoms_spec (ws := wsX6_downhill) B.pre
  have hown : s.vm.findClass RX6 = some m.cls := findClass_of_methodNamed B.named
  have hlocks := B.notSynchronized
  have hl := lv_entry ([.ref (t 0), .int (nI 0)]) (n := 2) (Nat.le_of_ble_eq_true rfl)
  rw [lg_entry_eq]
  generalize (lg_sl ([.ref (t 0), .int (nI 0)]) ++ List.replicate (2 - (lg_sl ([.ref (t 0), .int (nI 0)])).length) Slot.unset).toArray = ls at hl ⊢
  have hl : lv_has ls 2 [(0, .ref (t 0)), (1, .int (nI 0))] := hl
  generalize ([.ref (t 0), .int (nI 0)] : List Value).toArray = av at hts ⊢
  obtain ⟨Qc, hQc⟩ : ∃ Qc, Qc = (QcRead (nI (hv 1))) := ⟨_, rfl⟩
  rw [← hQc]
  have f51 := hts (.fieldLink RX6 51 "KneesLent" "hearsay" "LKneesLent$Hearsay;") (by decide +kernel)
  have f246 := hts (.fieldLink RX6 246 "KneesLent$Hearsay" "downhill" "I") (by decide +kernel)
  have hiX6 : ∀ w ∈ u_ws RX6 TX6 12, w ∈ wsX6_downhill := by decide +kernel
  have hiX1 : ∀ w ∈ u_ws RX1 TX1 6, w ∈ wsX6_downhill := by decide +kernel
  refine lv_iload_n hx hb dX6_downhill_0 rfl (lv_at hl 1 rfl) ?_
  refine lv_lookup (off := 27) (tgt := 28) hx hb dX6_downhill_1 (by decide) (by decide) (by decide) ?_
  refine lv_aload_n hx hb dX6_downhill_28 rfl (lv_at hl 0 rfl) ?_
  refine va_get (D := D) (ci := 6) (v := .ref (t 5)) (C := RX6) (T := TX6) (N := 12) hx hb hts hiX6 hown hK hP 0 rfl rfl 7 (by decide) f51 (fun _ h9 => h9) rfl dX6_downhill_29 ?_
  refine va_get (D := D) (ci := 1) (v := .int (nI (hv 1))) (C := RX1) (T := TX1) (N := 6) hx hb hts hiX1 hown hK hP 1 rfl rfl 1 (by decide) f246 (fun _ h9 => h9) rfl dX6_downhill_32 ?_
  exact W.iret (v := (nI (hv 1))) hx hb hr (fun t_9 ht_9 _ => by rw [hQc]; exact ⟨rfl, ht_9⟩) t_nil dX6_downhill_35

set_option maxHeartbeats 4000000 in
set_option maxRecDepth 100000 in
theorem c_X6_downhill_1 (l : Launch) (D : va_G) (cI cC cZ cN : ClassId) (t a2 a b : Nat → Nat) (lt : Nat) (tr : Int64) (hv : Nat → Nat) : Met l yX6_downhill wsX6_downhill (ly_rm 5) (ly_Pre D (ly_tys cI cC cZ cN) [((t 0), .inr (6, [.ref (t 1), .int (nI lt), .ref (t 2), .ref (a 0), .ref (a2 0), .ref (b 0), .ref (t 4), .ref (t 5), .ref (t 6), .ref (t 7), .ref (t 8), .long tr])), ((t 5), .inr (1, [.int (nI (hv 0)), .int (nI (hv 1)), .int (nI (hv 2)), .int (nI (hv 3)), .int (nI (hv 4)), .int (nI (hv 5))]))] [.ref (t 0), .int (nI 1)]) (QcRead (nI (hv 2))) 0 0 (fun _ => False) := by
  refine Met.ofW (cc := cX6_downhill) (maxL := 2) (ret := (some .int)) (by decide) rfl ?_
  intro p e s m args below meth c s₁ B hml hv
  obtain ⟨rfl, hP, hK, hN⟩ := hv
  have hx := B.exec
  have hb := B.bytes
  have hr := B.returns
  have hts := atoms_spec (ws := wsX6_downhill) B.pre
  have hown : s.vm.findClass RX6 = some m.cls := findClass_of_methodNamed B.named
  have hlocks := B.notSynchronized
  have hl := lv_entry ([.ref (t 0), .int (nI 1)]) (n := 2) (Nat.le_of_ble_eq_true rfl)
  rw [lg_entry_eq]
  generalize (lg_sl ([.ref (t 0), .int (nI 1)]) ++ List.replicate (2 - (lg_sl ([.ref (t 0), .int (nI 1)])).length) Slot.unset).toArray = ls at hl ⊢
  have hl : lv_has ls 2 [(0, .ref (t 0)), (1, .int (nI 1))] := hl
  generalize ([.ref (t 0), .int (nI 1)] : List Value).toArray = av at hts ⊢
  obtain ⟨Qc, hQc⟩ : ∃ Qc, Qc = (QcRead (nI (hv 2))) := ⟨_, rfl⟩
  rw [← hQc]
  have f51 := hts (.fieldLink RX6 51 "KneesLent" "hearsay" "LKneesLent$Hearsay;") (by decide +kernel)
  have f249 := hts (.fieldLink RX6 249 "KneesLent$Hearsay" "liars" "I") (by decide +kernel)
  have hiX6 : ∀ w ∈ u_ws RX6 TX6 12, w ∈ wsX6_downhill := by decide +kernel
  have hiX1 : ∀ w ∈ u_ws RX1 TX1 6, w ∈ wsX6_downhill := by decide +kernel
  refine lv_iload_n hx hb dX6_downhill_0 rfl (lv_at hl 1 rfl) ?_
  refine lv_lookup (off := 35) (tgt := 36) hx hb dX6_downhill_1 (by decide) (by decide) (by decide) ?_
  refine lv_aload_n hx hb dX6_downhill_36 rfl (lv_at hl 0 rfl) ?_
  refine va_get (D := D) (ci := 6) (v := .ref (t 5)) (C := RX6) (T := TX6) (N := 12) hx hb hts hiX6 hown hK hP 0 rfl rfl 7 (by decide) f51 (fun _ h9 => h9) rfl dX6_downhill_37 ?_
  refine va_get (D := D) (ci := 1) (v := .int (nI (hv 2))) (C := RX1) (T := TX1) (N := 6) hx hb hts hiX1 hown hK hP 1 rfl rfl 2 (by decide) f249 (fun _ h9 => h9) rfl dX6_downhill_40 ?_
  exact W.iret (v := (nI (hv 2))) hx hb hr (fun t_9 ht_9 _ => by rw [hQc]; exact ⟨rfl, ht_9⟩) t_nil dX6_downhill_43

set_option maxHeartbeats 4000000 in
set_option maxRecDepth 100000 in
theorem c_X6_count_b (l : Launch) (D : va_G) (cI cC cZ cN : ClassId) (t a2 a b : Nat → Nat) (lt : Nat) (tr : Int64) (hv : Nat → Nat) (y : Int32) (hw : y.toInt < 0 ∨ 4 < y.toInt) : Met l yX6_count wsX6_count (ly_rm 5) (ly_Pre D (ly_tys cI cC cZ cN) [((t 0), .inr (6, [.ref (t 1), .int (nI lt), .ref (t 2), .ref (a 0), .ref (a2 0), .ref (b 0), .ref (t 4), .ref (t 5), .ref (t 6), .ref (t 7), .ref (t 8), .long tr])), ((t 5), .inr (1, [.int (nI (hv 0)), .int (nI (hv 1)), .int (nI (hv 2)), .int (nI (hv 3)), .int (nI (hv 4)), .int (nI (hv 5))]))] [.ref (t 0), .int y]) (QcRead (-1)) 0 0 (fun _ => False) := by
  refine Met.ofW (cc := cX6_count) (maxL := 2) (ret := (some .int)) (by decide) rfl ?_
  intro p e s m args below meth c s₁ B hml hv
  obtain ⟨rfl, hP, hK, hN⟩ := hv
  have hx := B.exec
  have hb := B.bytes
  have hr := B.returns
  have hts := atoms_spec (ws := wsX6_count) B.pre
  have hown : s.vm.findClass RX6 = some m.cls := findClass_of_methodNamed B.named
  have hlocks := B.notSynchronized
  have hl := lv_entry ([.ref (t 0), .int y]) (n := 2) (Nat.le_of_ble_eq_true rfl)
  rw [lg_entry_eq]
  generalize (lg_sl ([.ref (t 0), .int y]) ++ List.replicate (2 - (lg_sl ([.ref (t 0), .int y])).length) Slot.unset).toArray = ls at hl ⊢
  have hl : lv_has ls 2 [(0, .ref (t 0)), (1, .int y)] := hl
  generalize ([.ref (t 0), .int y] : List Value).toArray = av at hts ⊢
  obtain ⟨Qc, hQc⟩ : ∃ Qc, Qc = (QcRead (-1)) := ⟨_, rfl⟩
  rw [← hQc]
  refine lv_iload_n hx hb dX6_count_0 rfl (lv_at hl 1 rfl) ?_
  refine lv_tableOut (tgt := 73) hx hb dX6_count_1 hw (by decide) ?_
  refine lv_iconst (v := (-1)) hx hb dX6_count_73 (by decide) ?_
  exact W.iret (v := (-1)) hx hb hr (fun t_9 ht_9 _ => by rw [hQc]; exact ⟨rfl, ht_9⟩) t_nil dX6_count_74

set_option maxHeartbeats 4000000 in
set_option maxRecDepth 100000 in
theorem c_X6_count_2 (l : Launch) (D : va_G) (cI cC cZ cN : ClassId) (t a2 a b : Nat → Nat) (lt : Nat) (tr : Int64) (hv : Nat → Nat) : Met l yX6_count wsX6_count (ly_rm 5) (ly_Pre D (ly_tys cI cC cZ cN) [((t 0), .inr (6, [.ref (t 1), .int (nI lt), .ref (t 2), .ref (a 0), .ref (a2 0), .ref (b 0), .ref (t 4), .ref (t 5), .ref (t 6), .ref (t 7), .ref (t 8), .long tr])), ((t 5), .inr (1, [.int (nI (hv 0)), .int (nI (hv 1)), .int (nI (hv 2)), .int (nI (hv 3)), .int (nI (hv 4)), .int (nI (hv 5))]))] [.ref (t 0), .int (nI 2)]) (QcRead (nI (hv 0))) 0 0 (fun _ => False) := by
  refine Met.ofW (cc := cX6_count) (maxL := 2) (ret := (some .int)) (by decide) rfl ?_
  intro p e s m args below meth c s₁ B hml hv
  obtain ⟨rfl, hP, hK, hN⟩ := hv
  have hx := B.exec
  have hb := B.bytes
  have hr := B.returns
  have hts := atoms_spec (ws := wsX6_count) B.pre
  have hown : s.vm.findClass RX6 = some m.cls := findClass_of_methodNamed B.named
  have hlocks := B.notSynchronized
  have hl := lv_entry ([.ref (t 0), .int (nI 2)]) (n := 2) (Nat.le_of_ble_eq_true rfl)
  rw [lg_entry_eq]
  generalize (lg_sl ([.ref (t 0), .int (nI 2)]) ++ List.replicate (2 - (lg_sl ([.ref (t 0), .int (nI 2)])).length) Slot.unset).toArray = ls at hl ⊢
  have hl : lv_has ls 2 [(0, .ref (t 0)), (1, .int (nI 2))] := hl
  generalize ([.ref (t 0), .int (nI 2)] : List Value).toArray = av at hts ⊢
  obtain ⟨Qc, hQc⟩ : ∃ Qc, Qc = (QcRead (nI (hv 0))) := ⟨_, rfl⟩
  rw [← hQc]
  have f51 := hts (.fieldLink RX6 51 "KneesLent" "hearsay" "LKneesLent$Hearsay;") (by decide +kernel)
  have f239 := hts (.fieldLink RX6 239 "KneesLent$Hearsay" "told" "I") (by decide +kernel)
  have hiX6 : ∀ w ∈ u_ws RX6 TX6 12, w ∈ wsX6_count := by decide +kernel
  have hiX1 : ∀ w ∈ u_ws RX1 TX1 6, w ∈ wsX6_count := by decide +kernel
  refine lv_iload_n hx hb dX6_count_0 rfl (lv_at hl 1 rfl) ?_
  refine lv_tableIn (off := 51) (tgt := 52) hx hb dX6_count_1 (by decide) (by decide) (by decide) (by decide) ?_
  refine lv_aload_n hx hb dX6_count_52 rfl (lv_at hl 0 rfl) ?_
  refine va_get (D := D) (ci := 6) (v := .ref (t 5)) (C := RX6) (T := TX6) (N := 12) hx hb hts hiX6 hown hK hP 0 rfl rfl 7 (by decide) f51 (fun _ h9 => h9) rfl dX6_count_53 ?_
  refine va_get (D := D) (ci := 1) (v := .int (nI (hv 0))) (C := RX1) (T := TX1) (N := 6) hx hb hts hiX1 hown hK hP 1 rfl rfl 0 (by decide) f239 (fun _ h9 => h9) rfl dX6_count_56 ?_
  exact W.iret (v := (nI (hv 0))) hx hb hr (fun t_9 ht_9 _ => by rw [hQc]; exact ⟨rfl, ht_9⟩) t_nil dX6_count_59

set_option maxHeartbeats 4000000 in
set_option maxRecDepth 100000 in
theorem c_X6_count_3 (l : Launch) (D : va_G) (cI cC cZ cN : ClassId) (t a2 a b : Nat → Nat) (lt : Nat) (tr : Int64) (hv : Nat → Nat) : Met l yX6_count wsX6_count (ly_rm 5) (ly_Pre D (ly_tys cI cC cZ cN) [((t 0), .inr (6, [.ref (t 1), .int (nI lt), .ref (t 2), .ref (a 0), .ref (a2 0), .ref (b 0), .ref (t 4), .ref (t 5), .ref (t 6), .ref (t 7), .ref (t 8), .long tr])), ((t 5), .inr (1, [.int (nI (hv 0)), .int (nI (hv 1)), .int (nI (hv 2)), .int (nI (hv 3)), .int (nI (hv 4)), .int (nI (hv 5))]))] [.ref (t 0), .int (nI 3)]) (QcRead (nI (hv 3))) 0 0 (fun _ => False) := by
  refine Met.ofW (cc := cX6_count) (maxL := 2) (ret := (some .int)) (by decide) rfl ?_
  intro p e s m args below meth c s₁ B hml hv
  obtain ⟨rfl, hP, hK, hN⟩ := hv
  have hx := B.exec
  have hb := B.bytes
  have hr := B.returns
  have hts := atoms_spec (ws := wsX6_count) B.pre
  have hown : s.vm.findClass RX6 = some m.cls := findClass_of_methodNamed B.named
  have hlocks := B.notSynchronized
  have hl := lv_entry ([.ref (t 0), .int (nI 3)]) (n := 2) (Nat.le_of_ble_eq_true rfl)
  rw [lg_entry_eq]
  generalize (lg_sl ([.ref (t 0), .int (nI 3)]) ++ List.replicate (2 - (lg_sl ([.ref (t 0), .int (nI 3)])).length) Slot.unset).toArray = ls at hl ⊢
  have hl : lv_has ls 2 [(0, .ref (t 0)), (1, .int (nI 3))] := hl
  generalize ([.ref (t 0), .int (nI 3)] : List Value).toArray = av at hts ⊢
  obtain ⟨Qc, hQc⟩ : ∃ Qc, Qc = (QcRead (nI (hv 3))) := ⟨_, rfl⟩
  rw [← hQc]
  have f51 := hts (.fieldLink RX6 51 "KneesLent" "hearsay" "LKneesLent$Hearsay;") (by decide +kernel)
  have f252 := hts (.fieldLink RX6 252 "KneesLent$Hearsay" "felt" "I") (by decide +kernel)
  have hiX6 : ∀ w ∈ u_ws RX6 TX6 12, w ∈ wsX6_count := by decide +kernel
  have hiX1 : ∀ w ∈ u_ws RX1 TX1 6, w ∈ wsX6_count := by decide +kernel
  refine lv_iload_n hx hb dX6_count_0 rfl (lv_at hl 1 rfl) ?_
  refine lv_tableIn (off := 59) (tgt := 60) hx hb dX6_count_1 (by decide) (by decide) (by decide) (by decide) ?_
  refine lv_aload_n hx hb dX6_count_60 rfl (lv_at hl 0 rfl) ?_
  refine va_get (D := D) (ci := 6) (v := .ref (t 5)) (C := RX6) (T := TX6) (N := 12) hx hb hts hiX6 hown hK hP 0 rfl rfl 7 (by decide) f51 (fun _ h9 => h9) rfl dX6_count_61 ?_
  refine va_get (D := D) (ci := 1) (v := .int (nI (hv 3))) (C := RX1) (T := TX1) (N := 6) hx hb hts hiX1 hown hK hP 1 rfl rfl 3 (by decide) f252 (fun _ h9 => h9) rfl dX6_count_64 ?_
  exact W.iret (v := (nI (hv 3))) hx hb hr (fun t_9 ht_9 _ => by rw [hQc]; exact ⟨rfl, ht_9⟩) t_nil dX6_count_67

set_option maxHeartbeats 4000000 in
set_option maxRecDepth 100000 in
theorem c_X6_count_4 (l : Launch) (D : va_G) (cI cC cZ cN : ClassId) (t a2 a b : Nat → Nat) (lt : Nat) (tr : Int64) (hv : Nat → Nat) : Met l yX6_count wsX6_count (ly_rm 5) (ly_Pre D (ly_tys cI cC cZ cN) [((t 0), .inr (6, [.ref (t 1), .int (nI lt), .ref (t 2), .ref (a 0), .ref (a2 0), .ref (b 0), .ref (t 4), .ref (t 5), .ref (t 6), .ref (t 7), .ref (t 8), .long tr])), ((t 5), .inr (1, [.int (nI (hv 0)), .int (nI (hv 1)), .int (nI (hv 2)), .int (nI (hv 3)), .int (nI (hv 4)), .int (nI (hv 5))]))] [.ref (t 0), .int (nI 4)]) (QcRead (nI lt)) 0 0 (fun _ => False) := by
  refine Met.ofW (cc := cX6_count) (maxL := 2) (ret := (some .int)) (by decide) rfl ?_
  intro p e s m args below meth c s₁ B hml hv
  obtain ⟨rfl, hP, hK, hN⟩ := hv
  have hx := B.exec
  have hb := B.bytes
  have hr := B.returns
  have hts := atoms_spec (ws := wsX6_count) B.pre
  have hown : s.vm.findClass RX6 = some m.cls := findClass_of_methodNamed B.named
  have hlocks := B.notSynchronized
  have hl := lv_entry ([.ref (t 0), .int (nI 4)]) (n := 2) (Nat.le_of_ble_eq_true rfl)
  rw [lg_entry_eq]
  generalize (lg_sl ([.ref (t 0), .int (nI 4)]) ++ List.replicate (2 - (lg_sl ([.ref (t 0), .int (nI 4)])).length) Slot.unset).toArray = ls at hl ⊢
  have hl : lv_has ls 2 [(0, .ref (t 0)), (1, .int (nI 4))] := hl
  generalize ([.ref (t 0), .int (nI 4)] : List Value).toArray = av at hts ⊢
  obtain ⟨Qc, hQc⟩ : ∃ Qc, Qc = (QcRead (nI lt)) := ⟨_, rfl⟩
  rw [← hQc]
  have f13 := hts (.fieldLink RX6 13 "KneesLent" "letters" "I") (by decide +kernel)
  have hiX6 : ∀ w ∈ u_ws RX6 TX6 12, w ∈ wsX6_count := by decide +kernel
  refine lv_iload_n hx hb dX6_count_0 rfl (lv_at hl 1 rfl) ?_
  refine lv_tableIn (off := 67) (tgt := 68) hx hb dX6_count_1 (by decide) (by decide) (by decide) (by decide) ?_
  refine lv_aload_n hx hb dX6_count_68 rfl (lv_at hl 0 rfl) ?_
  refine va_get (D := D) (ci := 6) (v := .int (nI lt)) (C := RX6) (T := TX6) (N := 12) hx hb hts hiX6 hown hK hP 0 rfl rfl 1 (by decide) f13 (fun _ h9 => h9) rfl dX6_count_69 ?_
  exact W.iret (v := (nI lt)) hx hb hr (fun t_9 ht_9 _ => by rw [hQc]; exact ⟨rfl, ht_9⟩) t_nil dX6_count_72

set_option maxHeartbeats 4000000 in
set_option maxRecDepth 100000 in
theorem c_X6_count_0 (l : Launch) (D : va_G) (cI cC cZ cN : ClassId) (t a2 b : Nat → Nat) (lt : Nat) (tr : Int64) (a : Nat → Nat) (g : Nat → Nat → Nat) : Met l yX6_count wsX6_count (ly_rm 5) (ly_Pre D (ly_tys cI cC cZ cN) [((t 0), .inr (6, [.ref (t 1), .int (nI lt), .ref (t 2), .ref (a 0), .ref (a2 0), .ref (b 0), .ref (t 4), .ref (t 5), .ref (t 6), .ref (t 7), .ref (t 8), .long tr])), ((a 0), .inr (4, [.int (nI (g 0 0)), .ref (a 1), .ref (a 2), .ref (a 3), .int (nI (g 0 1)), .ref (a 4), .ref (a 5), .ref (a 6), .ref (a 7), .ref (a 8), .ref (a 9), .int (nI (g 0 2))])), ((a 1), .inl (cI, 9, .inl (fun j => nI ((g 1) j)))), ((a 2), .inl (cI, 9, .inl (fun j => nI ((g 2) j)))), ((a 3), .inl (cI, 9, .inl (fun j => nI ((g 3) j)))), ((a 4), .inl (cI, 6, .inl (fun j => nI ((g 4) j)))), ((a 5), .inl (cI, 6, .inl (fun j => nI ((g 5) j)))), ((a 6), .inl (cI, 6, .inl (fun j => nI ((g 6) j)))), ((a 7), .inl (cI, 5, .inl (fun j => nI ((g 7) j)))), ((a 8), .inl (cI, 5, .inl (fun j => nI ((g 8) j)))), ((a 9), .inl (cI, 5, .inl (fun j => ly_h ((g 9) j))))] [.ref (t 0), .int (nI 0)]) (QcRead (nI (g 0 0))) 0 0 (fun _ => False) := by
  refine Met.ofW (cc := cX6_count) (maxL := 2) (ret := (some .int)) (by decide) rfl ?_
  intro p e s m args below meth c s₁ B hml hv
  obtain ⟨rfl, hP, hK, hN⟩ := hv
  have hx := B.exec
  have hb := B.bytes
  have hr := B.returns
  have hts := atoms_spec (ws := wsX6_count) B.pre
  have hown : s.vm.findClass RX6 = some m.cls := findClass_of_methodNamed B.named
  have hlocks := B.notSynchronized
  have hl := lv_entry ([.ref (t 0), .int (nI 0)]) (n := 2) (Nat.le_of_ble_eq_true rfl)
  rw [lg_entry_eq]
  generalize (lg_sl ([.ref (t 0), .int (nI 0)]) ++ List.replicate (2 - (lg_sl ([.ref (t 0), .int (nI 0)])).length) Slot.unset).toArray = ls at hl ⊢
  have hl : lv_has ls 2 [(0, .ref (t 0)), (1, .int (nI 0))] := hl
  generalize ([.ref (t 0), .int (nI 0)] : List Value).toArray = av at hts ⊢
  obtain ⟨Qc, hQc⟩ : ∃ Qc, Qc = (QcRead (nI (g 0 0))) := ⟨_, rfl⟩
  rw [← hQc]
  have f27 := hts (.fieldLink RX6 27 "KneesLent" "parish" "LKneesLent$Parish;") (by decide +kernel)
  have f191 := hts (.fieldLink RX6 191 "KneesLent$Parish" "knees" "I") (by decide +kernel)
  have hiX6 : ∀ w ∈ u_ws RX6 TX6 12, w ∈ wsX6_count := by decide +kernel
  have hiX4 : ∀ w ∈ u_ws RX4 TX4 12, w ∈ wsX6_count := by decide +kernel
  refine lv_iload_n hx hb dX6_count_0 rfl (lv_at hl 1 rfl) ?_
  refine lv_tableIn (off := 35) (tgt := 36) hx hb dX6_count_1 (by decide) (by decide) (by decide) (by decide) ?_
  refine lv_aload_n hx hb dX6_count_36 rfl (lv_at hl 0 rfl) ?_
  refine va_get (D := D) (ci := 6) (v := .ref (a 0)) (C := RX6) (T := TX6) (N := 12) hx hb hts hiX6 hown hK hP 0 rfl rfl 3 (by decide) f27 (fun _ h9 => h9) rfl dX6_count_37 ?_
  refine va_get (D := D) (ci := 4) (v := .int (nI (g 0 0))) (C := RX4) (T := TX4) (N := 12) hx hb hts hiX4 hown hK hP 1 rfl rfl 0 (by decide) f191 (fun _ h9 => h9) rfl dX6_count_40 ?_
  exact W.iret (v := (nI (g 0 0))) hx hb hr (fun t_9 ht_9 _ => by rw [hQc]; exact ⟨rfl, ht_9⟩) t_nil dX6_count_43

set_option maxHeartbeats 4000000 in
set_option maxRecDepth 100000 in
theorem c_X6_count_1 (l : Launch) (D : va_G) (cI cC cZ cN : ClassId) (t a2 b : Nat → Nat) (lt : Nat) (tr : Int64) (a : Nat → Nat) (g : Nat → Nat → Nat) : Met l yX6_count wsX6_count (ly_rm 5) (ly_Pre D (ly_tys cI cC cZ cN) [((t 0), .inr (6, [.ref (t 1), .int (nI lt), .ref (t 2), .ref (a 0), .ref (a2 0), .ref (b 0), .ref (t 4), .ref (t 5), .ref (t 6), .ref (t 7), .ref (t 8), .long tr])), ((a 0), .inr (4, [.int (nI (g 0 0)), .ref (a 1), .ref (a 2), .ref (a 3), .int (nI (g 0 1)), .ref (a 4), .ref (a 5), .ref (a 6), .ref (a 7), .ref (a 8), .ref (a 9), .int (nI (g 0 2))])), ((a 1), .inl (cI, 9, .inl (fun j => nI ((g 1) j)))), ((a 2), .inl (cI, 9, .inl (fun j => nI ((g 2) j)))), ((a 3), .inl (cI, 9, .inl (fun j => nI ((g 3) j)))), ((a 4), .inl (cI, 6, .inl (fun j => nI ((g 4) j)))), ((a 5), .inl (cI, 6, .inl (fun j => nI ((g 5) j)))), ((a 6), .inl (cI, 6, .inl (fun j => nI ((g 6) j)))), ((a 7), .inl (cI, 5, .inl (fun j => nI ((g 7) j)))), ((a 8), .inl (cI, 5, .inl (fun j => nI ((g 8) j)))), ((a 9), .inl (cI, 5, .inl (fun j => ly_h ((g 9) j))))] [.ref (t 0), .int (nI 1)]) (QcRead (nI (g 0 1))) 0 0 (fun _ => False) := by
  refine Met.ofW (cc := cX6_count) (maxL := 2) (ret := (some .int)) (by decide) rfl ?_
  intro p e s m args below meth c s₁ B hml hv
  obtain ⟨rfl, hP, hK, hN⟩ := hv
  have hx := B.exec
  have hb := B.bytes
  have hr := B.returns
  have hts := atoms_spec (ws := wsX6_count) B.pre
  have hown : s.vm.findClass RX6 = some m.cls := findClass_of_methodNamed B.named
  have hlocks := B.notSynchronized
  have hl := lv_entry ([.ref (t 0), .int (nI 1)]) (n := 2) (Nat.le_of_ble_eq_true rfl)
  rw [lg_entry_eq]
  generalize (lg_sl ([.ref (t 0), .int (nI 1)]) ++ List.replicate (2 - (lg_sl ([.ref (t 0), .int (nI 1)])).length) Slot.unset).toArray = ls at hl ⊢
  have hl : lv_has ls 2 [(0, .ref (t 0)), (1, .int (nI 1))] := hl
  generalize ([.ref (t 0), .int (nI 1)] : List Value).toArray = av at hts ⊢
  obtain ⟨Qc, hQc⟩ : ∃ Qc, Qc = (QcRead (nI (g 0 1))) := ⟨_, rfl⟩
  rw [← hQc]
  have f27 := hts (.fieldLink RX6 27 "KneesLent" "parish" "LKneesLent$Parish;") (by decide +kernel)
  have f287 := hts (.fieldLink RX6 287 "KneesLent$Parish" "people" "I") (by decide +kernel)
  have hiX6 : ∀ w ∈ u_ws RX6 TX6 12, w ∈ wsX6_count := by decide +kernel
  have hiX4 : ∀ w ∈ u_ws RX4 TX4 12, w ∈ wsX6_count := by decide +kernel
  refine lv_iload_n hx hb dX6_count_0 rfl (lv_at hl 1 rfl) ?_
  refine lv_tableIn (off := 43) (tgt := 44) hx hb dX6_count_1 (by decide) (by decide) (by decide) (by decide) ?_
  refine lv_aload_n hx hb dX6_count_44 rfl (lv_at hl 0 rfl) ?_
  refine va_get (D := D) (ci := 6) (v := .ref (a 0)) (C := RX6) (T := TX6) (N := 12) hx hb hts hiX6 hown hK hP 0 rfl rfl 3 (by decide) f27 (fun _ h9 => h9) rfl dX6_count_45 ?_
  refine va_get (D := D) (ci := 4) (v := .int (nI (g 0 1))) (C := RX4) (T := TX4) (N := 12) hx hb hts hiX4 hown hK hP 1 rfl rfl 4 (by decide) f287 (fun _ h9 => h9) rfl dX6_count_48 ?_
  exact W.iret (v := (nI (g 0 1))) hx hb hr (fun t_9 ht_9 _ => by rw [hQc]; exact ⟨rfl, ht_9⟩) t_nil dX6_count_51
