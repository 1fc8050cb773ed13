/-- what a knee costs; 9: none -/
def w_oil (g : Nat → Nat → Nat) (k : Nat) : Nat := if k = 9 then 0 else g 8 (g 2 k)

set_option maxHeartbeats 4000000 in
set_option maxRecDepth 100000 in
theorem c_X2_oilOf (l : Launch) (D : va_G) (cI cC cZ cN : ClassId) (t : Nat → Nat) (a : Nat → Nat) (g : Nat → Nat → Nat) (wf lf rf : Nat → Int32) (sS : Nat) (an : Int32) (k : Nat) (h1 : k ≤ 9) (hf : ∀ j, j < 9 → g 2 j < 5) : Met l yX2_oilOf wsX2_oilOf (ly_rm 1) (ly_Pre D (ly_tys cI cC cZ cN) [((t 6), .inr (2, [.ref (t 10), .ref (t 11), .ref (t 12), .ref (a 0), .int (nI sS), .int an])), ((t 10), .inl (cI, 3072, .inl wf)), ((t 11), .inl (cI, 6, .inl lf)), ((t 12), .inl (cI, 6, .inl rf)), ((a 0), .inr (4, [.int (nI (g 0 0)), .ref (a 1), .ref (a 2), .ref (a 3), .int (nI (g 0 1)), .ref (a 4), .ref (a 5), .ref (a 6), .ref (a 7), .ref (a 8), .ref (a 9), .int (nI (g 0 2))])), ((a 1), .inl (cI, 9, .inl (fun j => nI ((g 1) j)))), ((a 2), .inl (cI, 9, .inl (fun j => nI ((g 2) j)))), ((a 3), .inl (cI, 9, .inl (fun j => nI ((g 3) j)))), ((a 4), .inl (cI, 6, .inl (fun j => nI ((g 4) j)))), ((a 5), .inl (cI, 6, .inl (fun j => nI ((g 5) j)))), ((a 6), .inl (cI, 6, .inl (fun j => nI ((g 6) j)))), ((a 7), .inl (cI, 5, .inl (fun j => nI ((g 7) j)))), ((a 8), .inl (cI, 5, .inl (fun j => nI ((g 8) j)))), ((a 9), .inl (cI, 5, .inl (fun j => ly_h ((g 9) j))))] [.ref (t 6), .int (nI k)]) (QcRead (nI (w_oil g k))) 0 0 (fun _ => False) := by
  refine Met.ofW (cc := cX2_oilOf) (maxL := 2) (ret := (some .int)) (by decide) rfl ?_
  intro p e s m args below meth c s₁ B hml hv
  obtain ⟨rfl, hP, hK, hN⟩ := hv
  have hx := B.exec
  have hb := B.bytes
  have hr := B.returns
  have hts := atoms_spec (ws := wsX2_oilOf) B.pre
  have hown : s.vm.findClass RX2 = some m.cls := findClass_of_methodNamed B.named
  have hlocks := B.notSynchronized
  have hl := lv_entry ([.ref (t 6), .int (nI k)]) (n := 2) (Nat.le_of_ble_eq_true rfl)
  rw [lg_entry_eq]
  generalize (lg_sl ([.ref (t 6), .int (nI k)]) ++ List.replicate (2 - (lg_sl ([.ref (t 6), .int (nI k)])).length) Slot.unset).toArray = ls at hl ⊢
  have hl : lv_has ls 2 [(0, .ref (t 6)), (1, .int (nI k))] := hl
  generalize ([.ref (t 6), .int (nI k)] : List Value).toArray = av at hts ⊢
  obtain ⟨Qc, hQc⟩ : ∃ Qc, Qc = (QcRead (nI (w_oil g k))) := ⟨_, rfl⟩
  rw [← hQc]
  have f21 := hts (.fieldLink RX2 21 "KneesLent$Lender" "parish" "LKneesLent$Parish;") (by decide +kernel)
  have f103 := hts (.fieldLink RX2 103 "KneesLent$Parish" "oil" "[I") (by decide +kernel)
  have f106 := hts (.fieldLink RX2 106 "KneesLent$Parish" "farm" "[I") (by decide +kernel)
  have hiX2 : ∀ w ∈ u_ws RX2 TX2 6, w ∈ wsX2_oilOf := by decide +kernel
  have hiX4 : ∀ w ∈ u_ws RX4 TX4 12, w ∈ wsX2_oilOf := by decide +kernel
  refine lv_iload_n hx hb dX2_oilOf_0 rfl (lv_at hl 1 rfl) ?_
  refine lv_bipush (v := 9) hx hb dX2_oilOf_1 (by decide) ?_
  refine lv_icmp_ne (tgt := 10) hx hb dX2_oilOf_3 (by decide) (fun c_1 => ?_) (fun c_1 => ?_)
  · have hk8_ : ¬ k = 9 := fun z => c_1 ((nI_eq (a := k) (b := 9) (by omega) (by omega)).mpr z)
    refine lv_aload_n hx hb dX2_oilOf_10 rfl (lv_at hl 0 rfl) ?_
    refine va_get (D := D) (ci := 2) (v := .ref (a 0)) (C := RX2) (T := TX2) (N := 6) hx hb hts hiX2 hown hK hP 0 rfl rfl 3 (by decide) f21 (fun _ h9 => h9) rfl dX2_oilOf_11 ?_
    refine va_get (D := D) (ci := 4) (v := .ref (a 8)) (C := RX4) (T := TX4) (N := 12) hx hb hts hiX4 hown hK hP 4 rfl rfl 9 (by decide) f103 (fun _ h9 => h9) rfl dX2_oilOf_14 ?_
    refine lv_aload_n hx hb dX2_oilOf_17 rfl (lv_at hl 0 rfl) ?_
    refine va_get (D := D) (ci := 2) (v := .ref (a 0)) (C := RX2) (T := TX2) (N := 6) hx hb hts hiX2 hown hK hP 0 rfl rfl 3 (by decide) f21 (fun _ h9 => h9) rfl dX2_oilOf_18 ?_
    refine va_get (D := D) (ci := 4) (v := .ref (a 2)) (C := RX4) (T := TX4) (N := 12) hx hb hts hiX4 hown hK hP 4 rfl rfl 2 (by decide) f106 (fun _ h9 => h9) rfl dX2_oilOf_21 ?_
    refine lv_iload_n hx hb dX2_oilOf_24 rfl (lv_at hl 1 rfl) ?_
    refine ly_iald hx hb hK hP 6 0 rfl rfl (k := k) (by decide) rfl (by first | omega | exact hf _ (by omega)) dX2_oilOf_25 ?_
    refine ly_iald hx hb hK hP 12 0 rfl rfl (k := (g 2) k) (by decide) rfl (by first | omega | exact hf _ (by omega)) dX2_oilOf_26 ?_
    exact W.iret (v := (nI ((g 8) ((g 2) k)))) hx hb hr (fun t_9 ht_9 _ => by rw [hQc]; exact ⟨(by unfold w_oil; rw [if_neg (fun z => c_1 ((nI_eq (a := k) (b := 9) (by omega) (by omega)).mpr z))]), ht_9⟩) t_nil dX2_oilOf_27
  · refine lv_iconst (v := 0) hx hb dX2_oilOf_6 (by decide) ?_
    refine lv_goto (tgt := 27) hx hb dX2_oilOf_7 (by decide) ?_
    exact W.iret (v := 0) hx hb hr (fun t_9 ht_9 _ => by rw [hQc]; exact ⟨(by unfold w_oil; rw [if_pos ((nI_eq (a := k) (b := 9) (by omega) (by omega)).mp c_1)]; rfl), ht_9⟩) t_nil dX2_oilOf_27

def w_kb (k1 k2 : Nat) : Nat := (2 ^ k1 ||| 2 ^ k2) % 512
theorem w_kb_lt (k1 k2 : Nat) : w_kb k1 k2 < 512 := Nat.mod_lt _ (by decide)
theorem w_kb_eq : ∀ k1, k1 ≤ 9 → ∀ k2, k2 ≤ 9 → (((1 : Int32) <<< ((nI k1) &&& 31)) ||| (1 <<< ((nI k2) &&& 31))) &&& 511 = nI (w_kb k1 k2) := by decide +kernel

set_option maxHeartbeats 4000000 in
set_option maxRecDepth 100000 in
theorem c_X2_kneeBits (l : Launch) (D : va_G) (cI cC cZ cN : ClassId) (k1 k2 : Nat) (h1 : k1 ≤ 9) (h2 : k2 ≤ 9) : Met l yX2_kneeBits wsX2_kneeBits (ly_rm 1) (ly_Pre D (ly_tys cI cC cZ cN) [] [.int (nI k1), .int (nI k2)]) (QcRead (nI (w_kb k1 k2))) 0 0 (fun _ => False) := by
  refine Met.ofW (cc := cX2_kneeBits) (maxL := 2) (ret := (some .int)) (by decide) rfl ?_
  intro p e s m args below meth c s₁ B hml hv
  obtain ⟨rfl, hP, hK, hN⟩ := hv
  have hx := B.exec
  have hb := B.bytes
  have hr := B.returns
  have hts := atoms_spec (ws := wsX2_kneeBits) B.pre
  have hown : s.vm.findClass RX2 = some m.cls := findClass_of_methodNamed B.named
  have hlocks := B.notSynchronized
  have hl := lv_entry ([.int (nI k1), .int (nI k2)]) (n := 2) (Nat.le_of_ble_eq_true rfl)
  rw [lg_entry_eq]
  generalize (lg_sl ([.int (nI k1), .int (nI k2)]) ++ List.replicate (2 - (lg_sl ([.int (nI k1), .int (nI k2)])).length) Slot.unset).toArray = ls at hl ⊢
  have hl : lv_has ls 2 [(0, .int (nI k1)), (1, .int (nI k2))] := hl
  generalize ([.int (nI k1), .int (nI k2)] : List Value).toArray = av at hts ⊢
  obtain ⟨Qc, hQc⟩ : ∃ Qc, Qc = (QcRead (nI (w_kb k1 k2))) := ⟨_, rfl⟩
  rw [← hQc]
  refine lv_iconst (v := 1) hx hb dX2_kneeBits_0 (by decide) ?_
  refine lv_iload_n hx hb dX2_kneeBits_1 rfl (lv_at hl 0 rfl) ?_
  refine lv_ishl hx hb dX2_kneeBits_2 ?_
  refine lv_iconst (v := 1) hx hb dX2_kneeBits_3 (by decide) ?_
  refine lv_iload_n hx hb dX2_kneeBits_4 rfl (lv_at hl 1 rfl) ?_
  refine lv_ishl hx hb dX2_kneeBits_5 ?_
  refine lv_ior hx hb dX2_kneeBits_6 ?_
  refine lv_sipush (v := 511) hx hb dX2_kneeBits_7 (by decide) ?_
  refine lv_iand hx hb dX2_kneeBits_10 ?_
  exact W.iret (v := (((1 <<< ((nI k1) &&& 31)) ||| (1 <<< ((nI k2) &&& 31))) &&& 511)) hx hb hr (fun t_9 ht_9 _ => by rw [hQc]; exact ⟨(by rw [← w_kb_eq k1 h1 k2 h2]), ht_9⟩) t_nil dX2_kneeBits_11

def w_may (g : Nat → Nat → Nat) (lf rf : Nat → Int32) (q l1 r1 us : Nat) : Int32 := (if (jbit ((lf q) &&& ((nI us) ^^^ (-1))) (nI l1)) = 0 then 0 else (if (jbit ((rf q) &&& ((nI us) ^^^ (-1))) (nI r1)) = 0 then 0 else (if (nI l1) = 9 then 1 else (if (nI r1) = 9 then 1 else (if (s_speak g l1 r1) = 0 then 0 else 1)))))
set_option maxHeartbeats 4000000 in
set_option maxRecDepth 100000 in
theorem c_X2_mayHave (l : Launch) (D : va_G) (cI cC cZ cN : ClassId) (t : Nat → Nat) (a : Nat → Nat) (g : Nat → Nat → Nat) (wf lf rf : Nat → Int32) (sS : Nat) (an : Int32) (q l1 r1 us : Nat) (h0 : q < 6) (h1 : l1 ≤ 9) (h2 : r1 ≤ 9) (hf : ∀ j, j < 9 → g 2 j < 5) : Met l yX2_mayHave wsX2_mayHave (ly_rm 3) (ly_Pre D (ly_tys cI cC cZ cN) [((t 6), .inr (2, [.ref (t 10), .ref (t 11), .ref (t 12), .ref (a 0), .int (nI sS), .int an])), ((t 10), .inl (cI, 3072, .inl wf)), ((t 11), .inl (cI, 6, .inl lf)), ((t 12), .inl (cI, 6, .inl rf)), ((a 0), .inr (4, [.int (nI (g 0 0)), .ref (a 1), .ref (a 2), .ref (a 3), .int (nI (g 0 1)), .ref (a 4), .ref (a 5), .ref (a 6), .ref (a 7), .ref (a 8), .ref (a 9), .int (nI (g 0 2))])), ((a 1), .inl (cI, 9, .inl (fun j => nI ((g 1) j)))), ((a 2), .inl (cI, 9, .inl (fun j => nI ((g 2) j)))), ((a 3), .inl (cI, 9, .inl (fun j => nI ((g 3) j)))), ((a 4), .inl (cI, 6, .inl (fun j => nI ((g 4) j)))), ((a 5), .inl (cI, 6, .inl (fun j => nI ((g 5) j)))), ((a 6), .inl (cI, 6, .inl (fun j => nI ((g 6) j)))), ((a 7), .inl (cI, 5, .inl (fun j => nI ((g 7) j)))), ((a 8), .inl (cI, 5, .inl (fun j => nI ((g 8) j)))), ((a 9), .inl (cI, 5, .inl (fun j => ly_h ((g 9) j))))] [.ref (t 6), .int (nI q), .int (nI l1), .int (nI r1), .int (nI us)]) (QcRead (w_may g lf rf q l1 r1 us)) 0 0 (fun _ => False) := by
  refine Met.ofW (cc := cX2_mayHave) (maxL := 5) (ret := (some .boolean)) (by decide) rfl ?_
  intro p e s m args below meth c s₁ B hml hv
  obtain ⟨rfl, hP, hK, hN⟩ := hv
  have hx := B.exec
  have hb := B.bytes
  have hr := B.returns
  have hts := atoms_spec (ws := wsX2_mayHave) B.pre
  have hown : s.vm.findClass RX2 = some m.cls := findClass_of_methodNamed B.named
  have hlocks := B.notSynchronized
  have hl := lv_entry ([.ref (t 6), .int (nI q), .int (nI l1), .int (nI r1), .int (nI us)]) (n := 5) (Nat.le_of_ble_eq_true rfl)
  rw [lg_entry_eq]
  generalize (lg_sl ([.ref (t 6), .int (nI q), .int (nI l1), .int (nI r1), .int (nI us)]) ++ List.replicate (5 - (lg_sl ([.ref (t 6), .int (nI q), .int (nI l1), .int (nI r1), .int (nI us)])).length) Slot.unset).toArray = ls at hl ⊢
  have hl : lv_has ls 5 [(0, .ref (t 6)), (1, .int (nI q)), (2, .int (nI l1)), (3, .int (nI r1)), (4, .int (nI us))] := hl
  generalize ([.ref (t 6), .int (nI q), .int (nI l1), .int (nI r1), .int (nI us)] : List Value).toArray = av at hts ⊢
  obtain ⟨Qc, hQc⟩ : ∃ Qc, Qc = (QcRead (w_may g lf rf q l1 r1 us)) := ⟨_, rfl⟩
  rw [← hQc]
  have f15 := hts (.fieldLink RX2 15 "KneesLent$Lender" "lefts" "[I") (by decide +kernel)
  have f18 := hts (.fieldLink RX2 18 "KneesLent$Lender" "rights" "[I") (by decide +kernel)
  have f21 := hts (.fieldLink RX2 21 "KneesLent$Lender" "parish" "LKneesLent$Parish;") (by decide +kernel)
  have hiX2 : ∀ w ∈ u_ws RX2 TX2 6, w ∈ wsX2_mayHave := by decide +kernel
  refine lv_aload_n hx hb dX2_mayHave_0 rfl (lv_at hl 0 rfl) ?_
  refine va_get (D := D) (ci := 2) (v := .ref (t 11)) (C := RX2) (T := TX2) (N := 6) hx hb hts hiX2 hown hK hP 0 rfl rfl 1 (by decide) f15 (fun _ h9 => h9) rfl dX2_mayHave_1 ?_
  refine lv_iload_n hx hb dX2_mayHave_4 rfl (lv_at hl 1 rfl) ?_
  refine ly_iald hx hb hK hP 2 0 rfl rfl (k := q) (by decide) rfl (by first | omega | exact hf _ (by omega)) dX2_mayHave_5 ?_
  refine lv_iload hx hb dX2_mayHave_6 (lv_at hl 4 rfl) ?_
  refine lv_iconst (v := (-1)) hx hb dX2_mayHave_8 (by decide) ?_
  refine lv_ixor hx hb dX2_mayHave_9 ?_
  refine lv_iand hx hb dX2_mayHave_10 ?_
  refine lv_iload_n hx hb dX2_mayHave_11 rfl (lv_at hl 2 rfl) ?_
  have hPc_12 := hP.sub (ws' := []) [] rfl
  refine ly_r (va_runSN (As := [.int ((lf q) &&& ((nI us) ^^^ (-1))), .int (nI l1)]) (rest := []) ⟨hx, hb, hml, hown, hts⟩ (c_X6_bit l D cI cC cZ cN ((lf q) &&& ((nI us) ^^^ (-1))) (nI l1)) ⟨va_cnB 2 hts gX2_mayHave_X6_bit_n51 rfl rfl rfl hN.2.2.2.2.2.2.2.2.2.2.1 (hts (.initialized RX6) (by decide +kernel)) (by decide +kernel) ⟨Nat.le_of_ble_eq_true rfl, Nat.le_of_ble_eq_true rfl⟩, hts (.static yX6_bit) (by decide +kernel), trivial⟩ (ly_ps hK hN hPc_12) rfl rfl hl.1 rfl (lv_room (Nat.le_of_ble_eq_true rfl)) dX2_mayHave_12 ⟨Nat.zero_le _, Nat.zero_le _⟩) ?_
  refine lv_if_eq (tgt := 36) hx hb dX2_mayHave_15 (by decide) (fun c_1 => ?_) (fun c_1 => ?_)
  · refine lv_iconst (v := 0) hx hb dX2_mayHave_36 (by decide) ?_
    exact W.zret (v := 0) hx hb hr rfl (fun t_9 ht_9 _ => by rw [hQc]; exact ⟨(by unfold w_may; rw [if_pos c_1]), ht_9⟩) t_nil dX2_mayHave_37
  · refine lv_aload_n hx hb dX2_mayHave_18 rfl (lv_at hl 0 rfl) ?_
    refine va_get (D := D) (ci := 2) (v := .ref (t 12)) (C := RX2) (T := TX2) (N := 6) hx hb hts hiX2 hown hK hP 0 rfl rfl 2 (by decide) f18 (fun _ h9 => h9) rfl dX2_mayHave_19 ?_
    refine lv_iload_n hx hb dX2_mayHave_22 rfl (lv_at hl 1 rfl) ?_
    refine ly_iald hx hb hK hP 3 0 rfl rfl (k := q) (by decide) rfl (by first | omega | exact hf _ (by omega)) dX2_mayHave_23 ?_
    refine lv_iload hx hb dX2_mayHave_24 (lv_at hl 4 rfl) ?_
    refine lv_iconst (v := (-1)) hx hb dX2_mayHave_26 (by decide) ?_
    refine lv_ixor hx hb dX2_mayHave_27 ?_
    refine lv_iand hx hb dX2_mayHave_28 ?_
    refine lv_iload_n hx hb dX2_mayHave_29 rfl (lv_at hl 3 rfl) ?_
    have hPc_30 := hP.sub (ws' := []) [] rfl
    refine ly_r (va_runSN (As := [.int ((rf q) &&& ((nI us) ^^^ (-1))), .int (nI r1)]) (rest := []) ⟨hx, hb, hml, hown, hts⟩ (c_X6_bit l D cI cC cZ cN ((rf q) &&& ((nI us) ^^^ (-1))) (nI r1)) ⟨va_cnB 2 hts gX2_mayHave_X6_bit_n51 rfl rfl rfl hN.2.2.2.2.2.2.2.2.2.2.1 (hts (.initialized RX6) (by decide +kernel)) (by decide +kernel) ⟨Nat.le_of_ble_eq_true rfl, Nat.le_of_ble_eq_true rfl⟩, hts (.static yX6_bit) (by decide +kernel), trivial⟩ (ly_ps hK hN hPc_30) rfl rfl hl.1 rfl (lv_room (Nat.le_of_ble_eq_true rfl)) dX2_mayHave_30 ⟨Nat.zero_le _, Nat.zero_le _⟩) ?_
    refine lv_if_ne (tgt := 38) hx hb dX2_mayHave_33 (by decide) (fun c_2 => ?_) (fun c_2 => ?_)
    · refine lv_iload_n hx hb dX2_mayHave_38 rfl (lv_at hl 2 rfl) ?_
      refine lv_bipush (v := 9) hx hb dX2_mayHave_39 (by decide) ?_
      refine lv_icmp_eq (tgt := 62) hx hb dX2_mayHave_41 (by decide) (fun c_3 => ?_) (fun c_3 => ?_)
      · refine lv_iconst (v := 1) hx hb dX2_mayHave_62 (by decide) ?_
        refine lv_goto (tgt := 67) hx hb dX2_mayHave_63 (by decide) ?_
        exact W.zret (v := 1) hx hb hr rfl (fun t_9 ht_9 _ => by rw [hQc]; exact ⟨(by unfold w_may; rw [if_neg c_1, if_neg c_2, if_pos c_3]), ht_9⟩) t_nil dX2_mayHave_67
      · refine lv_iload_n hx hb dX2_mayHave_44 rfl (lv_at hl 3 rfl) ?_
        refine lv_bipush (v := 9) hx hb dX2_mayHave_45 (by decide) ?_
        refine lv_icmp_eq (tgt := 62) hx hb dX2_mayHave_47 (by decide) (fun c_4 => ?_) (fun c_4 => ?_)
        · refine lv_iconst (v := 1) hx hb dX2_mayHave_62 (by decide) ?_
          refine lv_goto (tgt := 67) hx hb dX2_mayHave_63 (by decide) ?_
          exact W.zret (v := 1) hx hb hr rfl (fun t_9 ht_9 _ => by rw [hQc]; exact ⟨(by unfold w_may; rw [if_neg c_1, if_neg c_2, if_neg c_3, if_pos c_4]), ht_9⟩) t_nil dX2_mayHave_67
        · have hk8_ : ¬ l1 = 9 := fun z => c_3 ((nI_eq (a := l1) (b := 9) (by omega) (by omega)).mpr z)
          have hk7_ : ¬ r1 = 9 := fun z => c_4 ((nI_eq (a := r1) (b := 9) (by omega) (by omega)).mpr z)
          refine lv_aload_n hx hb dX2_mayHave_50 rfl (lv_at hl 0 rfl) ?_
          refine va_get (D := D) (ci := 2) (v := .ref (a 0)) (C := RX2) (T := TX2) (N := 6) hx hb hts hiX2 hown hK hP 0 rfl rfl 3 (by decide) f21 (fun _ h9 => h9) rfl dX2_mayHave_51 ?_
          refine lv_iload_n hx hb dX2_mayHave_54 rfl (lv_at hl 2 rfl) ?_
          refine lv_iload_n hx hb dX2_mayHave_55 rfl (lv_at hl 3 rfl) ?_
          have hPc_56 := hP.sub (ws' := [((a 0), .inr (4, [.int (nI (g 0 0)), .ref (a 1), .ref (a 2), .ref (a 3), .int (nI (g 0 1)), .ref (a 4), .ref (a 5), .ref (a 6), .ref (a 7), .ref (a 8), .ref (a 9), .int (nI (g 0 2))])), ((a 1), .inl (cI, 9, .inl (fun j => nI ((g 1) j)))), ((a 2), .inl (cI, 9, .inl (fun j => nI ((g 2) j)))), ((a 3), .inl (cI, 9, .inl (fun j => nI ((g 3) j)))), ((a 4), .inl (cI, 6, .inl (fun j => nI ((g 4) j)))), ((a 5), .inl (cI, 6, .inl (fun j => nI ((g 5) j)))), ((a 6), .inl (cI, 6, .inl (fun j => nI ((g 6) j)))), ((a 7), .inl (cI, 5, .inl (fun j => nI ((g 7) j)))), ((a 8), .inl (cI, 5, .inl (fun j => nI ((g 8) j)))), ((a 9), .inl (cI, 5, .inl (fun j => ly_h ((g 9) j))))]) [4, 5, 6, 7, 8, 9, 10, 11, 12, 13] rfl
          refine ly_r (va_runV (As := [.int (nI l1), .int (nI r1)]) (rest := []) ⟨hx, hb, hml, hown, hts⟩ (c_X4_speak l D cI cC cZ cN a g l1 r1 (by first | omega | exact hf _ (by omega)) (by first | omega | exact hf _ (by omega)) hf) (cwV 2 hts gX2_mayHave_X4_speak rfl rfl rfl (by decide +kernel) ⟨Nat.le_of_ble_eq_true rfl, Nat.le_of_ble_eq_true rfl⟩) (ly_pv hK hN hPc_56 0 4 rfl rfl rfl) rfl rfl hl.1 rfl (lv_room (Nat.le_of_ble_eq_true rfl)) dX2_mayHave_56 ⟨Nat.zero_le _, Nat.zero_le _⟩) ?_
          refine lv_if_eq (tgt := 66) hx hb dX2_mayHave_59 (by decide) (fun c_5 => ?_) (fun c_5 => ?_)
          · refine lv_iconst (v := 0) hx hb dX2_mayHave_66 (by decide) ?_
            exact W.zret (v := 0) hx hb hr rfl (fun t_9 ht_9 _ => by rw [hQc]; exact ⟨(by unfold w_may; rw [if_neg c_1, if_neg c_2, if_neg c_3, if_neg c_4, if_pos c_5]), ht_9⟩) t_nil dX2_mayHave_67
          · refine lv_iconst (v := 1) hx hb dX2_mayHave_62 (by decide) ?_
            refine lv_goto (tgt := 67) hx hb dX2_mayHave_63 (by decide) ?_
            exact W.zret (v := 1) hx hb hr rfl (fun t_9 ht_9 _ => by rw [hQc]; exact ⟨(by unfold w_may; rw [if_neg c_1, if_neg c_2, if_neg c_3, if_neg c_4, if_neg c_5]), ht_9⟩) t_nil dX2_mayHave_67
    · refine lv_iconst (v := 0) hx hb dX2_mayHave_36 (by decide) ?_
      exact W.zret (v := 0) hx hb hr rfl (fun t_9 ht_9 _ => by rw [hQc]; exact ⟨(by unfold w_may; rw [if_neg c_1, if_pos c_2]), ht_9⟩) t_nil dX2_mayHave_37

/-- a person's best way with a left knee: over the right ones -/
def w_lwR (g : Nat → Nat → Nat) (lf rf : Nat → Int32) (q us : Nat) (rec : Nat → Nat) (l1 v : Nat) : Nat → Nat
  | 0 => v
  | r1 + 1 => if (w_may g lf rf q l1 r1 us) = 0 then w_lwR g lf rf q us rec l1 v r1 else min (w_lwR g lf rf q us rec l1 v r1) ((w_oil g l1 + w_oil g r1) * 64 + 2 ^ q + rec (us ||| w_kb l1 r1))
def w_lwL (g : Nat → Nat → Nat) (lf rf : Nat → Int32) (q us : Nat) (rec : Nat → Nat) : Nat → Nat
  | 0 => 8192 + rec us
  | l1 + 1 => if (jbit ((lf q) &&& ((nI us) ^^^ (-1))) (nI l1)) = 1 then w_lwR g lf rf q us rec l1 (w_lwL g lf rf q us rec l1) 10 else w_lwL g lf rf q us rec l1
/-- the least worth from a person on: u people are left -/
def w_wv (g : Nat → Nat → Nat) (lf rf : Nat → Int32) (sS : Nat) : Nat → Nat → Nat → Nat
  | 0, _, _ => 0
  | u + 1, q, us => if (jbit (nI sS) (nI q)) = 1 then w_lwL g lf rf q us (fun v => w_wv g lf rf sS u (q + 1) v) 10 else w_wv g lf rf sS u (q + 1) us
theorem w_wv_s (g : Nat → Nat → Nat) (lf rf : Nat → Int32) (sS u q us : Nat) : w_wv g lf rf sS (u + 1) q us = if (jbit (nI sS) (nI q)) = 1 then w_lwL g lf rf q us (fun v => w_wv g lf rf sS u (q + 1) v) 10 else w_wv g lf rf sS u (q + 1) us := rfl
theorem w_lwR_le (g : Nat → Nat → Nat) (lf rf : Nat → Int32) (q us : Nat) (rec : Nat → Nat) (l1 v : Nat) : ∀ r1, w_lwR g lf rf q us rec l1 v r1 ≤ v
  | 0 => Nat.le_refl _
  | r1 + 1 => by
    have ih := w_lwR_le g lf rf q us rec l1 v r1
    show (if _ then _ else _) ≤ v
    split
    · exact ih
    · exact Nat.le_trans (Nat.min_le_left _ _) ih
theorem w_lwL_le (g : Nat → Nat → Nat) (lf rf : Nat → Int32) (q us : Nat) (rec : Nat → Nat) : ∀ l1, w_lwL g lf rf q us rec l1 ≤ 8192 + rec us
  | 0 => Nat.le_refl _
  | l1 + 1 => by
    have ih := w_lwL_le g lf rf q us rec l1
    show (if _ then _ else _) ≤ _
    split
    · exact Nat.le_trans (w_lwR_le _ _ _ _ _ _ _ _ _) ih
    · exact ih
theorem w_wv_le (g : Nat → Nat → Nat) (lf rf : Nat → Int32) (sS : Nat) : ∀ u q us, w_wv g lf rf sS u q us ≤ 8192 * u
  | 0, _, _ => Nat.le_refl _
  | u + 1, q, us => by
    have ih := w_wv_le g lf rf sS u (q + 1) us
    rw [w_wv_s]
    split
    · have h1 := w_lwL_le g lf rf q us (fun v => w_wv g lf rf sS u (q + 1) v) 10
      have h2 : (fun v => w_wv g lf rf sS u (q + 1) v) us = w_wv g lf rf sS u (q + 1) us := rfl
      omega
    · omega
theorem w_oil_le {g : Nat → Nat → Nat} (ho : ∀ j, g 8 j ≤ 9) (k : Nat) : w_oil g k ≤ 9 := by
  unfold w_oil
  split
  · omega
  · exact ho _
/-- the memory: each place is not known yet, or right -/
def mOK (g : Nat → Nat → Nat) (lf rf : Nat → Int32) (sS : Nat) (wf : Nat → Int32) : Prop := ∀ q us, q < g 0 1 → us < 512 → wf (q * 512 + us) = -1 ∨ wf (q * 512 + us) = nI (w_wv g lf rf sS (g 0 1 - q) q us)
theorem mOK.put {g : Nat → Nat → Nat} {lf rf : Nat → Int32} {sS : Nat} {wf : Nat → Int32} (h : mOK g lf rf sS wf) {q us : Nat} (hu : us < 512) {x : Int32} (hx : x = nI (w_wv g lf rf sS (g 0 1 - q) q us)) : mOK g lf rf sS (upd wf (q * 512 + us) x) := by
  intro q2 us2 h1 h2
  unfold upd
  by_cases he : q2 * 512 + us2 = q * 512 + us
  · rw [if_pos he]
    have e1 : q2 = q := by omega
    have e2 : us2 = us := by omega
    subst e1; subst e2
    exact Or.inr hx
  · rw [if_neg he]
    exact h q2 us2 h1 h2
