set_option maxHeartbeats 4000000 in
set_option maxRecDepth 100000 in
theorem c_X7_in (l : Launch) (D : va_G) (cI cC cZ cN : ClassId) (x y z : Int32) : Met l yX7_in wsX7_in (ly_rm 1) (ly_Pre D (ly_tys cI cC cZ cN) [] [.int x, .int y, .int z]) (QcRead (jin x y z)) 0 0 (fun _ => False) := by
  refine Met.ofW (cc := cX7_in) (maxL := 3) (ret := (some .boolean)) (by decide) rfl ?_
  intro p e s m args below meth c s₁ B hml hv
  obtain ⟨rfl, hP, hK, hN⟩ := hv
  have hx := B.exec
  have hb := B.bytes
  have hr := B.returns
  have hts := atoms_spec (ws := wsX7_in) B.pre
  have hown : s.vm.findClass RX7 = some m.cls := findClass_of_methodNamed B.named
  have hlocks := B.notSynchronized
  have hl := lv_entry ([.int x, .int y, .int z]) (n := 3) (Nat.le_of_ble_eq_true rfl)
  rw [lg_entry_eq]
  generalize (lg_sl ([.int x, .int y, .int z]) ++ List.replicate (3 - (lg_sl ([.int x, .int y, .int z])).length) Slot.unset).toArray = ls at hl ⊢
  have hl : lv_has ls 3 [(0, .int x), (1, .int y), (2, .int z)] := hl
  generalize ([.int x, .int y, .int z] : List Value).toArray = av at hts ⊢
  obtain ⟨Qc, hQc⟩ : ∃ Qc, Qc = (QcRead (jin x y z)) := ⟨_, rfl⟩
  rw [← hQc]
  refine lv_iload_n hx hb dX7_in_0 rfl (lv_at hl 0 rfl) ?_
  refine lv_iload_n hx hb dX7_in_1 rfl (lv_at hl 1 rfl) ?_
  refine lv_icmp_lt (tgt := 14) hx hb dX7_in_2 (by decide) (fun c_1 => ?_) (fun c_1 => ?_)
  · refine lv_iconst (v := 0) hx hb dX7_in_14 (by decide) ?_
    exact W.zret (v := 0) hx hb hr rfl (fun t_9 ht_9 _ => by rw [hQc]; exact ⟨(by unfold jin; rw [if_pos c_1]), ht_9⟩) t_nil dX7_in_15
  · refine lv_iload_n hx hb dX7_in_5 rfl (lv_at hl 0 rfl) ?_
    refine lv_iload_n hx hb dX7_in_6 rfl (lv_at hl 2 rfl) ?_
    refine lv_icmp_gt (tgt := 14) hx hb dX7_in_7 (by decide) (fun c_2 => ?_) (fun c_2 => ?_)
    · refine lv_iconst (v := 0) hx hb dX7_in_14 (by decide) ?_
      exact W.zret (v := 0) hx hb hr rfl (fun t_9 ht_9 _ => by rw [hQc]; exact ⟨(by unfold jin; rw [if_neg c_1, if_pos c_2]), ht_9⟩) t_nil dX7_in_15
    · refine lv_iconst (v := 1) hx hb dX7_in_10 (by decide) ?_
      refine lv_goto (tgt := 15) hx hb dX7_in_11 (by decide) ?_
      exact W.zret (v := 1) hx hb hr rfl (fun t_9 ht_9 _ => by rw [hQc]; exact ⟨(by unfold jin; rw [if_neg c_1, if_neg c_2]), ht_9⟩) t_nil dX7_in_15

def m_onesB (x : Int32) (i : Nat) (v0 : Int32) : Int32 := (v0 + ((x >>> ((nI i) &&& 31)) &&& 1))
def m_ones (x : Int32) : Nat → Int32
  | 0 => 0
  | i + 1 => m_onesB x i (m_ones x i)
set_option maxHeartbeats 4000000 in
set_option maxRecDepth 100000 in
theorem c_X7_ones (l : Launch) (D : va_G) (cI cC cZ cN : ClassId) (x : Int32) : Met l yX7_ones wsX7_ones (ly_rm 1) (ly_Pre D (ly_tys cI cC cZ cN) [] [.int x]) (QcRead (m_ones x 9)) 0 0 (fun _ => False) := by
  refine Met.ofW (cc := cX7_ones) (maxL := 3) (ret := (some .int)) (by decide) rfl ?_
  intro p e s m args below meth c s₁ B hml hv
  obtain ⟨rfl, hP, hK, hN⟩ := hv
  have hx := B.exec
  have hb := B.bytes
  have hr := B.returns
  have hts := atoms_spec (ws := wsX7_ones) B.pre
  have hown : s.vm.findClass RX7 = some m.cls := findClass_of_methodNamed B.named
  have hlocks := B.notSynchronized
  have hl := lv_entry ([.int x]) (n := 3) (Nat.le_of_ble_eq_true rfl)
  rw [lg_entry_eq]
  generalize (lg_sl ([.int x]) ++ List.replicate (3 - (lg_sl ([.int x])).length) Slot.unset).toArray = ls at hl ⊢
  have hl : lv_has ls 3 [(0, .int x)] := hl
  generalize ([.int x] : List Value).toArray = av at hts ⊢
  obtain ⟨Qc, hQc⟩ : ∃ Qc, Qc = (QcRead (m_ones x 9)) := ⟨_, rfl⟩
  rw [← hQc]
  refine lv_iconst (v := 0) hx hb dX7_ones_0 (by decide) ?_
  refine lv_istore_n (lv' := [(1, .int 0), (0, .int x)]) hx hb dX7_ones_1 rfl hl (by decide) rfl (fun ls hl => ?_)
  refine lv_iconst (v := 0) hx hb dX7_ones_2 (by decide) ?_
  refine lv_istore_n (lv' := [(2, .int 0), (1, .int 0), (0, .int x)]) hx hb dX7_ones_3 rfl hl (by decide) rfl (fun ls hl => ?_)
  have hloop_4 : ∀ (k i : Nat), i + k = 9 → ∀ ls : Array Slot, lv_has ls 3 [(2, .int (nI i)), (1, .int (m_ones x i)), (0, .int x)] → W p l e (headSpec wsX7_ones (ly_rm 1)).room s m av below meth c s.heap [] 0 0 (MQ below Qc av s 0 0 (fun _ => False)) (F0 m 4 ls []) := by
    intro k
    induction k with
    | zero =>
      intro i hi_4 ls hl
      obtain rfl : 9 = i := by omega
      refine lv_iload_n hx hb dX7_ones_4 rfl (lv_at hl 0 rfl) ?_
      refine lv_bipush (v := 9) hx hb dX7_ones_5 (by decide) ?_
      refine lv_icmp_ge (tgt := 24) hx hb dX7_ones_7 (by decide) (fun _ => ?_) (fun h_9 => absurd (nI_le (a := 9) (b := 9) (by omega) (by omega)) h_9)
      refine lv_iload_n hx hb dX7_ones_24 rfl (lv_at hl 1 rfl) ?_
      exact W.iret (v := (m_ones x 9)) hx hb hr (fun t_9 ht_9 _ => by rw [hQc]; exact ⟨rfl, ht_9⟩) t_nil dX7_ones_25
    | succ k ih_4 =>
      intro i hi_4 ls hl
      refine lv_iload_n hx hb dX7_ones_4 rfl (lv_at hl 0 rfl) ?_
      refine lv_bipush (v := 9) hx hb dX7_ones_5 (by decide) ?_
      refine lv_icmp_ge (tgt := 24) hx hb dX7_ones_7 (by decide) (fun h_9 => absurd h_9 (nI_ge (a := i) (b := 9) (by omega) (by omega))) (fun _ => ?_)
      refine lv_iload_n hx hb dX7_ones_10 rfl (lv_at hl 1 rfl) ?_
      refine lv_iload_n hx hb dX7_ones_11 rfl (lv_at hl 2 rfl) ?_
      refine lv_iload_n hx hb dX7_ones_12 rfl (lv_at hl 0 rfl) ?_
      refine lv_ishr hx hb dX7_ones_13 ?_
      refine lv_iconst (v := 1) hx hb dX7_ones_14 (by decide) ?_
      refine lv_iand hx hb dX7_ones_15 ?_
      refine lv_iadd hx hb dX7_ones_16 ?_
      refine lv_istore_n (lv' := [(1, .int ((m_ones x i) + ((x >>> ((nI i) &&& 31)) &&& 1))), (2, .int (nI i)), (0, .int x)]) hx hb dX7_ones_17 rfl hl (by decide) rfl (fun ls hl => ?_)
      refine lv_iinc (v := (nI (i + 1))) (lv' := [(2, .int (nI (i + 1))), (1, .int ((m_ones x i) + ((x >>> ((nI i) &&& 31)) &&& 1))), (0, .int x)]) hx hb dX7_ones_18 hl (k := 1) rfl (ly_add rfl rfl) (by decide) rfl (fun ls hl => ?_)
      refine lv_goto (tgt := 4) hx hb dX7_ones_21 (by decide) ?_
      have e_1 : m_ones x (i + 1) = ((m_ones x i) + ((x >>> ((nI i) &&& 31)) &&& 1)) := by show m_onesB x i (m_ones x i) = _; unfold m_onesB; rfl
      exact ih_4 (i + 1) (by omega) ls (by rw [e_1]; exact lv_sub hl [0, 1, 2] rfl)
  exact hloop_4 9 0 (by omega) ls (lv_sub hl [0, 1, 2] rfl)

def m_bitOf (k : Nat) : Nat := if k = 0 then 0 else 2 ^ (k - 1)
def m_oilOf (M : Nat → Nat → Nat) (k : Nat) : Nat := if k = 0 then 0 else M 17 (M 11 (k - 1))

set_option maxHeartbeats 4000000 in
set_option maxRecDepth 100000 in
theorem c_X7_bitOf (l : Launch) (D : va_G) (cI cC cZ cN : ClassId) (k : Nat) (h1 : k ≤ 9) : Met l yX7_bitOf wsX7_bitOf (ly_rm 1) (ly_Pre D (ly_tys cI cC cZ cN) [] [.int (nI k)]) (QcRead (nI (m_bitOf k))) 0 0 (fun _ => False) := by
  refine Met.ofW (cc := cX7_bitOf) (maxL := 1) (ret := (some .int)) (by decide) rfl ?_
  intro p e s m args below meth c s₁ B hml hv
  obtain ⟨rfl, hP, hK, hN⟩ := hv
  have hx := B.exec
  have hb := B.bytes
  have hr := B.returns
  have hts := atoms_spec (ws := wsX7_bitOf) B.pre
  have hown : s.vm.findClass RX7 = some m.cls := findClass_of_methodNamed B.named
  have hlocks := B.notSynchronized
  have hl := lv_entry ([.int (nI k)]) (n := 1) (Nat.le_of_ble_eq_true rfl)
  rw [lg_entry_eq]
  generalize (lg_sl ([.int (nI k)]) ++ List.replicate (1 - (lg_sl ([.int (nI k)])).length) Slot.unset).toArray = ls at hl ⊢
  have hl : lv_has ls 1 [(0, .int (nI k))] := hl
  generalize ([.int (nI k)] : List Value).toArray = av at hts ⊢
  obtain ⟨Qc, hQc⟩ : ∃ Qc, Qc = (QcRead (nI (m_bitOf k))) := ⟨_, rfl⟩
  rw [← hQc]
  refine lv_iload_n hx hb dX7_bitOf_0 rfl (lv_at hl 0 rfl) ?_
  refine lv_if_ne (tgt := 8) hx hb dX7_bitOf_1 (by decide) (fun c_1 => ?_) (fun c_1 => ?_)
  · have hk0_ : ¬ k = 0 := fun z => c_1 ((nI_eq (a := k) (b := 0) (by omega) (by omega)).mpr z)
    refine lv_iconst (v := 1) hx hb dX7_bitOf_8 (by decide) ?_
    refine lv_iload_n hx hb dX7_bitOf_9 rfl (lv_at hl 0 rfl) ?_
    refine lv_iconst (v := 1) hx hb dX7_bitOf_10 (by decide) ?_
    refine lv_isub hx hb dX7_bitOf_11 ?_
    refine ly_eqi (show ((nI k) - 1) = (nI (k - 1)) from ly_sub rfl rfl (by omega)) ?_
    refine lv_ishl hx hb dX7_bitOf_12 ?_
    refine ly_eqi (show (1 <<< ((nI (k - 1)) &&& 31)) = (nI (2 ^ (k - 1))) from (ly_shl1 (by omega))) ?_
    exact W.iret (v := (nI (2 ^ (k - 1)))) hx hb hr (fun t_9 ht_9 _ => by rw [hQc]; exact ⟨(by unfold m_bitOf; rw [if_neg hk0_]), ht_9⟩) t_nil dX7_bitOf_13
  · refine lv_iconst (v := 0) hx hb dX7_bitOf_4 (by decide) ?_
    refine lv_goto (tgt := 13) hx hb dX7_bitOf_5 (by decide) ?_
    exact W.iret (v := 0) hx hb hr (fun t_9 ht_9 _ => by rw [hQc]; exact ⟨(by unfold m_bitOf; rw [if_pos ((nI_eq (a := k) (b := 0) (by omega) (by omega)).mp c_1)]; rfl), ht_9⟩) t_nil dX7_bitOf_13

set_option maxHeartbeats 4000000 in
set_option maxRecDepth 100000 in
theorem c_X7_isKnee (l : Launch) (D : va_G) (cI cC cZ cN : ClassId) (oA : Nat → Nat) (M : Nat → Nat → Nat) (mi : Nat → Nat) (fa : Int32) (mt : Int64) (x : Int32) : Met l yX7_isKnee wsX7_isKnee (ly_rm 2) (ly_Pre D (ly_tys cI cC cZ cN) [((oA 0), .inr (7, [.int 0, .long mt, .ref (oA 2), .int (nI (mi 3)), .int (nI (mi 4)), .int (nI (mi 5)), .int (nI (mi 6)), .int (nI (mi 7)), .int fa, .ref (oA 9), .ref (oA 10), .ref (oA 11), .ref (oA 12), .ref (oA 13), .ref (oA 14), .ref (oA 15), .ref (oA 16), .ref (oA 17), .ref (oA 18), .int (nI (mi 19)), .ref (oA 20), .ref (oA 21), .ref (oA 22), .ref (oA 23), .int (nI (mi 24)), .ref (oA 25), .ref (oA 26), .ref (oA 27), .int (nI (mi 28)), .ref (oA 29), .ref (oA 30), .int (nI (mi 31)), .ref (oA 32), .int (nI (mi 33)), .int (nI (mi 34))])), ((oA 9), .inl (cI, 4, .inl (fun j => nI ((M 9) j))))] [.ref (oA 0), .int x]) (QcRead (jin x 0 (nI (M 9 0) - 1))) 0 0 (fun _ => False) := by
  refine Met.ofW (cc := cX7_isKnee) (maxL := 2) (ret := (some .boolean)) (by decide) rfl ?_
  intro p e s m args below meth c s₁ B hml hv
  obtain ⟨rfl, hP, hK, hN⟩ := hv
  have hx := B.exec
  have hb := B.bytes
  have hr := B.returns
  have hts := atoms_spec (ws := wsX7_isKnee) B.pre
  have hown : s.vm.findClass RX7 = some m.cls := findClass_of_methodNamed B.named
  have hlocks := B.notSynchronized
  have hl := lv_entry ([.ref (oA 0), .int x]) (n := 2) (Nat.le_of_ble_eq_true rfl)
  rw [lg_entry_eq]
  generalize (lg_sl ([.ref (oA 0), .int x]) ++ List.replicate (2 - (lg_sl ([.ref (oA 0), .int x])).length) Slot.unset).toArray = ls at hl ⊢
  have hl : lv_has ls 2 [(0, .ref (oA 0)), (1, .int x)] := hl
  generalize ([.ref (oA 0), .int x] : List Value).toArray = av at hts ⊢
  obtain ⟨Qc, hQc⟩ : ∃ Qc, Qc = (QcRead (jin x 0 (nI (M 9 0) - 1))) := ⟨_, rfl⟩
  rw [← hQc]
  have f13 := hts (.fieldLink RX7 13 "KneesLentModel" "many" "[I") (by decide +kernel)
  have hiX7 : ∀ w ∈ u_ws RX7 TX7 35, w ∈ wsX7_isKnee := by decide +kernel
  refine lv_iload_n hx hb dX7_isKnee_0 rfl (lv_at hl 1 rfl) ?_
  refine lv_iconst (v := 0) hx hb dX7_isKnee_1 (by decide) ?_
  refine lv_aload_n hx hb dX7_isKnee_2 rfl (lv_at hl 0 rfl) ?_
  refine va_get (D := D) (ci := 7) (v := .ref (oA 9)) (C := RX7) (T := TX7) (N := 35) hx hb hts hiX7 hown hK hP 0 rfl rfl 9 (by decide) f13 (fun _ h9 => h9) rfl dX7_isKnee_3 ?_
  refine lv_iconst (v := 0) hx hb dX7_isKnee_6 (by decide) ?_
  refine ly_iald hx hb hK hP 1 0 rfl rfl (k := 0) (by decide) rfl (by omega) dX7_isKnee_7 ?_
  refine lv_iconst (v := 1) hx hb dX7_isKnee_8 (by decide) ?_
  refine lv_isub hx hb dX7_isKnee_9 ?_
  have hPc_10 := hP.sub (ws' := []) [] rfl
  refine ly_r (va_runS (As := [.int x, .int 0, .int ((nI ((M 9) 0)) - 1)]) (rest := []) ⟨hx, hb, hml, hown, hts⟩ (c_X7_in l D cI cC cZ cN x 0 ((nI ((M 9) 0)) - 1)) (va_cwS 3 hts gX7_isKnee_X7_in rfl rfl rfl (by decide +kernel) ⟨Nat.le_of_ble_eq_true rfl, Nat.le_of_ble_eq_true rfl⟩) (ly_ps hK hN hPc_10) rfl rfl hl.1 rfl (lv_room (Nat.le_of_ble_eq_true rfl)) dX7_isKnee_10 ⟨Nat.zero_le _, Nat.zero_le _⟩) ?_
  exact W.zret (v := (jin x 0 ((nI ((M 9) 0)) - 1))) hx hb hr (ly_bool (jin_01 _ _ _)) (fun t_9 ht_9 _ => by rw [hQc]; exact ⟨rfl, ht_9⟩) t_nil dX7_isKnee_13

set_option maxHeartbeats 4000000 in
set_option maxRecDepth 100000 in
theorem c_X7_isPerson (l : Launch) (D : va_G) (cI cC cZ cN : ClassId) (oA : Nat → Nat) (M : Nat → Nat → Nat) (mi : Nat → Nat) (fa : Int32) (mt : Int64) (x : Int32) : Met l yX7_isPerson wsX7_isPerson (ly_rm 2) (ly_Pre D (ly_tys cI cC cZ cN) [((oA 0), .inr (7, [.int 0, .long mt, .ref (oA 2), .int (nI (mi 3)), .int (nI (mi 4)), .int (nI (mi 5)), .int (nI (mi 6)), .int (nI (mi 7)), .int fa, .ref (oA 9), .ref (oA 10), .ref (oA 11), .ref (oA 12), .ref (oA 13), .ref (oA 14), .ref (oA 15), .ref (oA 16), .ref (oA 17), .ref (oA 18), .int (nI (mi 19)), .ref (oA 20), .ref (oA 21), .ref (oA 22), .ref (oA 23), .int (nI (mi 24)), .ref (oA 25), .ref (oA 26), .ref (oA 27), .int (nI (mi 28)), .ref (oA 29), .ref (oA 30), .int (nI (mi 31)), .ref (oA 32), .int (nI (mi 33)), .int (nI (mi 34))])), ((oA 9), .inl (cI, 4, .inl (fun j => nI ((M 9) j))))] [.ref (oA 0), .int x]) (QcRead (jin x 0 (nI (M 9 1) - 1))) 0 0 (fun _ => False) := by
  refine Met.ofW (cc := cX7_isPerson) (maxL := 2) (ret := (some .boolean)) (by decide) rfl ?_
  intro p e s m args below meth c s₁ B hml hv
  obtain ⟨rfl, hP, hK, hN⟩ := hv
  have hx := B.exec
  have hb := B.bytes
  have hr := B.returns
  have hts := atoms_spec (ws := wsX7_isPerson) B.pre
  have hown : s.vm.findClass RX7 = some m.cls := findClass_of_methodNamed B.named
  have hlocks := B.notSynchronized
  have hl := lv_entry ([.ref (oA 0), .int x]) (n := 2) (Nat.le_of_ble_eq_true rfl)
  rw [lg_entry_eq]
  generalize (lg_sl ([.ref (oA 0), .int x]) ++ List.replicate (2 - (lg_sl ([.ref (oA 0), .int x])).length) Slot.unset).toArray = ls at hl ⊢
  have hl : lv_has ls 2 [(0, .ref (oA 0)), (1, .int x)] := hl
  generalize ([.ref (oA 0), .int x] : List Value).toArray = av at hts ⊢
  obtain ⟨Qc, hQc⟩ : ∃ Qc, Qc = (QcRead (jin x 0 (nI (M 9 1) - 1))) := ⟨_, rfl⟩
  rw [← hQc]
  have f13 := hts (.fieldLink RX7 13 "KneesLentModel" "many" "[I") (by decide +kernel)
  have hiX7 : ∀ w ∈ u_ws RX7 TX7 35, w ∈ wsX7_isPerson := by decide +kernel
  refine lv_iload_n hx hb dX7_isPerson_0 rfl (lv_at hl 1 rfl) ?_
  refine lv_iconst (v := 0) hx hb dX7_isPerson_1 (by decide) ?_
  refine lv_aload_n hx hb dX7_isPerson_2 rfl (lv_at hl 0 rfl) ?_
  refine va_get (D := D) (ci := 7) (v := .ref (oA 9)) (C := RX7) (T := TX7) (N := 35) hx hb hts hiX7 hown hK hP 0 rfl rfl 9 (by decide) f13 (fun _ h9 => h9) rfl dX7_isPerson_3 ?_
  refine lv_iconst (v := 1) hx hb dX7_isPerson_6 (by decide) ?_
  refine ly_iald hx hb hK hP 1 0 rfl rfl (k := 1) (by decide) rfl (by omega) dX7_isPerson_7 ?_
  refine lv_iconst (v := 1) hx hb dX7_isPerson_8 (by decide) ?_
  refine lv_isub hx hb dX7_isPerson_9 ?_
  have hPc_10 := hP.sub (ws' := []) [] rfl
  refine ly_r (va_runS (As := [.int x, .int 0, .int ((nI ((M 9) 1)) - 1)]) (rest := []) ⟨hx, hb, hml, hown, hts⟩ (c_X7_in l D cI cC cZ cN x 0 ((nI ((M 9) 1)) - 1)) (va_cwS 3 hts gX7_isPerson_X7_in rfl rfl rfl (by decide +kernel) ⟨Nat.le_of_ble_eq_true rfl, Nat.le_of_ble_eq_true rfl⟩) (ly_ps hK hN hPc_10) rfl rfl hl.1 rfl (lv_room (Nat.le_of_ble_eq_true rfl)) dX7_isPerson_10 ⟨Nat.zero_le _, Nat.zero_le _⟩) ?_
  exact W.zret (v := (jin x 0 ((nI ((M 9) 1)) - 1))) hx hb hr (ly_bool (jin_01 _ _ _)) (fun t_9 ht_9 _ => by rw [hQc]; exact ⟨rfl, ht_9⟩) t_nil dX7_isPerson_13

set_option maxHeartbeats 4000000 in
set_option maxRecDepth 100000 in
theorem c_X7_isSet (l : Launch) (D : va_G) (cI cC cZ cN : ClassId) (oA : Nat → Nat) (M : Nat → Nat → Nat) (mi : Nat → Nat) (fa : Int32) (mt : Int64) (x : Int32) : Met l yX7_isSet wsX7_isSet (ly_rm 2) (ly_Pre D (ly_tys cI cC cZ cN) [((oA 0), .inr (7, [.int 0, .long mt, .ref (oA 2), .int (nI (mi 3)), .int (nI (mi 4)), .int (nI (mi 5)), .int (nI (mi 6)), .int (nI (mi 7)), .int fa, .ref (oA 9), .ref (oA 10), .ref (oA 11), .ref (oA 12), .ref (oA 13), .ref (oA 14), .ref (oA 15), .ref (oA 16), .ref (oA 17), .ref (oA 18), .int (nI (mi 19)), .ref (oA 20), .ref (oA 21), .ref (oA 22), .ref (oA 23), .int (nI (mi 24)), .ref (oA 25), .ref (oA 26), .ref (oA 27), .int (nI (mi 28)), .ref (oA 29), .ref (oA 30), .int (nI (mi 31)), .ref (oA 32), .int (nI (mi 33)), .int (nI (mi 34))])), ((oA 9), .inl (cI, 4, .inl (fun j => nI ((M 9) j))))] [.ref (oA 0), .int x]) (QcRead (jin x 0 (s_all (M 9 1)))) 0 0 (fun _ => False) := by
  refine Met.ofW (cc := cX7_isSet) (maxL := 2) (ret := (some .boolean)) (by decide) rfl ?_
  intro p e s m args below meth c s₁ B hml hv
  obtain ⟨rfl, hP, hK, hN⟩ := hv
  have hx := B.exec
  have hb := B.bytes
  have hr := B.returns
  have hts := atoms_spec (ws := wsX7_isSet) B.pre
  have hown : s.vm.findClass RX7 = some m.cls := findClass_of_methodNamed B.named
  have hlocks := B.notSynchronized
  have hl := lv_entry ([.ref (oA 0), .int x]) (n := 2) (Nat.le_of_ble_eq_true rfl)
  rw [lg_entry_eq]
  generalize (lg_sl ([.ref (oA 0), .int x]) ++ List.replicate (2 - (lg_sl ([.ref (oA 0), .int x])).length) Slot.unset).toArray = ls at hl ⊢
  have hl : lv_has ls 2 [(0, .ref (oA 0)), (1, .int x)] := hl
  generalize ([.ref (oA 0), .int x] : List Value).toArray = av at hts ⊢
  obtain ⟨Qc, hQc⟩ : ∃ Qc, Qc = (QcRead (jin x 0 (s_all (M 9 1)))) := ⟨_, rfl⟩
  rw [← hQc]
  have f13 := hts (.fieldLink RX7 13 "KneesLentModel" "many" "[I") (by decide +kernel)
  have hiX7 : ∀ w ∈ u_ws RX7 TX7 35, w ∈ wsX7_isSet := by decide +kernel
  refine lv_iload_n hx hb dX7_isSet_0 rfl (lv_at hl 1 rfl) ?_
  refine lv_iconst (v := 0) hx hb dX7_isSet_1 (by decide) ?_
  refine lv_iconst (v := 1) hx hb dX7_isSet_2 (by decide) ?_
  refine lv_aload_n hx hb dX7_isSet_3 rfl (lv_at hl 0 rfl) ?_
  refine va_get (D := D) (ci := 7) (v := .ref (oA 9)) (C := RX7) (T := TX7) (N := 35) hx hb hts hiX7 hown hK hP 0 rfl rfl 9 (by decide) f13 (fun _ h9 => h9) rfl dX7_isSet_4 ?_
  refine lv_iconst (v := 1) hx hb dX7_isSet_7 (by decide) ?_
  refine ly_iald hx hb hK hP 1 0 rfl rfl (k := 1) (by decide) rfl (by omega) dX7_isSet_8 ?_
  refine lv_ishl hx hb dX7_isSet_9 ?_
  refine lv_iconst (v := 1) hx hb dX7_isSet_10 (by decide) ?_
  refine lv_isub hx hb dX7_isSet_11 ?_
  have hPc_12 := hP.sub (ws' := []) [] rfl
  refine ly_r (va_runS (As := [.int x, .int 0, .int ((1 <<< ((nI ((M 9) 1)) &&& 31)) - 1)]) (rest := []) ⟨hx, hb, hml, hown, hts⟩ (c_X7_in l D cI cC cZ cN x 0 ((1 <<< ((nI ((M 9) 1)) &&& 31)) - 1)) (va_cwS 3 hts gX7_isSet_X7_in rfl rfl rfl (by decide +kernel) ⟨Nat.le_of_ble_eq_true rfl, Nat.le_of_ble_eq_true rfl⟩) (ly_ps hK hN hPc_12) rfl rfl hl.1 rfl (lv_room (Nat.le_of_ble_eq_true rfl)) dX7_isSet_12 ⟨Nat.zero_le _, Nat.zero_le _⟩) ?_
  exact W.zret (v := (jin x 0 ((1 <<< ((nI ((M 9) 1)) &&& 31)) - 1))) hx hb hr (ly_bool (jin_01 _ _ _)) (fun t_9 ht_9 _ => by rw [hQc]; exact ⟨rfl, ht_9⟩) t_nil dX7_isSet_15

def m_speak (M : Nat → Nat → Nat) (f q : Nat) : Int32 := (if (((nI ((M 16) f)) >>> ((nI q) &&& 31)) &&& 1) = 0 then 1 else 0)
set_option maxHeartbeats 4000000 in
set_option maxRecDepth 100000 in
theorem c_X7_speak (l : Launch) (D : va_G) (cI cC cZ cN : ClassId) (oA : Nat → Nat) (M : Nat → Nat → Nat) (mi : Nat → Nat) (fa : Int32) (mt : Int64) (f q : Nat) (h1 : f < 5) : Met l yX7_speak wsX7_speak (ly_rm 1) (ly_Pre D (ly_tys cI cC cZ cN) [((oA 0), .inr (7, [.int 0, .long mt, .ref (oA 2), .int (nI (mi 3)), .int (nI (mi 4)), .int (nI (mi 5)), .int (nI (mi 6)), .int (nI (mi 7)), .int fa, .ref (oA 9), .ref (oA 10), .ref (oA 11), .ref (oA 12), .ref (oA 13), .ref (oA 14), .ref (oA 15), .ref (oA 16), .ref (oA 17), .ref (oA 18), .int (nI (mi 19)), .ref (oA 20), .ref (oA 21), .ref (oA 22), .ref (oA 23), .int (nI (mi 24)), .ref (oA 25), .ref (oA 26), .ref (oA 27), .int (nI (mi 28)), .ref (oA 29), .ref (oA 30), .int (nI (mi 31)), .ref (oA 32), .int (nI (mi 33)), .int (nI (mi 34))])), ((oA 16), .inl (cI, 10, .inl (fun j => nI ((M 16) j))))] [.ref (oA 0), .int (nI f), .int (nI q)]) (QcRead (m_speak M f q)) 0 0 (fun _ => False) := by
  refine Met.ofW (cc := cX7_speak) (maxL := 3) (ret := (some .boolean)) (by decide) rfl ?_
  intro p e s m args below meth c s₁ B hml hv
  obtain ⟨rfl, hP, hK, hN⟩ := hv
  have hx := B.exec
  have hb := B.bytes
  have hr := B.returns
  have hts := atoms_spec (ws := wsX7_speak) B.pre
  have hown : s.vm.findClass RX7 = some m.cls := findClass_of_methodNamed B.named
  have hlocks := B.notSynchronized
  have hl := lv_entry ([.ref (oA 0), .int (nI f), .int (nI q)]) (n := 3) (Nat.le_of_ble_eq_true rfl)
  rw [lg_entry_eq]
  generalize (lg_sl ([.ref (oA 0), .int (nI f), .int (nI q)]) ++ List.replicate (3 - (lg_sl ([.ref (oA 0), .int (nI f), .int (nI q)])).length) Slot.unset).toArray = ls at hl ⊢
  have hl : lv_has ls 3 [(0, .ref (oA 0)), (1, .int (nI f)), (2, .int (nI q))] := hl
  generalize ([.ref (oA 0), .int (nI f), .int (nI q)] : List Value).toArray = av at hts ⊢
  obtain ⟨Qc, hQc⟩ : ∃ Qc, Qc = (QcRead (m_speak M f q)) := ⟨_, rfl⟩
  rw [← hQc]
  have f34 := hts (.fieldLink RX7 34 "KneesLentModel" "feuds" "[I") (by decide +kernel)
  have hiX7 : ∀ w ∈ u_ws RX7 TX7 35, w ∈ wsX7_speak := by decide +kernel
  refine lv_aload_n hx hb dX7_speak_0 rfl (lv_at hl 0 rfl) ?_
  refine va_get (D := D) (ci := 7) (v := .ref (oA 16)) (C := RX7) (T := TX7) (N := 35) hx hb hts hiX7 hown hK hP 0 rfl rfl 16 (by decide) f34 (fun _ h9 => h9) rfl dX7_speak_1 ?_
  refine lv_iload_n hx hb dX7_speak_4 rfl (lv_at hl 1 rfl) ?_
  refine ly_iald hx hb hK hP 1 0 rfl rfl (k := f) (by decide) rfl (by omega) dX7_speak_5 ?_
  refine lv_iload_n hx hb dX7_speak_6 rfl (lv_at hl 2 rfl) ?_
  refine lv_ishr hx hb dX7_speak_7 ?_
  refine lv_iconst (v := 1) hx hb dX7_speak_8 (by decide) ?_
  refine lv_iand hx hb dX7_speak_9 ?_
  refine lv_if_ne (tgt := 17) hx hb dX7_speak_10 (by decide) (fun c_1 => ?_) (fun c_1 => ?_)
  · refine lv_iconst (v := 0) hx hb dX7_speak_17 (by decide) ?_
    exact W.zret (v := 0) hx hb hr rfl (fun t_9 ht_9 _ => by rw [hQc]; exact ⟨(by unfold m_speak; rw [if_neg c_1]), ht_9⟩) t_nil dX7_speak_18
  · refine lv_iconst (v := 1) hx hb dX7_speak_13 (by decide) ?_
    refine lv_goto (tgt := 18) hx hb dX7_speak_14 (by decide) ?_
    exact W.zret (v := 1) hx hb hr rfl (fun t_9 ht_9 _ => by rw [hQc]; exact ⟨(by unfold m_speak; rw [if_pos c_1]), ht_9⟩) t_nil dX7_speak_18

def m_kneesOfB (M : Nat → Nat → Nat) (f : Nat) (i : Nat) (v0 : Int32) : Int32 := (if (nI ((M 11) i)) = (nI f) then (v0 ||| (1 <<< ((nI i) &&& 31))) else (v0 ||| 0))
def m_kneesOf (M : Nat → Nat → Nat) (f : Nat) : Nat → Int32
  | 0 => 0
  | i + 1 => m_kneesOfB M f i (m_kneesOf M f i)
set_option maxHeartbeats 4000000 in
set_option maxRecDepth 100000 in
theorem c_X7_kneesOf (l : Launch) (D : va_G) (cI cC cZ cN : ClassId) (oA : Nat → Nat) (M : Nat → Nat → Nat) (mi : Nat → Nat) (fa : Int32) (mt : Int64) (f : Nat) (hn : M 9 0 ≤ 9) : Met l yX7_kneesOf wsX7_kneesOf (ly_rm 1) (ly_Pre D (ly_tys cI cC cZ cN) [((oA 0), .inr (7, [.int 0, .long mt, .ref (oA 2), .int (nI (mi 3)), .int (nI (mi 4)), .int (nI (mi 5)), .int (nI (mi 6)), .int (nI (mi 7)), .int fa, .ref (oA 9), .ref (oA 10), .ref (oA 11), .ref (oA 12), .ref (oA 13), .ref (oA 14), .ref (oA 15), .ref (oA 16), .ref (oA 17), .ref (oA 18), .int (nI (mi 19)), .ref (oA 20), .ref (oA 21), .ref (oA 22), .ref (oA 23), .int (nI (mi 24)), .ref (oA 25), .ref (oA 26), .ref (oA 27), .int (nI (mi 28)), .ref (oA 29), .ref (oA 30), .int (nI (mi 31)), .ref (oA 32), .int (nI (mi 33)), .int (nI (mi 34))])), ((oA 9), .inl (cI, 4, .inl (fun j => nI ((M 9) j)))), ((oA 11), .inl (cI, 18, .inl (fun j => nI ((M 11) j))))] [.ref (oA 0), .int (nI f)]) (QcRead (m_kneesOf M f (M 9 0))) 0 0 (fun _ => False) := by
  refine Met.ofW (cc := cX7_kneesOf) (maxL := 4) (ret := (some .int)) (by decide) rfl ?_
  intro p e s m args below meth c s₁ B hml hv
  obtain ⟨rfl, hP, hK, hN⟩ := hv
  have hx := B.exec
  have hb := B.bytes
  have hr := B.returns
  have hts := atoms_spec (ws := wsX7_kneesOf) B.pre
  have hown : s.vm.findClass RX7 = some m.cls := findClass_of_methodNamed B.named
  have hlocks := B.notSynchronized
  have hl := lv_entry ([.ref (oA 0), .int (nI f)]) (n := 4) (Nat.le_of_ble_eq_true rfl)
  rw [lg_entry_eq]
  generalize (lg_sl ([.ref (oA 0), .int (nI f)]) ++ List.replicate (4 - (lg_sl ([.ref (oA 0), .int (nI f)])).length) Slot.unset).toArray = ls at hl ⊢
  have hl : lv_has ls 4 [(0, .ref (oA 0)), (1, .int (nI f))] := hl
  generalize ([.ref (oA 0), .int (nI f)] : List Value).toArray = av at hts ⊢
  obtain ⟨Qc, hQc⟩ : ∃ Qc, Qc = (QcRead (m_kneesOf M f (M 9 0))) := ⟨_, rfl⟩
  rw [← hQc]
  have f13 := hts (.fieldLink RX7 13 "KneesLentModel" "many" "[I") (by decide +kernel)
  have f19 := hts (.fieldLink RX7 19 "KneesLentModel" "farmOf" "[I") (by decide +kernel)
  have hiX7 : ∀ w ∈ u_ws RX7 TX7 35, w ∈ wsX7_kneesOf := by decide +kernel
  refine lv_iconst (v := 0) hx hb dX7_kneesOf_0 (by decide) ?_
  refine lv_istore_n (lv' := [(2, .int 0), (0, .ref (oA 0)), (1, .int (nI f))]) hx hb dX7_kneesOf_1 rfl hl (by decide) rfl (fun ls hl => ?_)
  refine lv_iconst (v := 0) hx hb dX7_kneesOf_2 (by decide) ?_
  refine lv_istore_n (lv' := [(3, .int 0), (2, .int 0), (0, .ref (oA 0)), (1, .int (nI f))]) hx hb dX7_kneesOf_3 rfl hl (by decide) rfl (fun ls hl => ?_)
  have hloop_4 : ∀ (k i : Nat), i + k = M 9 0 → ∀ ls : Array Slot, lv_has ls 4 [(3, .int (nI i)), (2, .int (m_kneesOf M f i)), (0, .ref (oA 0)), (1, .int (nI f))] → W p l e (headSpec wsX7_kneesOf (ly_rm 1)).room s m av below meth c s.heap [] 0 0 (MQ below Qc av s 0 0 (fun _ => False)) (F0 m 4 ls []) := by
    intro k
    induction k with
    | zero =>
      intro i hi_4 ls hl
      obtain rfl : M 9 0 = i := by omega
      refine lv_iload_n hx hb dX7_kneesOf_4 rfl (lv_at hl 0 rfl) ?_
      refine lv_aload_n hx hb dX7_kneesOf_5 rfl (lv_at hl 2 rfl) ?_
      refine va_get (D := D) (ci := 7) (v := .ref (oA 9)) (C := RX7) (T := TX7) (N := 35) hx hb hts hiX7 hown hK hP 0 rfl rfl 9 (by decide) f13 (fun _ h9 => h9) rfl dX7_kneesOf_6 ?_
      refine lv_iconst (v := 0) hx hb dX7_kneesOf_9 (by decide) ?_
      refine ly_iald hx hb hK hP 1 0 rfl rfl (k := 0) (by decide) rfl (by omega) dX7_kneesOf_10 ?_
      refine lv_icmp_ge (tgt := 40) hx hb dX7_kneesOf_11 (by decide) (fun _ => ?_) (fun h_9 => absurd (nI_le (Nat.le_refl _) (by omega)) h_9)
      refine lv_iload_n hx hb dX7_kneesOf_40 rfl (lv_at hl 1 rfl) ?_
      exact W.iret (v := (m_kneesOf M f (M 9 0))) hx hb hr (fun t_9 ht_9 _ => by rw [hQc]; exact ⟨rfl, ht_9⟩) t_nil dX7_kneesOf_41
    | succ k ih_4 =>
      intro i hi_4 ls hl
      refine lv_iload_n hx hb dX7_kneesOf_4 rfl (lv_at hl 0 rfl) ?_
      refine lv_aload_n hx hb dX7_kneesOf_5 rfl (lv_at hl 2 rfl) ?_
      refine va_get (D := D) (ci := 7) (v := .ref (oA 9)) (C := RX7) (T := TX7) (N := 35) hx hb hts hiX7 hown hK hP 0 rfl rfl 9 (by decide) f13 (fun _ h9 => h9) rfl dX7_kneesOf_6 ?_
      refine lv_iconst (v := 0) hx hb dX7_kneesOf_9 (by decide) ?_
      refine ly_iald hx hb hK hP 1 0 rfl rfl (k := 0) (by decide) rfl (by omega) dX7_kneesOf_10 ?_
      refine lv_icmp_ge (tgt := 40) hx hb dX7_kneesOf_11 (by decide) (fun h_9 => absurd h_9 (nI_ge (by omega) (by omega))) (fun _ => ?_)
      refine lv_iload_n hx hb dX7_kneesOf_14 rfl (lv_at hl 1 rfl) ?_
      refine lv_aload_n hx hb dX7_kneesOf_15 rfl (lv_at hl 2 rfl) ?_
      refine va_get (D := D) (ci := 7) (v := .ref (oA 11)) (C := RX7) (T := TX7) (N := 35) hx hb hts hiX7 hown hK hP 0 rfl rfl 11 (by decide) f19 (fun _ h9 => h9) rfl dX7_kneesOf_16 ?_
      refine lv_iload_n hx hb dX7_kneesOf_19 rfl (lv_at hl 0 rfl) ?_
      refine ly_iald hx hb hK hP 2 0 rfl rfl (k := i) (by decide) rfl (by omega) dX7_kneesOf_20 ?_
      refine lv_iload_n hx hb dX7_kneesOf_21 rfl (lv_at hl 3 rfl) ?_
      refine lv_icmp_ne (tgt := 31) hx hb dX7_kneesOf_22 (by decide) (fun c_1 => ?_) (fun c_1 => ?_)
      · refine lv_iconst (v := 0) hx hb dX7_kneesOf_31 (by decide) ?_
        refine lv_ior hx hb dX7_kneesOf_32 ?_
        refine lv_istore_n (lv' := [(2, .int ((m_kneesOf M f i) ||| 0)), (3, .int (nI i)), (0, .ref (oA 0)), (1, .int (nI f))]) hx hb dX7_kneesOf_33 rfl hl (by decide) rfl (fun ls hl => ?_)
        refine lv_iinc (v := (nI (i + 1))) (lv' := [(3, .int (nI (i + 1))), (2, .int ((m_kneesOf M f i) ||| 0)), (0, .ref (oA 0)), (1, .int (nI f))]) hx hb dX7_kneesOf_34 hl (k := 1) rfl (ly_add rfl rfl) (by decide) rfl (fun ls hl => ?_)
        refine lv_goto (tgt := 4) hx hb dX7_kneesOf_37 (by decide) ?_
        have e_2 : m_kneesOf M f (i + 1) = ((m_kneesOf M f i) ||| 0) := by show m_kneesOfB M f i (m_kneesOf M f i) = _; unfold m_kneesOfB; rw [if_neg c_1]
        exact ih_4 (i + 1) (by omega) ls (by rw [e_2]; exact lv_sub hl [0, 1, 2, 3] rfl)
      · refine lv_iconst (v := 1) hx hb dX7_kneesOf_25 (by decide) ?_
        refine lv_iload_n hx hb dX7_kneesOf_26 rfl (lv_at hl 0 rfl) ?_
        refine lv_ishl hx hb dX7_kneesOf_27 ?_
        refine lv_goto (tgt := 32) hx hb dX7_kneesOf_28 (by decide) ?_
        refine lv_ior hx hb dX7_kneesOf_32 ?_
        refine lv_istore_n (lv' := [(2, .int ((m_kneesOf M f i) ||| (1 <<< ((nI i) &&& 31)))), (3, .int (nI i)), (0, .ref (oA 0)), (1, .int (nI f))]) hx hb dX7_kneesOf_33 rfl hl (by decide) rfl (fun ls hl => ?_)
        refine lv_iinc (v := (nI (i + 1))) (lv' := [(3, .int (nI (i + 1))), (2, .int ((m_kneesOf M f i) ||| (1 <<< ((nI i) &&& 31)))), (0, .ref (oA 0)), (1, .int (nI f))]) hx hb dX7_kneesOf_34 hl (k := 1) rfl (ly_add rfl rfl) (by decide) rfl (fun ls hl => ?_)
        refine lv_goto (tgt := 4) hx hb dX7_kneesOf_37 (by decide) ?_
        have e_3 : m_kneesOf M f (i + 1) = ((m_kneesOf M f i) ||| (1 <<< ((nI i) &&& 31))) := by show m_kneesOfB M f i (m_kneesOf M f i) = _; unfold m_kneesOfB; rw [if_pos c_1]
        exact ih_4 (i + 1) (by omega) ls (by rw [e_3]; exact lv_sub hl [0, 1, 2, 3] rfl)
  exact hloop_4 (M 9 0) 0 (by omega) ls (lv_sub hl [0, 1, 2, 3] rfl)

def m_onB (M : Nat → Nat → Nat) (q o1 : Nat) (i : Nat) (v0 : Nat) : Nat := (if (nI ((M 20) (1 + i))) = (nI (q + 1)) then (if (nI ((M 10) i)) = (nI o1) then (i + 1) else v0) else v0)
def m_on (M : Nat → Nat → Nat) (q o1 : Nat) : Nat → Nat
  | 0 => 0
  | i + 1 => m_onB M q o1 i (m_on M q o1 i)
set_option maxHeartbeats 4000000 in
set_option maxRecDepth 100000 in
theorem c_X7_kneeOn (l : Launch) (D : va_G) (cI cC cZ cN : ClassId) (oA : Nat → Nat) (M : Nat → Nat → Nat) (mi : Nat → Nat) (fa : Int32) (mt : Int64) (q o1 : Nat) (hn : M 9 0 ≤ 9) : Met l yX7_kneeOn wsX7_kneeOn (ly_rm 1) (ly_Pre D (ly_tys cI cC cZ cN) [((oA 0), .inr (7, [.int 0, .long mt, .ref (oA 2), .int (nI (mi 3)), .int (nI (mi 4)), .int (nI (mi 5)), .int (nI (mi 6)), .int (nI (mi 7)), .int fa, .ref (oA 9), .ref (oA 10), .ref (oA 11), .ref (oA 12), .ref (oA 13), .ref (oA 14), .ref (oA 15), .ref (oA 16), .ref (oA 17), .ref (oA 18), .int (nI (mi 19)), .ref (oA 20), .ref (oA 21), .ref (oA 22), .ref (oA 23), .int (nI (mi 24)), .ref (oA 25), .ref (oA 26), .ref (oA 27), .int (nI (mi 28)), .ref (oA 29), .ref (oA 30), .int (nI (mi 31)), .ref (oA 32), .int (nI (mi 33)), .int (nI (mi 34))])), ((oA 9), .inl (cI, 4, .inl (fun j => nI ((M 9) j)))), ((oA 20), .inl (cI, 23, .inl (fun j => nI ((M 20) j)))), ((oA 10), .inl (cI, 18, .inl (fun j => nI ((M 10) j))))] [.ref (oA 0), .int (nI q), .int (nI o1)]) (QcRead (ly_h (m_on M q o1 (M 9 0)))) 0 0 (fun _ => False) := by
  refine Met.ofW (cc := cX7_kneeOn) (maxL := 5) (ret := (some .int)) (by decide) rfl ?_
  intro p e s m args below meth c s₁ B hml hv
  obtain ⟨rfl, hP, hK, hN⟩ := hv
  have hx := B.exec
  have hb := B.bytes
  have hr := B.returns
  have hts := atoms_spec (ws := wsX7_kneeOn) B.pre
  have hown : s.vm.findClass RX7 = some m.cls := findClass_of_methodNamed B.named
  have hlocks := B.notSynchronized
  have hl := lv_entry ([.ref (oA 0), .int (nI q), .int (nI o1)]) (n := 5) (Nat.le_of_ble_eq_true rfl)
  rw [lg_entry_eq]
  generalize (lg_sl ([.ref (oA 0), .int (nI q), .int (nI o1)]) ++ List.replicate (5 - (lg_sl ([.ref (oA 0), .int (nI q), .int (nI o1)])).length) Slot.unset).toArray = ls at hl ⊢
  have hl : lv_has ls 5 [(0, .ref (oA 0)), (1, .int (nI q)), (2, .int (nI o1))] := hl
  generalize ([.ref (oA 0), .int (nI q), .int (nI o1)] : List Value).toArray = av at hts ⊢
  obtain ⟨Qc, hQc⟩ : ∃ Qc, Qc = (QcRead (ly_h (m_on M q o1 (M 9 0)))) := ⟨_, rfl⟩
  rw [← hQc]
  have f13 := hts (.fieldLink RX7 13 "KneesLentModel" "many" "[I") (by decide +kernel)
  have f43 := hts (.fieldLink RX7 43 "KneesLentModel" "s" "[I") (by decide +kernel)
  have f16 := hts (.fieldLink RX7 16 "KneesLentModel" "side" "[I") (by decide +kernel)
  have hiX7 : ∀ w ∈ u_ws RX7 TX7 35, w ∈ wsX7_kneeOn := by decide +kernel
  refine lv_bipush (v := (-9)) hx hb dX7_kneeOn_0 (by decide) ?_
  refine lv_istore_n (lv' := [(3, .int (-9)), (0, .ref (oA 0)), (1, .int (nI q)), (2, .int (nI o1))]) hx hb dX7_kneeOn_2 rfl hl (by decide) rfl (fun ls hl => ?_)
  refine lv_iconst (v := 0) hx hb dX7_kneeOn_3 (by decide) ?_
  refine lv_istore (lv' := [(4, .int 0), (3, .int (-9)), (0, .ref (oA 0)), (1, .int (nI q)), (2, .int (nI o1))]) hx hb dX7_kneeOn_4 hl (by decide) rfl (fun ls hl => ?_)
  have hloop_6 : ∀ (k i : Nat), i + k = M 9 0 → ∀ ls : Array Slot, lv_has ls 5 [(4, .int (nI i)), (3, .int (ly_h (m_on M q o1 i))), (0, .ref (oA 0)), (1, .int (nI q)), (2, .int (nI o1))] → W p l e (headSpec wsX7_kneeOn (ly_rm 1)).room s m av below meth c s.heap [] 0 0 (MQ below Qc av s 0 0 (fun _ => False)) (F0 m 6 ls []) := by
    intro k
    induction k with
    | zero =>
      intro i hi_6 ls hl
      obtain rfl : M 9 0 = i := by omega
      refine lv_iload hx hb dX7_kneeOn_6 (lv_at hl 0 rfl) ?_
      refine lv_aload_n hx hb dX7_kneeOn_8 rfl (lv_at hl 2 rfl) ?_
      refine va_get (D := D) (ci := 7) (v := .ref (oA 9)) (C := RX7) (T := TX7) (N := 35) hx hb hts hiX7 hown hK hP 0 rfl rfl 9 (by decide) f13 (fun _ h9 => h9) rfl dX7_kneeOn_9 ?_
      refine lv_iconst (v := 0) hx hb dX7_kneeOn_12 (by decide) ?_
      refine ly_iald hx hb hK hP 1 0 rfl rfl (k := 0) (by decide) rfl (by omega) dX7_kneeOn_13 ?_
      refine lv_icmp_ge (tgt := 56) hx hb dX7_kneeOn_14 (by decide) (fun _ => ?_) (fun h_9 => absurd (nI_le (Nat.le_refl _) (by omega)) h_9)
      refine lv_iload_n hx hb dX7_kneeOn_56 rfl (lv_at hl 1 rfl) ?_
      exact W.iret (v := (ly_h (m_on M q o1 (M 9 0)))) hx hb hr (fun t_9 ht_9 _ => by rw [hQc]; exact ⟨rfl, ht_9⟩) t_nil dX7_kneeOn_57
    | succ k ih_6 =>
      intro i hi_6 ls hl
      refine lv_iload hx hb dX7_kneeOn_6 (lv_at hl 0 rfl) ?_
      refine lv_aload_n hx hb dX7_kneeOn_8 rfl (lv_at hl 2 rfl) ?_
      refine va_get (D := D) (ci := 7) (v := .ref (oA 9)) (C := RX7) (T := TX7) (N := 35) hx hb hts hiX7 hown hK hP 0 rfl rfl 9 (by decide) f13 (fun _ h9 => h9) rfl dX7_kneeOn_9 ?_
      refine lv_iconst (v := 0) hx hb dX7_kneeOn_12 (by decide) ?_
      refine ly_iald hx hb hK hP 1 0 rfl rfl (k := 0) (by decide) rfl (by omega) dX7_kneeOn_13 ?_
      refine lv_icmp_ge (tgt := 56) hx hb dX7_kneeOn_14 (by decide) (fun h_9 => absurd h_9 (nI_ge (by omega) (by omega))) (fun _ => ?_)
      refine lv_aload_n hx hb dX7_kneeOn_17 rfl (lv_at hl 2 rfl) ?_
      refine va_get (D := D) (ci := 7) (v := .ref (oA 20)) (C := RX7) (T := TX7) (N := 35) hx hb hts hiX7 hown hK hP 0 rfl rfl 20 (by decide) f43 (fun _ h9 => h9) rfl dX7_kneeOn_18 ?_
      refine lv_iconst (v := 1) hx hb dX7_kneeOn_21 (by decide) ?_
      refine lv_iload hx hb dX7_kneeOn_22 (lv_at hl 0 rfl) ?_
      refine lv_iadd hx hb dX7_kneeOn_24 ?_
      refine ly_eqi (show (1 + (nI i)) = (nI (1 + i)) from ly_add rfl rfl) ?_
      refine ly_iald hx hb hK hP 2 0 rfl rfl (k := 1 + i) (by decide) rfl (by omega) dX7_kneeOn_25 ?_
      refine lv_iload_n hx hb dX7_kneeOn_26 rfl (lv_at hl 3 rfl) ?_
      refine lv_iconst (v := 1) hx hb dX7_kneeOn_27 (by decide) ?_
      refine lv_iadd hx hb dX7_kneeOn_28 ?_
      refine ly_eqi (show ((nI q) + 1) = (nI (q + 1)) from ly_add rfl rfl) ?_
      refine lv_icmp_ne (tgt := 48) hx hb dX7_kneeOn_29 (by decide) (fun c_1 => ?_) (fun c_1 => ?_)
      · refine lv_iload_n hx hb dX7_kneeOn_48 rfl (lv_at hl 1 rfl) ?_
        refine lv_istore_n (lv' := [(3, .int (ly_h (m_on M q o1 i))), (4, .int (nI i)), (0, .ref (oA 0)), (1, .int (nI q)), (2, .int (nI o1))]) hx hb dX7_kneeOn_49 rfl hl (by decide) rfl (fun ls hl => ?_)
        refine lv_iinc (v := (nI (i + 1))) (lv' := [(4, .int (nI (i + 1))), (3, .int (ly_h (m_on M q o1 i))), (0, .ref (oA 0)), (1, .int (nI q)), (2, .int (nI o1))]) hx hb dX7_kneeOn_50 hl (k := 1) rfl (ly_add rfl rfl) (by decide) rfl (fun ls hl => ?_)
        refine lv_goto (tgt := 6) hx hb dX7_kneeOn_53 (by decide) ?_
        have e_2 : m_on M q o1 (i + 1) = (m_on M q o1 i) := by show m_onB M q o1 i (m_on M q o1 i) = _; unfold m_onB; rw [if_neg c_1]
        exact ih_6 (i + 1) (by omega) ls (by rw [e_2]; exact lv_sub hl [0, 1, 2, 3, 4] rfl)
      · refine lv_aload_n hx hb dX7_kneeOn_32 rfl (lv_at hl 2 rfl) ?_
        refine va_get (D := D) (ci := 7) (v := .ref (oA 10)) (C := RX7) (T := TX7) (N := 35) hx hb hts hiX7 hown hK hP 0 rfl rfl 10 (by decide) f16 (fun _ h9 => h9) rfl dX7_kneeOn_33 ?_
        refine lv_iload hx hb dX7_kneeOn_36 (lv_at hl 0 rfl) ?_
        refine ly_iald hx hb hK hP 3 0 rfl rfl (k := i) (by decide) rfl (by omega) dX7_kneeOn_38 ?_
        refine lv_iload_n hx hb dX7_kneeOn_39 rfl (lv_at hl 4 rfl) ?_
        refine lv_icmp_ne (tgt := 48) hx hb dX7_kneeOn_40 (by decide) (fun c_3 => ?_) (fun c_3 => ?_)
        · refine lv_iload_n hx hb dX7_kneeOn_48 rfl (lv_at hl 1 rfl) ?_
          refine lv_istore_n (lv' := [(3, .int (ly_h (m_on M q o1 i))), (4, .int (nI i)), (0, .ref (oA 0)), (1, .int (nI q)), (2, .int (nI o1))]) hx hb dX7_kneeOn_49 rfl hl (by decide) rfl (fun ls hl => ?_)
          refine lv_iinc (v := (nI (i + 1))) (lv' := [(4, .int (nI (i + 1))), (3, .int (ly_h (m_on M q o1 i))), (0, .ref (oA 0)), (1, .int (nI q)), (2, .int (nI o1))]) hx hb dX7_kneeOn_50 hl (k := 1) rfl (ly_add rfl rfl) (by decide) rfl (fun ls hl => ?_)
          refine lv_goto (tgt := 6) hx hb dX7_kneeOn_53 (by decide) ?_
          have e_4 : m_on M q o1 (i + 1) = (m_on M q o1 i) := by show m_onB M q o1 i (m_on M q o1 i) = _; unfold m_onB; rw [if_pos c_1, if_neg c_3]
          exact ih_6 (i + 1) (by omega) ls (by rw [e_4]; exact lv_sub hl [0, 1, 2, 3, 4] rfl)
        · refine lv_iload hx hb dX7_kneeOn_43 (lv_at hl 0 rfl) ?_
          refine lv_goto (tgt := 49) hx hb dX7_kneeOn_45 (by decide) ?_
          refine lv_istore_n (lv' := [(3, .int (nI i)), (4, .int (nI i)), (0, .ref (oA 0)), (1, .int (nI q)), (2, .int (nI o1))]) hx hb dX7_kneeOn_49 rfl hl (by decide) rfl (fun ls hl => ?_)
          refine lv_iinc (v := (nI (i + 1))) (lv' := [(4, .int (nI (i + 1))), (3, .int (nI i)), (0, .ref (oA 0)), (1, .int (nI q)), (2, .int (nI o1))]) hx hb dX7_kneeOn_50 hl (k := 1) rfl (ly_add rfl rfl) (by decide) rfl (fun ls hl => ?_)
          refine lv_goto (tgt := 6) hx hb dX7_kneeOn_53 (by decide) ?_
          have e_5 : m_on M q o1 (i + 1) = (i + 1) := by show m_onB M q o1 i (m_on M q o1 i) = _; unfold m_onB; rw [if_pos c_1, if_pos c_3]
          exact ih_6 (i + 1) (by omega) ls (by rw [e_5]; exact lv_sub hl [0, 1, 2, 3, 4] rfl)
  exact hloop_6 (M 9 0) 0 (by omega) ls (lv_sub hl [0, 1, 2, 3, 4] rfl)

def m_wants (M : Nat → Nat → Nat) (q o1 : Nat) : Int32 := (if (((nI ((M 13) q)) >>> ((nI o1) &&& 31)) &&& 1) = 1 then 1 else 0)
set_option maxHeartbeats 4000000 in
set_option maxRecDepth 100000 in
theorem c_X7_wants (l : Launch) (D : va_G) (cI cC cZ cN : ClassId) (oA : Nat → Nat) (M : Nat → Nat → Nat) (mi : Nat → Nat) (fa : Int32) (mt : Int64) (q o1 : Nat) (h1 : q < 6) : Met l yX7_wants wsX7_wants (ly_rm 1) (ly_Pre D (ly_tys cI cC cZ cN) [((oA 0), .inr (7, [.int 0, .long mt, .ref (oA 2), .int (nI (mi 3)), .int (nI (mi 4)), .int (nI (mi 5)), .int (nI (mi 6)), .int (nI (mi 7)), .int fa, .ref (oA 9), .ref (oA 10), .ref (oA 11), .ref (oA 12), .ref (oA 13), .ref (oA 14), .ref (oA 15), .ref (oA 16), .ref (oA 17), .ref (oA 18), .int (nI (mi 19)), .ref (oA 20), .ref (oA 21), .ref (oA 22), .ref (oA 23), .int (nI (mi 24)), .ref (oA 25), .ref (oA 26), .ref (oA 27), .int (nI (mi 28)), .ref (oA 29), .ref (oA 30), .int (nI (mi 31)), .ref (oA 32), .int (nI (mi 33)), .int (nI (mi 34))])), ((oA 13), .inl (cI, 12, .inl (fun j => nI ((M 13) j))))] [.ref (oA 0), .int (nI q), .int (nI o1)]) (QcRead (m_wants M q o1)) 0 0 (fun _ => False) := by
  refine Met.ofW (cc := cX7_wants) (maxL := 3) (ret := (some .boolean)) (by decide) rfl ?_
  intro p e s m args below meth c s₁ B hml hv
  obtain ⟨rfl, hP, hK, hN⟩ := hv
  have hx := B.exec
  have hb := B.bytes
  have hr := B.returns
  have hts := atoms_spec (ws := wsX7_wants) B.pre
  have hown : s.vm.findClass RX7 = some m.cls := findClass_of_methodNamed B.named
  have hlocks := B.notSynchronized
  have hl := lv_entry ([.ref (oA 0), .int (nI q), .int (nI o1)]) (n := 3) (Nat.le_of_ble_eq_true rfl)
  rw [lg_entry_eq]
  generalize (lg_sl ([.ref (oA 0), .int (nI q), .int (nI o1)]) ++ List.replicate (3 - (lg_sl ([.ref (oA 0), .int (nI q), .int (nI o1)])).length) Slot.unset).toArray = ls at hl ⊢
  have hl : lv_has ls 3 [(0, .ref (oA 0)), (1, .int (nI q)), (2, .int (nI o1))] := hl
  generalize ([.ref (oA 0), .int (nI q), .int (nI o1)] : List Value).toArray = av at hts ⊢
  obtain ⟨Qc, hQc⟩ : ∃ Qc, Qc = (QcRead (m_wants M q o1)) := ⟨_, rfl⟩
  rw [← hQc]
  have f25 := hts (.fieldLink RX7 25 "KneesLentModel" "needs" "[I") (by decide +kernel)
  have hiX7 : ∀ w ∈ u_ws RX7 TX7 35, w ∈ wsX7_wants := by decide +kernel
  refine lv_aload_n hx hb dX7_wants_0 rfl (lv_at hl 0 rfl) ?_
  refine va_get (D := D) (ci := 7) (v := .ref (oA 13)) (C := RX7) (T := TX7) (N := 35) hx hb hts hiX7 hown hK hP 0 rfl rfl 13 (by decide) f25 (fun _ h9 => h9) rfl dX7_wants_1 ?_
  refine lv_iload_n hx hb dX7_wants_4 rfl (lv_at hl 1 rfl) ?_
  refine ly_iald hx hb hK hP 1 0 rfl rfl (k := q) (by decide) rfl (by omega) dX7_wants_5 ?_
  refine lv_iload_n hx hb dX7_wants_6 rfl (lv_at hl 2 rfl) ?_
  refine lv_ishr hx hb dX7_wants_7 ?_
  refine lv_iconst (v := 1) hx hb dX7_wants_8 (by decide) ?_
  refine lv_iand hx hb dX7_wants_9 ?_
  refine lv_iconst (v := 1) hx hb dX7_wants_10 (by decide) ?_
  refine lv_icmp_ne (tgt := 18) hx hb dX7_wants_11 (by decide) (fun c_1 => ?_) (fun c_1 => ?_)
  · refine lv_iconst (v := 0) hx hb dX7_wants_18 (by decide) ?_
    exact W.zret (v := 0) hx hb hr rfl (fun t_9 ht_9 _ => by rw [hQc]; exact ⟨(by unfold m_wants; rw [if_neg c_1]), ht_9⟩) t_nil dX7_wants_19
  · refine lv_iconst (v := 1) hx hb dX7_wants_14 (by decide) ?_
    refine lv_goto (tgt := 19) hx hb dX7_wants_15 (by decide) ?_
    exact W.zret (v := 1) hx hb hr rfl (fun t_9 ht_9 _ => by rw [hQc]; exact ⟨(by unfold m_wants; rw [if_pos c_1]), ht_9⟩) t_nil dX7_wants_19

def m_ready (M : Nat → Nat → Nat) (q : Nat) : Int32 := (if (m_wants M q 0) = 0 then (if (m_wants M q 1) = 0 then 1 else (if (ly_h (m_on M q 1 (M 9 0))) = (-9) then 0 else 1)) else (if (ly_h (m_on M q 0 (M 9 0))) = (-9) then 0 else (if (m_wants M q 1) = 0 then 1 else (if (ly_h (m_on M q 1 (M 9 0))) = (-9) then 0 else 1))))
set_option maxHeartbeats 4000000 in
set_option maxRecDepth 100000 in
theorem c_X7_isReady (l : Launch) (D : va_G) (cI cC cZ cN : ClassId) (oA : Nat → Nat) (M : Nat → Nat → Nat) (mi : Nat → Nat) (fa : Int32) (mt : Int64) (q : Nat) (h1 : q < 6) (hn : M 9 0 ≤ 9) : Met l yX7_isReady wsX7_isReady (ly_rm 2) (ly_Pre D (ly_tys cI cC cZ cN) [((oA 0), .inr (7, [.int 0, .long mt, .ref (oA 2), .int (nI (mi 3)), .int (nI (mi 4)), .int (nI (mi 5)), .int (nI (mi 6)), .int (nI (mi 7)), .int fa, .ref (oA 9), .ref (oA 10), .ref (oA 11), .ref (oA 12), .ref (oA 13), .ref (oA 14), .ref (oA 15), .ref (oA 16), .ref (oA 17), .ref (oA 18), .int (nI (mi 19)), .ref (oA 20), .ref (oA 21), .ref (oA 22), .ref (oA 23), .int (nI (mi 24)), .ref (oA 25), .ref (oA 26), .ref (oA 27), .int (nI (mi 28)), .ref (oA 29), .ref (oA 30), .int (nI (mi 31)), .ref (oA 32), .int (nI (mi 33)), .int (nI (mi 34))])), ((oA 9), .inl (cI, 4, .inl (fun j => nI ((M 9) j)))), ((oA 20), .inl (cI, 23, .inl (fun j => nI ((M 20) j)))), ((oA 10), .inl (cI, 18, .inl (fun j => nI ((M 10) j)))), ((oA 13), .inl (cI, 12, .inl (fun j => nI ((M 13) j))))] [.ref (oA 0), .int (nI q)]) (QcRead (m_ready M q)) 0 0 (fun _ => False) := by
  refine Met.ofW (cc := cX7_isReady) (maxL := 2) (ret := (some .boolean)) (by decide) rfl ?_
  intro p e s m args below meth c s₁ B hml hv
  obtain ⟨rfl, hP, hK, hN⟩ := hv
  have hx := B.exec
  have hb := B.bytes
  have hr := B.returns
  have hts := atoms_spec (ws := wsX7_isReady) B.pre
  have hown : s.vm.findClass RX7 = some m.cls := findClass_of_methodNamed B.named
  have hlocks := B.notSynchronized
  have hl := lv_entry ([.ref (oA 0), .int (nI q)]) (n := 2) (Nat.le_of_ble_eq_true rfl)
  rw [lg_entry_eq]
  generalize (lg_sl ([.ref (oA 0), .int (nI q)]) ++ List.replicate (2 - (lg_sl ([.ref (oA 0), .int (nI q)])).length) Slot.unset).toArray = ls at hl ⊢
  have hl : lv_has ls 2 [(0, .ref (oA 0)), (1, .int (nI q))] := hl
  generalize ([.ref (oA 0), .int (nI q)] : List Value).toArray = av at hts ⊢
  obtain ⟨Qc, hQc⟩ : ∃ Qc, Qc = (QcRead (m_ready M q)) := ⟨_, rfl⟩
  rw [← hQc]
  refine lv_aload_n hx hb dX7_isReady_0 rfl (lv_at hl 0 rfl) ?_
  refine lv_iload_n hx hb dX7_isReady_1 rfl (lv_at hl 1 rfl) ?_
  refine lv_iconst (v := 0) hx hb dX7_isReady_2 (by decide) ?_
  have hPc_3 := hP.sub (ws' := [((oA 0), .inr (7, [.int 0, .long mt, .ref (oA 2), .int (nI (mi 3)), .int (nI (mi 4)), .int (nI (mi 5)), .int (nI (mi 6)), .int (nI (mi 7)), .int fa, .ref (oA 9), .ref (oA 10), .ref (oA 11), .ref (oA 12), .ref (oA 13), .ref (oA 14), .ref (oA 15), .ref (oA 16), .ref (oA 17), .ref (oA 18), .int (nI (mi 19)), .ref (oA 20), .ref (oA 21), .ref (oA 22), .ref (oA 23), .int (nI (mi 24)), .ref (oA 25), .ref (oA 26), .ref (oA 27), .int (nI (mi 28)), .ref (oA 29), .ref (oA 30), .int (nI (mi 31)), .ref (oA 32), .int (nI (mi 33)), .int (nI (mi 34))])), ((oA 13), .inl (cI, 12, .inl (fun j => nI ((M 13) j))))]) [0, 4] rfl
  refine ly_r (va_runV (As := [.int (nI q), .int 0]) (rest := []) ⟨hx, hb, hml, hown, hts⟩ (c_X7_wants l D cI cC cZ cN oA M mi fa mt q 0 (by omega)) (cwV 2 hts gX7_isReady_X7_wants rfl rfl rfl (by decide +kernel) ⟨Nat.le_of_ble_eq_true rfl, Nat.le_of_ble_eq_true rfl⟩) (ly_pv hK hN hPc_3 0 7 rfl rfl rfl) rfl rfl hl.1 rfl (lv_room (Nat.le_of_ble_eq_true rfl)) dX7_isReady_3 ⟨Nat.zero_le _, Nat.zero_le _⟩) ?_
  refine lv_if_eq (tgt := 20) hx hb dX7_isReady_6 (by decide) (fun c_1 => ?_) (fun c_1 => ?_)
  · refine lv_aload_n hx hb dX7_isReady_20 rfl (lv_at hl 0 rfl) ?_
    refine lv_iload_n hx hb dX7_isReady_21 rfl (lv_at hl 1 rfl) ?_
    refine lv_iconst (v := 1) hx hb dX7_isReady_22 (by decide) ?_
    have hPc_23 := hP.sub (ws' := [((oA 0), .inr (7, [.int 0, .long mt, .ref (oA 2), .int (nI (mi 3)), .int (nI (mi 4)), .int (nI (mi 5)), .int (nI (mi 6)), .int (nI (mi 7)), .int fa, .ref (oA 9), .ref (oA 10), .ref (oA 11), .ref (oA 12), .ref (oA 13), .ref (oA 14), .ref (oA 15), .ref (oA 16), .ref (oA 17), .ref (oA 18), .int (nI (mi 19)), .ref (oA 20), .ref (oA 21), .ref (oA 22), .ref (oA 23), .int (nI (mi 24)), .ref (oA 25), .ref (oA 26), .ref (oA 27), .int (nI (mi 28)), .ref (oA 29), .ref (oA 30), .int (nI (mi 31)), .ref (oA 32), .int (nI (mi 33)), .int (nI (mi 34))])), ((oA 13), .inl (cI, 12, .inl (fun j => nI ((M 13) j))))]) [0, 4] rfl
    refine ly_r (va_runV (As := [.int (nI q), .int 1]) (rest := []) ⟨hx, hb, hml, hown, hts⟩ (c_X7_wants l D cI cC cZ cN oA M mi fa mt q 1 (by omega)) (cwV 2 hts gX7_isReady_X7_wants rfl rfl rfl (by decide +kernel) ⟨Nat.le_of_ble_eq_true rfl, Nat.le_of_ble_eq_true rfl⟩) (ly_pv hK hN hPc_23 0 7 rfl rfl rfl) rfl rfl hl.1 rfl (lv_room (Nat.le_of_ble_eq_true rfl)) dX7_isReady_23 ⟨Nat.zero_le _, Nat.zero_le _⟩) ?_
    refine lv_if_eq (tgt := 40) hx hb dX7_isReady_26 (by decide) (fun c_2 => ?_) (fun c_2 => ?_)
    · refine lv_iconst (v := 1) hx hb dX7_isReady_40 (by decide) ?_
      refine lv_goto (tgt := 45) hx hb dX7_isReady_41 (by decide) ?_
      exact W.zret (v := 1) hx hb hr rfl (fun t_9 ht_9 _ => by rw [hQc]; exact ⟨(by unfold m_ready; rw [if_pos c_1, if_pos c_2]), ht_9⟩) t_nil dX7_isReady_45
    · refine lv_aload_n hx hb dX7_isReady_29 rfl (lv_at hl 0 rfl) ?_
      refine lv_iload_n hx hb dX7_isReady_30 rfl (lv_at hl 1 rfl) ?_
      refine lv_iconst (v := 1) hx hb dX7_isReady_31 (by decide) ?_
      have hPc_32 := hP.sub (ws' := [((oA 0), .inr (7, [.int 0, .long mt, .ref (oA 2), .int (nI (mi 3)), .int (nI (mi 4)), .int (nI (mi 5)), .int (nI (mi 6)), .int (nI (mi 7)), .int fa, .ref (oA 9), .ref (oA 10), .ref (oA 11), .ref (oA 12), .ref (oA 13), .ref (oA 14), .ref (oA 15), .ref (oA 16), .ref (oA 17), .ref (oA 18), .int (nI (mi 19)), .ref (oA 20), .ref (oA 21), .ref (oA 22), .ref (oA 23), .int (nI (mi 24)), .ref (oA 25), .ref (oA 26), .ref (oA 27), .int (nI (mi 28)), .ref (oA 29), .ref (oA 30), .int (nI (mi 31)), .ref (oA 32), .int (nI (mi 33)), .int (nI (mi 34))])), ((oA 9), .inl (cI, 4, .inl (fun j => nI ((M 9) j)))), ((oA 20), .inl (cI, 23, .inl (fun j => nI ((M 20) j)))), ((oA 10), .inl (cI, 18, .inl (fun j => nI ((M 10) j))))]) [0, 1, 2, 3] rfl
      refine ly_r (va_runV (As := [.int (nI q), .int 1]) (rest := []) ⟨hx, hb, hml, hown, hts⟩ (c_X7_kneeOn l D cI cC cZ cN oA M mi fa mt q 1 hn) (cwV 2 hts gX7_isReady_X7_kneeOn rfl rfl rfl (by decide +kernel) ⟨Nat.le_of_ble_eq_true rfl, Nat.le_of_ble_eq_true rfl⟩) (ly_pv hK hN hPc_32 0 7 rfl rfl rfl) rfl rfl hl.1 rfl (lv_room (Nat.le_of_ble_eq_true rfl)) dX7_isReady_32 ⟨Nat.zero_le _, Nat.zero_le _⟩) ?_
      refine lv_bipush (v := (-9)) hx hb dX7_isReady_35 (by decide) ?_
      refine lv_icmp_eq (tgt := 44) hx hb dX7_isReady_37 (by decide) (fun c_3 => ?_) (fun c_3 => ?_)
      · refine lv_iconst (v := 0) hx hb dX7_isReady_44 (by decide) ?_
        exact W.zret (v := 0) hx hb hr rfl (fun t_9 ht_9 _ => by rw [hQc]; exact ⟨(by unfold m_ready; rw [if_pos c_1, if_neg c_2, if_pos c_3]), ht_9⟩) t_nil dX7_isReady_45
      · refine lv_iconst (v := 1) hx hb dX7_isReady_40 (by decide) ?_
        refine lv_goto (tgt := 45) hx hb dX7_isReady_41 (by decide) ?_
        exact W.zret (v := 1) hx hb hr rfl (fun t_9 ht_9 _ => by rw [hQc]; exact ⟨(by unfold m_ready; rw [if_pos c_1, if_neg c_2, if_neg c_3]), ht_9⟩) t_nil dX7_isReady_45
  · refine lv_aload_n hx hb dX7_isReady_9 rfl (lv_at hl 0 rfl) ?_
    refine lv_iload_n hx hb dX7_isReady_10 rfl (lv_at hl 1 rfl) ?_
    refine lv_iconst (v := 0) hx hb dX7_isReady_11 (by decide) ?_
    have hPc_12 := hP.sub (ws' := [((oA 0), .inr (7, [.int 0, .long mt, .ref (oA 2), .int (nI (mi 3)), .int (nI (mi 4)), .int (nI (mi 5)), .int (nI (mi 6)), .int (nI (mi 7)), .int fa, .ref (oA 9), .ref (oA 10), .ref (oA 11), .ref (oA 12), .ref (oA 13), .ref (oA 14), .ref (oA 15), .ref (oA 16), .ref (oA 17), .ref (oA 18), .int (nI (mi 19)), .ref (oA 20), .ref (oA 21), .ref (oA 22), .ref (oA 23), .int (nI (mi 24)), .ref (oA 25), .ref (oA 26), .ref (oA 27), .int (nI (mi 28)), .ref (oA 29), .ref (oA 30), .int (nI (mi 31)), .ref (oA 32), .int (nI (mi 33)), .int (nI (mi 34))])), ((oA 9), .inl (cI, 4, .inl (fun j => nI ((M 9) j)))), ((oA 20), .inl (cI, 23, .inl (fun j => nI ((M 20) j)))), ((oA 10), .inl (cI, 18, .inl (fun j => nI ((M 10) j))))]) [0, 1, 2, 3] rfl
    refine ly_r (va_runV (As := [.int (nI q), .int 0]) (rest := []) ⟨hx, hb, hml, hown, hts⟩ (c_X7_kneeOn l D cI cC cZ cN oA M mi fa mt q 0 hn) (cwV 2 hts gX7_isReady_X7_kneeOn rfl rfl rfl (by decide +kernel) ⟨Nat.le_of_ble_eq_true rfl, Nat.le_of_ble_eq_true rfl⟩) (ly_pv hK hN hPc_12 0 7 rfl rfl rfl) rfl rfl hl.1 rfl (lv_room (Nat.le_of_ble_eq_true rfl)) dX7_isReady_12 ⟨Nat.zero_le _, Nat.zero_le _⟩) ?_
    refine lv_bipush (v := (-9)) hx hb dX7_isReady_15 (by decide) ?_
    refine lv_icmp_eq (tgt := 44) hx hb dX7_isReady_17 (by decide) (fun c_4 => ?_) (fun c_4 => ?_)
    · refine lv_iconst (v := 0) hx hb dX7_isReady_44 (by decide) ?_
      exact W.zret (v := 0) hx hb hr rfl (fun t_9 ht_9 _ => by rw [hQc]; exact ⟨(by unfold m_ready; rw [if_neg c_1, if_pos c_4]), ht_9⟩) t_nil dX7_isReady_45
    · refine lv_aload_n hx hb dX7_isReady_20 rfl (lv_at hl 0 rfl) ?_
      refine lv_iload_n hx hb dX7_isReady_21 rfl (lv_at hl 1 rfl) ?_
      refine lv_iconst (v := 1) hx hb dX7_isReady_22 (by decide) ?_
      have hPc_23 := hP.sub (ws' := [((oA 0), .inr (7, [.int 0, .long mt, .ref (oA 2), .int (nI (mi 3)), .int (nI (mi 4)), .int (nI (mi 5)), .int (nI (mi 6)), .int (nI (mi 7)), .int fa, .ref (oA 9), .ref (oA 10), .ref (oA 11), .ref (oA 12), .ref (oA 13), .ref (oA 14), .ref (oA 15), .ref (oA 16), .ref (oA 17), .ref (oA 18), .int (nI (mi 19)), .ref (oA 20), .ref (oA 21), .ref (oA 22), .ref (oA 23), .int (nI (mi 24)), .ref (oA 25), .ref (oA 26), .ref (oA 27), .int (nI (mi 28)), .ref (oA 29), .ref (oA 30), .int (nI (mi 31)), .ref (oA 32), .int (nI (mi 33)), .int (nI (mi 34))])), ((oA 13), .inl (cI, 12, .inl (fun j => nI ((M 13) j))))]) [0, 4] rfl
      refine ly_r (va_runV (As := [.int (nI q), .int 1]) (rest := []) ⟨hx, hb, hml, hown, hts⟩ (c_X7_wants l D cI cC cZ cN oA M mi fa mt q 1 (by omega)) (cwV 2 hts gX7_isReady_X7_wants rfl rfl rfl (by decide +kernel) ⟨Nat.le_of_ble_eq_true rfl, Nat.le_of_ble_eq_true rfl⟩) (ly_pv hK hN hPc_23 0 7 rfl rfl rfl) rfl rfl hl.1 rfl (lv_room (Nat.le_of_ble_eq_true rfl)) dX7_isReady_23 ⟨Nat.zero_le _, Nat.zero_le _⟩) ?_
      refine lv_if_eq (tgt := 40) hx hb dX7_isReady_26 (by decide) (fun c_5 => ?_) (fun c_5 => ?_)
      · refine lv_iconst (v := 1) hx hb dX7_isReady_40 (by decide) ?_
        refine lv_goto (tgt := 45) hx hb dX7_isReady_41 (by decide) ?_
        exact W.zret (v := 1) hx hb hr rfl (fun t_9 ht_9 _ => by rw [hQc]; exact ⟨(by unfold m_ready; rw [if_neg c_1, if_neg c_4, if_pos c_5]), ht_9⟩) t_nil dX7_isReady_45
      · refine lv_aload_n hx hb dX7_isReady_29 rfl (lv_at hl 0 rfl) ?_
        refine lv_iload_n hx hb dX7_isReady_30 rfl (lv_at hl 1 rfl) ?_
        refine lv_iconst (v := 1) hx hb dX7_isReady_31 (by decide) ?_
        have hPc_32 := hP.sub (ws' := [((oA 0), .inr (7, [.int 0, .long mt, .ref (oA 2), .int (nI (mi 3)), .int (nI (mi 4)), .int (nI (mi 5)), .int (nI (mi 6)), .int (nI (mi 7)), .int fa, .ref (oA 9), .ref (oA 10), .ref (oA 11), .ref (oA 12), .ref (oA 13), .ref (oA 14), .ref (oA 15), .ref (oA 16), .ref (oA 17), .ref (oA 18), .int (nI (mi 19)), .ref (oA 20), .ref (oA 21), .ref (oA 22), .ref (oA 23), .int (nI (mi 24)), .ref (oA 25), .ref (oA 26), .ref (oA 27), .int (nI (mi 28)), .ref (oA 29), .ref (oA 30), .int (nI (mi 31)), .ref (oA 32), .int (nI (mi 33)), .int (nI (mi 34))])), ((oA 9), .inl (cI, 4, .inl (fun j => nI ((M 9) j)))), ((oA 20), .inl (cI, 23, .inl (fun j => nI ((M 20) j)))), ((oA 10), .inl (cI, 18, .inl (fun j => nI ((M 10) j))))]) [0, 1, 2, 3] rfl
        refine ly_r (va_runV (As := [.int (nI q), .int 1]) (rest := []) ⟨hx, hb, hml, hown, hts⟩ (c_X7_kneeOn l D cI cC cZ cN oA M mi fa mt q 1 hn) (cwV 2 hts gX7_isReady_X7_kneeOn rfl rfl rfl (by decide +kernel) ⟨Nat.le_of_ble_eq_true rfl, Nat.le_of_ble_eq_true rfl⟩) (ly_pv hK hN hPc_32 0 7 rfl rfl rfl) rfl rfl hl.1 rfl (lv_room (Nat.le_of_ble_eq_true rfl)) dX7_isReady_32 ⟨Nat.zero_le _, Nat.zero_le _⟩) ?_
        refine lv_bipush (v := (-9)) hx hb dX7_isReady_35 (by decide) ?_
        refine lv_icmp_eq (tgt := 44) hx hb dX7_isReady_37 (by decide) (fun c_6 => ?_) (fun c_6 => ?_)
        · refine lv_iconst (v := 0) hx hb dX7_isReady_44 (by decide) ?_
          exact W.zret (v := 0) hx hb hr rfl (fun t_9 ht_9 _ => by rw [hQc]; exact ⟨(by unfold m_ready; rw [if_neg c_1, if_neg c_4, if_neg c_5, if_pos c_6]), ht_9⟩) t_nil dX7_isReady_45
        · refine lv_iconst (v := 1) hx hb dX7_isReady_40 (by decide) ?_
          refine lv_goto (tgt := 45) hx hb dX7_isReady_41 (by decide) ?_
          exact W.zret (v := 1) hx hb hr rfl (fun t_9 ht_9 _ => by rw [hQc]; exact ⟨(by unfold m_ready; rw [if_neg c_1, if_neg c_4, if_neg c_5, if_neg c_6]), ht_9⟩) t_nil dX7_isReady_45

def m_pledged (M : Nat → Nat → Nat) (k : Nat) : Int32 := (if (((nI ((M 20) 10)) >>> ((nI k) &&& 31)) &&& 1) = 1 then 1 else 0)
set_option maxHeartbeats 4000000 in
set_option maxRecDepth 100000 in
theorem c_X7_isPledged (l : Launch) (D : va_G) (cI cC cZ cN : ClassId) (oA : Nat → Nat) (M : Nat → Nat → Nat) (mi : Nat → Nat) (fa : Int32) (mt : Int64) (k : Nat) (h1 : k < 9) : Met l yX7_isPledged wsX7_isPledged (ly_rm 1) (ly_Pre D (ly_tys cI cC cZ cN) [((oA 0), .inr (7, [.int 0, .long mt, .ref (oA 2), .int (nI (mi 3)), .int (nI (mi 4)), .int (nI (mi 5)), .int (nI (mi 6)), .int (nI (mi 7)), .int fa, .ref (oA 9), .ref (oA 10), .ref (oA 11), .ref (oA 12), .ref (oA 13), .ref (oA 14), .ref (oA 15), .ref (oA 16), .ref (oA 17), .ref (oA 18), .int (nI (mi 19)), .ref (oA 20), .ref (oA 21), .ref (oA 22), .ref (oA 23), .int (nI (mi 24)), .ref (oA 25), .ref (oA 26), .ref (oA 27), .int (nI (mi 28)), .ref (oA 29), .ref (oA 30), .int (nI (mi 31)), .ref (oA 32), .int (nI (mi 33)), .int (nI (mi 34))])), ((oA 20), .inl (cI, 23, .inl (fun j => nI ((M 20) j))))] [.ref (oA 0), .int (nI k)]) (QcRead (m_pledged M k)) 0 0 (fun _ => False) := by
  refine Met.ofW (cc := cX7_isPledged) (maxL := 2) (ret := (some .boolean)) (by decide) rfl ?_
  intro p e s m args below meth c s₁ B hml hv
  obtain ⟨rfl, hP, hK, hN⟩ := hv
  have hx := B.exec
  have hb := B.bytes
  have hr := B.returns
  have hts := atoms_spec (ws := wsX7_isPledged) B.pre
  have hown : s.vm.findClass RX7 = some m.cls := findClass_of_methodNamed B.named
  have hlocks := B.notSynchronized
  have hl := lv_entry ([.ref (oA 0), .int (nI k)]) (n := 2) (Nat.le_of_ble_eq_true rfl)
  rw [lg_entry_eq]
  generalize (lg_sl ([.ref (oA 0), .int (nI k)]) ++ List.replicate (2 - (lg_sl ([.ref (oA 0), .int (nI k)])).length) Slot.unset).toArray = ls at hl ⊢
  have hl : lv_has ls 2 [(0, .ref (oA 0)), (1, .int (nI k))] := hl
  generalize ([.ref (oA 0), .int (nI k)] : List Value).toArray = av at hts ⊢
  obtain ⟨Qc, hQc⟩ : ∃ Qc, Qc = (QcRead (m_pledged M k)) := ⟨_, rfl⟩
  rw [← hQc]
  have f43 := hts (.fieldLink RX7 43 "KneesLentModel" "s" "[I") (by decide +kernel)
  have hiX7 : ∀ w ∈ u_ws RX7 TX7 35, w ∈ wsX7_isPledged := by decide +kernel
  refine lv_aload_n hx hb dX7_isPledged_0 rfl (lv_at hl 0 rfl) ?_
  refine va_get (D := D) (ci := 7) (v := .ref (oA 20)) (C := RX7) (T := TX7) (N := 35) hx hb hts hiX7 hown hK hP 0 rfl rfl 20 (by decide) f43 (fun _ h9 => h9) rfl dX7_isPledged_1 ?_
  refine lv_bipush (v := 10) hx hb dX7_isPledged_4 (by decide) ?_
  refine ly_iald hx hb hK hP 1 0 rfl rfl (k := 10) (by decide) rfl (by omega) dX7_isPledged_6 ?_
  refine lv_iload_n hx hb dX7_isPledged_7 rfl (lv_at hl 1 rfl) ?_
  refine lv_ishr hx hb dX7_isPledged_8 ?_
  refine lv_iconst (v := 1) hx hb dX7_isPledged_9 (by decide) ?_
  refine lv_iand hx hb dX7_isPledged_10 ?_
  refine lv_iconst (v := 1) hx hb dX7_isPledged_11 (by decide) ?_
  refine lv_icmp_ne (tgt := 19) hx hb dX7_isPledged_12 (by decide) (fun c_1 => ?_) (fun c_1 => ?_)
  · refine lv_iconst (v := 0) hx hb dX7_isPledged_19 (by decide) ?_
    exact W.zret (v := 0) hx hb hr rfl (fun t_9 ht_9 _ => by rw [hQc]; exact ⟨(by unfold m_pledged; rw [if_neg c_1]), ht_9⟩) t_nil dX7_isPledged_20
  · refine lv_iconst (v := 1) hx hb dX7_isPledged_15 (by decide) ?_
    refine lv_goto (tgt := 20) hx hb dX7_isPledged_16 (by decide) ?_
    exact W.zret (v := 1) hx hb hr rfl (fun t_9 ht_9 _ => by rw [hQc]; exact ⟨(by unfold m_pledged; rw [if_pos c_1]), ht_9⟩) t_nil dX7_isPledged_20

def m_free (M : Nat → Nat → Nat) (k : Nat) : Int32 := (if (nI ((M 20) (1 + k))) = 0 then (if (m_pledged M k) = 0 then 1 else 0) else 0)
set_option maxHeartbeats 4000000 in
set_option maxRecDepth 100000 in
theorem c_X7_isFreeAtHome (l : Launch) (D : va_G) (cI cC cZ cN : ClassId) (oA : Nat → Nat) (M : Nat → Nat → Nat) (mi : Nat → Nat) (fa : Int32) (mt : Int64) (k : Nat) (h1 : k < 9) : Met l yX7_isFreeAtHome wsX7_isFreeAtHome (ly_rm 2) (ly_Pre D (ly_tys cI cC cZ cN) [((oA 0), .inr (7, [.int 0, .long mt, .ref (oA 2), .int (nI (mi 3)), .int (nI (mi 4)), .int (nI (mi 5)), .int (nI (mi 6)), .int (nI (mi 7)), .int fa, .ref (oA 9), .ref (oA 10), .ref (oA 11), .ref (oA 12), .ref (oA 13), .ref (oA 14), .ref (oA 15), .ref (oA 16), .ref (oA 17), .ref (oA 18), .int (nI (mi 19)), .ref (oA 20), .ref (oA 21), .ref (oA 22), .ref (oA 23), .int (nI (mi 24)), .ref (oA 25), .ref (oA 26), .ref (oA 27), .int (nI (mi 28)), .ref (oA 29), .ref (oA 30), .int (nI (mi 31)), .ref (oA 32), .int (nI (mi 33)), .int (nI (mi 34))])), ((oA 20), .inl (cI, 23, .inl (fun j => nI ((M 20) j))))] [.ref (oA 0), .int (nI k)]) (QcRead (m_free M k)) 0 0 (fun _ => False) := by
  refine Met.ofW (cc := cX7_isFreeAtHome) (maxL := 2) (ret := (some .boolean)) (by decide) rfl ?_
  intro p e s m args below meth c s₁ B hml hv
  obtain ⟨rfl, hP, hK, hN⟩ := hv
  have hx := B.exec
  have hb := B.bytes
  have hr := B.returns
  have hts := atoms_spec (ws := wsX7_isFreeAtHome) B.pre
  have hown : s.vm.findClass RX7 = some m.cls := findClass_of_methodNamed B.named
  have hlocks := B.notSynchronized
  have hl := lv_entry ([.ref (oA 0), .int (nI k)]) (n := 2) (Nat.le_of_ble_eq_true rfl)
  rw [lg_entry_eq]
  generalize (lg_sl ([.ref (oA 0), .int (nI k)]) ++ List.replicate (2 - (lg_sl ([.ref (oA 0), .int (nI k)])).length) Slot.unset).toArray = ls at hl ⊢
  have hl : lv_has ls 2 [(0, .ref (oA 0)), (1, .int (nI k))] := hl
  generalize ([.ref (oA 0), .int (nI k)] : List Value).toArray = av at hts ⊢
  obtain ⟨Qc, hQc⟩ : ∃ Qc, Qc = (QcRead (m_free M k)) := ⟨_, rfl⟩
  rw [← hQc]
  have f43 := hts (.fieldLink RX7 43 "KneesLentModel" "s" "[I") (by decide +kernel)
  have hiX7 : ∀ w ∈ u_ws RX7 TX7 35, w ∈ wsX7_isFreeAtHome := by decide +kernel
  refine lv_aload_n hx hb dX7_isFreeAtHome_0 rfl (lv_at hl 0 rfl) ?_
  refine va_get (D := D) (ci := 7) (v := .ref (oA 20)) (C := RX7) (T := TX7) (N := 35) hx hb hts hiX7 hown hK hP 0 rfl rfl 20 (by decide) f43 (fun _ h9 => h9) rfl dX7_isFreeAtHome_1 ?_
  refine lv_iconst (v := 1) hx hb dX7_isFreeAtHome_4 (by decide) ?_
  refine lv_iload_n hx hb dX7_isFreeAtHome_5 rfl (lv_at hl 1 rfl) ?_
  refine lv_iadd hx hb dX7_isFreeAtHome_6 ?_
  refine ly_eqi (show (1 + (nI k)) = (nI (1 + k)) from ly_add rfl rfl) ?_
  refine ly_iald hx hb hK hP 1 0 rfl rfl (k := 1 + k) (by decide) rfl (by omega) dX7_isFreeAtHome_7 ?_
  refine lv_if_ne (tgt := 23) hx hb dX7_isFreeAtHome_8 (by decide) (fun c_1 => ?_) (fun c_1 => ?_)
  · refine lv_iconst (v := 0) hx hb dX7_isFreeAtHome_23 (by decide) ?_
    exact W.zret (v := 0) hx hb hr rfl (fun t_9 ht_9 _ => by rw [hQc]; exact ⟨(by unfold m_free; rw [if_neg c_1]), ht_9⟩) t_nil dX7_isFreeAtHome_24
  · refine lv_aload_n hx hb dX7_isFreeAtHome_11 rfl (lv_at hl 0 rfl) ?_
    refine lv_iload_n hx hb dX7_isFreeAtHome_12 rfl (lv_at hl 1 rfl) ?_
    have hPc_13 := hP.sub (ws' := [((oA 0), .inr (7, [.int 0, .long mt, .ref (oA 2), .int (nI (mi 3)), .int (nI (mi 4)), .int (nI (mi 5)), .int (nI (mi 6)), .int (nI (mi 7)), .int fa, .ref (oA 9), .ref (oA 10), .ref (oA 11), .ref (oA 12), .ref (oA 13), .ref (oA 14), .ref (oA 15), .ref (oA 16), .ref (oA 17), .ref (oA 18), .int (nI (mi 19)), .ref (oA 20), .ref (oA 21), .ref (oA 22), .ref (oA 23), .int (nI (mi 24)), .ref (oA 25), .ref (oA 26), .ref (oA 27), .int (nI (mi 28)), .ref (oA 29), .ref (oA 30), .int (nI (mi 31)), .ref (oA 32), .int (nI (mi 33)), .int (nI (mi 34))])), ((oA 20), .inl (cI, 23, .inl (fun j => nI ((M 20) j))))]) [0, 1] rfl
    refine ly_r (va_runV (As := [.int (nI k)]) (rest := []) ⟨hx, hb, hml, hown, hts⟩ (c_X7_isPledged l D cI cC cZ cN oA M mi fa mt k (by omega)) (cwV 1 hts gX7_isFreeAtHome_X7_isPledged rfl rfl rfl (by decide +kernel) ⟨Nat.le_of_ble_eq_true rfl, Nat.le_of_ble_eq_true rfl⟩) (ly_pv hK hN hPc_13 0 7 rfl rfl rfl) rfl rfl hl.1 rfl (lv_room (Nat.le_of_ble_eq_true rfl)) dX7_isFreeAtHome_13 ⟨Nat.zero_le _, Nat.zero_le _⟩) ?_
    refine lv_if_ne (tgt := 23) hx hb dX7_isFreeAtHome_16 (by decide) (fun c_2 => ?_) (fun c_2 => ?_)
    · refine lv_iconst (v := 0) hx hb dX7_isFreeAtHome_23 (by decide) ?_
      exact W.zret (v := 0) hx hb hr rfl (fun t_9 ht_9 _ => by rw [hQc]; exact ⟨(by unfold m_free; rw [if_pos c_1, if_neg c_2]), ht_9⟩) t_nil dX7_isFreeAtHome_24
    · refine lv_iconst (v := 1) hx hb dX7_isFreeAtHome_19 (by decide) ?_
      refine lv_goto (tgt := 24) hx hb dX7_isFreeAtHome_20 (by decide) ?_
      exact W.zret (v := 1) hx hb hr rfl (fun t_9 ht_9 _ => by rw [hQc]; exact ⟨(by unfold m_free; rw [if_pos c_1, if_pos c_2]), ht_9⟩) t_nil dX7_isFreeAtHome_24

def m_restB (M : Nat → Nat → Nat) (i : Nat) (v0 : Nat) : Nat := (if (m_free M i) = 0 then v0 else (if (ly_h v0) = (-9) then (i + 1) else (if (nI ((M 20) (11 + (v0 - 1)))) ≤ (nI ((M 20) (11 + i))) then v0 else (i + 1))))
def m_rest (M : Nat → Nat → Nat) : Nat → Nat
  | 0 => 0
  | i + 1 => m_restB M i (m_rest M i)
theorem m_rest_le (M : Nat → Nat → Nat) : ∀ i, m_rest M i ≤ i
  | 0 => Nat.le_refl _
  | i + 1 => by
    have ih := m_rest_le M i
    show m_restB M i (m_rest M i) ≤ i + 1
    unfold m_restB
    split
    · omega
    · split
      · omega
      · split <;> omega
set_option maxHeartbeats 4000000 in
set_option maxRecDepth 100000 in
theorem c_X7_rest (l : Launch) (D : va_G) (cI cC cZ cN : ClassId) (oA : Nat → Nat) (M : Nat → Nat → Nat) (mi : Nat → Nat) (fa : Int32) (mt : Int64) (hn : M 9 0 ≤ 9) : Met l yX7_rest wsX7_rest (ly_rm 3) (ly_Pre D (ly_tys cI cC cZ cN) [((oA 0), .inr (7, [.int 0, .long mt, .ref (oA 2), .int (nI (mi 3)), .int (nI (mi 4)), .int (nI (mi 5)), .int (nI (mi 6)), .int (nI (mi 7)), .int fa, .ref (oA 9), .ref (oA 10), .ref (oA 11), .ref (oA 12), .ref (oA 13), .ref (oA 14), .ref (oA 15), .ref (oA 16), .ref (oA 17), .ref (oA 18), .int (nI (mi 19)), .ref (oA 20), .ref (oA 21), .ref (oA 22), .ref (oA 23), .int (nI (mi 24)), .ref (oA 25), .ref (oA 26), .ref (oA 27), .int (nI (mi 28)), .ref (oA 29), .ref (oA 30), .int (nI (mi 31)), .ref (oA 32), .int (nI (mi 33)), .int (nI (mi 34))])), ((oA 9), .inl (cI, 4, .inl (fun j => nI ((M 9) j)))), ((oA 20), .inl (cI, 23, .inl (fun j => nI ((M 20) j))))] [.ref (oA 0)]) (QcRead (ly_h (m_rest M (M 9 0)))) 0 0 (fun _ => False) := by
  refine Met.ofW (cc := cX7_rest) (maxL := 3) (ret := (some .int)) (by decide) rfl ?_
  intro p e s m args below meth c s₁ B hml hv
  obtain ⟨rfl, hP, hK, hN⟩ := hv
  have hx := B.exec
  have hb := B.bytes
  have hr := B.returns
  have hts := atoms_spec (ws := wsX7_rest) B.pre
  have hown : s.vm.findClass RX7 = some m.cls := findClass_of_methodNamed B.named
  have hlocks := B.notSynchronized
  have hl := lv_entry ([.ref (oA 0)]) (n := 3) (Nat.le_of_ble_eq_true rfl)
  rw [lg_entry_eq]
  generalize (lg_sl ([.ref (oA 0)]) ++ List.replicate (3 - (lg_sl ([.ref (oA 0)])).length) Slot.unset).toArray = ls at hl ⊢
  have hl : lv_has ls 3 [(0, .ref (oA 0))] := hl
  generalize ([.ref (oA 0)] : List Value).toArray = av at hts ⊢
  obtain ⟨Qc, hQc⟩ : ∃ Qc, Qc = (QcRead (ly_h (m_rest M (M 9 0)))) := ⟨_, rfl⟩
  rw [← hQc]
  have f13 := hts (.fieldLink RX7 13 "KneesLentModel" "many" "[I") (by decide +kernel)
  have f43 := hts (.fieldLink RX7 43 "KneesLentModel" "s" "[I") (by decide +kernel)
  have hiX7 : ∀ w ∈ u_ws RX7 TX7 35, w ∈ wsX7_rest := by decide +kernel
  refine lv_bipush (v := (-9)) hx hb dX7_rest_0 (by decide) ?_
  refine lv_istore_n (lv' := [(1, .int (-9)), (0, .ref (oA 0))]) hx hb dX7_rest_2 rfl hl (by decide) rfl (fun ls hl => ?_)
  refine lv_iconst (v := 0) hx hb dX7_rest_3 (by decide) ?_
  refine lv_istore_n (lv' := [(2, .int 0), (1, .int (-9)), (0, .ref (oA 0))]) hx hb dX7_rest_4 rfl hl (by decide) rfl (fun ls hl => ?_)
  have hloop_5 : ∀ (k i : Nat), i + k = M 9 0 → ∀ ls : Array Slot, lv_has ls 3 [(2, .int (nI i)), (1, .int (ly_h (m_rest M i))), (0, .ref (oA 0))] → W p l e (headSpec wsX7_rest (ly_rm 3)).room s m av below meth c s.heap [] 0 0 (MQ below Qc av s 0 0 (fun _ => False)) (F0 m 5 ls []) := by
    intro k
    induction k with
    | zero =>
      intro i hi_5 ls hl
      obtain rfl : M 9 0 = i := by omega
      refine lv_iload_n hx hb dX7_rest_5 rfl (lv_at hl 0 rfl) ?_
      refine lv_aload_n hx hb dX7_rest_6 rfl (lv_at hl 2 rfl) ?_
      refine va_get (D := D) (ci := 7) (v := .ref (oA 9)) (C := RX7) (T := TX7) (N := 35) hx hb hts hiX7 hown hK hP 0 rfl rfl 9 (by decide) f13 (fun _ h9 => h9) rfl dX7_rest_7 ?_
      refine lv_iconst (v := 0) hx hb dX7_rest_10 (by decide) ?_
      refine ly_iald hx hb hK hP 1 0 rfl rfl (k := 0) (by decide) rfl (by omega) dX7_rest_11 ?_
      refine lv_icmp_ge (tgt := 62) hx hb dX7_rest_12 (by decide) (fun _ => ?_) (fun h_9 => absurd (nI_le (Nat.le_refl _) (by omega)) h_9)
      refine lv_iload_n hx hb dX7_rest_62 rfl (lv_at hl 1 rfl) ?_
      exact W.iret (v := (ly_h (m_rest M (M 9 0)))) hx hb hr (fun t_9 ht_9 _ => by rw [hQc]; exact ⟨rfl, ht_9⟩) t_nil dX7_rest_63
    | succ k ih_5 =>
      intro i hi_5 ls hl
      have hv := m_rest_le M i
      refine lv_iload_n hx hb dX7_rest_5 rfl (lv_at hl 0 rfl) ?_
      refine lv_aload_n hx hb dX7_rest_6 rfl (lv_at hl 2 rfl) ?_
      refine va_get (D := D) (ci := 7) (v := .ref (oA 9)) (C := RX7) (T := TX7) (N := 35) hx hb hts hiX7 hown hK hP 0 rfl rfl 9 (by decide) f13 (fun _ h9 => h9) rfl dX7_rest_7 ?_
      refine lv_iconst (v := 0) hx hb dX7_rest_10 (by decide) ?_
      refine ly_iald hx hb hK hP 1 0 rfl rfl (k := 0) (by decide) rfl (by omega) dX7_rest_11 ?_
      refine lv_icmp_ge (tgt := 62) hx hb dX7_rest_12 (by decide) (fun h_9 => absurd h_9 (nI_ge (by omega) (by omega))) (fun _ => ?_)
      refine lv_aload_n hx hb dX7_rest_15 rfl (lv_at hl 2 rfl) ?_
      refine lv_iload_n hx hb dX7_rest_16 rfl (lv_at hl 0 rfl) ?_
      have hPc_17 := hP.sub (ws' := [((oA 0), .inr (7, [.int 0, .long mt, .ref (oA 2), .int (nI (mi 3)), .int (nI (mi 4)), .int (nI (mi 5)), .int (nI (mi 6)), .int (nI (mi 7)), .int fa, .ref (oA 9), .ref (oA 10), .ref (oA 11), .ref (oA 12), .ref (oA 13), .ref (oA 14), .ref (oA 15), .ref (oA 16), .ref (oA 17), .ref (oA 18), .int (nI (mi 19)), .ref (oA 20), .ref (oA 21), .ref (oA 22), .ref (oA 23), .int (nI (mi 24)), .ref (oA 25), .ref (oA 26), .ref (oA 27), .int (nI (mi 28)), .ref (oA 29), .ref (oA 30), .int (nI (mi 31)), .ref (oA 32), .int (nI (mi 33)), .int (nI (mi 34))])), ((oA 20), .inl (cI, 23, .inl (fun j => nI ((M 20) j))))]) [0, 2] rfl
      refine ly_r (va_runV (As := [.int (nI i)]) (rest := []) ⟨hx, hb, hml, hown, hts⟩ (c_X7_isFreeAtHome l D cI cC cZ cN oA M mi fa mt i (by omega)) (cwV 1 hts gX7_rest_X7_isFreeAtHome rfl rfl rfl (by decide +kernel) ⟨Nat.le_of_ble_eq_true rfl, Nat.le_of_ble_eq_true rfl⟩) (ly_pv hK hN hPc_17 0 7 rfl rfl rfl) rfl rfl hl.1 rfl (lv_room (Nat.le_of_ble_eq_true rfl)) dX7_rest_17 ⟨Nat.zero_le _, Nat.zero_le _⟩) ?_
      refine lv_if_eq (tgt := 54) hx hb dX7_rest_20 (by decide) (fun c_1 => ?_) (fun c_1 => ?_)
      · refine lv_iload_n hx hb dX7_rest_54 rfl (lv_at hl 1 rfl) ?_
        refine lv_istore_n (lv' := [(1, .int (ly_h (m_rest M i))), (2, .int (nI i)), (0, .ref (oA 0))]) hx hb dX7_rest_55 rfl hl (by decide) rfl (fun ls hl => ?_)
        refine lv_iinc (v := (nI (i + 1))) (lv' := [(2, .int (nI (i + 1))), (1, .int (ly_h (m_rest M i))), (0, .ref (oA 0))]) hx hb dX7_rest_56 hl (k := 1) rfl (ly_add rfl rfl) (by decide) rfl (fun ls hl => ?_)
        refine lv_goto (tgt := 5) hx hb dX7_rest_59 (by decide) ?_
        have e_2 : m_rest M (i + 1) = (m_rest M i) := by show m_restB M i (m_rest M i) = _; unfold m_restB; rw [if_pos c_1]
        exact ih_5 (i + 1) (by omega) ls (by rw [e_2]; exact lv_sub hl [0, 1, 2] rfl)
      · refine lv_iload_n hx hb dX7_rest_23 rfl (lv_at hl 1 rfl) ?_
        refine lv_bipush (v := (-9)) hx hb dX7_rest_24 (by decide) ?_
        refine lv_icmp_eq (tgt := 50) hx hb dX7_rest_26 (by decide) (fun c_3 => ?_) (fun c_3 => ?_)
        · refine lv_iload_n hx hb dX7_rest_50 rfl (lv_at hl 0 rfl) ?_
          refine lv_goto (tgt := 55) hx hb dX7_rest_51 (by decide) ?_
          refine lv_istore_n (lv' := [(1, .int (nI i)), (2, .int (nI i)), (0, .ref (oA 0))]) hx hb dX7_rest_55 rfl hl (by decide) rfl (fun ls hl => ?_)
          refine lv_iinc (v := (nI (i + 1))) (lv' := [(2, .int (nI (i + 1))), (1, .int (nI i)), (0, .ref (oA 0))]) hx hb dX7_rest_56 hl (k := 1) rfl (ly_add rfl rfl) (by decide) rfl (fun ls hl => ?_)
          refine lv_goto (tgt := 5) hx hb dX7_rest_59 (by decide) ?_
          have e_4 : m_rest M (i + 1) = (i + 1) := by show m_restB M i (m_rest M i) = _; unfold m_restB; rw [if_neg c_1, if_pos c_3]
          exact ih_5 (i + 1) (by omega) ls (by rw [e_4]; exact lv_sub hl [0, 1, 2] rfl)
        · refine lv_aload_n hx hb dX7_rest_29 rfl (lv_at hl 2 rfl) ?_
          refine va_get (D := D) (ci := 7) (v := .ref (oA 20)) (C := RX7) (T := TX7) (N := 35) hx hb hts hiX7 hown hK hP 0 rfl rfl 20 (by decide) f43 (fun _ h9 => h9) rfl dX7_rest_30 ?_
          refine lv_bipush (v := 11) hx hb dX7_rest_33 (by decide) ?_
          refine lv_iload_n hx hb dX7_rest_35 rfl (lv_at hl 0 rfl) ?_
          refine lv_iadd hx hb dX7_rest_36 ?_
          refine ly_eqi (show (11 + (nI i)) = (nI (11 + i)) from ly_add rfl rfl) ?_
          refine ly_iald hx hb hK hP 2 0 rfl rfl (k := 11 + i) (by decide) rfl (by omega) dX7_rest_37 ?_
          refine lv_aload_n hx hb dX7_rest_38 rfl (lv_at hl 2 rfl) ?_
          refine va_get (D := D) (ci := 7) (v := .ref (oA 20)) (C := RX7) (T := TX7) (N := 35) hx hb hts hiX7 hown hK hP 0 rfl rfl 20 (by decide) f43 (fun _ h9 => h9) rfl dX7_rest_39 ?_
          refine lv_bipush (v := 11) hx hb dX7_rest_42 (by decide) ?_
          refine lv_iload_n hx hb dX7_rest_44 rfl (lv_at hl 1 rfl) ?_
          refine lv_iadd hx hb dX7_rest_45 ?_
          refine ly_iald hx hb hK hP 2 0 rfl rfl (k := (11 + ((m_rest M i) - 1))) (by decide) (ly_add rfl (ly_h_ne c_3)) (by omega) dX7_rest_46 ?_
          refine lv_icmp_ge (tgt := 54) hx hb dX7_rest_47 (by decide) (fun c_5 => ?_) (fun c_5 => ?_)
          · refine lv_iload_n hx hb dX7_rest_54 rfl (lv_at hl 1 rfl) ?_
            refine lv_istore_n (lv' := [(1, .int (ly_h (m_rest M i))), (2, .int (nI i)), (0, .ref (oA 0))]) hx hb dX7_rest_55 rfl hl (by decide) rfl (fun ls hl => ?_)
            refine lv_iinc (v := (nI (i + 1))) (lv' := [(2, .int (nI (i + 1))), (1, .int (ly_h (m_rest M i))), (0, .ref (oA 0))]) hx hb dX7_rest_56 hl (k := 1) rfl (ly_add rfl rfl) (by decide) rfl (fun ls hl => ?_)
            refine lv_goto (tgt := 5) hx hb dX7_rest_59 (by decide) ?_
            have e_6 : m_rest M (i + 1) = (m_rest M i) := by show m_restB M i (m_rest M i) = _; unfold m_restB; rw [if_neg c_1, if_neg c_3, if_pos c_5]
            exact ih_5 (i + 1) (by omega) ls (by rw [e_6]; exact lv_sub hl [0, 1, 2] rfl)
          · refine lv_iload_n hx hb dX7_rest_50 rfl (lv_at hl 0 rfl) ?_
            refine lv_goto (tgt := 55) hx hb dX7_rest_51 (by decide) ?_
            refine lv_istore_n (lv' := [(1, .int (nI i)), (2, .int (nI i)), (0, .ref (oA 0))]) hx hb dX7_rest_55 rfl hl (by decide) rfl (fun ls hl => ?_)
            refine lv_iinc (v := (nI (i + 1))) (lv' := [(2, .int (nI (i + 1))), (1, .int (nI i)), (0, .ref (oA 0))]) hx hb dX7_rest_56 hl (k := 1) rfl (ly_add rfl rfl) (by decide) rfl (fun ls hl => ?_)
            refine lv_goto (tgt := 5) hx hb dX7_rest_59 (by decide) ?_
            have e_7 : m_rest M (i + 1) = (i + 1) := by show m_restB M i (m_rest M i) = _; unfold m_restB; rw [if_neg c_1, if_neg c_3, if_neg c_5]
            exact ih_5 (i + 1) (by omega) ls (by rw [e_7]; exact lv_sub hl [0, 1, 2] rfl)
  exact hloop_5 (M 9 0) 0 (by omega) ls (lv_sub hl [0, 1, 2] rfl)

def m_lentB (M : Nat → Nat → Nat) (i : Nat) (v0 : Nat) : Nat := (if (nI ((M 20) (1 + i))) ≤ 0 then v0 + 0 else v0 + 1)
def m_lent (M : Nat → Nat → Nat) : Nat → Nat
  | 0 => 0
  | i + 1 => m_lentB M i (m_lent M i)
set_option maxHeartbeats 4000000 in
set_option maxRecDepth 100000 in
theorem c_X7_lentMany (l : Launch) (D : va_G) (cI cC cZ cN : ClassId) (oA : Nat → Nat) (M : Nat → Nat → Nat) (mi : Nat → Nat) (fa : Int32) (mt : Int64)  : Met l yX7_lentMany wsX7_lentMany (ly_rm 1) (ly_Pre D (ly_tys cI cC cZ cN) [((oA 0), .inr (7, [.int 0, .long mt, .ref (oA 2), .int (nI (mi 3)), .int (nI (mi 4)), .int (nI (mi 5)), .int (nI (mi 6)), .int (nI (mi 7)), .int fa, .ref (oA 9), .ref (oA 10), .ref (oA 11), .ref (oA 12), .ref (oA 13), .ref (oA 14), .ref (oA 15), .ref (oA 16), .ref (oA 17), .ref (oA 18), .int (nI (mi 19)), .ref (oA 20), .ref (oA 21), .ref (oA 22), .ref (oA 23), .int (nI (mi 24)), .ref (oA 25), .ref (oA 26), .ref (oA 27), .int (nI (mi 28)), .ref (oA 29), .ref (oA 30), .int (nI (mi 31)), .ref (oA 32), .int (nI (mi 33)), .int (nI (mi 34))])), ((oA 20), .inl (cI, 23, .inl (fun j => nI ((M 20) j))))] [.ref (oA 0)]) (QcRead (nI (m_lent M 9))) 0 0 (fun _ => False) := by
  refine Met.ofW (cc := cX7_lentMany) (maxL := 3) (ret := (some .int)) (by decide) rfl ?_
  intro p e s m args below meth c s₁ B hml hv
  obtain ⟨rfl, hP, hK, hN⟩ := hv
  have hx := B.exec
  have hb := B.bytes
  have hr := B.returns
  have hts := atoms_spec (ws := wsX7_lentMany) B.pre
  have hown : s.vm.findClass RX7 = some m.cls := findClass_of_methodNamed B.named
  have hlocks := B.notSynchronized
  have hl := lv_entry ([.ref (oA 0)]) (n := 3) (Nat.le_of_ble_eq_true rfl)
  rw [lg_entry_eq]
  generalize (lg_sl ([.ref (oA 0)]) ++ List.replicate (3 - (lg_sl ([.ref (oA 0)])).length) Slot.unset).toArray = ls at hl ⊢
  have hl : lv_has ls 3 [(0, .ref (oA 0))] := hl
  generalize ([.ref (oA 0)] : List Value).toArray = av at hts ⊢
  obtain ⟨Qc, hQc⟩ : ∃ Qc, Qc = (QcRead (nI (m_lent M 9))) := ⟨_, rfl⟩
  rw [← hQc]
  have f43 := hts (.fieldLink RX7 43 "KneesLentModel" "s" "[I") (by decide +kernel)
  have hiX7 : ∀ w ∈ u_ws RX7 TX7 35, w ∈ wsX7_lentMany := by decide +kernel
  refine lv_iconst (v := 0) hx hb dX7_lentMany_0 (by decide) ?_
  refine lv_istore_n (lv' := [(1, .int 0), (0, .ref (oA 0))]) hx hb dX7_lentMany_1 rfl hl (by decide) rfl (fun ls hl => ?_)
  refine lv_iconst (v := 0) hx hb dX7_lentMany_2 (by decide) ?_
  refine lv_istore_n (lv' := [(2, .int 0), (1, .int 0), (0, .ref (oA 0))]) hx hb dX7_lentMany_3 rfl hl (by decide) rfl (fun ls hl => ?_)
  have hloop_4 : ∀ (k i : Nat), i + k = 9 → ∀ ls : Array Slot, lv_has ls 3 [(2, .int (nI i)), (1, .int (nI (m_lent M i))), (0, .ref (oA 0))] → W p l e (headSpec wsX7_lentMany (ly_rm 1)).room s m av below meth c s.heap [] 0 0 (MQ below Qc av s 0 0 (fun _ => False)) (F0 m 4 ls []) := by
    intro k
    induction k with
    | zero =>
      intro i hi_4 ls hl
      obtain rfl : 9 = i := by omega
      refine lv_iload_n hx hb dX7_lentMany_4 rfl (lv_at hl 0 rfl) ?_
      refine lv_bipush (v := 9) hx hb dX7_lentMany_5 (by decide) ?_
      refine lv_icmp_ge (tgt := 35) hx hb dX7_lentMany_7 (by decide) (fun _ => ?_) (fun h_9 => absurd (nI_le (a := 9) (b := 9) (by omega) (by omega)) h_9)
      refine lv_iload_n hx hb dX7_lentMany_35 rfl (lv_at hl 1 rfl) ?_
      exact W.iret (v := (nI (m_lent M 9))) hx hb hr (fun t_9 ht_9 _ => by rw [hQc]; exact ⟨rfl, ht_9⟩) t_nil dX7_lentMany_36
    | succ k ih_4 =>
      intro i hi_4 ls hl
      refine lv_iload_n hx hb dX7_lentMany_4 rfl (lv_at hl 0 rfl) ?_
      refine lv_bipush (v := 9) hx hb dX7_lentMany_5 (by decide) ?_
      refine lv_icmp_ge (tgt := 35) hx hb dX7_lentMany_7 (by decide) (fun h_9 => absurd h_9 (nI_ge (a := i) (b := 9) (by omega) (by omega))) (fun _ => ?_)
      refine lv_iload_n hx hb dX7_lentMany_10 rfl (lv_at hl 1 rfl) ?_
      refine lv_aload_n hx hb dX7_lentMany_11 rfl (lv_at hl 2 rfl) ?_
      refine va_get (D := D) (ci := 7) (v := .ref (oA 20)) (C := RX7) (T := TX7) (N := 35) hx hb hts hiX7 hown hK hP 0 rfl rfl 20 (by decide) f43 (fun _ h9 => h9) rfl dX7_lentMany_12 ?_
      refine lv_iconst (v := 1) hx hb dX7_lentMany_15 (by decide) ?_
      refine lv_iload_n hx hb dX7_lentMany_16 rfl (lv_at hl 0 rfl) ?_
      refine lv_iadd hx hb dX7_lentMany_17 ?_
      refine ly_eqi (show (1 + (nI i)) = (nI (1 + i)) from ly_add rfl rfl) ?_
      refine ly_iald hx hb hK hP 1 0 rfl rfl (k := 1 + i) (by decide) rfl (by omega) dX7_lentMany_18 ?_
      refine lv_if_le (tgt := 26) hx hb dX7_lentMany_19 (by decide) (fun c_1 => ?_) (fun c_1 => ?_)
      · refine lv_iconst (v := 0) hx hb dX7_lentMany_26 (by decide) ?_
        refine lv_iadd hx hb dX7_lentMany_27 ?_
        refine ly_eqi (show ((nI (m_lent M i)) + 0) = (nI ((m_lent M i) + 0)) from ly_add rfl rfl) ?_
        refine lv_istore_n (lv' := [(1, .int (nI ((m_lent M i) + 0))), (2, .int (nI i)), (0, .ref (oA 0))]) hx hb dX7_lentMany_28 rfl hl (by decide) rfl (fun ls hl => ?_)
        refine lv_iinc (v := (nI (i + 1))) (lv' := [(2, .int (nI (i + 1))), (1, .int (nI ((m_lent M i) + 0))), (0, .ref (oA 0))]) hx hb dX7_lentMany_29 hl (k := 1) rfl (ly_add rfl rfl) (by decide) rfl (fun ls hl => ?_)
        refine lv_goto (tgt := 4) hx hb dX7_lentMany_32 (by decide) ?_
        have e_2 : m_lent M (i + 1) = (m_lent M i) + 0 := by show m_lentB M i (m_lent M i) = _; unfold m_lentB; rw [if_pos c_1]
        exact ih_4 (i + 1) (by omega) ls (by rw [e_2]; exact lv_sub hl [0, 1, 2] rfl)
      · refine lv_iconst (v := 1) hx hb dX7_lentMany_22 (by decide) ?_
        refine lv_goto (tgt := 27) hx hb dX7_lentMany_23 (by decide) ?_
        refine lv_iadd hx hb dX7_lentMany_27 ?_
        refine ly_eqi (show ((nI (m_lent M i)) + 1) = (nI ((m_lent M i) + 1)) from ly_add rfl rfl) ?_
        refine lv_istore_n (lv' := [(1, .int (nI ((m_lent M i) + 1))), (2, .int (nI i)), (0, .ref (oA 0))]) hx hb dX7_lentMany_28 rfl hl (by decide) rfl (fun ls hl => ?_)
        refine lv_iinc (v := (nI (i + 1))) (lv' := [(2, .int (nI (i + 1))), (1, .int (nI ((m_lent M i) + 1))), (0, .ref (oA 0))]) hx hb dX7_lentMany_29 hl (k := 1) rfl (ly_add rfl rfl) (by decide) rfl (fun ls hl => ?_)
        refine lv_goto (tgt := 4) hx hb dX7_lentMany_32 (by decide) ?_
        have e_3 : m_lent M (i + 1) = (m_lent M i) + 1 := by show m_lentB M i (m_lent M i) = _; unfold m_lentB; rw [if_neg c_1]
        exact ih_4 (i + 1) (by omega) ls (by rw [e_3]; exact lv_sub hl [0, 1, 2] rfl)
  exact hloop_4 9 0 (by omega) ls (lv_sub hl [0, 1, 2] rfl)

def m_mayGo (M : Nat → Nat → Nat) (k q : Nat) : Int32 := (if (m_wants M q ((M 10) k)) = 0 then 0 else (if (m_free M k) = 0 then 0 else (if (nI ((M 20) (11 + k))) < (nI ((M 14) q + 2 * ((M 15) q))) then 0 else 1)))
set_option maxHeartbeats 4000000 in
set_option maxRecDepth 100000 in
theorem c_X7_mayGo (l : Launch) (D : va_G) (cI cC cZ cN : ClassId) (oA : Nat → Nat) (M : Nat → Nat → Nat) (mi : Nat → Nat) (fa : Int32) (mt : Int64) (k q : Nat) (h1 : k < 9) (h2 : q < 6) : Met l yX7_mayGo wsX7_mayGo (ly_rm 3) (ly_Pre D (ly_tys cI cC cZ cN) [((oA 0), .inr (7, [.int 0, .long mt, .ref (oA 2), .int (nI (mi 3)), .int (nI (mi 4)), .int (nI (mi 5)), .int (nI (mi 6)), .int (nI (mi 7)), .int fa, .ref (oA 9), .ref (oA 10), .ref (oA 11), .ref (oA 12), .ref (oA 13), .ref (oA 14), .ref (oA 15), .ref (oA 16), .ref (oA 17), .ref (oA 18), .int (nI (mi 19)), .ref (oA 20), .ref (oA 21), .ref (oA 22), .ref (oA 23), .int (nI (mi 24)), .ref (oA 25), .ref (oA 26), .ref (oA 27), .int (nI (mi 28)), .ref (oA 29), .ref (oA 30), .int (nI (mi 31)), .ref (oA 32), .int (nI (mi 33)), .int (nI (mi 34))])), ((oA 10), .inl (cI, 18, .inl (fun j => nI ((M 10) j)))), ((oA 13), .inl (cI, 12, .inl (fun j => nI ((M 13) j)))), ((oA 20), .inl (cI, 23, .inl (fun j => nI ((M 20) j)))), ((oA 14), .inl (cI, 12, .inl (fun j => nI ((M 14) j)))), ((oA 15), .inl (cI, 12, .inl (fun j => nI ((M 15) j))))] [.ref (oA 0), .int (nI k), .int (nI q)]) (QcRead (m_mayGo M k q)) 0 0 (fun _ => False) := by
  refine Met.ofW (cc := cX7_mayGo) (maxL := 3) (ret := (some .boolean)) (by decide) rfl ?_
  intro p e s m args below meth c s₁ B hml hv
  obtain ⟨rfl, hP, hK, hN⟩ := hv
  have hx := B.exec
  have hb := B.bytes
  have hr := B.returns
  have hts := atoms_spec (ws := wsX7_mayGo) B.pre
  have hown : s.vm.findClass RX7 = some m.cls := findClass_of_methodNamed B.named
  have hlocks := B.notSynchronized
  have hl := lv_entry ([.ref (oA 0), .int (nI k), .int (nI q)]) (n := 3) (Nat.le_of_ble_eq_true rfl)
  rw [lg_entry_eq]
  generalize (lg_sl ([.ref (oA 0), .int (nI k), .int (nI q)]) ++ List.replicate (3 - (lg_sl ([.ref (oA 0), .int (nI k), .int (nI q)])).length) Slot.unset).toArray = ls at hl ⊢
  have hl : lv_has ls 3 [(0, .ref (oA 0)), (1, .int (nI k)), (2, .int (nI q))] := hl
  generalize ([.ref (oA 0), .int (nI k), .int (nI q)] : List Value).toArray = av at hts ⊢
  obtain ⟨Qc, hQc⟩ : ∃ Qc, Qc = (QcRead (m_mayGo M k q)) := ⟨_, rfl⟩
  rw [← hQc]
  have f16 := hts (.fieldLink RX7 16 "KneesLentModel" "side" "[I") (by decide +kernel)
  have f43 := hts (.fieldLink RX7 43 "KneesLentModel" "s" "[I") (by decide +kernel)
  have f28 := hts (.fieldLink RX7 28 "KneesLentModel" "up" "[I") (by decide +kernel)
  have f31 := hts (.fieldLink RX7 31 "KneesLentModel" "down" "[I") (by decide +kernel)
  have hiX7 : ∀ w ∈ u_ws RX7 TX7 35, w ∈ wsX7_mayGo := by decide +kernel
  refine lv_aload_n hx hb dX7_mayGo_0 rfl (lv_at hl 0 rfl) ?_
  refine lv_iload_n hx hb dX7_mayGo_1 rfl (lv_at hl 2 rfl) ?_
  refine lv_aload_n hx hb dX7_mayGo_2 rfl (lv_at hl 0 rfl) ?_
  refine va_get (D := D) (ci := 7) (v := .ref (oA 10)) (C := RX7) (T := TX7) (N := 35) hx hb hts hiX7 hown hK hP 0 rfl rfl 10 (by decide) f16 (fun _ h9 => h9) rfl dX7_mayGo_3 ?_
  refine lv_iload_n hx hb dX7_mayGo_6 rfl (lv_at hl 1 rfl) ?_
  refine ly_iald hx hb hK hP 1 0 rfl rfl (k := k) (by decide) rfl (by omega) dX7_mayGo_7 ?_
  have hPc_8 := hP.sub (ws' := [((oA 0), .inr (7, [.int 0, .long mt, .ref (oA 2), .int (nI (mi 3)), .int (nI (mi 4)), .int (nI (mi 5)), .int (nI (mi 6)), .int (nI (mi 7)), .int fa, .ref (oA 9), .ref (oA 10), .ref (oA 11), .ref (oA 12), .ref (oA 13), .ref (oA 14), .ref (oA 15), .ref (oA 16), .ref (oA 17), .ref (oA 18), .int (nI (mi 19)), .ref (oA 20), .ref (oA 21), .ref (oA 22), .ref (oA 23), .int (nI (mi 24)), .ref (oA 25), .ref (oA 26), .ref (oA 27), .int (nI (mi 28)), .ref (oA 29), .ref (oA 30), .int (nI (mi 31)), .ref (oA 32), .int (nI (mi 33)), .int (nI (mi 34))])), ((oA 13), .inl (cI, 12, .inl (fun j => nI ((M 13) j))))]) [0, 2] rfl
  refine ly_r (va_runV (As := [.int (nI q), .int (nI ((M 10) k))]) (rest := []) ⟨hx, hb, hml, hown, hts⟩ (c_X7_wants l D cI cC cZ cN oA M mi fa mt q ((M 10) k) (by omega)) (cwV 2 hts gX7_mayGo_X7_wants rfl rfl rfl (by decide +kernel) ⟨Nat.le_of_ble_eq_true rfl, Nat.le_of_ble_eq_true rfl⟩) (ly_pv hK hN hPc_8 0 7 rfl rfl rfl) rfl rfl hl.1 rfl (lv_room (Nat.le_of_ble_eq_true rfl)) dX7_mayGo_8 ⟨Nat.zero_le _, Nat.zero_le _⟩) ?_
  refine lv_if_eq (tgt := 53) hx hb dX7_mayGo_11 (by decide) (fun c_1 => ?_) (fun c_1 => ?_)
  · refine lv_iconst (v := 0) hx hb dX7_mayGo_53 (by decide) ?_
    exact W.zret (v := 0) hx hb hr rfl (fun t_9 ht_9 _ => by rw [hQc]; exact ⟨(by unfold m_mayGo; rw [if_pos c_1]), ht_9⟩) t_nil dX7_mayGo_54
  · refine lv_aload_n hx hb dX7_mayGo_14 rfl (lv_at hl 0 rfl) ?_
    refine lv_iload_n hx hb dX7_mayGo_15 rfl (lv_at hl 1 rfl) ?_
    have hPc_16 := hP.sub (ws' := [((oA 0), .inr (7, [.int 0, .long mt, .ref (oA 2), .int (nI (mi 3)), .int (nI (mi 4)), .int (nI (mi 5)), .int (nI (mi 6)), .int (nI (mi 7)), .int fa, .ref (oA 9), .ref (oA 10), .ref (oA 11), .ref (oA 12), .ref (oA 13), .ref (oA 14), .ref (oA 15), .ref (oA 16), .ref (oA 17), .ref (oA 18), .int (nI (mi 19)), .ref (oA 20), .ref (oA 21), .ref (oA 22), .ref (oA 23), .int (nI (mi 24)), .ref (oA 25), .ref (oA 26), .ref (oA 27), .int (nI (mi 28)), .ref (oA 29), .ref (oA 30), .int (nI (mi 31)), .ref (oA 32), .int (nI (mi 33)), .int (nI (mi 34))])), ((oA 20), .inl (cI, 23, .inl (fun j => nI ((M 20) j))))]) [0, 3] rfl
    refine ly_r (va_runV (As := [.int (nI k)]) (rest := []) ⟨hx, hb, hml, hown, hts⟩ (c_X7_isFreeAtHome l D cI cC cZ cN oA M mi fa mt k (by omega)) (cwV 1 hts gX7_mayGo_X7_isFreeAtHome rfl rfl rfl (by decide +kernel) ⟨Nat.le_of_ble_eq_true rfl, Nat.le_of_ble_eq_true rfl⟩) (ly_pv hK hN hPc_16 0 7 rfl rfl rfl) rfl rfl hl.1 rfl (lv_room (Nat.le_of_ble_eq_true rfl)) dX7_mayGo_16 ⟨Nat.zero_le _, Nat.zero_le _⟩) ?_
    refine lv_if_eq (tgt := 53) hx hb dX7_mayGo_19 (by decide) (fun c_2 => ?_) (fun c_2 => ?_)
    · refine lv_iconst (v := 0) hx hb dX7_mayGo_53 (by decide) ?_
      exact W.zret (v := 0) hx hb hr rfl (fun t_9 ht_9 _ => by rw [hQc]; exact ⟨(by unfold m_mayGo; rw [if_neg c_1, if_pos c_2]), ht_9⟩) t_nil dX7_mayGo_54
    · refine lv_aload_n hx hb dX7_mayGo_22 rfl (lv_at hl 0 rfl) ?_
      refine va_get (D := D) (ci := 7) (v := .ref (oA 20)) (C := RX7) (T := TX7) (N := 35) hx hb hts hiX7 hown hK hP 0 rfl rfl 20 (by decide) f43 (fun _ h9 => h9) rfl dX7_mayGo_23 ?_
      refine lv_bipush (v := 11) hx hb dX7_mayGo_26 (by decide) ?_
      refine lv_iload_n hx hb dX7_mayGo_28 rfl (lv_at hl 1 rfl) ?_
      refine lv_iadd hx hb dX7_mayGo_29 ?_
      refine ly_eqi (show (11 + (nI k)) = (nI (11 + k)) from ly_add rfl rfl) ?_
      refine ly_iald hx hb hK hP 3 0 rfl rfl (k := 11 + k) (by decide) rfl (by omega) dX7_mayGo_30 ?_
      refine lv_aload_n hx hb dX7_mayGo_31 rfl (lv_at hl 0 rfl) ?_
      refine va_get (D := D) (ci := 7) (v := .ref (oA 14)) (C := RX7) (T := TX7) (N := 35) hx hb hts hiX7 hown hK hP 0 rfl rfl 14 (by decide) f28 (fun _ h9 => h9) rfl dX7_mayGo_32 ?_
      refine lv_iload_n hx hb dX7_mayGo_35 rfl (lv_at hl 2 rfl) ?_
      refine ly_iald hx hb hK hP 4 0 rfl rfl (k := q) (by decide) rfl (by omega) dX7_mayGo_36 ?_
      refine lv_iconst (v := 2) hx hb dX7_mayGo_37 (by decide) ?_
      refine lv_aload_n hx hb dX7_mayGo_38 rfl (lv_at hl 0 rfl) ?_
      refine va_get (D := D) (ci := 7) (v := .ref (oA 15)) (C := RX7) (T := TX7) (N := 35) hx hb hts hiX7 hown hK hP 0 rfl rfl 15 (by decide) f31 (fun _ h9 => h9) rfl dX7_mayGo_39 ?_
      refine lv_iload_n hx hb dX7_mayGo_42 rfl (lv_at hl 2 rfl) ?_
      refine ly_iald hx hb hK hP 5 0 rfl rfl (k := q) (by decide) rfl (by omega) dX7_mayGo_43 ?_
      refine lv_imul hx hb dX7_mayGo_44 ?_
      refine ly_eqi (show (2 * (nI ((M 15) q))) = (nI (2 * ((M 15) q))) from ly_mul rfl rfl) ?_
      refine lv_iadd hx hb dX7_mayGo_45 ?_
      refine ly_eqi (show ((nI ((M 14) q)) + (nI (2 * ((M 15) q)))) = (nI ((M 14) q + 2 * ((M 15) q))) from ly_add rfl rfl) ?_
      refine lv_icmp_lt (tgt := 53) hx hb dX7_mayGo_46 (by decide) (fun c_3 => ?_) (fun c_3 => ?_)
      · refine lv_iconst (v := 0) hx hb dX7_mayGo_53 (by decide) ?_
        exact W.zret (v := 0) hx hb hr rfl (fun t_9 ht_9 _ => by rw [hQc]; exact ⟨(by unfold m_mayGo; rw [if_neg c_1, if_neg c_2, if_pos c_3]), ht_9⟩) t_nil dX7_mayGo_54
      · refine lv_iconst (v := 1) hx hb dX7_mayGo_49 (by decide) ?_
        refine lv_goto (tgt := 54) hx hb dX7_mayGo_50 (by decide) ?_
        exact W.zret (v := 1) hx hb hr rfl (fun t_9 ht_9 _ => by rw [hQc]; exact ⟨(by unfold m_mayGo; rw [if_neg c_1, if_neg c_2, if_neg c_3]), ht_9⟩) t_nil dX7_mayGo_54

def m_fits (M : Nat → Nat → Nat) (q o1 k us : Nat) : Int32 := (if (nI k) = 0 then (if (m_wants M q o1) = 0 then 1 else 0) else (if (nI ((M 10) (k - 1))) = (nI o1) then (if (m_mayGo M (k - 1) q) = 0 then 0 else (if (((nI us) >>> ((nI (k - 1)) &&& 31)) &&& 1) = 0 then 1 else 0)) else 0))
set_option maxHeartbeats 4000000 in
set_option maxRecDepth 100000 in
theorem c_X7_fits (l : Launch) (D : va_G) (cI cC cZ cN : ClassId) (oA : Nat → Nat) (M : Nat → Nat → Nat) (mi : Nat → Nat) (fa : Int32) (mt : Int64) (q o1 k us : Nat) (h1 : q < 6) (h2 : k ≤ 9) : Met l yX7_fits wsX7_fits (ly_rm 4) (ly_Pre D (ly_tys cI cC cZ cN) [((oA 0), .inr (7, [.int 0, .long mt, .ref (oA 2), .int (nI (mi 3)), .int (nI (mi 4)), .int (nI (mi 5)), .int (nI (mi 6)), .int (nI (mi 7)), .int fa, .ref (oA 9), .ref (oA 10), .ref (oA 11), .ref (oA 12), .ref (oA 13), .ref (oA 14), .ref (oA 15), .ref (oA 16), .ref (oA 17), .ref (oA 18), .int (nI (mi 19)), .ref (oA 20), .ref (oA 21), .ref (oA 22), .ref (oA 23), .int (nI (mi 24)), .ref (oA 25), .ref (oA 26), .ref (oA 27), .int (nI (mi 28)), .ref (oA 29), .ref (oA 30), .int (nI (mi 31)), .ref (oA 32), .int (nI (mi 33)), .int (nI (mi 34))])), ((oA 10), .inl (cI, 18, .inl (fun j => nI ((M 10) j)))), ((oA 13), .inl (cI, 12, .inl (fun j => nI ((M 13) j)))), ((oA 20), .inl (cI, 23, .inl (fun j => nI ((M 20) j)))), ((oA 14), .inl (cI, 12, .inl (fun j => nI ((M 14) j)))), ((oA 15), .inl (cI, 12, .inl (fun j => nI ((M 15) j))))] [.ref (oA 0), .int (nI q), .int (nI o1), .int (nI k), .int (nI us)]) (QcRead (m_fits M q o1 k us)) 0 0 (fun _ => False) := by
  refine Met.ofW (cc := cX7_fits) (maxL := 5) (ret := (some .boolean)) (by decide) rfl ?_
  intro p e s m args below meth c s₁ B hml hv
  obtain ⟨rfl, hP, hK, hN⟩ := hv
  have hx := B.exec
  have hb := B.bytes
  have hr := B.returns
  have hts := atoms_spec (ws := wsX7_fits) B.pre
  have hown : s.vm.findClass RX7 = some m.cls := findClass_of_methodNamed B.named
  have hlocks := B.notSynchronized
  have hl := lv_entry ([.ref (oA 0), .int (nI q), .int (nI o1), .int (nI k), .int (nI us)]) (n := 5) (Nat.le_of_ble_eq_true rfl)
  rw [lg_entry_eq]
  generalize (lg_sl ([.ref (oA 0), .int (nI q), .int (nI o1), .int (nI k), .int (nI us)]) ++ List.replicate (5 - (lg_sl ([.ref (oA 0), .int (nI q), .int (nI o1), .int (nI k), .int (nI us)])).length) Slot.unset).toArray = ls at hl ⊢
  have hl : lv_has ls 5 [(0, .ref (oA 0)), (1, .int (nI q)), (2, .int (nI o1)), (3, .int (nI k)), (4, .int (nI us))] := hl
  generalize ([.ref (oA 0), .int (nI q), .int (nI o1), .int (nI k), .int (nI us)] : List Value).toArray = av at hts ⊢
  obtain ⟨Qc, hQc⟩ : ∃ Qc, Qc = (QcRead (m_fits M q o1 k us)) := ⟨_, rfl⟩
  rw [← hQc]
  have f16 := hts (.fieldLink RX7 16 "KneesLentModel" "side" "[I") (by decide +kernel)
  have hiX7 : ∀ w ∈ u_ws RX7 TX7 35, w ∈ wsX7_fits := by decide +kernel
  refine lv_iload_n hx hb dX7_fits_0 rfl (lv_at hl 3 rfl) ?_
  refine lv_if_ne (tgt := 21) hx hb dX7_fits_1 (by decide) (fun c_1 => ?_) (fun c_1 => ?_)
  · have hk0_ : ¬ k = 0 := fun z => c_1 ((nI_eq (a := k) (b := 0) (by omega) (by omega)).mpr z)
    refine lv_aload_n hx hb dX7_fits_21 rfl (lv_at hl 0 rfl) ?_
    refine va_get (D := D) (ci := 7) (v := .ref (oA 10)) (C := RX7) (T := TX7) (N := 35) hx hb hts hiX7 hown hK hP 0 rfl rfl 10 (by decide) f16 (fun _ h9 => h9) rfl dX7_fits_22 ?_
    refine lv_iload_n hx hb dX7_fits_25 rfl (lv_at hl 3 rfl) ?_
    refine lv_iconst (v := 1) hx hb dX7_fits_26 (by decide) ?_
    refine lv_isub hx hb dX7_fits_27 ?_
    refine ly_eqi (show ((nI k) - 1) = (nI (k - 1)) from ly_sub rfl rfl (by omega)) ?_
    refine ly_iald hx hb hK hP 1 0 rfl rfl (k := (k - 1)) (by decide) rfl (by omega) dX7_fits_28 ?_
    refine lv_iload_n hx hb dX7_fits_29 rfl (lv_at hl 2 rfl) ?_
    refine lv_icmp_ne (tgt := 59) hx hb dX7_fits_30 (by decide) (fun c_2 => ?_) (fun c_2 => ?_)
    · refine lv_iconst (v := 0) hx hb dX7_fits_59 (by decide) ?_
      exact W.zret (v := 0) hx hb hr rfl (fun t_9 ht_9 _ => by rw [hQc]; exact ⟨(by unfold m_fits; rw [if_neg c_1, if_neg c_2]), ht_9⟩) t_nil dX7_fits_60
    · refine lv_aload_n hx hb dX7_fits_33 rfl (lv_at hl 0 rfl) ?_
      refine lv_iload_n hx hb dX7_fits_34 rfl (lv_at hl 3 rfl) ?_
      refine lv_iconst (v := 1) hx hb dX7_fits_35 (by decide) ?_
      refine lv_isub hx hb dX7_fits_36 ?_
      refine ly_eqi (show ((nI k) - 1) = (nI (k - 1)) from ly_sub rfl rfl (by omega)) ?_
      refine lv_iload_n hx hb dX7_fits_37 rfl (lv_at hl 1 rfl) ?_
      have hPc_38 := hP.sub (ws' := [((oA 0), .inr (7, [.int 0, .long mt, .ref (oA 2), .int (nI (mi 3)), .int (nI (mi 4)), .int (nI (mi 5)), .int (nI (mi 6)), .int (nI (mi 7)), .int fa, .ref (oA 9), .ref (oA 10), .ref (oA 11), .ref (oA 12), .ref (oA 13), .ref (oA 14), .ref (oA 15), .ref (oA 16), .ref (oA 17), .ref (oA 18), .int (nI (mi 19)), .ref (oA 20), .ref (oA 21), .ref (oA 22), .ref (oA 23), .int (nI (mi 24)), .ref (oA 25), .ref (oA 26), .ref (oA 27), .int (nI (mi 28)), .ref (oA 29), .ref (oA 30), .int (nI (mi 31)), .ref (oA 32), .int (nI (mi 33)), .int (nI (mi 34))])), ((oA 10), .inl (cI, 18, .inl (fun j => nI ((M 10) j)))), ((oA 13), .inl (cI, 12, .inl (fun j => nI ((M 13) j)))), ((oA 20), .inl (cI, 23, .inl (fun j => nI ((M 20) j)))), ((oA 14), .inl (cI, 12, .inl (fun j => nI ((M 14) j)))), ((oA 15), .inl (cI, 12, .inl (fun j => nI ((M 15) j))))]) [0, 1, 2, 3, 4, 5] rfl
      refine ly_r (va_runV (As := [.int (nI (k - 1)), .int (nI q)]) (rest := []) ⟨hx, hb, hml, hown, hts⟩ (c_X7_mayGo l D cI cC cZ cN oA M mi fa mt (k - 1) q (by omega) (by omega)) (cwV 2 hts gX7_fits_X7_mayGo rfl rfl rfl (by decide +kernel) ⟨Nat.le_of_ble_eq_true rfl, Nat.le_of_ble_eq_true rfl⟩) (ly_pv hK hN hPc_38 0 7 rfl rfl rfl) rfl rfl hl.1 rfl (lv_room (Nat.le_of_ble_eq_true rfl)) dX7_fits_38 ⟨Nat.zero_le _, Nat.zero_le _⟩) ?_
      refine lv_if_eq (tgt := 59) hx hb dX7_fits_41 (by decide) (fun c_3 => ?_) (fun c_3 => ?_)
      · refine lv_iconst (v := 0) hx hb dX7_fits_59 (by decide) ?_
        exact W.zret (v := 0) hx hb hr rfl (fun t_9 ht_9 _ => by rw [hQc]; exact ⟨(by unfold m_fits; rw [if_neg c_1, if_pos c_2, if_pos c_3]), ht_9⟩) t_nil dX7_fits_60
      · refine lv_iload hx hb dX7_fits_44 (lv_at hl 4 rfl) ?_
        refine lv_iload_n hx hb dX7_fits_46 rfl (lv_at hl 3 rfl) ?_
        refine lv_iconst (v := 1) hx hb dX7_fits_47 (by decide) ?_
        refine lv_isub hx hb dX7_fits_48 ?_
        refine ly_eqi (show ((nI k) - 1) = (nI (k - 1)) from ly_sub rfl rfl (by omega)) ?_
        refine lv_ishr hx hb dX7_fits_49 ?_
        refine lv_iconst (v := 1) hx hb dX7_fits_50 (by decide) ?_
        refine lv_iand hx hb dX7_fits_51 ?_
        refine lv_if_ne (tgt := 59) hx hb dX7_fits_52 (by decide) (fun c_4 => ?_) (fun c_4 => ?_)
        · refine lv_iconst (v := 0) hx hb dX7_fits_59 (by decide) ?_
          exact W.zret (v := 0) hx hb hr rfl (fun t_9 ht_9 _ => by rw [hQc]; exact ⟨(by unfold m_fits; rw [if_neg c_1, if_pos c_2, if_neg c_3, if_neg c_4]), ht_9⟩) t_nil dX7_fits_60
        · refine lv_iconst (v := 1) hx hb dX7_fits_55 (by decide) ?_
          refine lv_goto (tgt := 60) hx hb dX7_fits_56 (by decide) ?_
          exact W.zret (v := 1) hx hb hr rfl (fun t_9 ht_9 _ => by rw [hQc]; exact ⟨(by unfold m_fits; rw [if_neg c_1, if_pos c_2, if_neg c_3, if_pos c_4]), ht_9⟩) t_nil dX7_fits_60
  · refine lv_aload_n hx hb dX7_fits_4 rfl (lv_at hl 0 rfl) ?_
    refine lv_iload_n hx hb dX7_fits_5 rfl (lv_at hl 1 rfl) ?_
    refine lv_iload_n hx hb dX7_fits_6 rfl (lv_at hl 2 rfl) ?_
    have hPc_7 := hP.sub (ws' := [((oA 0), .inr (7, [.int 0, .long mt, .ref (oA 2), .int (nI (mi 3)), .int (nI (mi 4)), .int (nI (mi 5)), .int (nI (mi 6)), .int (nI (mi 7)), .int fa, .ref (oA 9), .ref (oA 10), .ref (oA 11), .ref (oA 12), .ref (oA 13), .ref (oA 14), .ref (oA 15), .ref (oA 16), .ref (oA 17), .ref (oA 18), .int (nI (mi 19)), .ref (oA 20), .ref (oA 21), .ref (oA 22), .ref (oA 23), .int (nI (mi 24)), .ref (oA 25), .ref (oA 26), .ref (oA 27), .int (nI (mi 28)), .ref (oA 29), .ref (oA 30), .int (nI (mi 31)), .ref (oA 32), .int (nI (mi 33)), .int (nI (mi 34))])), ((oA 13), .inl (cI, 12, .inl (fun j => nI ((M 13) j))))]) [0, 2] rfl
    refine ly_r (va_runV (As := [.int (nI q), .int (nI o1)]) (rest := []) ⟨hx, hb, hml, hown, hts⟩ (c_X7_wants l D cI cC cZ cN oA M mi fa mt q o1 (by omega)) (cwV 2 hts gX7_fits_X7_wants rfl rfl rfl (by decide +kernel) ⟨Nat.le_of_ble_eq_true rfl, Nat.le_of_ble_eq_true rfl⟩) (ly_pv hK hN hPc_7 0 7 rfl rfl rfl) rfl rfl hl.1 rfl (lv_room (Nat.le_of_ble_eq_true rfl)) dX7_fits_7 ⟨Nat.zero_le _, Nat.zero_le _⟩) ?_
    refine lv_if_ne (tgt := 17) hx hb dX7_fits_10 (by decide) (fun c_5 => ?_) (fun c_5 => ?_)
    · refine lv_iconst (v := 0) hx hb dX7_fits_17 (by decide) ?_
      refine lv_goto (tgt := 60) hx hb dX7_fits_18 (by decide) ?_
      exact W.zret (v := 0) hx hb hr rfl (fun t_9 ht_9 _ => by rw [hQc]; exact ⟨(by unfold m_fits; rw [if_pos c_1, if_neg c_5]), ht_9⟩) t_nil dX7_fits_60
    · refine lv_iconst (v := 1) hx hb dX7_fits_13 (by decide) ?_
      refine lv_goto (tgt := 60) hx hb dX7_fits_14 (by decide) ?_
      exact W.zret (v := 1) hx hb hr rfl (fun t_9 ht_9 _ => by rw [hQc]; exact ⟨(by unfold m_fits; rw [if_pos c_1, if_pos c_5]), ht_9⟩) t_nil dX7_fits_60

set_option maxHeartbeats 4000000 in
set_option maxRecDepth 100000 in
theorem c_X7_oilOf (l : Launch) (D : va_G) (cI cC cZ cN : ClassId) (oA : Nat → Nat) (M : Nat → Nat → Nat) (mi : Nat → Nat) (fa : Int32) (mt : Int64) (k : Nat) (h1 : k ≤ 9) (hf4 : ∀ j, M 11 j ≤ 4) : Met l yX7_oilOf wsX7_oilOf (ly_rm 1) (ly_Pre D (ly_tys cI cC cZ cN) [((oA 0), .inr (7, [.int 0, .long mt, .ref (oA 2), .int (nI (mi 3)), .int (nI (mi 4)), .int (nI (mi 5)), .int (nI (mi 6)), .int (nI (mi 7)), .int fa, .ref (oA 9), .ref (oA 10), .ref (oA 11), .ref (oA 12), .ref (oA 13), .ref (oA 14), .ref (oA 15), .ref (oA 16), .ref (oA 17), .ref (oA 18), .int (nI (mi 19)), .ref (oA 20), .ref (oA 21), .ref (oA 22), .ref (oA 23), .int (nI (mi 24)), .ref (oA 25), .ref (oA 26), .ref (oA 27), .int (nI (mi 28)), .ref (oA 29), .ref (oA 30), .int (nI (mi 31)), .ref (oA 32), .int (nI (mi 33)), .int (nI (mi 34))])), ((oA 11), .inl (cI, 18, .inl (fun j => nI ((M 11) j)))), ((oA 17), .inl (cI, 10, .inl (fun j => nI ((M 17) j))))] [.ref (oA 0), .int (nI k)]) (QcRead (nI (m_oilOf M k))) 0 0 (fun _ => False) := by
  refine Met.ofW (cc := cX7_oilOf) (maxL := 2) (ret := (some .int)) (by decide) rfl ?_
  intro p e s m args below meth c s₁ B hml hv
  obtain ⟨rfl, hP, hK, hN⟩ := hv
  have hx := B.exec
  have hb := B.bytes
  have hr := B.returns
  have hts := atoms_spec (ws := wsX7_oilOf) B.pre
  have hown : s.vm.findClass RX7 = some m.cls := findClass_of_methodNamed B.named
  have hlocks := B.notSynchronized
  have hl := lv_entry ([.ref (oA 0), .int (nI k)]) (n := 2) (Nat.le_of_ble_eq_true rfl)
  rw [lg_entry_eq]
  generalize (lg_sl ([.ref (oA 0), .int (nI k)]) ++ List.replicate (2 - (lg_sl ([.ref (oA 0), .int (nI k)])).length) Slot.unset).toArray = ls at hl ⊢
  have hl : lv_has ls 2 [(0, .ref (oA 0)), (1, .int (nI k))] := hl
  generalize ([.ref (oA 0), .int (nI k)] : List Value).toArray = av at hts ⊢
  obtain ⟨Qc, hQc⟩ : ∃ Qc, Qc = (QcRead (nI (m_oilOf M k))) := ⟨_, rfl⟩
  rw [← hQc]
  have f37 := hts (.fieldLink RX7 37 "KneesLentModel" "oil" "[I") (by decide +kernel)
  have f19 := hts (.fieldLink RX7 19 "KneesLentModel" "farmOf" "[I") (by decide +kernel)
  have hiX7 : ∀ w ∈ u_ws RX7 TX7 35, w ∈ wsX7_oilOf := by decide +kernel
  refine lv_iload_n hx hb dX7_oilOf_0 rfl (lv_at hl 1 rfl) ?_
  refine lv_if_ne (tgt := 8) hx hb dX7_oilOf_1 (by decide) (fun c_1 => ?_) (fun c_1 => ?_)
  · have hk0_ : ¬ k = 0 := fun z => c_1 ((nI_eq (a := k) (b := 0) (by omega) (by omega)).mpr z)
    refine lv_aload_n hx hb dX7_oilOf_8 rfl (lv_at hl 0 rfl) ?_
    refine va_get (D := D) (ci := 7) (v := .ref (oA 17)) (C := RX7) (T := TX7) (N := 35) hx hb hts hiX7 hown hK hP 0 rfl rfl 17 (by decide) f37 (fun _ h9 => h9) rfl dX7_oilOf_9 ?_
    refine lv_aload_n hx hb dX7_oilOf_12 rfl (lv_at hl 0 rfl) ?_
    refine va_get (D := D) (ci := 7) (v := .ref (oA 11)) (C := RX7) (T := TX7) (N := 35) hx hb hts hiX7 hown hK hP 0 rfl rfl 11 (by decide) f19 (fun _ h9 => h9) rfl dX7_oilOf_13 ?_
    refine lv_iload_n hx hb dX7_oilOf_16 rfl (lv_at hl 1 rfl) ?_
    refine lv_iconst (v := 1) hx hb dX7_oilOf_17 (by decide) ?_
    refine lv_isub hx hb dX7_oilOf_18 ?_
    refine ly_eqi (show ((nI k) - 1) = (nI (k - 1)) from ly_sub rfl rfl (by first | omega | (have hz_ := hf4 (k - 1); omega))) ?_
    refine ly_iald hx hb hK hP 1 0 rfl rfl (k := (k - 1)) (by decide) rfl (by first | omega | (have hz_ := hf4 (k - 1); omega)) dX7_oilOf_19 ?_
    refine ly_iald hx hb hK hP 2 0 rfl rfl (k := (M 11) (k - 1)) (by decide) rfl (by first | omega | (have hz_ := hf4 (k - 1); omega)) dX7_oilOf_20 ?_
    exact W.iret (v := (nI ((M 17) ((M 11) (k - 1))))) hx hb hr (fun t_9 ht_9 _ => by rw [hQc]; exact ⟨(by unfold m_oilOf; rw [if_neg hk0_]), ht_9⟩) t_nil dX7_oilOf_21
  · refine lv_iconst (v := 0) hx hb dX7_oilOf_4 (by decide) ?_
    refine lv_goto (tgt := 21) hx hb dX7_oilOf_5 (by decide) ?_
    exact W.iret (v := 0) hx hb hr (fun t_9 ht_9 _ => by rw [hQc]; exact ⟨(by unfold m_oilOf; rw [if_pos ((nI_eq (a := k) (b := 0) (by omega) (by omega)).mp c_1)]; rfl), ht_9⟩) t_nil dX7_oilOf_21
