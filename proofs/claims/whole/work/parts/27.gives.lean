def s_ways (a1 b1 x1 : Nat) : Nat → Int32 → Int32
  | 0, lf => (if 0 ≤ lf then 0 else 1)
  | k + 1, lf => ((nI x1) * (s_ways a1 b1 x1 k (lf - (nI a1)))) + ((10 - (nI x1)) * (s_ways a1 b1 x1 k (lf - (nI b1))))
theorem s_ways_s (a1 b1 x1 k : Nat) (lf : Int32) : s_ways a1 b1 x1 (k + 1) lf = ((nI x1) * (s_ways a1 b1 x1 k (lf - (nI a1)))) + ((10 - (nI x1)) * (s_ways a1 b1 x1 k (lf - (nI b1)))) := rfl

set_option maxHeartbeats 4000000 in
set_option maxRecDepth 100000 in
theorem c_X6_waysToGive_z (l : Launch) (D : va_G) (cI cC cZ cN : ClassId) (a1 b1 x1 : Nat) (lf : Int32) : Met l yX6_waysToGive wsX6_waysToGive (ly_rm 1) (ly_Pre D (ly_tys cI cC cZ cN) [] [.int (nI 0), .int (nI a1), .int (nI b1), .int (nI x1), .int lf]) (QcRead (s_ways a1 b1 x1 0 lf)) 0 0 (fun _ => False) := by
  refine Met.ofW (cc := cX6_waysToGive) (maxL := 5) (ret := (some .int)) (by decide) rfl ?_
  intro p e s m args below meth c s₁ B hml hv
  obtain ⟨rfl, hP, hK, hN⟩ := hv
  have hx := B.exec
  have hb := B.bytes
  have hr := B.returns
  have hts := atoms_spec (ws := wsX6_waysToGive) B.pre
  have hown : s.vm.findClass RX6 = some m.cls := findClass_of_methodNamed B.named
  have hlocks := B.notSynchronized
  have hl := lv_entry ([.int (nI 0), .int (nI a1), .int (nI b1), .int (nI x1), .int lf]) (n := 5) (Nat.le_of_ble_eq_true rfl)
  rw [lg_entry_eq]
  generalize (lg_sl ([.int (nI 0), .int (nI a1), .int (nI b1), .int (nI x1), .int lf]) ++ List.replicate (5 - (lg_sl ([.int (nI 0), .int (nI a1), .int (nI b1), .int (nI x1), .int lf])).length) Slot.unset).toArray = ls at hl ⊢
  have hl : lv_has ls 5 [(0, .int (nI 0)), (1, .int (nI a1)), (2, .int (nI b1)), (3, .int (nI x1)), (4, .int lf)] := hl
  generalize ([.int (nI 0), .int (nI a1), .int (nI b1), .int (nI x1), .int lf] : List Value).toArray = av at hts ⊢
  obtain ⟨Qc, hQc⟩ : ∃ Qc, Qc = (QcRead (s_ways a1 b1 x1 0 lf)) := ⟨_, rfl⟩
  rw [← hQc]
  refine lv_iload_n hx hb dX6_waysToGive_0 rfl (lv_at hl 0 rfl) ?_
  refine lv_if_gt (tgt := 15) hx hb dX6_waysToGive_1 (by decide) (fun h_9 => absurd h_9 (by decide)) (fun _ => ?_)
  refine lv_iload hx hb dX6_waysToGive_4 (lv_at hl 4 rfl) ?_
  refine lv_if_ge (tgt := 13) hx hb dX6_waysToGive_6 (by decide) (fun c_1 => ?_) (fun c_1 => ?_)
  · refine lv_iconst (v := 0) hx hb dX6_waysToGive_13 (by decide) ?_
    exact W.iret (v := 0) hx hb hr (fun t_9 ht_9 _ => by rw [hQc]; exact ⟨(by show _ = Outcome.returned (some (Value.int (if 0 ≤ lf then 0 else 1))); rw [if_pos c_1]), ht_9⟩) t_nil dX6_waysToGive_14
  · refine lv_iconst (v := 1) hx hb dX6_waysToGive_9 (by decide) ?_
    refine lv_goto (tgt := 14) hx hb dX6_waysToGive_10 (by decide) ?_
    exact W.iret (v := 1) hx hb hr (fun t_9 ht_9 _ => by rw [hQc]; exact ⟨(by show _ = Outcome.returned (some (Value.int (if 0 ≤ lf then 0 else 1))); rw [if_neg c_1]), ht_9⟩) t_nil dX6_waysToGive_14

set_option maxHeartbeats 4000000 in
set_option maxRecDepth 100000 in
theorem c_X6_waysToGive_s (l : Launch) (D : va_G) (cI cC cZ cN : ClassId) (a1 b1 x1 : Nat) (k : Nat) (hk6 : k ≤ 6) (lf : Int32) (ih : ∀ lf : Int32, Met l yX6_waysToGive wsX6_waysToGive (ly_rm (k + 1)) (ly_Pre D (ly_tys cI cC cZ cN) [] [.int (nI k), .int (nI a1), .int (nI b1), .int (nI x1), .int lf]) (QcRead (s_ways a1 b1 x1 k lf)) 0 0 (fun _ => False)) : Met l yX6_waysToGive wsX6_waysToGive (ly_rm (k + 1 + 1)) (ly_Pre D (ly_tys cI cC cZ cN) [] [.int (nI (k + 1)), .int (nI a1), .int (nI b1), .int (nI x1), .int lf]) (QcRead (s_ways a1 b1 x1 (k + 1) lf)) 0 0 (fun _ => False) := by
  refine Met.ofW (cc := cX6_waysToGive) (maxL := 5) (ret := (some .int)) (by decide) rfl ?_
  intro p e s m args below meth c s₁ B hml hv
  obtain ⟨rfl, hP, hK, hN⟩ := hv
  have hx := B.exec
  have hb := B.bytes
  have hr := B.returns
  have hts := atoms_spec (ws := wsX6_waysToGive) B.pre
  have hown : s.vm.findClass RX6 = some m.cls := findClass_of_methodNamed B.named
  have hlocks := B.notSynchronized
  have hl := lv_entry ([.int (nI (k + 1)), .int (nI a1), .int (nI b1), .int (nI x1), .int lf]) (n := 5) (Nat.le_of_ble_eq_true rfl)
  rw [lg_entry_eq]
  generalize (lg_sl ([.int (nI (k + 1)), .int (nI a1), .int (nI b1), .int (nI x1), .int lf]) ++ List.replicate (5 - (lg_sl ([.int (nI (k + 1)), .int (nI a1), .int (nI b1), .int (nI x1), .int lf])).length) Slot.unset).toArray = ls at hl ⊢
  have hl : lv_has ls 5 [(0, .int (nI (k + 1))), (1, .int (nI a1)), (2, .int (nI b1)), (3, .int (nI x1)), (4, .int lf)] := hl
  generalize ([.int (nI (k + 1)), .int (nI a1), .int (nI b1), .int (nI x1), .int lf] : List Value).toArray = av at hts ⊢
  obtain ⟨Qc, hQc⟩ : ∃ Qc, Qc = (QcRead (s_ways a1 b1 x1 (k + 1) lf)) := ⟨_, rfl⟩
  rw [← hQc]
  refine lv_iload_n hx hb dX6_waysToGive_0 rfl (lv_at hl 0 rfl) ?_
  refine lv_if_gt (tgt := 15) hx hb dX6_waysToGive_1 (by decide) (fun _ => ?_) (fun h_9 => absurd (nI_lt (a := 0) (b := k + 1) (by omega) (by omega)) h_9)
  refine lv_iload_n hx hb dX6_waysToGive_15 rfl (lv_at hl 3 rfl) ?_
  refine lv_iload_n hx hb dX6_waysToGive_16 rfl (lv_at hl 0 rfl) ?_
  refine lv_iconst (v := 1) hx hb dX6_waysToGive_17 (by decide) ?_
  refine lv_isub hx hb dX6_waysToGive_18 ?_
  refine ly_eqi (show ((nI (k + 1)) - 1) = (nI k) from ly_pred rfl) ?_
  refine lv_iload_n hx hb dX6_waysToGive_19 rfl (lv_at hl 1 rfl) ?_
  refine lv_iload_n hx hb dX6_waysToGive_20 rfl (lv_at hl 2 rfl) ?_
  refine lv_iload_n hx hb dX6_waysToGive_21 rfl (lv_at hl 3 rfl) ?_
  refine lv_iload hx hb dX6_waysToGive_22 (lv_at hl 4 rfl) ?_
  refine lv_iload_n hx hb dX6_waysToGive_24 rfl (lv_at hl 1 rfl) ?_
  refine lv_isub hx hb dX6_waysToGive_25 ?_
  have hPc_26 := hP.sub (ws' := []) [] rfl
  refine ly_r (va_runS (As := [.int (nI k), .int (nI a1), .int (nI b1), .int (nI x1), .int (lf - (nI a1))]) (rest := [.int (nI x1)]) ⟨hx, hb, hml, hown, hts⟩ (ih (lf - (nI a1))) (va_cwS 5 hts gX6_waysToGive_X6_waysToGive rfl rfl rfl (by decide +kernel) ⟨(by show (k + 1) + 1 ≤ k + 1 + 1; omega), (by show 8 + (5 + 11) + 40 * (k + 1) ≤ 40 * (k + 1 + 1); omega)⟩) (ly_ps hK hN hPc_26) rfl rfl hl.1 rfl (lv_room (Nat.le_of_ble_eq_true rfl)) dX6_waysToGive_26 ⟨Nat.zero_le _, Nat.zero_le _⟩) ?_
  refine lv_imul hx hb dX6_waysToGive_29 ?_
  refine lv_bipush (v := 10) hx hb dX6_waysToGive_30 (by decide) ?_
  refine lv_iload_n hx hb dX6_waysToGive_32 rfl (lv_at hl 3 rfl) ?_
  refine lv_isub hx hb dX6_waysToGive_33 ?_
  refine lv_iload_n hx hb dX6_waysToGive_34 rfl (lv_at hl 0 rfl) ?_
  refine lv_iconst (v := 1) hx hb dX6_waysToGive_35 (by decide) ?_
  refine lv_isub hx hb dX6_waysToGive_36 ?_
  refine ly_eqi (show ((nI (k + 1)) - 1) = (nI k) from ly_pred rfl) ?_
  refine lv_iload_n hx hb dX6_waysToGive_37 rfl (lv_at hl 1 rfl) ?_
  refine lv_iload_n hx hb dX6_waysToGive_38 rfl (lv_at hl 2 rfl) ?_
  refine lv_iload_n hx hb dX6_waysToGive_39 rfl (lv_at hl 3 rfl) ?_
  refine lv_iload hx hb dX6_waysToGive_40 (lv_at hl 4 rfl) ?_
  refine lv_iload_n hx hb dX6_waysToGive_42 rfl (lv_at hl 2 rfl) ?_
  refine lv_isub hx hb dX6_waysToGive_43 ?_
  have hPc_44 := hP.sub (ws' := []) [] rfl
  refine ly_r (va_runS (As := [.int (nI k), .int (nI a1), .int (nI b1), .int (nI x1), .int (lf - (nI b1))]) (rest := [.int (10 - (nI x1)), .int ((nI x1) * (s_ways a1 b1 x1 k (lf - (nI a1))))]) ⟨hx, hb, hml, hown, hts⟩ (ih (lf - (nI b1))) (va_cwS 5 hts gX6_waysToGive_X6_waysToGive rfl rfl rfl (by decide +kernel) ⟨(by show (k + 1) + 1 ≤ k + 1 + 1; omega), (by show 8 + (5 + 11) + 40 * (k + 1) ≤ 40 * (k + 1 + 1); omega)⟩) (ly_ps hK hN hPc_44) rfl rfl hl.1 rfl (lv_room (Nat.le_of_ble_eq_true rfl)) dX6_waysToGive_44 ⟨Nat.zero_le _, Nat.zero_le _⟩) ?_
  refine lv_imul hx hb dX6_waysToGive_47 ?_
  refine lv_iadd hx hb dX6_waysToGive_48 ?_
  exact W.iret (v := (((nI x1) * (s_ways a1 b1 x1 k (lf - (nI a1)))) + ((10 - (nI x1)) * (s_ways a1 b1 x1 k (lf - (nI b1)))))) hx hb hr (fun t_9 ht_9 _ => by rw [hQc]; exact ⟨rfl, ht_9⟩) t_nil dX6_waysToGive_49

theorem c_X6_waysToGive (l : Launch) (D : va_G) (cI cC cZ cN : ClassId) (a1 b1 x1 : Nat) : ∀ (k : Nat) (lf : Int32), k ≤ 6 → Met l yX6_waysToGive wsX6_waysToGive (ly_rm (k + 1)) (ly_Pre D (ly_tys cI cC cZ cN) [] [.int (nI k), .int (nI a1), .int (nI b1), .int (nI x1), .int lf]) (QcRead (s_ways a1 b1 x1 k lf)) 0 0 (fun _ => False)
  | 0, lf, _ => c_X6_waysToGive_z l D cI cC cZ cN a1 b1 x1 lf
  | k + 1, lf, h => c_X6_waysToGive_s l D cI cC cZ cN a1 b1 x1 k (by omega) lf (fun lf2 => c_X6_waysToGive l D cI cC cZ cN a1 b1 x1 k lf2 (by omega))

def s_sh2 (u : Int32) : Nat → Nat → Nat → Int32
  | 0, _, v0 => (nI v0)
  | k + 1, i, v0 => (if (u - u / (nI (v0 * 2)) * (nI (v0 * 2))) = 0 then s_sh2 u k (i + 1) (v0 * 2) else (nI v0))
theorem s_sh2_z (u : Int32) (i : Nat) (v0 : Nat) : s_sh2 u 0 i v0 = (nI v0) := rfl
theorem s_sh2_s (u : Int32) (k i : Nat) (v0 : Nat) : s_sh2 u (k + 1) i v0 = (if (u - u / (nI (v0 * 2)) * (nI (v0 * 2))) = 0 then s_sh2 u k (i + 1) (v0 * 2) else (nI v0)) := rfl
set_option maxHeartbeats 4000000 in
set_option maxRecDepth 100000 in
theorem c_X6_sharedOfTens_2 (l : Launch) (D : va_G) (cI cC cZ cN : ClassId) (u : Int32) (n : Nat) (hn6 : n ≤ 6) : Met l yX6_sharedOfTens wsX6_sharedOfTens (ly_rm 1) (ly_Pre D (ly_tys cI cC cZ cN) [] [.int u, .int (nI n), .int (nI 2)]) (QcRead (s_sh2 u n 0 1)) 0 0 (fun _ => False) := by
  refine Met.ofW (cc := cX6_sharedOfTens) (maxL := 5) (ret := (some .int)) (by decide) rfl ?_
  intro p e s m args below meth c s₁ B hml hv
  obtain ⟨rfl, hP, hK, hN⟩ := hv
  have hx := B.exec
  have hb := B.bytes
  have hr := B.returns
  have hts := atoms_spec (ws := wsX6_sharedOfTens) B.pre
  have hown : s.vm.findClass RX6 = some m.cls := findClass_of_methodNamed B.named
  have hlocks := B.notSynchronized
  have hl := lv_entry ([.int u, .int (nI n), .int (nI 2)]) (n := 5) (Nat.le_of_ble_eq_true rfl)
  rw [lg_entry_eq]
  generalize (lg_sl ([.int u, .int (nI n), .int (nI 2)]) ++ List.replicate (5 - (lg_sl ([.int u, .int (nI n), .int (nI 2)])).length) Slot.unset).toArray = ls at hl ⊢
  have hl : lv_has ls 5 [(0, .int u), (1, .int (nI n)), (2, .int (nI 2))] := hl
  generalize ([.int u, .int (nI n), .int (nI 2)] : List Value).toArray = av at hts ⊢
  obtain ⟨Qc, hQc⟩ : ∃ Qc, Qc = (QcRead (s_sh2 u n 0 1)) := ⟨_, rfl⟩
  rw [← hQc]
  refine lv_iconst (v := 1) hx hb dX6_sharedOfTens_0 (by decide) ?_
  refine lv_istore_n (lv' := [(3, .int 1), (0, .int u), (1, .int (nI n)), (2, .int (nI 2))]) hx hb dX6_sharedOfTens_1 rfl hl (by decide) rfl (fun ls hl => ?_)
  refine lv_iconst (v := 0) hx hb dX6_sharedOfTens_2 (by decide) ?_
  refine lv_istore (lv' := [(4, .int 0), (3, .int 1), (0, .int u), (1, .int (nI n)), (2, .int (nI 2))]) hx hb dX6_sharedOfTens_3 hl (by decide) rfl (fun ls hl => ?_)
  have hloop_5 : ∀ (k i : Nat) (v0 : Nat), i + k = n → (v0 = 2 ^ i) → s_sh2 u k i v0 = (s_sh2 u n 0 1) → ∀ ls : Array Slot, lv_has ls 5 [(4, .int (nI i)), (3, .int (nI v0)), (0, .int u), (1, .int (nI n)), (2, .int (nI 2))] → W p l e (headSpec wsX6_sharedOfTens (ly_rm 1)).room s m av below meth c s.heap [] 0 0 (MQ below Qc av s 0 0 (fun _ => False)) (F0 m 5 ls []) := by
    intro k
    induction k with
    | zero =>
      intro i v0 hi_5 hinv_ hF_5 ls hl
      obtain rfl : n = i := by omega
      refine lv_iload hx hb dX6_sharedOfTens_5 (lv_at hl 0 rfl) ?_
      refine lv_iload_n hx hb dX6_sharedOfTens_7 rfl (lv_at hl 3 rfl) ?_
      refine lv_icmp_ge (tgt := 29) hx hb dX6_sharedOfTens_8 (by decide) (fun _ => ?_) (fun h_9 => absurd (nI_le (Nat.le_refl _) (by omega)) h_9)
      refine lv_iload_n hx hb dX6_sharedOfTens_29 rfl (lv_at hl 1 rfl) ?_
      exact W.iret (v := (nI v0)) hx hb hr (fun t_9 ht_9 _ => by rw [hQc]; exact ⟨(by rw [← hF_5, s_sh2_z]), ht_9⟩) t_nil dX6_sharedOfTens_30
    | succ k ih_5 =>
      intro i v0 hi_5 hinv_ hF_5 ls hl
      have hpw_ := pw2 i (by omega)
      rw [← hinv_] at hpw_
      have hne_ : ¬ v0 * 2 = 0 := by omega
      refine lv_iload hx hb dX6_sharedOfTens_5 (lv_at hl 0 rfl) ?_
      refine lv_iload_n hx hb dX6_sharedOfTens_7 rfl (lv_at hl 3 rfl) ?_
      refine lv_icmp_ge (tgt := 29) hx hb dX6_sharedOfTens_8 (by decide) (fun h_9 => absurd h_9 (nI_ge (by omega) (by omega))) (fun _ => ?_)
      refine lv_iload_n hx hb dX6_sharedOfTens_11 rfl (lv_at hl 2 rfl) ?_
      refine lv_iload_n hx hb dX6_sharedOfTens_12 rfl (lv_at hl 1 rfl) ?_
      refine lv_iload_n hx hb dX6_sharedOfTens_13 rfl (lv_at hl 4 rfl) ?_
      refine lv_imul hx hb dX6_sharedOfTens_14 ?_
      refine ly_eqi (show ((nI v0) * (nI 2)) = (nI (v0 * 2)) from ly_mul rfl rfl) ?_
      refine lv_irem hx hb dX6_sharedOfTens_15 (fun z => hne_ ((nI_eq (a := v0 * 2) (b := 0) (by omega) (by omega)).mp z)) ?_
      refine lv_if_ne (tgt := 29) hx hb dX6_sharedOfTens_16 (by decide) (fun c_1 => ?_) (fun c_1 => ?_)
      · refine lv_iload_n hx hb dX6_sharedOfTens_29 rfl (lv_at hl 1 rfl) ?_
        exact W.iret (v := (nI v0)) hx hb hr (fun t_9 ht_9 _ => by rw [hQc]; exact ⟨(by rw [← hF_5, s_sh2_s, if_neg c_1]), ht_9⟩) t_nil dX6_sharedOfTens_30
      · refine lv_iload_n hx hb dX6_sharedOfTens_19 rfl (lv_at hl 1 rfl) ?_
        refine lv_iload_n hx hb dX6_sharedOfTens_20 rfl (lv_at hl 4 rfl) ?_
        refine lv_imul hx hb dX6_sharedOfTens_21 ?_
        refine ly_eqi (show ((nI v0) * (nI 2)) = (nI (v0 * 2)) from ly_mul rfl rfl) ?_
        refine lv_istore_n (lv' := [(3, .int (nI (v0 * 2))), (4, .int (nI i)), (0, .int u), (1, .int (nI n)), (2, .int (nI 2))]) hx hb dX6_sharedOfTens_22 rfl hl (by decide) rfl (fun ls hl => ?_)
        refine lv_iinc (v := (nI (i + 1))) (lv' := [(4, .int (nI (i + 1))), (3, .int (nI (v0 * 2))), (0, .int u), (1, .int (nI n)), (2, .int (nI 2))]) hx hb dX6_sharedOfTens_23 hl (k := 1) rfl (ly_add rfl rfl) (by decide) rfl (fun ls hl => ?_)
        refine lv_goto (tgt := 5) hx hb dX6_sharedOfTens_26 (by decide) ?_
        exact ih_5 (i + 1) (v0 * 2) (by omega) (by rw [hinv_, Nat.pow_succ]) (by rw [← hF_5, s_sh2_s, if_pos c_1]) ls (lv_sub hl [0, 1, 2, 3, 4] rfl)
  exact hloop_5 n 0 1 (by omega) rfl rfl ls (lv_sub hl [0, 1, 2, 3, 4] rfl)

def s_sh5 (u : Int32) : Nat → Nat → Nat → Int32
  | 0, _, v0 => (nI v0)
  | k + 1, i, v0 => (if (u - u / (nI (v0 * 5)) * (nI (v0 * 5))) = 0 then s_sh5 u k (i + 1) (v0 * 5) else (nI v0))
theorem s_sh5_z (u : Int32) (i : Nat) (v0 : Nat) : s_sh5 u 0 i v0 = (nI v0) := rfl
theorem s_sh5_s (u : Int32) (k i : Nat) (v0 : Nat) : s_sh5 u (k + 1) i v0 = (if (u - u / (nI (v0 * 5)) * (nI (v0 * 5))) = 0 then s_sh5 u k (i + 1) (v0 * 5) else (nI v0)) := rfl
set_option maxHeartbeats 4000000 in
set_option maxRecDepth 100000 in
theorem c_X6_sharedOfTens_5 (l : Launch) (D : va_G) (cI cC cZ cN : ClassId) (u : Int32) (n : Nat) (hn6 : n ≤ 6) : Met l yX6_sharedOfTens wsX6_sharedOfTens (ly_rm 1) (ly_Pre D (ly_tys cI cC cZ cN) [] [.int u, .int (nI n), .int (nI 5)]) (QcRead (s_sh5 u n 0 1)) 0 0 (fun _ => False) := by
  refine Met.ofW (cc := cX6_sharedOfTens) (maxL := 5) (ret := (some .int)) (by decide) rfl ?_
  intro p e s m args below meth c s₁ B hml hv
  obtain ⟨rfl, hP, hK, hN⟩ := hv
  have hx := B.exec
  have hb := B.bytes
  have hr := B.returns
  have hts := atoms_spec (ws := wsX6_sharedOfTens) B.pre
  have hown : s.vm.findClass RX6 = some m.cls := findClass_of_methodNamed B.named
  have hlocks := B.notSynchronized
  have hl := lv_entry ([.int u, .int (nI n), .int (nI 5)]) (n := 5) (Nat.le_of_ble_eq_true rfl)
  rw [lg_entry_eq]
  generalize (lg_sl ([.int u, .int (nI n), .int (nI 5)]) ++ List.replicate (5 - (lg_sl ([.int u, .int (nI n), .int (nI 5)])).length) Slot.unset).toArray = ls at hl ⊢
  have hl : lv_has ls 5 [(0, .int u), (1, .int (nI n)), (2, .int (nI 5))] := hl
  generalize ([.int u, .int (nI n), .int (nI 5)] : List Value).toArray = av at hts ⊢
  obtain ⟨Qc, hQc⟩ : ∃ Qc, Qc = (QcRead (s_sh5 u n 0 1)) := ⟨_, rfl⟩
  rw [← hQc]
  refine lv_iconst (v := 1) hx hb dX6_sharedOfTens_0 (by decide) ?_
  refine lv_istore_n (lv' := [(3, .int 1), (0, .int u), (1, .int (nI n)), (2, .int (nI 5))]) hx hb dX6_sharedOfTens_1 rfl hl (by decide) rfl (fun ls hl => ?_)
  refine lv_iconst (v := 0) hx hb dX6_sharedOfTens_2 (by decide) ?_
  refine lv_istore (lv' := [(4, .int 0), (3, .int 1), (0, .int u), (1, .int (nI n)), (2, .int (nI 5))]) hx hb dX6_sharedOfTens_3 hl (by decide) rfl (fun ls hl => ?_)
  have hloop_5 : ∀ (k i : Nat) (v0 : Nat), i + k = n → (v0 = 5 ^ i) → s_sh5 u k i v0 = (s_sh5 u n 0 1) → ∀ ls : Array Slot, lv_has ls 5 [(4, .int (nI i)), (3, .int (nI v0)), (0, .int u), (1, .int (nI n)), (2, .int (nI 5))] → W p l e (headSpec wsX6_sharedOfTens (ly_rm 1)).room s m av below meth c s.heap [] 0 0 (MQ below Qc av s 0 0 (fun _ => False)) (F0 m 5 ls []) := by
    intro k
    induction k with
    | zero =>
      intro i v0 hi_5 hinv_ hF_5 ls hl
      obtain rfl : n = i := by omega
      refine lv_iload hx hb dX6_sharedOfTens_5 (lv_at hl 0 rfl) ?_
      refine lv_iload_n hx hb dX6_sharedOfTens_7 rfl (lv_at hl 3 rfl) ?_
      refine lv_icmp_ge (tgt := 29) hx hb dX6_sharedOfTens_8 (by decide) (fun _ => ?_) (fun h_9 => absurd (nI_le (Nat.le_refl _) (by omega)) h_9)
      refine lv_iload_n hx hb dX6_sharedOfTens_29 rfl (lv_at hl 1 rfl) ?_
      exact W.iret (v := (nI v0)) hx hb hr (fun t_9 ht_9 _ => by rw [hQc]; exact ⟨(by rw [← hF_5, s_sh5_z]), ht_9⟩) t_nil dX6_sharedOfTens_30
    | succ k ih_5 =>
      intro i v0 hi_5 hinv_ hF_5 ls hl
      have hpw_ := pw5 i (by omega)
      rw [← hinv_] at hpw_
      have hne_ : ¬ v0 * 5 = 0 := by omega
      refine lv_iload hx hb dX6_sharedOfTens_5 (lv_at hl 0 rfl) ?_
      refine lv_iload_n hx hb dX6_sharedOfTens_7 rfl (lv_at hl 3 rfl) ?_
      refine lv_icmp_ge (tgt := 29) hx hb dX6_sharedOfTens_8 (by decide) (fun h_9 => absurd h_9 (nI_ge (by omega) (by omega))) (fun _ => ?_)
      refine lv_iload_n hx hb dX6_sharedOfTens_11 rfl (lv_at hl 2 rfl) ?_
      refine lv_iload_n hx hb dX6_sharedOfTens_12 rfl (lv_at hl 1 rfl) ?_
      refine lv_iload_n hx hb dX6_sharedOfTens_13 rfl (lv_at hl 4 rfl) ?_
      refine lv_imul hx hb dX6_sharedOfTens_14 ?_
      refine ly_eqi (show ((nI v0) * (nI 5)) = (nI (v0 * 5)) from ly_mul rfl rfl) ?_
      refine lv_irem hx hb dX6_sharedOfTens_15 (fun z => hne_ ((nI_eq (a := v0 * 5) (b := 0) (by omega) (by omega)).mp z)) ?_
      refine lv_if_ne (tgt := 29) hx hb dX6_sharedOfTens_16 (by decide) (fun c_1 => ?_) (fun c_1 => ?_)
      · refine lv_iload_n hx hb dX6_sharedOfTens_29 rfl (lv_at hl 1 rfl) ?_
        exact W.iret (v := (nI v0)) hx hb hr (fun t_9 ht_9 _ => by rw [hQc]; exact ⟨(by rw [← hF_5, s_sh5_s, if_neg c_1]), ht_9⟩) t_nil dX6_sharedOfTens_30
      · refine lv_iload_n hx hb dX6_sharedOfTens_19 rfl (lv_at hl 1 rfl) ?_
        refine lv_iload_n hx hb dX6_sharedOfTens_20 rfl (lv_at hl 4 rfl) ?_
        refine lv_imul hx hb dX6_sharedOfTens_21 ?_
        refine ly_eqi (show ((nI v0) * (nI 5)) = (nI (v0 * 5)) from ly_mul rfl rfl) ?_
        refine lv_istore_n (lv' := [(3, .int (nI (v0 * 5))), (4, .int (nI i)), (0, .int u), (1, .int (nI n)), (2, .int (nI 5))]) hx hb dX6_sharedOfTens_22 rfl hl (by decide) rfl (fun ls hl => ?_)
        refine lv_iinc (v := (nI (i + 1))) (lv' := [(4, .int (nI (i + 1))), (3, .int (nI (v0 * 5))), (0, .int u), (1, .int (nI n)), (2, .int (nI 5))]) hx hb dX6_sharedOfTens_23 hl (k := 1) rfl (ly_add rfl rfl) (by decide) rfl (fun ls hl => ?_)
        refine lv_goto (tgt := 5) hx hb dX6_sharedOfTens_26 (by decide) ?_
        exact ih_5 (i + 1) (v0 * 5) (by omega) (by rw [hinv_, Nat.pow_succ]) (by rw [← hF_5, s_sh5_s, if_pos c_1]) ls (lv_sub hl [0, 1, 2, 3, 4] rfl)
  exact hloop_5 n 0 1 (by omega) rfl rfl ls (lv_sub hl [0, 1, 2, 3, 4] rfl)

def t_sh (pr : Nat) (u : Int32) : Nat → Nat → Nat
  | 0, v => v
  | k + 1, v => if (u - u / (nI (v * pr)) * (nI (v * pr))) = 0 then t_sh pr u k (v * pr) else v
theorem t_sh_s (pr : Nat) (u : Int32) (k v : Nat) : t_sh pr u (k + 1) v = if (u - u / (nI (v * pr)) * (nI (v * pr))) = 0 then t_sh pr u k (v * pr) else v := rfl
theorem s_sh2_t (u : Int32) : ∀ k i v, s_sh2 u k i v = nI (t_sh 2 u k v)
  | 0, _, _ => rfl
  | k + 1, i, v => by
    rw [s_sh2_s, t_sh_s]
    split
    · exact s_sh2_t u k (i + 1) (v * 2)
    · rfl
theorem s_sh5_t (u : Int32) : ∀ k i v, s_sh5 u k i v = nI (t_sh 5 u k v)
  | 0, _, _ => rfl
  | k + 1, i, v => by
    rw [s_sh5_s, t_sh_s]
    split
    · exact s_sh5_t u k (i + 1) (v * 5)
    · rfl
theorem t_sh_le (pr : Nat) (hp : 1 ≤ pr) (u : Int32) : ∀ k v, v ≤ t_sh pr u k v ∧ t_sh pr u k v ≤ v * pr ^ k
  | 0, v => ⟨Nat.le_refl _, by rw [Nat.pow_zero, Nat.mul_one]; exact Nat.le_refl _⟩
  | k + 1, v => by
    rw [t_sh_s]
    have h1 : v ≤ v * pr := Nat.le_mul_of_pos_right v hp
    have h2 : v ≤ v * pr ^ (k + 1) := Nat.le_mul_of_pos_right v (Nat.pow_pos hp)
    split
    · have ih := t_sh_le pr hp u k (v * pr)
      refine ⟨Nat.le_trans h1 ih.1, ?_⟩
      have e1 : v * pr ^ (k + 1) = v * pr * pr ^ k := by rw [Nat.pow_succ, Nat.mul_assoc, Nat.mul_comm pr]
      rw [e1]; exact ih.2
    · exact ⟨Nat.le_refl _, h2⟩
theorem t_sh_b2 (u : Int32) {n : Nat} (h : n ≤ 6) : 1 ≤ t_sh 2 u n 1 ∧ t_sh 2 u n 1 ≤ 64 := by
  have h1 := t_sh_le 2 (by decide) u n 1
  have h2 : 2 ^ n ≤ 2 ^ 6 := Nat.pow_le_pow_right (by decide) h
  have e1 : (2 : Nat) ^ 6 = 64 := by decide
  omega
theorem t_sh_b5 (u : Int32) {n : Nat} (h : n ≤ 6) : 1 ≤ t_sh 5 u n 1 ∧ t_sh 5 u n 1 ≤ 15625 := by
  have h1 := t_sh_le 5 (by decide) u n 1
  have h2 : 5 ^ n ≤ 5 ^ 6 := Nat.pow_le_pow_right (by decide) h
  have e1 : (5 : Nat) ^ 6 = 15625 := by decide
  omega

set_option maxHeartbeats 4000000 in
set_option maxRecDepth 100000 in
theorem c_X6_gives_b (l : Launch) (D : va_G) (cI cC cZ cN : ClassId) (t a2 : Nat → Nat) (lt : Nat) (tr : Int64) (a : Nat → Nat) (g : Nat → Nat → Nat) (b : Nat → Nat) (d ho le : Nat → Nat) (x1 x2 x3 x4 x5 x6 : Int32) (hb9 : jin x1 0 (nI (g 0 0) - 1) = 0 ∨ jin x2 0 6 = 0 ∨ jin x3 0 30 = 0 ∨ jin x4 0 30 = 0 ∨ jin x5 0 10 = 0 ∨ jin x6 0 1 = 0) : Met l yX6_gives wsX6_gives (ly_rm 6) (ly_Pre D (ly_tys cI cC cZ cN) [((t 0), .inr (6, [.ref (t 1), .int (nI lt), .ref (t 2), .ref (a 0), .ref (a2 0), .ref (b 0), .ref (t 4), .ref (t 5), .ref (t 6), .ref (t 7), .ref (t 8), .long tr])), ((a 0), .inr (4, [.int (nI (g 0 0)), .ref (a 1), .ref (a 2), .ref (a 3), .int (nI (g 0 1)), .ref (a 4), .ref (a 5), .ref (a 6), .ref (a 7), .ref (a 8), .ref (a 9), .int (nI (g 0 2))])), ((a 1), .inl (cI, 9, .inl (fun j => nI ((g 1) j)))), ((a 2), .inl (cI, 9, .inl (fun j => nI ((g 2) j)))), ((a 3), .inl (cI, 9, .inl (fun j => nI ((g 3) j)))), ((a 4), .inl (cI, 6, .inl (fun j => nI ((g 4) j)))), ((a 5), .inl (cI, 6, .inl (fun j => nI ((g 5) j)))), ((a 6), .inl (cI, 6, .inl (fun j => nI ((g 6) j)))), ((a 7), .inl (cI, 5, .inl (fun j => nI ((g 7) j)))), ((a 8), .inl (cI, 5, .inl (fun j => nI ((g 8) j)))), ((a 9), .inl (cI, 5, .inl (fun j => ly_h ((g 9) j)))), ((b 0), .inr (3, [.int (nI (d 0)), .int (nI (d 1)), .int (nI (d 2)), .int (nI (d 3)), .int (nI (d 4)), .ref (b 1), .ref (b 2)])), ((b 1), .inl (cI, 9, .inl (fun j => ly_h (ho j)))), ((b 2), .inl (cI, 9, .inl (fun j => nI (le j))))] [.ref (t 0), .int x1, .int x2, .int x3, .int x4, .int x5, .int x6]) (QcRead (-1)) 0 0 (fun _ => False) := by
  refine Met.ofW (cc := cX6_gives) (maxL := 10) (ret := (some .int)) (by decide) rfl ?_
  intro p e s m args below meth c s₁ B hml hv
  obtain ⟨rfl, hP, hK, hN⟩ := hv
  have hx := B.exec
  have hb := B.bytes
  have hr := B.returns
  have hts := atoms_spec (ws := wsX6_gives) B.pre
  have hown : s.vm.findClass RX6 = some m.cls := findClass_of_methodNamed B.named
  have hlocks := B.notSynchronized
  have hl := lv_entry ([.ref (t 0), .int x1, .int x2, .int x3, .int x4, .int x5, .int x6]) (n := 10) (Nat.le_of_ble_eq_true rfl)
  rw [lg_entry_eq]
  generalize (lg_sl ([.ref (t 0), .int x1, .int x2, .int x3, .int x4, .int x5, .int x6]) ++ List.replicate (10 - (lg_sl ([.ref (t 0), .int x1, .int x2, .int x3, .int x4, .int x5, .int x6])).length) Slot.unset).toArray = ls at hl ⊢
  have hl : lv_has ls 10 [(0, .ref (t 0)), (1, .int x1), (2, .int x2), (3, .int x3), (4, .int x4), (5, .int x5), (6, .int x6)] := hl
  generalize ([.ref (t 0), .int x1, .int x2, .int x3, .int x4, .int x5, .int x6] : List Value).toArray = av at hts ⊢
  obtain ⟨Qc, hQc⟩ : ∃ Qc, Qc = (QcRead (-1)) := ⟨_, rfl⟩
  rw [← hQc]
  have f27 := hts (.fieldLink RX6 27 "KneesLent" "parish" "LKneesLent$Parish;") (by decide +kernel)
  have hiX6 : ∀ w ∈ u_ws RX6 TX6 12, w ∈ wsX6_gives := by decide +kernel
  refine lv_aload_n hx hb dX6_gives_0 rfl (lv_at hl 0 rfl) ?_
  refine va_get (D := D) (ci := 6) (v := .ref (a 0)) (C := RX6) (T := TX6) (N := 12) hx hb hts hiX6 hown hK hP 0 rfl rfl 3 (by decide) f27 (fun _ h9 => h9) rfl dX6_gives_1 ?_
  refine lv_iload_n hx hb dX6_gives_4 rfl (lv_at hl 1 rfl) ?_
  have hPc_5 := hP.sub (ws' := [((a 0), .inr (4, [.int (nI (g 0 0)), .ref (a 1), .ref (a 2), .ref (a 3), .int (nI (g 0 1)), .ref (a 4), .ref (a 5), .ref (a 6), .ref (a 7), .ref (a 8), .ref (a 9), .int (nI (g 0 2))])), ((a 1), .inl (cI, 9, .inl (fun j => nI ((g 1) j)))), ((a 2), .inl (cI, 9, .inl (fun j => nI ((g 2) j)))), ((a 3), .inl (cI, 9, .inl (fun j => nI ((g 3) j)))), ((a 4), .inl (cI, 6, .inl (fun j => nI ((g 4) j)))), ((a 5), .inl (cI, 6, .inl (fun j => nI ((g 5) j)))), ((a 6), .inl (cI, 6, .inl (fun j => nI ((g 6) j)))), ((a 7), .inl (cI, 5, .inl (fun j => nI ((g 7) j)))), ((a 8), .inl (cI, 5, .inl (fun j => nI ((g 8) j)))), ((a 9), .inl (cI, 5, .inl (fun j => ly_h ((g 9) j))))]) [1, 2, 3, 4, 5, 6, 7, 8, 9, 10] rfl
  refine ly_r (va_runV (As := [.int x1]) (rest := []) ⟨hx, hb, hml, hown, hts⟩ (c_X4_hasKnee l D cI cC cZ cN a g x1) (cwV 1 hts gX6_gives_X4_hasKnee rfl rfl rfl (by decide +kernel) ⟨Nat.le_of_ble_eq_true rfl, Nat.le_of_ble_eq_true rfl⟩) (ly_pv hK hN hPc_5 0 4 rfl rfl rfl) rfl rfl hl.1 rfl (lv_room (Nat.le_of_ble_eq_true rfl)) dX6_gives_5 ⟨Nat.zero_le _, Nat.zero_le _⟩) ?_
  refine lv_if_eq (tgt := 42) hx hb dX6_gives_8 (by decide) (fun c_1 => ?_) (fun c_1 => ?_)
  · refine lv_iconst (v := (-1)) hx hb dX6_gives_42 (by decide) ?_
    exact W.iret (v := (-1)) hx hb hr (fun t_9 ht_9 _ => by rw [hQc]; exact ⟨rfl, ht_9⟩) t_nil dX6_gives_43
  · refine lv_iload_n hx hb dX6_gives_11 rfl (lv_at hl 2 rfl) ?_
    refine lv_iconst (v := 0) hx hb dX6_gives_12 (by decide) ?_
    refine lv_bipush (v := 6) hx hb dX6_gives_13 (by decide) ?_
    have hPc_15 := hP.sub (ws' := []) [] rfl
    refine ly_r (va_runS (As := [.int x2, .int 0, .int 6]) (rest := []) ⟨hx, hb, hml, hown, hts⟩ (c_X6_within l D cI cC cZ cN x2 0 6) (va_cwS 3 hts gX6_gives_X6_within rfl rfl rfl (by decide +kernel) ⟨Nat.le_of_ble_eq_true rfl, Nat.le_of_ble_eq_true rfl⟩) (ly_ps hK hN hPc_15) rfl rfl hl.1 rfl (lv_room (Nat.le_of_ble_eq_true rfl)) dX6_gives_15 ⟨Nat.zero_le _, Nat.zero_le _⟩) ?_
    refine lv_if_eq (tgt := 42) hx hb dX6_gives_18 (by decide) (fun c_2 => ?_) (fun c_2 => ?_)
    · refine lv_iconst (v := (-1)) hx hb dX6_gives_42 (by decide) ?_
      exact W.iret (v := (-1)) hx hb hr (fun t_9 ht_9 _ => by rw [hQc]; exact ⟨rfl, ht_9⟩) t_nil dX6_gives_43
    · refine lv_iload_n hx hb dX6_gives_21 rfl (lv_at hl 3 rfl) ?_
      refine lv_iconst (v := 0) hx hb dX6_gives_22 (by decide) ?_
      refine lv_bipush (v := 30) hx hb dX6_gives_23 (by decide) ?_
      have hPc_25 := hP.sub (ws' := []) [] rfl
      refine ly_r (va_runS (As := [.int x3, .int 0, .int 30]) (rest := []) ⟨hx, hb, hml, hown, hts⟩ (c_X6_within l D cI cC cZ cN x3 0 30) (va_cwS 3 hts gX6_gives_X6_within rfl rfl rfl (by decide +kernel) ⟨Nat.le_of_ble_eq_true rfl, Nat.le_of_ble_eq_true rfl⟩) (ly_ps hK hN hPc_25) rfl rfl hl.1 rfl (lv_room (Nat.le_of_ble_eq_true rfl)) dX6_gives_25 ⟨Nat.zero_le _, Nat.zero_le _⟩) ?_
      refine lv_if_eq (tgt := 42) hx hb dX6_gives_28 (by decide) (fun c_3 => ?_) (fun c_3 => ?_)
      · refine lv_iconst (v := (-1)) hx hb dX6_gives_42 (by decide) ?_
        exact W.iret (v := (-1)) hx hb hr (fun t_9 ht_9 _ => by rw [hQc]; exact ⟨rfl, ht_9⟩) t_nil dX6_gives_43
      · refine lv_iload hx hb dX6_gives_31 (lv_at hl 4 rfl) ?_
        refine lv_iconst (v := 0) hx hb dX6_gives_33 (by decide) ?_
        refine lv_bipush (v := 30) hx hb dX6_gives_34 (by decide) ?_
        have hPc_36 := hP.sub (ws' := []) [] rfl
        refine ly_r (va_runS (As := [.int x4, .int 0, .int 30]) (rest := []) ⟨hx, hb, hml, hown, hts⟩ (c_X6_within l D cI cC cZ cN x4 0 30) (va_cwS 3 hts gX6_gives_X6_within rfl rfl rfl (by decide +kernel) ⟨Nat.le_of_ble_eq_true rfl, Nat.le_of_ble_eq_true rfl⟩) (ly_ps hK hN hPc_36) rfl rfl hl.1 rfl (lv_room (Nat.le_of_ble_eq_true rfl)) dX6_gives_36 ⟨Nat.zero_le _, Nat.zero_le _⟩) ?_
        refine lv_if_ne (tgt := 44) hx hb dX6_gives_39 (by decide) (fun c_4 => ?_) (fun c_4 => ?_)
        · refine lv_iload hx hb dX6_gives_44 (lv_at hl 5 rfl) ?_
          refine lv_iconst (v := 0) hx hb dX6_gives_46 (by decide) ?_
          refine lv_bipush (v := 10) hx hb dX6_gives_47 (by decide) ?_
          have hPc_49 := hP.sub (ws' := []) [] rfl
          refine ly_r (va_runS (As := [.int x5, .int 0, .int 10]) (rest := []) ⟨hx, hb, hml, hown, hts⟩ (c_X6_within l D cI cC cZ cN x5 0 10) (va_cwS 3 hts gX6_gives_X6_within rfl rfl rfl (by decide +kernel) ⟨Nat.le_of_ble_eq_true rfl, Nat.le_of_ble_eq_true rfl⟩) (ly_ps hK hN hPc_49) rfl rfl hl.1 rfl (lv_room (Nat.le_of_ble_eq_true rfl)) dX6_gives_49 ⟨Nat.zero_le _, Nat.zero_le _⟩) ?_
          refine lv_if_eq (tgt := 65) hx hb dX6_gives_52 (by decide) (fun c_5 => ?_) (fun c_5 => ?_)
          · refine lv_iconst (v := (-1)) hx hb dX6_gives_65 (by decide) ?_
            exact W.iret (v := (-1)) hx hb hr (fun t_9 ht_9 _ => by rw [hQc]; exact ⟨rfl, ht_9⟩) t_nil dX6_gives_66
          · refine lv_iload hx hb dX6_gives_55 (lv_at hl 6 rfl) ?_
            refine lv_iconst (v := 0) hx hb dX6_gives_57 (by decide) ?_
            refine lv_iconst (v := 1) hx hb dX6_gives_58 (by decide) ?_
            have hPc_59 := hP.sub (ws' := []) [] rfl
            refine ly_r (va_runS (As := [.int x6, .int 0, .int 1]) (rest := []) ⟨hx, hb, hml, hown, hts⟩ (c_X6_within l D cI cC cZ cN x6 0 1) (va_cwS 3 hts gX6_gives_X6_within rfl rfl rfl (by decide +kernel) ⟨Nat.le_of_ble_eq_true rfl, Nat.le_of_ble_eq_true rfl⟩) (ly_ps hK hN hPc_59) rfl rfl hl.1 rfl (lv_room (Nat.le_of_ble_eq_true rfl)) dX6_gives_59 ⟨Nat.zero_le _, Nat.zero_le _⟩) ?_
            refine lv_if_ne (tgt := 67) hx hb dX6_gives_62 (by decide) (fun c_6 => ?_) (fun c_6 => ?_)
            · rcases hb9 with h_9 | h_9 | h_9 | h_9 | h_9 | h_9 <;> exact absurd h_9 (by assumption)
            · refine lv_iconst (v := (-1)) hx hb dX6_gives_65 (by decide) ?_
              exact W.iret (v := (-1)) hx hb hr (fun t_9 ht_9 _ => by rw [hQc]; exact ⟨rfl, ht_9⟩) t_nil dX6_gives_66
        · refine lv_iconst (v := (-1)) hx hb dX6_gives_42 (by decide) ?_
          exact W.iret (v := (-1)) hx hb hr (fun t_9 ht_9 _ => by rw [hQc]; exact ⟨rfl, ht_9⟩) t_nil dX6_gives_43

def s_tenB  (i : Nat) (v0 : Nat) : Nat := v0 * 10
def s_ten  : Nat → Nat
  | 0 => 1
  | i + 1 => s_tenB  i (s_ten i)
set_option maxHeartbeats 4000000 in
set_option maxRecDepth 100000 in
theorem c_X6_gives_0 (l : Launch) (D : va_G) (cI cC cZ cN : ClassId) (t a2 : Nat → Nat) (lt : Nat) (tr : Int64) (a : Nat → Nat) (g : Nat → Nat → Nat) (b : Nat → Nat) (d ho le : Nat → Nat) (k n a1 b1 x1 : Nat) (hk : k < g 0 0) (hn : g 0 0 ≤ 9) (hn6 : n ≤ 6) (ha3 : a1 ≤ 30) (hb3 : b1 ≤ 30) (hx1 : x1 ≤ 10) : Met l yX6_gives wsX6_gives (ly_rm 9) (ly_Pre D (ly_tys cI cC cZ cN) [((t 0), .inr (6, [.ref (t 1), .int (nI lt), .ref (t 2), .ref (a 0), .ref (a2 0), .ref (b 0), .ref (t 4), .ref (t 5), .ref (t 6), .ref (t 7), .ref (t 8), .long tr])), ((a 0), .inr (4, [.int (nI (g 0 0)), .ref (a 1), .ref (a 2), .ref (a 3), .int (nI (g 0 1)), .ref (a 4), .ref (a 5), .ref (a 6), .ref (a 7), .ref (a 8), .ref (a 9), .int (nI (g 0 2))])), ((a 1), .inl (cI, 9, .inl (fun j => nI ((g 1) j)))), ((a 2), .inl (cI, 9, .inl (fun j => nI ((g 2) j)))), ((a 3), .inl (cI, 9, .inl (fun j => nI ((g 3) j)))), ((a 4), .inl (cI, 6, .inl (fun j => nI ((g 4) j)))), ((a 5), .inl (cI, 6, .inl (fun j => nI ((g 5) j)))), ((a 6), .inl (cI, 6, .inl (fun j => nI ((g 6) j)))), ((a 7), .inl (cI, 5, .inl (fun j => nI ((g 7) j)))), ((a 8), .inl (cI, 5, .inl (fun j => nI ((g 8) j)))), ((a 9), .inl (cI, 5, .inl (fun j => ly_h ((g 9) j)))), ((b 0), .inr (3, [.int (nI (d 0)), .int (nI (d 1)), .int (nI (d 2)), .int (nI (d 3)), .int (nI (d 4)), .ref (b 1), .ref (b 2)])), ((b 1), .inl (cI, 9, .inl (fun j => ly_h (ho j)))), ((b 2), .inl (cI, 9, .inl (fun j => nI (le j))))] [.ref (t 0), .int (nI k), .int (nI n), .int (nI a1), .int (nI b1), .int (nI x1), .int (nI 0)]) (QcRead ((s_ways a1 b1 x1 n (nI (le k))) / nI (t_sh 2 (s_ways a1 b1 x1 n (nI (le k))) n 1 * t_sh 5 (s_ways a1 b1 x1 n (nI (le k))) n 1))) 0 0 (fun _ => False) := by
  refine Met.ofW (cc := cX6_gives) (maxL := 10) (ret := (some .int)) (by decide) rfl ?_
  intro p e s m args below meth c s₁ B hml hv
  obtain ⟨rfl, hP, hK, hN⟩ := hv
  have hx := B.exec
  have hb := B.bytes
  have hr := B.returns
  have hts := atoms_spec (ws := wsX6_gives) B.pre
  have hown : s.vm.findClass RX6 = some m.cls := findClass_of_methodNamed B.named
  have hlocks := B.notSynchronized
  have hl := lv_entry ([.ref (t 0), .int (nI k), .int (nI n), .int (nI a1), .int (nI b1), .int (nI x1), .int (nI 0)]) (n := 10) (Nat.le_of_ble_eq_true rfl)
  rw [lg_entry_eq]
  generalize (lg_sl ([.ref (t 0), .int (nI k), .int (nI n), .int (nI a1), .int (nI b1), .int (nI x1), .int (nI 0)]) ++ List.replicate (10 - (lg_sl ([.ref (t 0), .int (nI k), .int (nI n), .int (nI a1), .int (nI b1), .int (nI x1), .int (nI 0)])).length) Slot.unset).toArray = ls at hl ⊢
  have hl : lv_has ls 10 [(0, .ref (t 0)), (1, .int (nI k)), (2, .int (nI n)), (3, .int (nI a1)), (4, .int (nI b1)), (5, .int (nI x1)), (6, .int (nI 0))] := hl
  generalize ([.ref (t 0), .int (nI k), .int (nI n), .int (nI a1), .int (nI b1), .int (nI x1), .int (nI 0)] : List Value).toArray = av at hts ⊢
  obtain ⟨Qc, hQc⟩ : ∃ Qc, Qc = (QcRead ((s_ways a1 b1 x1 n (nI (le k))) / nI (t_sh 2 (s_ways a1 b1 x1 n (nI (le k))) n 1 * t_sh 5 (s_ways a1 b1 x1 n (nI (le k))) n 1))) := ⟨_, rfl⟩
  rw [← hQc]
  have f27 := hts (.fieldLink RX6 27 "KneesLent" "parish" "LKneesLent$Parish;") (by decide +kernel)
  have f37 := hts (.fieldLink RX6 37 "KneesLent" "now" "LKneesLent$Now;") (by decide +kernel)
  have f112 := hts (.fieldLink RX6 112 "KneesLent$Now" "left" "[I") (by decide +kernel)
  have hiX6 : ∀ w ∈ u_ws RX6 TX6 12, w ∈ wsX6_gives := by decide +kernel
  have hiX3 : ∀ w ∈ u_ws RX3 TX3 7, w ∈ wsX6_gives := by decide +kernel
  refine lv_aload_n hx hb dX6_gives_0 rfl (lv_at hl 0 rfl) ?_
  refine va_get (D := D) (ci := 6) (v := .ref (a 0)) (C := RX6) (T := TX6) (N := 12) hx hb hts hiX6 hown hK hP 0 rfl rfl 3 (by decide) f27 (fun _ h9 => h9) rfl dX6_gives_1 ?_
  refine lv_iload_n hx hb dX6_gives_4 rfl (lv_at hl 1 rfl) ?_
  have hPc_5 := hP.sub (ws' := [((a 0), .inr (4, [.int (nI (g 0 0)), .ref (a 1), .ref (a 2), .ref (a 3), .int (nI (g 0 1)), .ref (a 4), .ref (a 5), .ref (a 6), .ref (a 7), .ref (a 8), .ref (a 9), .int (nI (g 0 2))])), ((a 1), .inl (cI, 9, .inl (fun j => nI ((g 1) j)))), ((a 2), .inl (cI, 9, .inl (fun j => nI ((g 2) j)))), ((a 3), .inl (cI, 9, .inl (fun j => nI ((g 3) j)))), ((a 4), .inl (cI, 6, .inl (fun j => nI ((g 4) j)))), ((a 5), .inl (cI, 6, .inl (fun j => nI ((g 5) j)))), ((a 6), .inl (cI, 6, .inl (fun j => nI ((g 6) j)))), ((a 7), .inl (cI, 5, .inl (fun j => nI ((g 7) j)))), ((a 8), .inl (cI, 5, .inl (fun j => nI ((g 8) j)))), ((a 9), .inl (cI, 5, .inl (fun j => ly_h ((g 9) j))))]) [1, 2, 3, 4, 5, 6, 7, 8, 9, 10] rfl
  refine ly_r (va_runV (As := [.int (nI k)]) (rest := []) ⟨hx, hb, hml, hown, hts⟩ (c_X4_hasKnee l D cI cC cZ cN a g (nI k)) (cwV 1 hts gX6_gives_X4_hasKnee rfl rfl rfl (by decide +kernel) ⟨Nat.le_of_ble_eq_true rfl, Nat.le_of_ble_eq_true rfl⟩) (ly_pv hK hN hPc_5 0 4 rfl rfl rfl) rfl rfl hl.1 rfl (lv_room (Nat.le_of_ble_eq_true rfl)) dX6_gives_5 ⟨Nat.zero_le _, Nat.zero_le _⟩) ?_
  refine lv_if_eq (tgt := 42) hx hb dX6_gives_8 (by decide) (fun h_9 => absurd h_9 (jin_ix hk hn)) (fun _ => ?_)
  refine lv_iload_n hx hb dX6_gives_11 rfl (lv_at hl 2 rfl) ?_
  refine lv_iconst (v := 0) hx hb dX6_gives_12 (by decide) ?_
  refine lv_bipush (v := 6) hx hb dX6_gives_13 (by decide) ?_
  have hPc_15 := hP.sub (ws' := []) [] rfl
  refine ly_r (va_runS (As := [.int (nI n), .int 0, .int 6]) (rest := []) ⟨hx, hb, hml, hown, hts⟩ (c_X6_within l D cI cC cZ cN (nI n) 0 6) (va_cwS 3 hts gX6_gives_X6_within rfl rfl rfl (by decide +kernel) ⟨Nat.le_of_ble_eq_true rfl, Nat.le_of_ble_eq_true rfl⟩) (ly_ps hK hN hPc_15) rfl rfl hl.1 rfl (lv_room (Nat.le_of_ble_eq_true rfl)) dX6_gives_15 ⟨Nat.zero_le _, Nat.zero_le _⟩) ?_
  refine lv_if_eq (tgt := 42) hx hb dX6_gives_18 (by decide) (fun h_9 => absurd h_9 (jin_yes (b := 6) hn6 (by omega))) (fun _ => ?_)
  refine lv_iload_n hx hb dX6_gives_21 rfl (lv_at hl 3 rfl) ?_
  refine lv_iconst (v := 0) hx hb dX6_gives_22 (by decide) ?_
  refine lv_bipush (v := 30) hx hb dX6_gives_23 (by decide) ?_
  have hPc_25 := hP.sub (ws' := []) [] rfl
  refine ly_r (va_runS (As := [.int (nI a1), .int 0, .int 30]) (rest := []) ⟨hx, hb, hml, hown, hts⟩ (c_X6_within l D cI cC cZ cN (nI a1) 0 30) (va_cwS 3 hts gX6_gives_X6_within rfl rfl rfl (by decide +kernel) ⟨Nat.le_of_ble_eq_true rfl, Nat.le_of_ble_eq_true rfl⟩) (ly_ps hK hN hPc_25) rfl rfl hl.1 rfl (lv_room (Nat.le_of_ble_eq_true rfl)) dX6_gives_25 ⟨Nat.zero_le _, Nat.zero_le _⟩) ?_
  refine lv_if_eq (tgt := 42) hx hb dX6_gives_28 (by decide) (fun h_9 => absurd h_9 (jin_yes (b := 30) ha3 (by omega))) (fun _ => ?_)
  refine lv_iload hx hb dX6_gives_31 (lv_at hl 4 rfl) ?_
  refine lv_iconst (v := 0) hx hb dX6_gives_33 (by decide) ?_
  refine lv_bipush (v := 30) hx hb dX6_gives_34 (by decide) ?_
  have hPc_36 := hP.sub (ws' := []) [] rfl
  refine ly_r (va_runS (As := [.int (nI b1), .int 0, .int 30]) (rest := []) ⟨hx, hb, hml, hown, hts⟩ (c_X6_within l D cI cC cZ cN (nI b1) 0 30) (va_cwS 3 hts gX6_gives_X6_within rfl rfl rfl (by decide +kernel) ⟨Nat.le_of_ble_eq_true rfl, Nat.le_of_ble_eq_true rfl⟩) (ly_ps hK hN hPc_36) rfl rfl hl.1 rfl (lv_room (Nat.le_of_ble_eq_true rfl)) dX6_gives_36 ⟨Nat.zero_le _, Nat.zero_le _⟩) ?_
  refine lv_if_ne (tgt := 44) hx hb dX6_gives_39 (by decide) (fun _ => ?_) (fun h_9 => absurd h_9 (jin_yes (b := 30) hb3 (by omega)))
  refine lv_iload hx hb dX6_gives_44 (lv_at hl 5 rfl) ?_
  refine lv_iconst (v := 0) hx hb dX6_gives_46 (by decide) ?_
  refine lv_bipush (v := 10) hx hb dX6_gives_47 (by decide) ?_
  have hPc_49 := hP.sub (ws' := []) [] rfl
  refine ly_r (va_runS (As := [.int (nI x1), .int 0, .int 10]) (rest := []) ⟨hx, hb, hml, hown, hts⟩ (c_X6_within l D cI cC cZ cN (nI x1) 0 10) (va_cwS 3 hts gX6_gives_X6_within rfl rfl rfl (by decide +kernel) ⟨Nat.le_of_ble_eq_true rfl, Nat.le_of_ble_eq_true rfl⟩) (ly_ps hK hN hPc_49) rfl rfl hl.1 rfl (lv_room (Nat.le_of_ble_eq_true rfl)) dX6_gives_49 ⟨Nat.zero_le _, Nat.zero_le _⟩) ?_
  refine lv_if_eq (tgt := 65) hx hb dX6_gives_52 (by decide) (fun h_9 => absurd h_9 (jin_yes (b := 10) hx1 (by omega))) (fun _ => ?_)
  refine lv_iload hx hb dX6_gives_55 (lv_at hl 6 rfl) ?_
  refine lv_iconst (v := 0) hx hb dX6_gives_57 (by decide) ?_
  refine lv_iconst (v := 1) hx hb dX6_gives_58 (by decide) ?_
  have hPc_59 := hP.sub (ws' := []) [] rfl
  refine ly_r (va_runS (As := [.int (nI 0), .int 0, .int 1]) (rest := []) ⟨hx, hb, hml, hown, hts⟩ (c_X6_within l D cI cC cZ cN (nI 0) 0 1) (va_cwS 3 hts gX6_gives_X6_within rfl rfl rfl (by decide +kernel) ⟨Nat.le_of_ble_eq_true rfl, Nat.le_of_ble_eq_true rfl⟩) (ly_ps hK hN hPc_59) rfl rfl hl.1 rfl (lv_room (Nat.le_of_ble_eq_true rfl)) dX6_gives_59 ⟨Nat.zero_le _, Nat.zero_le _⟩) ?_
  refine lv_if_ne (tgt := 67) hx hb dX6_gives_62 (by decide) (fun _ => ?_) (fun h_9 => absurd h_9 (jin_yes (b := 1) (by omega) (by omega)))
  refine lv_iload_n hx hb dX6_gives_67 rfl (lv_at hl 2 rfl) ?_
  refine lv_iload_n hx hb dX6_gives_68 rfl (lv_at hl 3 rfl) ?_
  refine lv_iload hx hb dX6_gives_69 (lv_at hl 4 rfl) ?_
  refine lv_iload hx hb dX6_gives_71 (lv_at hl 5 rfl) ?_
  refine lv_aload_n hx hb dX6_gives_73 rfl (lv_at hl 0 rfl) ?_
  refine va_get (D := D) (ci := 6) (v := .ref (b 0)) (C := RX6) (T := TX6) (N := 12) hx hb hts hiX6 hown hK hP 0 rfl rfl 5 (by decide) f37 (fun _ h9 => h9) rfl dX6_gives_74 ?_
  refine va_get (D := D) (ci := 3) (v := .ref (b 2)) (C := RX3) (T := TX3) (N := 7) hx hb hts hiX3 hown hK hP 11 rfl rfl 6 (by decide) f112 (fun _ h9 => h9) rfl dX6_gives_77 ?_
  refine lv_iload_n hx hb dX6_gives_80 rfl (lv_at hl 1 rfl) ?_
  refine ly_iald hx hb hK hP 13 0 rfl rfl (k := k) (by decide) rfl (by omega) dX6_gives_81 ?_
  have hPc_82 := hP.sub (ws' := []) [] rfl
  refine ly_r (va_runS (As := [.int (nI n), .int (nI a1), .int (nI b1), .int (nI x1), .int (nI (le k))]) (rest := []) ⟨hx, hb, hml, hown, hts⟩ (c_X6_waysToGive l D cI cC cZ cN a1 b1 x1 n (nI (le k)) hn6) (va_cwS 5 hts gX6_gives_X6_waysToGive rfl rfl rfl (by decide +kernel) ⟨(by show (n + 1) + 1 ≤ 9; omega), (by show 8 + (5 + 11) + 40 * (n + 1) ≤ 40 * 9; omega)⟩) (ly_ps hK hN hPc_82) rfl rfl hl.1 rfl (lv_room (Nat.le_of_ble_eq_true rfl)) dX6_gives_82 ⟨Nat.zero_le _, Nat.zero_le _⟩) ?_
  refine lv_istore (lv' := [(7, .int (s_ways a1 b1 x1 n (nI (le k)))), (0, .ref (t 0)), (1, .int (nI k)), (2, .int (nI n)), (3, .int (nI a1)), (4, .int (nI b1)), (5, .int (nI x1)), (6, .int (nI 0))]) hx hb dX6_gives_85 hl (by decide) rfl (fun ls hl => ?_)
  refine lv_iconst (v := 1) hx hb dX6_gives_87 (by decide) ?_
  refine lv_istore (lv' := [(8, .int 1), (7, .int (s_ways a1 b1 x1 n (nI (le k)))), (0, .ref (t 0)), (1, .int (nI k)), (2, .int (nI n)), (3, .int (nI a1)), (4, .int (nI b1)), (5, .int (nI x1)), (6, .int (nI 0))]) hx hb dX6_gives_88 hl (by decide) rfl (fun ls hl => ?_)
  refine lv_iconst (v := 0) hx hb dX6_gives_90 (by decide) ?_
  refine lv_istore (lv' := [(9, .int 0), (8, .int 1), (7, .int (s_ways a1 b1 x1 n (nI (le k)))), (0, .ref (t 0)), (1, .int (nI k)), (2, .int (nI n)), (3, .int (nI a1)), (4, .int (nI b1)), (5, .int (nI x1)), (6, .int (nI 0))]) hx hb dX6_gives_91 hl (by decide) rfl (fun ls hl => ?_)
  have hloop_93 : ∀ (uz i : Nat), i + uz = n → ∀ ls : Array Slot, lv_has ls 10 [(9, .int (nI i)), (8, .int (nI (s_ten i))), (7, .int (s_ways a1 b1 x1 n (nI (le k)))), (0, .ref (t 0)), (1, .int (nI k)), (2, .int (nI n)), (3, .int (nI a1)), (4, .int (nI b1)), (5, .int (nI x1)), (6, .int (nI 0))] → W p l e (headSpec wsX6_gives (ly_rm 9)).room s m av below meth c s.heap [] 0 0 (MQ below Qc av s 0 0 (fun _ => False)) (F0 m 93 ls []) := by
    intro uz
    induction uz with
    | zero =>
      intro i hi_93 ls hl
      obtain rfl : n = i := by omega
      refine lv_iload hx hb dX6_gives_93 (lv_at hl 0 rfl) ?_
      refine lv_iload_n hx hb dX6_gives_95 rfl (lv_at hl 5 rfl) ?_
      refine lv_icmp_ge (tgt := 112) hx hb dX6_gives_96 (by decide) (fun _ => ?_) (fun h_9 => absurd (nI_le (Nat.le_refl _) (by omega)) h_9)
      have hb2_ := t_sh_b2 (s_ways a1 b1 x1 n (nI (le k))) hn6
      have hb5_ := t_sh_b5 (s_ways a1 b1 x1 n (nI (le k))) hn6
      have hcm_ : 0 < (t_sh 2 (s_ways a1 b1 x1 n (nI (le k))) n 1 * t_sh 5 (s_ways a1 b1 x1 n (nI (le k))) n 1) := Nat.mul_pos hb2_.1 hb5_.1
      have hcm9_ : (t_sh 2 (s_ways a1 b1 x1 n (nI (le k))) n 1 * t_sh 5 (s_ways a1 b1 x1 n (nI (le k))) n 1) < 2 ^ 31 := Nat.lt_of_le_of_lt (Nat.mul_le_mul hb2_.2 hb5_.2) (by decide)
      refine lv_iload hx hb dX6_gives_112 (lv_at hl 2 rfl) ?_
      refine lv_iload_n hx hb dX6_gives_114 rfl (lv_at hl 5 rfl) ?_
      refine lv_iconst (v := 2) hx hb dX6_gives_115 (by decide) ?_
      have hPc_116 := hP.sub (ws' := []) [] rfl
      refine ly_r (va_runS (As := [.int (s_ways a1 b1 x1 n (nI (le k))), .int (nI n), .int 2]) (rest := []) ⟨hx, hb, hml, hown, hts⟩ (c_X6_sharedOfTens_2 l D cI cC cZ cN (s_ways a1 b1 x1 n (nI (le k))) n hn6) (va_cwS 3 hts gX6_gives_X6_sharedOfTens rfl rfl rfl (by decide +kernel) ⟨(by show 1 + 1 ≤ 9; omega), (by show 8 + (5 + 11) + 40 * 1 ≤ 40 * 9; omega)⟩) (ly_ps hK hN hPc_116) rfl rfl hl.1 rfl (lv_room (Nat.le_of_ble_eq_true rfl)) dX6_gives_116 ⟨Nat.zero_le _, Nat.zero_le _⟩) ?_
      refine ly_eqi (show (s_sh2 (s_ways a1 b1 x1 n (nI (le k))) n 0 1) = (nI (t_sh 2 (s_ways a1 b1 x1 n (nI (le k))) n 1)) from (s_sh2_t _ _ _ _)) ?_
      refine lv_iload hx hb dX6_gives_119 (lv_at hl 2 rfl) ?_
      refine lv_iload_n hx hb dX6_gives_121 rfl (lv_at hl 5 rfl) ?_
      refine lv_iconst (v := 5) hx hb dX6_gives_122 (by decide) ?_
      have hPc_123 := hP.sub (ws' := []) [] rfl
      refine ly_r (va_runS (As := [.int (s_ways a1 b1 x1 n (nI (le k))), .int (nI n), .int 5]) (rest := [.int (nI (t_sh 2 (s_ways a1 b1 x1 n (nI (le k))) n 1))]) ⟨hx, hb, hml, hown, hts⟩ (c_X6_sharedOfTens_5 l D cI cC cZ cN (s_ways a1 b1 x1 n (nI (le k))) n hn6) (va_cwS 3 hts gX6_gives_X6_sharedOfTens rfl rfl rfl (by decide +kernel) ⟨(by show 1 + 1 ≤ 9; omega), (by show 8 + (5 + 11) + 40 * 1 ≤ 40 * 9; omega)⟩) (ly_ps hK hN hPc_123) rfl rfl hl.1 rfl (lv_room (Nat.le_of_ble_eq_true rfl)) dX6_gives_123 ⟨Nat.zero_le _, Nat.zero_le _⟩) ?_
      refine ly_eqi (show (s_sh5 (s_ways a1 b1 x1 n (nI (le k))) n 0 1) = (nI (t_sh 5 (s_ways a1 b1 x1 n (nI (le k))) n 1)) from (s_sh5_t _ _ _ _)) ?_
      refine lv_imul hx hb dX6_gives_126 ?_
      refine ly_eqi (show ((nI (t_sh 2 (s_ways a1 b1 x1 n (nI (le k))) n 1)) * (nI (t_sh 5 (s_ways a1 b1 x1 n (nI (le k))) n 1))) = (nI ((t_sh 2 (s_ways a1 b1 x1 n (nI (le k))) n 1) * (t_sh 5 (s_ways a1 b1 x1 n (nI (le k))) n 1))) from ly_mul rfl rfl) ?_
      refine lv_istore (lv' := [(9, .int (nI ((t_sh 2 (s_ways a1 b1 x1 n (nI (le k))) n 1) * (t_sh 5 (s_ways a1 b1 x1 n (nI (le k))) n 1)))), (8, .int (nI (s_ten n))), (7, .int (s_ways a1 b1 x1 n (nI (le k)))), (0, .ref (t 0)), (1, .int (nI k)), (2, .int (nI n)), (3, .int (nI a1)), (4, .int (nI b1)), (5, .int (nI x1)), (6, .int (nI 0))]) hx hb dX6_gives_127 hl (by decide) rfl (fun ls hl => ?_)
      refine lv_iload hx hb dX6_gives_129 (lv_at hl 9 rfl) ?_
      refine lv_if_ne (tgt := 139) hx hb dX6_gives_131 (by decide) (fun h_9 => absurd (by decide) h_9) (fun _ => ?_)
      refine lv_iload hx hb dX6_gives_134 (lv_at hl 2 rfl) ?_
      refine lv_goto (tgt := 141) hx hb dX6_gives_136 (by decide) ?_
      refine lv_iload hx hb dX6_gives_141 (lv_at hl 0 rfl) ?_
      refine lv_idiv hx hb dX6_gives_143 (nI_ne0 hcm_ hcm9_) ?_
      exact W.iret (v := ((s_ways a1 b1 x1 n (nI (le k))) / (nI ((t_sh 2 (s_ways a1 b1 x1 n (nI (le k))) n 1) * (t_sh 5 (s_ways a1 b1 x1 n (nI (le k))) n 1))))) hx hb hr (fun t_9 ht_9 _ => by rw [hQc]; exact ⟨rfl, ht_9⟩) t_nil dX6_gives_144
    | succ uz ih_93 =>
      intro i hi_93 ls hl
      refine lv_iload hx hb dX6_gives_93 (lv_at hl 0 rfl) ?_
      refine lv_iload_n hx hb dX6_gives_95 rfl (lv_at hl 5 rfl) ?_
      refine lv_icmp_ge (tgt := 112) hx hb dX6_gives_96 (by decide) (fun h_9 => absurd h_9 (nI_ge (by omega) (by omega))) (fun _ => ?_)
      refine lv_iload hx hb dX6_gives_99 (lv_at hl 1 rfl) ?_
      refine lv_bipush (v := 10) hx hb dX6_gives_101 (by decide) ?_
      refine lv_imul hx hb dX6_gives_103 ?_
      refine ly_eqi (show ((nI (s_ten i)) * 10) = (nI ((s_ten i) * 10)) from ly_mul rfl rfl) ?_
      refine lv_istore (lv' := [(8, .int (nI ((s_ten i) * 10))), (9, .int (nI i)), (7, .int (s_ways a1 b1 x1 n (nI (le k)))), (0, .ref (t 0)), (1, .int (nI k)), (2, .int (nI n)), (3, .int (nI a1)), (4, .int (nI b1)), (5, .int (nI x1)), (6, .int (nI 0))]) hx hb dX6_gives_104 hl (by decide) rfl (fun ls hl => ?_)
      refine lv_iinc (v := (nI (i + 1))) (lv' := [(9, .int (nI (i + 1))), (8, .int (nI ((s_ten i) * 10))), (7, .int (s_ways a1 b1 x1 n (nI (le k)))), (0, .ref (t 0)), (1, .int (nI k)), (2, .int (nI n)), (3, .int (nI a1)), (4, .int (nI b1)), (5, .int (nI x1)), (6, .int (nI 0))]) hx hb dX6_gives_106 hl (k := 1) rfl (ly_add rfl rfl) (by decide) rfl (fun ls hl => ?_)
      refine lv_goto (tgt := 93) hx hb dX6_gives_109 (by decide) ?_
      have e_1 : s_ten (i + 1) = (s_ten i) * 10 := by show s_tenB  i (s_ten i) = _; unfold s_tenB; rfl
      exact ih_93 (i + 1) (by omega) ls (by rw [e_1]; exact lv_sub hl [0, 1, 2, 3, 4, 5, 6, 7, 8, 9] rfl)
  exact hloop_93 n 0 (by omega) ls (lv_sub hl [0, 1, 2, 3, 4, 5, 6, 7, 8, 9] rfl)

set_option maxHeartbeats 4000000 in
set_option maxRecDepth 100000 in
theorem c_X6_gives_1 (l : Launch) (D : va_G) (cI cC cZ cN : ClassId) (t a2 : Nat → Nat) (lt : Nat) (tr : Int64) (a : Nat → Nat) (g : Nat → Nat → Nat) (b : Nat → Nat) (d ho le : Nat → Nat) (k n a1 b1 x1 : Nat) (hk : k < g 0 0) (hn : g 0 0 ≤ 9) (hn6 : n ≤ 6) (ha3 : a1 ≤ 30) (hb3 : b1 ≤ 30) (hx1 : x1 ≤ 10) : Met l yX6_gives wsX6_gives (ly_rm 9) (ly_Pre D (ly_tys cI cC cZ cN) [((t 0), .inr (6, [.ref (t 1), .int (nI lt), .ref (t 2), .ref (a 0), .ref (a2 0), .ref (b 0), .ref (t 4), .ref (t 5), .ref (t 6), .ref (t 7), .ref (t 8), .long tr])), ((a 0), .inr (4, [.int (nI (g 0 0)), .ref (a 1), .ref (a 2), .ref (a 3), .int (nI (g 0 1)), .ref (a 4), .ref (a 5), .ref (a 6), .ref (a 7), .ref (a 8), .ref (a 9), .int (nI (g 0 2))])), ((a 1), .inl (cI, 9, .inl (fun j => nI ((g 1) j)))), ((a 2), .inl (cI, 9, .inl (fun j => nI ((g 2) j)))), ((a 3), .inl (cI, 9, .inl (fun j => nI ((g 3) j)))), ((a 4), .inl (cI, 6, .inl (fun j => nI ((g 4) j)))), ((a 5), .inl (cI, 6, .inl (fun j => nI ((g 5) j)))), ((a 6), .inl (cI, 6, .inl (fun j => nI ((g 6) j)))), ((a 7), .inl (cI, 5, .inl (fun j => nI ((g 7) j)))), ((a 8), .inl (cI, 5, .inl (fun j => nI ((g 8) j)))), ((a 9), .inl (cI, 5, .inl (fun j => ly_h ((g 9) j)))), ((b 0), .inr (3, [.int (nI (d 0)), .int (nI (d 1)), .int (nI (d 2)), .int (nI (d 3)), .int (nI (d 4)), .ref (b 1), .ref (b 2)])), ((b 1), .inl (cI, 9, .inl (fun j => ly_h (ho j)))), ((b 2), .inl (cI, 9, .inl (fun j => nI (le j))))] [.ref (t 0), .int (nI k), .int (nI n), .int (nI a1), .int (nI b1), .int (nI x1), .int (nI 1)]) (QcRead (nI (s_ten n) / nI (t_sh 2 (s_ways a1 b1 x1 n (nI (le k))) n 1 * t_sh 5 (s_ways a1 b1 x1 n (nI (le k))) n 1))) 0 0 (fun _ => False) := by
  refine Met.ofW (cc := cX6_gives) (maxL := 10) (ret := (some .int)) (by decide) rfl ?_
  intro p e s m args below meth c s₁ B hml hv
  obtain ⟨rfl, hP, hK, hN⟩ := hv
  have hx := B.exec
  have hb := B.bytes
  have hr := B.returns
  have hts := atoms_spec (ws := wsX6_gives) B.pre
  have hown : s.vm.findClass RX6 = some m.cls := findClass_of_methodNamed B.named
  have hlocks := B.notSynchronized
  have hl := lv_entry ([.ref (t 0), .int (nI k), .int (nI n), .int (nI a1), .int (nI b1), .int (nI x1), .int (nI 1)]) (n := 10) (Nat.le_of_ble_eq_true rfl)
  rw [lg_entry_eq]
  generalize (lg_sl ([.ref (t 0), .int (nI k), .int (nI n), .int (nI a1), .int (nI b1), .int (nI x1), .int (nI 1)]) ++ List.replicate (10 - (lg_sl ([.ref (t 0), .int (nI k), .int (nI n), .int (nI a1), .int (nI b1), .int (nI x1), .int (nI 1)])).length) Slot.unset).toArray = ls at hl ⊢
  have hl : lv_has ls 10 [(0, .ref (t 0)), (1, .int (nI k)), (2, .int (nI n)), (3, .int (nI a1)), (4, .int (nI b1)), (5, .int (nI x1)), (6, .int (nI 1))] := hl
  generalize ([.ref (t 0), .int (nI k), .int (nI n), .int (nI a1), .int (nI b1), .int (nI x1), .int (nI 1)] : List Value).toArray = av at hts ⊢
  obtain ⟨Qc, hQc⟩ : ∃ Qc, Qc = (QcRead (nI (s_ten n) / nI (t_sh 2 (s_ways a1 b1 x1 n (nI (le k))) n 1 * t_sh 5 (s_ways a1 b1 x1 n (nI (le k))) n 1))) := ⟨_, rfl⟩
  rw [← hQc]
  have f27 := hts (.fieldLink RX6 27 "KneesLent" "parish" "LKneesLent$Parish;") (by decide +kernel)
  have f37 := hts (.fieldLink RX6 37 "KneesLent" "now" "LKneesLent$Now;") (by decide +kernel)
  have f112 := hts (.fieldLink RX6 112 "KneesLent$Now" "left" "[I") (by decide +kernel)
  have hiX6 : ∀ w ∈ u_ws RX6 TX6 12, w ∈ wsX6_gives := by decide +kernel
  have hiX3 : ∀ w ∈ u_ws RX3 TX3 7, w ∈ wsX6_gives := by decide +kernel
  refine lv_aload_n hx hb dX6_gives_0 rfl (lv_at hl 0 rfl) ?_
  refine va_get (D := D) (ci := 6) (v := .ref (a 0)) (C := RX6) (T := TX6) (N := 12) hx hb hts hiX6 hown hK hP 0 rfl rfl 3 (by decide) f27 (fun _ h9 => h9) rfl dX6_gives_1 ?_
  refine lv_iload_n hx hb dX6_gives_4 rfl (lv_at hl 1 rfl) ?_
  have hPc_5 := hP.sub (ws' := [((a 0), .inr (4, [.int (nI (g 0 0)), .ref (a 1), .ref (a 2), .ref (a 3), .int (nI (g 0 1)), .ref (a 4), .ref (a 5), .ref (a 6), .ref (a 7), .ref (a 8), .ref (a 9), .int (nI (g 0 2))])), ((a 1), .inl (cI, 9, .inl (fun j => nI ((g 1) j)))), ((a 2), .inl (cI, 9, .inl (fun j => nI ((g 2) j)))), ((a 3), .inl (cI, 9, .inl (fun j => nI ((g 3) j)))), ((a 4), .inl (cI, 6, .inl (fun j => nI ((g 4) j)))), ((a 5), .inl (cI, 6, .inl (fun j => nI ((g 5) j)))), ((a 6), .inl (cI, 6, .inl (fun j => nI ((g 6) j)))), ((a 7), .inl (cI, 5, .inl (fun j => nI ((g 7) j)))), ((a 8), .inl (cI, 5, .inl (fun j => nI ((g 8) j)))), ((a 9), .inl (cI, 5, .inl (fun j => ly_h ((g 9) j))))]) [1, 2, 3, 4, 5, 6, 7, 8, 9, 10] rfl
  refine ly_r (va_runV (As := [.int (nI k)]) (rest := []) ⟨hx, hb, hml, hown, hts⟩ (c_X4_hasKnee l D cI cC cZ cN a g (nI k)) (cwV 1 hts gX6_gives_X4_hasKnee rfl rfl rfl (by decide +kernel) ⟨Nat.le_of_ble_eq_true rfl, Nat.le_of_ble_eq_true rfl⟩) (ly_pv hK hN hPc_5 0 4 rfl rfl rfl) rfl rfl hl.1 rfl (lv_room (Nat.le_of_ble_eq_true rfl)) dX6_gives_5 ⟨Nat.zero_le _, Nat.zero_le _⟩) ?_
  refine lv_if_eq (tgt := 42) hx hb dX6_gives_8 (by decide) (fun h_9 => absurd h_9 (jin_ix hk hn)) (fun _ => ?_)
  refine lv_iload_n hx hb dX6_gives_11 rfl (lv_at hl 2 rfl) ?_
  refine lv_iconst (v := 0) hx hb dX6_gives_12 (by decide) ?_
  refine lv_bipush (v := 6) hx hb dX6_gives_13 (by decide) ?_
  have hPc_15 := hP.sub (ws' := []) [] rfl
  refine ly_r (va_runS (As := [.int (nI n), .int 0, .int 6]) (rest := []) ⟨hx, hb, hml, hown, hts⟩ (c_X6_within l D cI cC cZ cN (nI n) 0 6) (va_cwS 3 hts gX6_gives_X6_within rfl rfl rfl (by decide +kernel) ⟨Nat.le_of_ble_eq_true rfl, Nat.le_of_ble_eq_true rfl⟩) (ly_ps hK hN hPc_15) rfl rfl hl.1 rfl (lv_room (Nat.le_of_ble_eq_true rfl)) dX6_gives_15 ⟨Nat.zero_le _, Nat.zero_le _⟩) ?_
  refine lv_if_eq (tgt := 42) hx hb dX6_gives_18 (by decide) (fun h_9 => absurd h_9 (jin_yes (b := 6) hn6 (by omega))) (fun _ => ?_)
  refine lv_iload_n hx hb dX6_gives_21 rfl (lv_at hl 3 rfl) ?_
  refine lv_iconst (v := 0) hx hb dX6_gives_22 (by decide) ?_
  refine lv_bipush (v := 30) hx hb dX6_gives_23 (by decide) ?_
  have hPc_25 := hP.sub (ws' := []) [] rfl
  refine ly_r (va_runS (As := [.int (nI a1), .int 0, .int 30]) (rest := []) ⟨hx, hb, hml, hown, hts⟩ (c_X6_within l D cI cC cZ cN (nI a1) 0 30) (va_cwS 3 hts gX6_gives_X6_within rfl rfl rfl (by decide +kernel) ⟨Nat.le_of_ble_eq_true rfl, Nat.le_of_ble_eq_true rfl⟩) (ly_ps hK hN hPc_25) rfl rfl hl.1 rfl (lv_room (Nat.le_of_ble_eq_true rfl)) dX6_gives_25 ⟨Nat.zero_le _, Nat.zero_le _⟩) ?_
  refine lv_if_eq (tgt := 42) hx hb dX6_gives_28 (by decide) (fun h_9 => absurd h_9 (jin_yes (b := 30) ha3 (by omega))) (fun _ => ?_)
  refine lv_iload hx hb dX6_gives_31 (lv_at hl 4 rfl) ?_
  refine lv_iconst (v := 0) hx hb dX6_gives_33 (by decide) ?_
  refine lv_bipush (v := 30) hx hb dX6_gives_34 (by decide) ?_
  have hPc_36 := hP.sub (ws' := []) [] rfl
  refine ly_r (va_runS (As := [.int (nI b1), .int 0, .int 30]) (rest := []) ⟨hx, hb, hml, hown, hts⟩ (c_X6_within l D cI cC cZ cN (nI b1) 0 30) (va_cwS 3 hts gX6_gives_X6_within rfl rfl rfl (by decide +kernel) ⟨Nat.le_of_ble_eq_true rfl, Nat.le_of_ble_eq_true rfl⟩) (ly_ps hK hN hPc_36) rfl rfl hl.1 rfl (lv_room (Nat.le_of_ble_eq_true rfl)) dX6_gives_36 ⟨Nat.zero_le _, Nat.zero_le _⟩) ?_
  refine lv_if_ne (tgt := 44) hx hb dX6_gives_39 (by decide) (fun _ => ?_) (fun h_9 => absurd h_9 (jin_yes (b := 30) hb3 (by omega)))
  refine lv_iload hx hb dX6_gives_44 (lv_at hl 5 rfl) ?_
  refine lv_iconst (v := 0) hx hb dX6_gives_46 (by decide) ?_
  refine lv_bipush (v := 10) hx hb dX6_gives_47 (by decide) ?_
  have hPc_49 := hP.sub (ws' := []) [] rfl
  refine ly_r (va_runS (As := [.int (nI x1), .int 0, .int 10]) (rest := []) ⟨hx, hb, hml, hown, hts⟩ (c_X6_within l D cI cC cZ cN (nI x1) 0 10) (va_cwS 3 hts gX6_gives_X6_within rfl rfl rfl (by decide +kernel) ⟨Nat.le_of_ble_eq_true rfl, Nat.le_of_ble_eq_true rfl⟩) (ly_ps hK hN hPc_49) rfl rfl hl.1 rfl (lv_room (Nat.le_of_ble_eq_true rfl)) dX6_gives_49 ⟨Nat.zero_le _, Nat.zero_le _⟩) ?_
  refine lv_if_eq (tgt := 65) hx hb dX6_gives_52 (by decide) (fun h_9 => absurd h_9 (jin_yes (b := 10) hx1 (by omega))) (fun _ => ?_)
  refine lv_iload hx hb dX6_gives_55 (lv_at hl 6 rfl) ?_
  refine lv_iconst (v := 0) hx hb dX6_gives_57 (by decide) ?_
  refine lv_iconst (v := 1) hx hb dX6_gives_58 (by decide) ?_
  have hPc_59 := hP.sub (ws' := []) [] rfl
  refine ly_r (va_runS (As := [.int (nI 1), .int 0, .int 1]) (rest := []) ⟨hx, hb, hml, hown, hts⟩ (c_X6_within l D cI cC cZ cN (nI 1) 0 1) (va_cwS 3 hts gX6_gives_X6_within rfl rfl rfl (by decide +kernel) ⟨Nat.le_of_ble_eq_true rfl, Nat.le_of_ble_eq_true rfl⟩) (ly_ps hK hN hPc_59) rfl rfl hl.1 rfl (lv_room (Nat.le_of_ble_eq_true rfl)) dX6_gives_59 ⟨Nat.zero_le _, Nat.zero_le _⟩) ?_
  refine lv_if_ne (tgt := 67) hx hb dX6_gives_62 (by decide) (fun _ => ?_) (fun h_9 => absurd h_9 (jin_yes (b := 1) (by omega) (by omega)))
  refine lv_iload_n hx hb dX6_gives_67 rfl (lv_at hl 2 rfl) ?_
  refine lv_iload_n hx hb dX6_gives_68 rfl (lv_at hl 3 rfl) ?_
  refine lv_iload hx hb dX6_gives_69 (lv_at hl 4 rfl) ?_
  refine lv_iload hx hb dX6_gives_71 (lv_at hl 5 rfl) ?_
  refine lv_aload_n hx hb dX6_gives_73 rfl (lv_at hl 0 rfl) ?_
  refine va_get (D := D) (ci := 6) (v := .ref (b 0)) (C := RX6) (T := TX6) (N := 12) hx hb hts hiX6 hown hK hP 0 rfl rfl 5 (by decide) f37 (fun _ h9 => h9) rfl dX6_gives_74 ?_
  refine va_get (D := D) (ci := 3) (v := .ref (b 2)) (C := RX3) (T := TX3) (N := 7) hx hb hts hiX3 hown hK hP 11 rfl rfl 6 (by decide) f112 (fun _ h9 => h9) rfl dX6_gives_77 ?_
  refine lv_iload_n hx hb dX6_gives_80 rfl (lv_at hl 1 rfl) ?_
  refine ly_iald hx hb hK hP 13 0 rfl rfl (k := k) (by decide) rfl (by omega) dX6_gives_81 ?_
  have hPc_82 := hP.sub (ws' := []) [] rfl
  refine ly_r (va_runS (As := [.int (nI n), .int (nI a1), .int (nI b1), .int (nI x1), .int (nI (le k))]) (rest := []) ⟨hx, hb, hml, hown, hts⟩ (c_X6_waysToGive l D cI cC cZ cN a1 b1 x1 n (nI (le k)) hn6) (va_cwS 5 hts gX6_gives_X6_waysToGive rfl rfl rfl (by decide +kernel) ⟨(by show (n + 1) + 1 ≤ 9; omega), (by show 8 + (5 + 11) + 40 * (n + 1) ≤ 40 * 9; omega)⟩) (ly_ps hK hN hPc_82) rfl rfl hl.1 rfl (lv_room (Nat.le_of_ble_eq_true rfl)) dX6_gives_82 ⟨Nat.zero_le _, Nat.zero_le _⟩) ?_
  refine lv_istore (lv' := [(7, .int (s_ways a1 b1 x1 n (nI (le k)))), (0, .ref (t 0)), (1, .int (nI k)), (2, .int (nI n)), (3, .int (nI a1)), (4, .int (nI b1)), (5, .int (nI x1)), (6, .int (nI 1))]) hx hb dX6_gives_85 hl (by decide) rfl (fun ls hl => ?_)
  refine lv_iconst (v := 1) hx hb dX6_gives_87 (by decide) ?_
  refine lv_istore (lv' := [(8, .int 1), (7, .int (s_ways a1 b1 x1 n (nI (le k)))), (0, .ref (t 0)), (1, .int (nI k)), (2, .int (nI n)), (3, .int (nI a1)), (4, .int (nI b1)), (5, .int (nI x1)), (6, .int (nI 1))]) hx hb dX6_gives_88 hl (by decide) rfl (fun ls hl => ?_)
  refine lv_iconst (v := 0) hx hb dX6_gives_90 (by decide) ?_
  refine lv_istore (lv' := [(9, .int 0), (8, .int 1), (7, .int (s_ways a1 b1 x1 n (nI (le k)))), (0, .ref (t 0)), (1, .int (nI k)), (2, .int (nI n)), (3, .int (nI a1)), (4, .int (nI b1)), (5, .int (nI x1)), (6, .int (nI 1))]) hx hb dX6_gives_91 hl (by decide) rfl (fun ls hl => ?_)
  have hloop_93 : ∀ (uz i : Nat), i + uz = n → ∀ ls : Array Slot, lv_has ls 10 [(9, .int (nI i)), (8, .int (nI (s_ten i))), (7, .int (s_ways a1 b1 x1 n (nI (le k)))), (0, .ref (t 0)), (1, .int (nI k)), (2, .int (nI n)), (3, .int (nI a1)), (4, .int (nI b1)), (5, .int (nI x1)), (6, .int (nI 1))] → W p l e (headSpec wsX6_gives (ly_rm 9)).room s m av below meth c s.heap [] 0 0 (MQ below Qc av s 0 0 (fun _ => False)) (F0 m 93 ls []) := by
    intro uz
    induction uz with
    | zero =>
      intro i hi_93 ls hl
      obtain rfl : n = i := by omega
      refine lv_iload hx hb dX6_gives_93 (lv_at hl 0 rfl) ?_
      refine lv_iload_n hx hb dX6_gives_95 rfl (lv_at hl 5 rfl) ?_
      refine lv_icmp_ge (tgt := 112) hx hb dX6_gives_96 (by decide) (fun _ => ?_) (fun h_9 => absurd (nI_le (Nat.le_refl _) (by omega)) h_9)
      have hb2_ := t_sh_b2 (s_ways a1 b1 x1 n (nI (le k))) hn6
      have hb5_ := t_sh_b5 (s_ways a1 b1 x1 n (nI (le k))) hn6
      have hcm_ : 0 < (t_sh 2 (s_ways a1 b1 x1 n (nI (le k))) n 1 * t_sh 5 (s_ways a1 b1 x1 n (nI (le k))) n 1) := Nat.mul_pos hb2_.1 hb5_.1
      have hcm9_ : (t_sh 2 (s_ways a1 b1 x1 n (nI (le k))) n 1 * t_sh 5 (s_ways a1 b1 x1 n (nI (le k))) n 1) < 2 ^ 31 := Nat.lt_of_le_of_lt (Nat.mul_le_mul hb2_.2 hb5_.2) (by decide)
      refine lv_iload hx hb dX6_gives_112 (lv_at hl 2 rfl) ?_
      refine lv_iload_n hx hb dX6_gives_114 rfl (lv_at hl 5 rfl) ?_
      refine lv_iconst (v := 2) hx hb dX6_gives_115 (by decide) ?_
      have hPc_116 := hP.sub (ws' := []) [] rfl
      refine ly_r (va_runS (As := [.int (s_ways a1 b1 x1 n (nI (le k))), .int (nI n), .int 2]) (rest := []) ⟨hx, hb, hml, hown, hts⟩ (c_X6_sharedOfTens_2 l D cI cC cZ cN (s_ways a1 b1 x1 n (nI (le k))) n hn6) (va_cwS 3 hts gX6_gives_X6_sharedOfTens rfl rfl rfl (by decide +kernel) ⟨(by show 1 + 1 ≤ 9; omega), (by show 8 + (5 + 11) + 40 * 1 ≤ 40 * 9; omega)⟩) (ly_ps hK hN hPc_116) rfl rfl hl.1 rfl (lv_room (Nat.le_of_ble_eq_true rfl)) dX6_gives_116 ⟨Nat.zero_le _, Nat.zero_le _⟩) ?_
      refine ly_eqi (show (s_sh2 (s_ways a1 b1 x1 n (nI (le k))) n 0 1) = (nI (t_sh 2 (s_ways a1 b1 x1 n (nI (le k))) n 1)) from (s_sh2_t _ _ _ _)) ?_
      refine lv_iload hx hb dX6_gives_119 (lv_at hl 2 rfl) ?_
      refine lv_iload_n hx hb dX6_gives_121 rfl (lv_at hl 5 rfl) ?_
      refine lv_iconst (v := 5) hx hb dX6_gives_122 (by decide) ?_
      have hPc_123 := hP.sub (ws' := []) [] rfl
      refine ly_r (va_runS (As := [.int (s_ways a1 b1 x1 n (nI (le k))), .int (nI n), .int 5]) (rest := [.int (nI (t_sh 2 (s_ways a1 b1 x1 n (nI (le k))) n 1))]) ⟨hx, hb, hml, hown, hts⟩ (c_X6_sharedOfTens_5 l D cI cC cZ cN (s_ways a1 b1 x1 n (nI (le k))) n hn6) (va_cwS 3 hts gX6_gives_X6_sharedOfTens rfl rfl rfl (by decide +kernel) ⟨(by show 1 + 1 ≤ 9; omega), (by show 8 + (5 + 11) + 40 * 1 ≤ 40 * 9; omega)⟩) (ly_ps hK hN hPc_123) rfl rfl hl.1 rfl (lv_room (Nat.le_of_ble_eq_true rfl)) dX6_gives_123 ⟨Nat.zero_le _, Nat.zero_le _⟩) ?_
      refine ly_eqi (show (s_sh5 (s_ways a1 b1 x1 n (nI (le k))) n 0 1) = (nI (t_sh 5 (s_ways a1 b1 x1 n (nI (le k))) n 1)) from (s_sh5_t _ _ _ _)) ?_
      refine lv_imul hx hb dX6_gives_126 ?_
      refine ly_eqi (show ((nI (t_sh 2 (s_ways a1 b1 x1 n (nI (le k))) n 1)) * (nI (t_sh 5 (s_ways a1 b1 x1 n (nI (le k))) n 1))) = (nI ((t_sh 2 (s_ways a1 b1 x1 n (nI (le k))) n 1) * (t_sh 5 (s_ways a1 b1 x1 n (nI (le k))) n 1))) from ly_mul rfl rfl) ?_
      refine lv_istore (lv' := [(9, .int (nI ((t_sh 2 (s_ways a1 b1 x1 n (nI (le k))) n 1) * (t_sh 5 (s_ways a1 b1 x1 n (nI (le k))) n 1)))), (8, .int (nI (s_ten n))), (7, .int (s_ways a1 b1 x1 n (nI (le k)))), (0, .ref (t 0)), (1, .int (nI k)), (2, .int (nI n)), (3, .int (nI a1)), (4, .int (nI b1)), (5, .int (nI x1)), (6, .int (nI 1))]) hx hb dX6_gives_127 hl (by decide) rfl (fun ls hl => ?_)
      refine lv_iload hx hb dX6_gives_129 (lv_at hl 9 rfl) ?_
      refine lv_if_ne (tgt := 139) hx hb dX6_gives_131 (by decide) (fun _ => ?_) (fun h_9 => absurd h_9 (by decide))
      refine lv_iload hx hb dX6_gives_139 (lv_at hl 1 rfl) ?_
      refine lv_iload hx hb dX6_gives_141 (lv_at hl 0 rfl) ?_
      refine lv_idiv hx hb dX6_gives_143 (nI_ne0 hcm_ hcm9_) ?_
      exact W.iret (v := ((nI (s_ten n)) / (nI ((t_sh 2 (s_ways a1 b1 x1 n (nI (le k))) n 1) * (t_sh 5 (s_ways a1 b1 x1 n (nI (le k))) n 1))))) hx hb hr (fun t_9 ht_9 _ => by rw [hQc]; exact ⟨rfl, ht_9⟩) t_nil dX6_gives_144
    | succ uz ih_93 =>
      intro i hi_93 ls hl
      refine lv_iload hx hb dX6_gives_93 (lv_at hl 0 rfl) ?_
      refine lv_iload_n hx hb dX6_gives_95 rfl (lv_at hl 5 rfl) ?_
      refine lv_icmp_ge (tgt := 112) hx hb dX6_gives_96 (by decide) (fun h_9 => absurd h_9 (nI_ge (by omega) (by omega))) (fun _ => ?_)
      refine lv_iload hx hb dX6_gives_99 (lv_at hl 1 rfl) ?_
      refine lv_bipush (v := 10) hx hb dX6_gives_101 (by decide) ?_
      refine lv_imul hx hb dX6_gives_103 ?_
      refine ly_eqi (show ((nI (s_ten i)) * 10) = (nI ((s_ten i) * 10)) from ly_mul rfl rfl) ?_
      refine lv_istore (lv' := [(8, .int (nI ((s_ten i) * 10))), (9, .int (nI i)), (7, .int (s_ways a1 b1 x1 n (nI (le k)))), (0, .ref (t 0)), (1, .int (nI k)), (2, .int (nI n)), (3, .int (nI a1)), (4, .int (nI b1)), (5, .int (nI x1)), (6, .int (nI 1))]) hx hb dX6_gives_104 hl (by decide) rfl (fun ls hl => ?_)
      refine lv_iinc (v := (nI (i + 1))) (lv' := [(9, .int (nI (i + 1))), (8, .int (nI ((s_ten i) * 10))), (7, .int (s_ways a1 b1 x1 n (nI (le k)))), (0, .ref (t 0)), (1, .int (nI k)), (2, .int (nI n)), (3, .int (nI a1)), (4, .int (nI b1)), (5, .int (nI x1)), (6, .int (nI 1))]) hx hb dX6_gives_106 hl (k := 1) rfl (ly_add rfl rfl) (by decide) rfl (fun ls hl => ?_)
      refine lv_goto (tgt := 93) hx hb dX6_gives_109 (by decide) ?_
      have e_1 : s_ten (i + 1) = (s_ten i) * 10 := by show s_tenB  i (s_ten i) = _; unfold s_tenB; rfl
      exact ih_93 (i + 1) (by omega) ls (by rw [e_1]; exact lv_sub hl [0, 1, 2, 3, 4, 5, 6, 7, 8, 9] rfl)
  exact hloop_93 n 0 (by omega) ls (lv_sub hl [0, 1, 2, 3, 4, 5, 6, 7, 8, 9] rfl)

set_option maxHeartbeats 4000000 in
set_option maxRecDepth 100000 in
theorem c_X6_rain_b (l : Launch) (D : va_G) (cI cC cZ cN : ClassId) (t a2 : Nat → Nat) (lt : Nat) (tr : Int64) (a : Nat → Nat) (g : Nat → Nat → Nat) (b : Nat → Nat) (d ho le : Nat → Nat) (hv : Nat → Nat) (x : Int32) (hb9 : jin x 0 2 = 0) : Met l yX6_rain wsX6_rain (ly_rm 5) (ly_Pre D (ly_tys cI cC cZ cN) [((t 0), .inr (6, [.ref (t 1), .int (nI lt), .ref (t 2), .ref (a 0), .ref (a2 0), .ref (b 0), .ref (t 4), .ref (t 5), .ref (t 6), .ref (t 7), .ref (t 8), .long tr])), ((a 0), .inr (4, [.int (nI (g 0 0)), .ref (a 1), .ref (a 2), .ref (a 3), .int (nI (g 0 1)), .ref (a 4), .ref (a 5), .ref (a 6), .ref (a 7), .ref (a 8), .ref (a 9), .int (nI (g 0 2))])), ((a 1), .inl (cI, 9, .inl (fun j => nI ((g 1) j)))), ((a 2), .inl (cI, 9, .inl (fun j => nI ((g 2) j)))), ((a 3), .inl (cI, 9, .inl (fun j => nI ((g 3) j)))), ((a 4), .inl (cI, 6, .inl (fun j => nI ((g 4) j)))), ((a 5), .inl (cI, 6, .inl (fun j => nI ((g 5) j)))), ((a 6), .inl (cI, 6, .inl (fun j => nI ((g 6) j)))), ((a 7), .inl (cI, 5, .inl (fun j => nI ((g 7) j)))), ((a 8), .inl (cI, 5, .inl (fun j => nI ((g 8) j)))), ((a 9), .inl (cI, 5, .inl (fun j => ly_h ((g 9) j)))), ((b 0), .inr (3, [.int (nI (d 0)), .int (nI (d 1)), .int (nI (d 2)), .int (nI (d 3)), .int (nI (d 4)), .ref (b 1), .ref (b 2)])), ((b 1), .inl (cI, 9, .inl (fun j => ly_h (ho j)))), ((b 2), .inl (cI, 9, .inl (fun j => nI (le j)))), ((t 5), .inr (1, [.int (nI (hv 0)), .int (nI (hv 1)), .int (nI (hv 2)), .int (nI (hv 3)), .int (nI (hv 4)), .int (nI (hv 5))]))] [.ref (t 0), .int x]) (QcRead (-1)) 0 0 (fun _ => False) := by
  refine Met.ofW (cc := cX6_rain) (maxL := 6) (ret := (some .int)) (by decide) rfl ?_
  intro p e s m args below meth c s₁ B hml hv
  obtain ⟨rfl, hP, hK, hN⟩ := hv
  have hx := B.exec
  have hb := B.bytes
  have hr := B.returns
  have hts := atoms_spec (ws := wsX6_rain) B.pre
  have hown : s.vm.findClass RX6 = some m.cls := findClass_of_methodNamed B.named
  have hlocks := B.notSynchronized
  have hl := lv_entry ([.ref (t 0), .int x]) (n := 6) (Nat.le_of_ble_eq_true rfl)
  rw [lg_entry_eq]
  generalize (lg_sl ([.ref (t 0), .int x]) ++ List.replicate (6 - (lg_sl ([.ref (t 0), .int x])).length) Slot.unset).toArray = ls at hl ⊢
  have hl : lv_has ls 6 [(0, .ref (t 0)), (1, .int x)] := hl
  generalize ([.ref (t 0), .int x] : List Value).toArray = av at hts ⊢
  obtain ⟨Qc, hQc⟩ : ∃ Qc, Qc = (QcRead (-1)) := ⟨_, rfl⟩
  rw [← hQc]
  refine lv_iload_n hx hb dX6_rain_0 rfl (lv_at hl 1 rfl) ?_
  refine lv_iconst (v := 0) hx hb dX6_rain_1 (by decide) ?_
  refine lv_iconst (v := 2) hx hb dX6_rain_2 (by decide) ?_
  have hPc_3 := hP.sub (ws' := []) [] rfl
  refine ly_r (va_runS (As := [.int x, .int 0, .int 2]) (rest := []) ⟨hx, hb, hml, hown, hts⟩ (c_X6_within l D cI cC cZ cN x 0 2) (va_cwS 3 hts gX6_rain_X6_within rfl rfl rfl (by decide +kernel) ⟨Nat.le_of_ble_eq_true rfl, Nat.le_of_ble_eq_true rfl⟩) (ly_ps hK hN hPc_3) rfl rfl hl.1 rfl (lv_room (Nat.le_of_ble_eq_true rfl)) dX6_rain_3 ⟨Nat.zero_le _, Nat.zero_le _⟩) ?_
  refine lv_if_ne (tgt := 11) hx hb dX6_rain_6 (by decide) (fun h_9 => absurd hb9 h_9) (fun _ => ?_)
  refine lv_iconst (v := (-1)) hx hb dX6_rain_9 (by decide) ?_
  exact W.iret (v := (-1)) hx hb hr (fun t_9 ht_9 _ => by rw [hQc]; exact ⟨rfl, ht_9⟩) t_nil dX6_rain_10

def s_rainB (g : Nat → Nat → Nat) (ho hv : Nat → Nat) (i : Nat) (v0 : Nat) (v1 : Int32) (v2 : Int32) : Nat × Int32 × Int32 := (if (s_canRain hv (s_feel g ho (nI i) (g 0 0))) = 0 then (v0, v1, v2) else (v0 + 1, (v1 &&& (nI i)), (if (jbits (nI i)) < v2 then (jbits (nI i)) else v2)))
def s_rain (g : Nat → Nat → Nat) (ho hv : Nat → Nat) : Nat → Nat × Int32 × Int32
  | 0 => (0, (s_all (g 0 1)), 6)
  | i + 1 => s_rainB g ho hv i ((s_rain g ho hv i).1) ((s_rain g ho hv i).2.1) ((s_rain g ho hv i).2.2)
set_option maxHeartbeats 4000000 in
set_option maxRecDepth 100000 in
theorem c_X6_rain_0 (l : Launch) (D : va_G) (cI cC cZ cN : ClassId) (t a2 : Nat → Nat) (lt : Nat) (tr : Int64) (a : Nat → Nat) (g : Nat → Nat → Nat) (b : Nat → Nat) (d ho le : Nat → Nat) (hv : Nat → Nat) (N1 : Nat) (hN1 : 2 ^ g 0 1 = N1) (hN6 : N1 ≤ 64) (hn : g 0 0 ≤ 9) (hm6 : g 0 1 ≤ 6) : Met l yX6_rain wsX6_rain (ly_rm 7) (ly_Pre D (ly_tys cI cC cZ cN) [((t 0), .inr (6, [.ref (t 1), .int (nI lt), .ref (t 2), .ref (a 0), .ref (a2 0), .ref (b 0), .ref (t 4), .ref (t 5), .ref (t 6), .ref (t 7), .ref (t 8), .long tr])), ((a 0), .inr (4, [.int (nI (g 0 0)), .ref (a 1), .ref (a 2), .ref (a 3), .int (nI (g 0 1)), .ref (a 4), .ref (a 5), .ref (a 6), .ref (a 7), .ref (a 8), .ref (a 9), .int (nI (g 0 2))])), ((a 1), .inl (cI, 9, .inl (fun j => nI ((g 1) j)))), ((a 2), .inl (cI, 9, .inl (fun j => nI ((g 2) j)))), ((a 3), .inl (cI, 9, .inl (fun j => nI ((g 3) j)))), ((a 4), .inl (cI, 6, .inl (fun j => nI ((g 4) j)))), ((a 5), .inl (cI, 6, .inl (fun j => nI ((g 5) j)))), ((a 6), .inl (cI, 6, .inl (fun j => nI ((g 6) j)))), ((a 7), .inl (cI, 5, .inl (fun j => nI ((g 7) j)))), ((a 8), .inl (cI, 5, .inl (fun j => nI ((g 8) j)))), ((a 9), .inl (cI, 5, .inl (fun j => ly_h ((g 9) j)))), ((b 0), .inr (3, [.int (nI (d 0)), .int (nI (d 1)), .int (nI (d 2)), .int (nI (d 3)), .int (nI (d 4)), .ref (b 1), .ref (b 2)])), ((b 1), .inl (cI, 9, .inl (fun j => ly_h (ho j)))), ((b 2), .inl (cI, 9, .inl (fun j => nI (le j)))), ((t 5), .inr (1, [.int (nI (hv 0)), .int (nI (hv 1)), .int (nI (hv 2)), .int (nI (hv 3)), .int (nI (hv 4)), .int (nI (hv 5))]))] [.ref (t 0), .int (nI 0)]) (QcRead (nI (s_rain g ho hv N1).1)) 0 0 (fun _ => False) := by
  refine Met.ofW (cc := cX6_rain) (maxL := 6) (ret := (some .int)) (by decide) rfl ?_
  intro p e s m args below meth c s₁ B hml hv
  obtain ⟨rfl, hP, hK, hN⟩ := hv
  have hx := B.exec
  have hb := B.bytes
  have hr := B.returns
  have hts := atoms_spec (ws := wsX6_rain) B.pre
  have hown : s.vm.findClass RX6 = some m.cls := findClass_of_methodNamed B.named
  have hlocks := B.notSynchronized
  have hl := lv_entry ([.ref (t 0), .int (nI 0)]) (n := 6) (Nat.le_of_ble_eq_true rfl)
  rw [lg_entry_eq]
  generalize (lg_sl ([.ref (t 0), .int (nI 0)]) ++ List.replicate (6 - (lg_sl ([.ref (t 0), .int (nI 0)])).length) Slot.unset).toArray = ls at hl ⊢
  have hl : lv_has ls 6 [(0, .ref (t 0)), (1, .int (nI 0))] := hl
  generalize ([.ref (t 0), .int (nI 0)] : List Value).toArray = av at hts ⊢
  obtain ⟨Qc, hQc⟩ : ∃ Qc, Qc = (QcRead (nI (s_rain g ho hv N1).1)) := ⟨_, rfl⟩
  rw [← hQc]
  have f27 := hts (.fieldLink RX6 27 "KneesLent" "parish" "LKneesLent$Parish;") (by decide +kernel)
  have f51 := hts (.fieldLink RX6 51 "KneesLent" "hearsay" "LKneesLent$Hearsay;") (by decide +kernel)
  have hiX6 : ∀ w ∈ u_ws RX6 TX6 12, w ∈ wsX6_rain := by decide +kernel
  refine lv_iload_n hx hb dX6_rain_0 rfl (lv_at hl 1 rfl) ?_
  refine lv_iconst (v := 0) hx hb dX6_rain_1 (by decide) ?_
  refine lv_iconst (v := 2) hx hb dX6_rain_2 (by decide) ?_
  have hPc_3 := hP.sub (ws' := []) [] rfl
  refine ly_r (va_runS (As := [.int (nI 0), .int 0, .int 2]) (rest := []) ⟨hx, hb, hml, hown, hts⟩ (c_X6_within l D cI cC cZ cN (nI 0) 0 2) (va_cwS 3 hts gX6_rain_X6_within rfl rfl rfl (by decide +kernel) ⟨Nat.le_of_ble_eq_true rfl, Nat.le_of_ble_eq_true rfl⟩) (ly_ps hK hN hPc_3) rfl rfl hl.1 rfl (lv_room (Nat.le_of_ble_eq_true rfl)) dX6_rain_3 ⟨Nat.zero_le _, Nat.zero_le _⟩) ?_
  refine lv_if_ne (tgt := 11) hx hb dX6_rain_6 (by decide) (fun _ => ?_) (fun h_9 => absurd h_9 (jin_yes (b := 2) (by omega) (by omega)))
  refine lv_iconst (v := 0) hx hb dX6_rain_11 (by decide) ?_
  refine lv_istore_n (lv' := [(2, .int 0), (0, .ref (t 0)), (1, .int (nI 0))]) hx hb dX6_rain_12 rfl hl (by decide) rfl (fun ls hl => ?_)
  refine lv_aload_n hx hb dX6_rain_13 rfl (lv_at hl 1 rfl) ?_
  refine va_get (D := D) (ci := 6) (v := .ref (a 0)) (C := RX6) (T := TX6) (N := 12) hx hb hts hiX6 hown hK hP 0 rfl rfl 3 (by decide) f27 (fun _ h9 => h9) rfl dX6_rain_14 ?_
  have hPc_17 := hP.sub (ws' := [((a 0), .inr (4, [.int (nI (g 0 0)), .ref (a 1), .ref (a 2), .ref (a 3), .int (nI (g 0 1)), .ref (a 4), .ref (a 5), .ref (a 6), .ref (a 7), .ref (a 8), .ref (a 9), .int (nI (g 0 2))])), ((a 1), .inl (cI, 9, .inl (fun j => nI ((g 1) j)))), ((a 2), .inl (cI, 9, .inl (fun j => nI ((g 2) j)))), ((a 3), .inl (cI, 9, .inl (fun j => nI ((g 3) j)))), ((a 4), .inl (cI, 6, .inl (fun j => nI ((g 4) j)))), ((a 5), .inl (cI, 6, .inl (fun j => nI ((g 5) j)))), ((a 6), .inl (cI, 6, .inl (fun j => nI ((g 6) j)))), ((a 7), .inl (cI, 5, .inl (fun j => nI ((g 7) j)))), ((a 8), .inl (cI, 5, .inl (fun j => nI ((g 8) j)))), ((a 9), .inl (cI, 5, .inl (fun j => ly_h ((g 9) j))))]) [1, 2, 3, 4, 5, 6, 7, 8, 9, 10] rfl
  refine ly_r (va_runV (As := []) (rest := []) ⟨hx, hb, hml, hown, hts⟩ (c_X4_everybody l D cI cC cZ cN a g) (cwV 0 hts gX6_rain_X4_everybody rfl rfl rfl (by decide +kernel) ⟨Nat.le_of_ble_eq_true rfl, Nat.le_of_ble_eq_true rfl⟩) (ly_pv hK hN hPc_17 0 4 rfl rfl rfl) rfl rfl hl.1 rfl (lv_room (Nat.le_of_ble_eq_true rfl)) dX6_rain_17 ⟨Nat.zero_le _, Nat.zero_le _⟩) ?_
  refine lv_istore_n (lv' := [(3, .int (s_all (g 0 1))), (2, .int 0), (0, .ref (t 0)), (1, .int (nI 0))]) hx hb dX6_rain_20 rfl hl (by decide) rfl (fun ls hl => ?_)
  refine lv_bipush (v := 6) hx hb dX6_rain_21 (by decide) ?_
  refine lv_istore (lv' := [(4, .int 6), (3, .int (s_all (g 0 1))), (2, .int 0), (0, .ref (t 0)), (1, .int (nI 0))]) hx hb dX6_rain_23 hl (by decide) rfl (fun ls hl => ?_)
  refine lv_iconst (v := 0) hx hb dX6_rain_25 (by decide) ?_
  refine lv_istore (lv' := [(5, .int 0), (4, .int 6), (3, .int (s_all (g 0 1))), (2, .int 0), (0, .ref (t 0)), (1, .int (nI 0))]) hx hb dX6_rain_26 hl (by decide) rfl (fun ls hl => ?_)
  have hloop_28 : ∀ (k i : Nat), i + k = N1 → ∀ ls : Array Slot, lv_has ls 6 [(5, .int (nI i)), (4, .int ((s_rain g ho hv i).2.2)), (3, .int ((s_rain g ho hv i).2.1)), (2, .int (nI ((s_rain g ho hv i).1))), (0, .ref (t 0)), (1, .int (nI 0))] → W p l e (headSpec wsX6_rain (ly_rm 7)).room s m av below meth c s.heap [] 0 0 (MQ below Qc av s 0 0 (fun _ => False)) (F0 m 28 ls []) := by
    intro k
    induction k with
    | zero =>
      intro i hi_28 ls hl
      obtain rfl : N1 = i := by omega
      refine lv_iload hx hb dX6_rain_28 (lv_at hl 0 rfl) ?_
      refine lv_aload_n hx hb dX6_rain_30 rfl (lv_at hl 4 rfl) ?_
      refine va_get (D := D) (ci := 6) (v := .ref (a 0)) (C := RX6) (T := TX6) (N := 12) hx hb hts hiX6 hown hK hP 0 rfl rfl 3 (by decide) f27 (fun _ h9 => h9) rfl dX6_rain_31 ?_
      have hPc_34 := hP.sub (ws' := [((a 0), .inr (4, [.int (nI (g 0 0)), .ref (a 1), .ref (a 2), .ref (a 3), .int (nI (g 0 1)), .ref (a 4), .ref (a 5), .ref (a 6), .ref (a 7), .ref (a 8), .ref (a 9), .int (nI (g 0 2))])), ((a 1), .inl (cI, 9, .inl (fun j => nI ((g 1) j)))), ((a 2), .inl (cI, 9, .inl (fun j => nI ((g 2) j)))), ((a 3), .inl (cI, 9, .inl (fun j => nI ((g 3) j)))), ((a 4), .inl (cI, 6, .inl (fun j => nI ((g 4) j)))), ((a 5), .inl (cI, 6, .inl (fun j => nI ((g 5) j)))), ((a 6), .inl (cI, 6, .inl (fun j => nI ((g 6) j)))), ((a 7), .inl (cI, 5, .inl (fun j => nI ((g 7) j)))), ((a 8), .inl (cI, 5, .inl (fun j => nI ((g 8) j)))), ((a 9), .inl (cI, 5, .inl (fun j => ly_h ((g 9) j))))]) [1, 2, 3, 4, 5, 6, 7, 8, 9, 10] rfl
      refine ly_r (va_runV (As := []) (rest := [.int (nI N1)]) ⟨hx, hb, hml, hown, hts⟩ (c_X4_everybody l D cI cC cZ cN a g) (cwV 0 hts gX6_rain_X4_everybody rfl rfl rfl (by decide +kernel) ⟨Nat.le_of_ble_eq_true rfl, Nat.le_of_ble_eq_true rfl⟩) (ly_pv hK hN hPc_34 0 4 rfl rfl rfl) rfl rfl hl.1 rfl (lv_room (Nat.le_of_ble_eq_true rfl)) dX6_rain_34 ⟨Nat.zero_le _, Nat.zero_le _⟩) ?_
      refine lv_icmp_gt (tgt := 82) hx hb dX6_rain_37 (by decide) (fun _ => ?_) (fun h_9 => absurd (s_all_lt hm6 hN1) h_9)
      refine lv_iload_n hx hb dX6_rain_82 rfl (lv_at hl 5 rfl) ?_
      refine lv_if_ne (tgt := 88) hx hb dX6_rain_83 (by decide) (fun h_9 => absurd (by decide) h_9) (fun _ => ?_)
      refine lv_iload_n hx hb dX6_rain_86 rfl (lv_at hl 3 rfl) ?_
      exact W.iret (v := (nI ((s_rain g ho hv N1).1))) hx hb hr (fun t_9 ht_9 _ => by rw [hQc]; exact ⟨rfl, ht_9⟩) t_nil dX6_rain_87
    | succ k ih_28 =>
      intro i hi_28 ls hl
      refine lv_iload hx hb dX6_rain_28 (lv_at hl 0 rfl) ?_
      refine lv_aload_n hx hb dX6_rain_30 rfl (lv_at hl 4 rfl) ?_
      refine va_get (D := D) (ci := 6) (v := .ref (a 0)) (C := RX6) (T := TX6) (N := 12) hx hb hts hiX6 hown hK hP 0 rfl rfl 3 (by decide) f27 (fun _ h9 => h9) rfl dX6_rain_31 ?_
      have hPc_34 := hP.sub (ws' := [((a 0), .inr (4, [.int (nI (g 0 0)), .ref (a 1), .ref (a 2), .ref (a 3), .int (nI (g 0 1)), .ref (a 4), .ref (a 5), .ref (a 6), .ref (a 7), .ref (a 8), .ref (a 9), .int (nI (g 0 2))])), ((a 1), .inl (cI, 9, .inl (fun j => nI ((g 1) j)))), ((a 2), .inl (cI, 9, .inl (fun j => nI ((g 2) j)))), ((a 3), .inl (cI, 9, .inl (fun j => nI ((g 3) j)))), ((a 4), .inl (cI, 6, .inl (fun j => nI ((g 4) j)))), ((a 5), .inl (cI, 6, .inl (fun j => nI ((g 5) j)))), ((a 6), .inl (cI, 6, .inl (fun j => nI ((g 6) j)))), ((a 7), .inl (cI, 5, .inl (fun j => nI ((g 7) j)))), ((a 8), .inl (cI, 5, .inl (fun j => nI ((g 8) j)))), ((a 9), .inl (cI, 5, .inl (fun j => ly_h ((g 9) j))))]) [1, 2, 3, 4, 5, 6, 7, 8, 9, 10] rfl
      refine ly_r (va_runV (As := []) (rest := [.int (nI i)]) ⟨hx, hb, hml, hown, hts⟩ (c_X4_everybody l D cI cC cZ cN a g) (cwV 0 hts gX6_rain_X4_everybody rfl rfl rfl (by decide +kernel) ⟨Nat.le_of_ble_eq_true rfl, Nat.le_of_ble_eq_true rfl⟩) (ly_pv hK hN hPc_34 0 4 rfl rfl rfl) rfl rfl hl.1 rfl (lv_room (Nat.le_of_ble_eq_true rfl)) dX6_rain_34 ⟨Nat.zero_le _, Nat.zero_le _⟩) ?_
      refine lv_icmp_gt (tgt := 82) hx hb dX6_rain_37 (by decide) (fun h_9 => absurd h_9 (s_all_nlt hm6 hN1 (by omega))) (fun _ => ?_)
      refine lv_aload_n hx hb dX6_rain_40 rfl (lv_at hl 4 rfl) ?_
      refine va_get (D := D) (ci := 6) (v := .ref (t 5)) (C := RX6) (T := TX6) (N := 12) hx hb hts hiX6 hown hK hP 0 rfl rfl 7 (by decide) f51 (fun _ h9 => h9) rfl dX6_rain_41 ?_
      refine lv_aload_n hx hb dX6_rain_44 rfl (lv_at hl 4 rfl) ?_
      refine lv_iload hx hb dX6_rain_45 (lv_at hl 0 rfl) ?_
      have hPc_47 := hP.sub (ws' := [((t 0), .inr (6, [.ref (t 1), .int (nI lt), .ref (t 2), .ref (a 0), .ref (a2 0), .ref (b 0), .ref (t 4), .ref (t 5), .ref (t 6), .ref (t 7), .ref (t 8), .long tr])), ((a 0), .inr (4, [.int (nI (g 0 0)), .ref (a 1), .ref (a 2), .ref (a 3), .int (nI (g 0 1)), .ref (a 4), .ref (a 5), .ref (a 6), .ref (a 7), .ref (a 8), .ref (a 9), .int (nI (g 0 2))])), ((a 1), .inl (cI, 9, .inl (fun j => nI ((g 1) j)))), ((a 2), .inl (cI, 9, .inl (fun j => nI ((g 2) j)))), ((a 3), .inl (cI, 9, .inl (fun j => nI ((g 3) j)))), ((a 4), .inl (cI, 6, .inl (fun j => nI ((g 4) j)))), ((a 5), .inl (cI, 6, .inl (fun j => nI ((g 5) j)))), ((a 6), .inl (cI, 6, .inl (fun j => nI ((g 6) j)))), ((a 7), .inl (cI, 5, .inl (fun j => nI ((g 7) j)))), ((a 8), .inl (cI, 5, .inl (fun j => nI ((g 8) j)))), ((a 9), .inl (cI, 5, .inl (fun j => ly_h ((g 9) j)))), ((b 0), .inr (3, [.int (nI (d 0)), .int (nI (d 1)), .int (nI (d 2)), .int (nI (d 3)), .int (nI (d 4)), .ref (b 1), .ref (b 2)])), ((b 1), .inl (cI, 9, .inl (fun j => ly_h (ho j)))), ((b 2), .inl (cI, 9, .inl (fun j => nI (le j))))]) [0, 1, 2, 3, 4, 5, 6, 7, 8, 9, 10, 11, 12, 13] rfl
      refine ly_r (va_runV (As := [.int (nI i)]) (rest := [.ref (t 5)]) ⟨hx, hb, hml, hown, hts⟩ (c_X6_farmsThatFeelRainOn l D cI cC cZ cN t a2 lt tr a g b d ho le (nI i) hn) (cwV 1 hts gX6_rain_X6_farmsThatFeelRainOn rfl rfl rfl (by decide +kernel) ⟨Nat.le_of_ble_eq_true rfl, Nat.le_of_ble_eq_true rfl⟩) (ly_pv hK hN hPc_47 0 6 rfl rfl rfl) rfl rfl hl.1 rfl (lv_room (Nat.le_of_ble_eq_true rfl)) dX6_rain_47 ⟨Nat.zero_le _, Nat.zero_le _⟩) ?_
      have hPc_50 := hP.sub (ws' := [((t 5), .inr (1, [.int (nI (hv 0)), .int (nI (hv 1)), .int (nI (hv 2)), .int (nI (hv 3)), .int (nI (hv 4)), .int (nI (hv 5))]))]) [14] rfl
      refine ly_r (va_runV (As := [.int (s_feel g ho (nI i) (g 0 0))]) (rest := []) ⟨hx, hb, hml, hown, hts⟩ (c_X1_canBeRain l D cI cC cZ cN t hv (s_feel g ho (nI i) (g 0 0))) (cwV 1 hts gX6_rain_X1_canBeRain rfl rfl rfl (by decide +kernel) ⟨Nat.le_of_ble_eq_true rfl, Nat.le_of_ble_eq_true rfl⟩) (ly_pv hK hN hPc_50 0 1 rfl rfl rfl) rfl rfl hl.1 rfl (lv_room (Nat.le_of_ble_eq_true rfl)) dX6_rain_50 ⟨Nat.zero_le _, Nat.zero_le _⟩) ?_
      refine lv_if_eq (tgt := 76) hx hb dX6_rain_53 (by decide) (fun c_1 => ?_) (fun c_1 => ?_)
      · refine lv_iinc (v := (nI (i + 1))) (lv' := [(5, .int (nI (i + 1))), (4, .int ((s_rain g ho hv i).2.2)), (3, .int ((s_rain g ho hv i).2.1)), (2, .int (nI ((s_rain g ho hv i).1))), (0, .ref (t 0)), (1, .int (nI 0))]) hx hb dX6_rain_76 hl (k := 0) rfl (ly_add rfl rfl) (by decide) rfl (fun ls hl => ?_)
        refine lv_goto (tgt := 28) hx hb dX6_rain_79 (by decide) ?_
        have e_2 : s_rain g ho hv (i + 1) = ((s_rain g ho hv i).1, (s_rain g ho hv i).2.1, (s_rain g ho hv i).2.2) := by show s_rainB g ho hv i ((s_rain g ho hv i).1) ((s_rain g ho hv i).2.1) ((s_rain g ho hv i).2.2) = _; unfold s_rainB; rw [if_pos c_1]
        exact ih_28 (i + 1) (by omega) ls (by rw [e_2]; exact lv_sub hl [0, 1, 2, 3, 4, 5] rfl)
      · refine lv_iinc (v := (nI ((s_rain g ho hv i).1 + 1))) (lv' := [(2, .int (nI ((s_rain g ho hv i).1 + 1))), (5, .int (nI i)), (4, .int ((s_rain g ho hv i).2.2)), (3, .int ((s_rain g ho hv i).2.1)), (0, .ref (t 0)), (1, .int (nI 0))]) hx hb dX6_rain_56 hl (k := 3) rfl (ly_add rfl rfl) (by decide) rfl (fun ls hl => ?_)
        refine lv_iload_n hx hb dX6_rain_59 rfl (lv_at hl 3 rfl) ?_
        refine lv_iload hx hb dX6_rain_60 (lv_at hl 1 rfl) ?_
        refine lv_iand hx hb dX6_rain_62 ?_
        refine lv_istore_n (lv' := [(3, .int ((s_rain g ho hv i).2.1 &&& (nI i))), (2, .int (nI ((s_rain g ho hv i).1 + 1))), (5, .int (nI i)), (4, .int ((s_rain g ho hv i).2.2)), (0, .ref (t 0)), (1, .int (nI 0))]) hx hb dX6_rain_63 rfl hl (by decide) rfl (fun ls hl => ?_)
        refine lv_iload hx hb dX6_rain_64 (lv_at hl 3 rfl) ?_
        refine lv_iload hx hb dX6_rain_66 (lv_at hl 2 rfl) ?_
        have hPc_68 := hP.sub (ws' := []) [] rfl
        refine ly_r (va_runS (As := [.int (nI i)]) (rest := [.int ((s_rain g ho hv i).2.2)]) ⟨hx, hb, hml, hown, hts⟩ (c_J6_bitCount_0f7a4 l D cI cC cZ cN (nI i)) (va_cwS 1 hts gX6_rain_J6_bitCount_0f7a4 rfl rfl rfl (by decide +kernel) ⟨Nat.le_of_ble_eq_true rfl, Nat.le_of_ble_eq_true rfl⟩) (ly_ps hK hN hPc_68) rfl rfl hl.1 rfl (lv_room (Nat.le_of_ble_eq_true rfl)) dX6_rain_68 ⟨Nat.zero_le _, Nat.zero_le _⟩) ?_
        refine va_mmin hx hb (by rw [hml]; exact hl.1.symm) hown (hts (.methodLink RX6 186 Lib.Math.min.name) (by decide +kernel)) (hts (.static Lib.Math.min.name) (by decide +kernel)) (hts (.initialized "java/lang/Math") (by decide +kernel)) (hts (.code Lib.Math.min.name Lib.Math.min.code 2 (some .int)) (by decide +kernel)) (Nat.le_of_ble_eq_true rfl) (Nat.le_of_ble_eq_true rfl) (Nat.zero_le _) (Nat.zero_le _) dX6_rain_71 ?_
        refine lv_istore (lv' := [(4, .int (if (jbits (nI i)) < (s_rain g ho hv i).2.2 then (jbits (nI i)) else (s_rain g ho hv i).2.2)), (3, .int ((s_rain g ho hv i).2.1 &&& (nI i))), (2, .int (nI ((s_rain g ho hv i).1 + 1))), (5, .int (nI i)), (0, .ref (t 0)), (1, .int (nI 0))]) hx hb dX6_rain_74 hl (by decide) rfl (fun ls hl => ?_)
        refine lv_iinc (v := (nI (i + 1))) (lv' := [(5, .int (nI (i + 1))), (4, .int (if (jbits (nI i)) < (s_rain g ho hv i).2.2 then (jbits (nI i)) else (s_rain g ho hv i).2.2)), (3, .int ((s_rain g ho hv i).2.1 &&& (nI i))), (2, .int (nI ((s_rain g ho hv i).1 + 1))), (0, .ref (t 0)), (1, .int (nI 0))]) hx hb dX6_rain_76 hl (k := 3) rfl (ly_add rfl rfl) (by decide) rfl (fun ls hl => ?_)
        refine lv_goto (tgt := 28) hx hb dX6_rain_79 (by decide) ?_
        have e_3 : s_rain g ho hv (i + 1) = ((s_rain g ho hv i).1 + 1, ((s_rain g ho hv i).2.1 &&& (nI i)), (if (jbits (nI i)) < (s_rain g ho hv i).2.2 then (jbits (nI i)) else (s_rain g ho hv i).2.2)) := by show s_rainB g ho hv i ((s_rain g ho hv i).1) ((s_rain g ho hv i).2.1) ((s_rain g ho hv i).2.2) = _; unfold s_rainB; rw [if_neg c_1]
        exact ih_28 (i + 1) (by omega) ls (by rw [e_3]; exact lv_sub hl [0, 1, 2, 3, 4, 5] rfl)
  exact hloop_28 N1 0 (by omega) ls (lv_sub hl [0, 1, 2, 3, 4, 5] rfl)

def s_rain1 (v : Nat × Int32 × Int32) : Int32 := if (nI v.1) = 0 then (-9) else v.2.1

set_option maxHeartbeats 4000000 in
set_option maxRecDepth 100000 in
theorem c_X6_rain_1 (l : Launch) (D : va_G) (cI cC cZ cN : ClassId) (t a2 : Nat → Nat) (lt : Nat) (tr : Int64) (a : Nat → Nat) (g : Nat → Nat → Nat) (b : Nat → Nat) (d ho le : Nat → Nat) (hv : Nat → Nat) (N1 : Nat) (hN1 : 2 ^ g 0 1 = N1) (hN6 : N1 ≤ 64) (hn : g 0 0 ≤ 9) (hm6 : g 0 1 ≤ 6) : Met l yX6_rain wsX6_rain (ly_rm 7) (ly_Pre D (ly_tys cI cC cZ cN) [((t 0), .inr (6, [.ref (t 1), .int (nI lt), .ref (t 2), .ref (a 0), .ref (a2 0), .ref (b 0), .ref (t 4), .ref (t 5), .ref (t 6), .ref (t 7), .ref (t 8), .long tr])), ((a 0), .inr (4, [.int (nI (g 0 0)), .ref (a 1), .ref (a 2), .ref (a 3), .int (nI (g 0 1)), .ref (a 4), .ref (a 5), .ref (a 6), .ref (a 7), .ref (a 8), .ref (a 9), .int (nI (g 0 2))])), ((a 1), .inl (cI, 9, .inl (fun j => nI ((g 1) j)))), ((a 2), .inl (cI, 9, .inl (fun j => nI ((g 2) j)))), ((a 3), .inl (cI, 9, .inl (fun j => nI ((g 3) j)))), ((a 4), .inl (cI, 6, .inl (fun j => nI ((g 4) j)))), ((a 5), .inl (cI, 6, .inl (fun j => nI ((g 5) j)))), ((a 6), .inl (cI, 6, .inl (fun j => nI ((g 6) j)))), ((a 7), .inl (cI, 5, .inl (fun j => nI ((g 7) j)))), ((a 8), .inl (cI, 5, .inl (fun j => nI ((g 8) j)))), ((a 9), .inl (cI, 5, .inl (fun j => ly_h ((g 9) j)))), ((b 0), .inr (3, [.int (nI (d 0)), .int (nI (d 1)), .int (nI (d 2)), .int (nI (d 3)), .int (nI (d 4)), .ref (b 1), .ref (b 2)])), ((b 1), .inl (cI, 9, .inl (fun j => ly_h (ho j)))), ((b 2), .inl (cI, 9, .inl (fun j => nI (le j)))), ((t 5), .inr (1, [.int (nI (hv 0)), .int (nI (hv 1)), .int (nI (hv 2)), .int (nI (hv 3)), .int (nI (hv 4)), .int (nI (hv 5))]))] [.ref (t 0), .int (nI 1)]) (QcRead (s_rain1 (s_rain g ho hv N1))) 0 0 (fun _ => False) := by
  refine Met.ofW (cc := cX6_rain) (maxL := 6) (ret := (some .int)) (by decide) rfl ?_
  intro p e s m args below meth c s₁ B hml hv
  obtain ⟨rfl, hP, hK, hN⟩ := hv
  have hx := B.exec
  have hb := B.bytes
  have hr := B.returns
  have hts := atoms_spec (ws := wsX6_rain) B.pre
  have hown : s.vm.findClass RX6 = some m.cls := findClass_of_methodNamed B.named
  have hlocks := B.notSynchronized
  have hl := lv_entry ([.ref (t 0), .int (nI 1)]) (n := 6) (Nat.le_of_ble_eq_true rfl)
  rw [lg_entry_eq]
  generalize (lg_sl ([.ref (t 0), .int (nI 1)]) ++ List.replicate (6 - (lg_sl ([.ref (t 0), .int (nI 1)])).length) Slot.unset).toArray = ls at hl ⊢
  have hl : lv_has ls 6 [(0, .ref (t 0)), (1, .int (nI 1))] := hl
  generalize ([.ref (t 0), .int (nI 1)] : List Value).toArray = av at hts ⊢
  obtain ⟨Qc, hQc⟩ : ∃ Qc, Qc = (QcRead (s_rain1 (s_rain g ho hv N1))) := ⟨_, rfl⟩
  rw [← hQc]
  have f27 := hts (.fieldLink RX6 27 "KneesLent" "parish" "LKneesLent$Parish;") (by decide +kernel)
  have f51 := hts (.fieldLink RX6 51 "KneesLent" "hearsay" "LKneesLent$Hearsay;") (by decide +kernel)
  have hiX6 : ∀ w ∈ u_ws RX6 TX6 12, w ∈ wsX6_rain := by decide +kernel
  refine lv_iload_n hx hb dX6_rain_0 rfl (lv_at hl 1 rfl) ?_
  refine lv_iconst (v := 0) hx hb dX6_rain_1 (by decide) ?_
  refine lv_iconst (v := 2) hx hb dX6_rain_2 (by decide) ?_
  have hPc_3 := hP.sub (ws' := []) [] rfl
  refine ly_r (va_runS (As := [.int (nI 1), .int 0, .int 2]) (rest := []) ⟨hx, hb, hml, hown, hts⟩ (c_X6_within l D cI cC cZ cN (nI 1) 0 2) (va_cwS 3 hts gX6_rain_X6_within rfl rfl rfl (by decide +kernel) ⟨Nat.le_of_ble_eq_true rfl, Nat.le_of_ble_eq_true rfl⟩) (ly_ps hK hN hPc_3) rfl rfl hl.1 rfl (lv_room (Nat.le_of_ble_eq_true rfl)) dX6_rain_3 ⟨Nat.zero_le _, Nat.zero_le _⟩) ?_
  refine lv_if_ne (tgt := 11) hx hb dX6_rain_6 (by decide) (fun _ => ?_) (fun h_9 => absurd h_9 (jin_yes (b := 2) (by omega) (by omega)))
  refine lv_iconst (v := 0) hx hb dX6_rain_11 (by decide) ?_
  refine lv_istore_n (lv' := [(2, .int 0), (0, .ref (t 0)), (1, .int (nI 1))]) hx hb dX6_rain_12 rfl hl (by decide) rfl (fun ls hl => ?_)
  refine lv_aload_n hx hb dX6_rain_13 rfl (lv_at hl 1 rfl) ?_
  refine va_get (D := D) (ci := 6) (v := .ref (a 0)) (C := RX6) (T := TX6) (N := 12) hx hb hts hiX6 hown hK hP 0 rfl rfl 3 (by decide) f27 (fun _ h9 => h9) rfl dX6_rain_14 ?_
  have hPc_17 := hP.sub (ws' := [((a 0), .inr (4, [.int (nI (g 0 0)), .ref (a 1), .ref (a 2), .ref (a 3), .int (nI (g 0 1)), .ref (a 4), .ref (a 5), .ref (a 6), .ref (a 7), .ref (a 8), .ref (a 9), .int (nI (g 0 2))])), ((a 1), .inl (cI, 9, .inl (fun j => nI ((g 1) j)))), ((a 2), .inl (cI, 9, .inl (fun j => nI ((g 2) j)))), ((a 3), .inl (cI, 9, .inl (fun j => nI ((g 3) j)))), ((a 4), .inl (cI, 6, .inl (fun j => nI ((g 4) j)))), ((a 5), .inl (cI, 6, .inl (fun j => nI ((g 5) j)))), ((a 6), .inl (cI, 6, .inl (fun j => nI ((g 6) j)))), ((a 7), .inl (cI, 5, .inl (fun j => nI ((g 7) j)))), ((a 8), .inl (cI, 5, .inl (fun j => nI ((g 8) j)))), ((a 9), .inl (cI, 5, .inl (fun j => ly_h ((g 9) j))))]) [1, 2, 3, 4, 5, 6, 7, 8, 9, 10] rfl
  refine ly_r (va_runV (As := []) (rest := []) ⟨hx, hb, hml, hown, hts⟩ (c_X4_everybody l D cI cC cZ cN a g) (cwV 0 hts gX6_rain_X4_everybody rfl rfl rfl (by decide +kernel) ⟨Nat.le_of_ble_eq_true rfl, Nat.le_of_ble_eq_true rfl⟩) (ly_pv hK hN hPc_17 0 4 rfl rfl rfl) rfl rfl hl.1 rfl (lv_room (Nat.le_of_ble_eq_true rfl)) dX6_rain_17 ⟨Nat.zero_le _, Nat.zero_le _⟩) ?_
  refine lv_istore_n (lv' := [(3, .int (s_all (g 0 1))), (2, .int 0), (0, .ref (t 0)), (1, .int (nI 1))]) hx hb dX6_rain_20 rfl hl (by decide) rfl (fun ls hl => ?_)
  refine lv_bipush (v := 6) hx hb dX6_rain_21 (by decide) ?_
  refine lv_istore (lv' := [(4, .int 6), (3, .int (s_all (g 0 1))), (2, .int 0), (0, .ref (t 0)), (1, .int (nI 1))]) hx hb dX6_rain_23 hl (by decide) rfl (fun ls hl => ?_)
  refine lv_iconst (v := 0) hx hb dX6_rain_25 (by decide) ?_
  refine lv_istore (lv' := [(5, .int 0), (4, .int 6), (3, .int (s_all (g 0 1))), (2, .int 0), (0, .ref (t 0)), (1, .int (nI 1))]) hx hb dX6_rain_26 hl (by decide) rfl (fun ls hl => ?_)
  have hloop_28 : ∀ (k i : Nat), i + k = N1 → ∀ ls : Array Slot, lv_has ls 6 [(5, .int (nI i)), (4, .int ((s_rain g ho hv i).2.2)), (3, .int ((s_rain g ho hv i).2.1)), (2, .int (nI ((s_rain g ho hv i).1))), (0, .ref (t 0)), (1, .int (nI 1))] → W p l e (headSpec wsX6_rain (ly_rm 7)).room s m av below meth c s.heap [] 0 0 (MQ below Qc av s 0 0 (fun _ => False)) (F0 m 28 ls []) := by
    intro k
    induction k with
    | zero =>
      intro i hi_28 ls hl
      obtain rfl : N1 = i := by omega
      refine lv_iload hx hb dX6_rain_28 (lv_at hl 0 rfl) ?_
      refine lv_aload_n hx hb dX6_rain_30 rfl (lv_at hl 4 rfl) ?_
      refine va_get (D := D) (ci := 6) (v := .ref (a 0)) (C := RX6) (T := TX6) (N := 12) hx hb hts hiX6 hown hK hP 0 rfl rfl 3 (by decide) f27 (fun _ h9 => h9) rfl dX6_rain_31 ?_
      have hPc_34 := hP.sub (ws' := [((a 0), .inr (4, [.int (nI (g 0 0)), .ref (a 1), .ref (a 2), .ref (a 3), .int (nI (g 0 1)), .ref (a 4), .ref (a 5), .ref (a 6), .ref (a 7), .ref (a 8), .ref (a 9), .int (nI (g 0 2))])), ((a 1), .inl (cI, 9, .inl (fun j => nI ((g 1) j)))), ((a 2), .inl (cI, 9, .inl (fun j => nI ((g 2) j)))), ((a 3), .inl (cI, 9, .inl (fun j => nI ((g 3) j)))), ((a 4), .inl (cI, 6, .inl (fun j => nI ((g 4) j)))), ((a 5), .inl (cI, 6, .inl (fun j => nI ((g 5) j)))), ((a 6), .inl (cI, 6, .inl (fun j => nI ((g 6) j)))), ((a 7), .inl (cI, 5, .inl (fun j => nI ((g 7) j)))), ((a 8), .inl (cI, 5, .inl (fun j => nI ((g 8) j)))), ((a 9), .inl (cI, 5, .inl (fun j => ly_h ((g 9) j))))]) [1, 2, 3, 4, 5, 6, 7, 8, 9, 10] rfl
      refine ly_r (va_runV (As := []) (rest := [.int (nI N1)]) ⟨hx, hb, hml, hown, hts⟩ (c_X4_everybody l D cI cC cZ cN a g) (cwV 0 hts gX6_rain_X4_everybody rfl rfl rfl (by decide +kernel) ⟨Nat.le_of_ble_eq_true rfl, Nat.le_of_ble_eq_true rfl⟩) (ly_pv hK hN hPc_34 0 4 rfl rfl rfl) rfl rfl hl.1 rfl (lv_room (Nat.le_of_ble_eq_true rfl)) dX6_rain_34 ⟨Nat.zero_le _, Nat.zero_le _⟩) ?_
      refine lv_icmp_gt (tgt := 82) hx hb dX6_rain_37 (by decide) (fun _ => ?_) (fun h_9 => absurd (s_all_lt hm6 hN1) h_9)
      refine lv_iload_n hx hb dX6_rain_82 rfl (lv_at hl 5 rfl) ?_
      refine lv_if_ne (tgt := 88) hx hb dX6_rain_83 (by decide) (fun _ => ?_) (fun h_9 => absurd h_9 (by decide))
      refine lv_iload_n hx hb dX6_rain_88 rfl (lv_at hl 3 rfl) ?_
      refine lv_if_ne (tgt := 95) hx hb dX6_rain_89 (by decide) (fun c_1 => ?_) (fun c_1 => ?_)
      · refine lv_iload_n hx hb dX6_rain_95 rfl (lv_at hl 5 rfl) ?_
        refine lv_iconst (v := 1) hx hb dX6_rain_96 (by decide) ?_
        refine lv_icmp_ne (tgt := 104) hx hb dX6_rain_97 (by decide) (fun h_9 => absurd (by decide) h_9) (fun _ => ?_)
        refine lv_iload_n hx hb dX6_rain_100 rfl (lv_at hl 2 rfl) ?_
        refine lv_goto (tgt := 106) hx hb dX6_rain_101 (by decide) ?_
        exact W.iret (v := (s_rain g ho hv N1).2.1) hx hb hr (fun t_9 ht_9 _ => by rw [hQc]; exact ⟨(by unfold s_rain1; rw [if_neg c_1]), ht_9⟩) t_nil dX6_rain_106
      · refine lv_bipush (v := (-9)) hx hb dX6_rain_92 (by decide) ?_
        exact W.iret (v := (-9)) hx hb hr (fun t_9 ht_9 _ => by rw [hQc]; exact ⟨(by unfold s_rain1; rw [if_pos c_1]), ht_9⟩) t_nil dX6_rain_94
    | succ k ih_28 =>
      intro i hi_28 ls hl
      refine lv_iload hx hb dX6_rain_28 (lv_at hl 0 rfl) ?_
      refine lv_aload_n hx hb dX6_rain_30 rfl (lv_at hl 4 rfl) ?_
      refine va_get (D := D) (ci := 6) (v := .ref (a 0)) (C := RX6) (T := TX6) (N := 12) hx hb hts hiX6 hown hK hP 0 rfl rfl 3 (by decide) f27 (fun _ h9 => h9) rfl dX6_rain_31 ?_
      have hPc_34 := hP.sub (ws' := [((a 0), .inr (4, [.int (nI (g 0 0)), .ref (a 1), .ref (a 2), .ref (a 3), .int (nI (g 0 1)), .ref (a 4), .ref (a 5), .ref (a 6), .ref (a 7), .ref (a 8), .ref (a 9), .int (nI (g 0 2))])), ((a 1), .inl (cI, 9, .inl (fun j => nI ((g 1) j)))), ((a 2), .inl (cI, 9, .inl (fun j => nI ((g 2) j)))), ((a 3), .inl (cI, 9, .inl (fun j => nI ((g 3) j)))), ((a 4), .inl (cI, 6, .inl (fun j => nI ((g 4) j)))), ((a 5), .inl (cI, 6, .inl (fun j => nI ((g 5) j)))), ((a 6), .inl (cI, 6, .inl (fun j => nI ((g 6) j)))), ((a 7), .inl (cI, 5, .inl (fun j => nI ((g 7) j)))), ((a 8), .inl (cI, 5, .inl (fun j => nI ((g 8) j)))), ((a 9), .inl (cI, 5, .inl (fun j => ly_h ((g 9) j))))]) [1, 2, 3, 4, 5, 6, 7, 8, 9, 10] rfl
      refine ly_r (va_runV (As := []) (rest := [.int (nI i)]) ⟨hx, hb, hml, hown, hts⟩ (c_X4_everybody l D cI cC cZ cN a g) (cwV 0 hts gX6_rain_X4_everybody rfl rfl rfl (by decide +kernel) ⟨Nat.le_of_ble_eq_true rfl, Nat.le_of_ble_eq_true rfl⟩) (ly_pv hK hN hPc_34 0 4 rfl rfl rfl) rfl rfl hl.1 rfl (lv_room (Nat.le_of_ble_eq_true rfl)) dX6_rain_34 ⟨Nat.zero_le _, Nat.zero_le _⟩) ?_
      refine lv_icmp_gt (tgt := 82) hx hb dX6_rain_37 (by decide) (fun h_9 => absurd h_9 (s_all_nlt hm6 hN1 (by omega))) (fun _ => ?_)
      refine lv_aload_n hx hb dX6_rain_40 rfl (lv_at hl 4 rfl) ?_
      refine va_get (D := D) (ci := 6) (v := .ref (t 5)) (C := RX6) (T := TX6) (N := 12) hx hb hts hiX6 hown hK hP 0 rfl rfl 7 (by decide) f51 (fun _ h9 => h9) rfl dX6_rain_41 ?_
      refine lv_aload_n hx hb dX6_rain_44 rfl (lv_at hl 4 rfl) ?_
      refine lv_iload hx hb dX6_rain_45 (lv_at hl 0 rfl) ?_
      have hPc_47 := hP.sub (ws' := [((t 0), .inr (6, [.ref (t 1), .int (nI lt), .ref (t 2), .ref (a 0), .ref (a2 0), .ref (b 0), .ref (t 4), .ref (t 5), .ref (t 6), .ref (t 7), .ref (t 8), .long tr])), ((a 0), .inr (4, [.int (nI (g 0 0)), .ref (a 1), .ref (a 2), .ref (a 3), .int (nI (g 0 1)), .ref (a 4), .ref (a 5), .ref (a 6), .ref (a 7), .ref (a 8), .ref (a 9), .int (nI (g 0 2))])), ((a 1), .inl (cI, 9, .inl (fun j => nI ((g 1) j)))), ((a 2), .inl (cI, 9, .inl (fun j => nI ((g 2) j)))), ((a 3), .inl (cI, 9, .inl (fun j => nI ((g 3) j)))), ((a 4), .inl (cI, 6, .inl (fun j => nI ((g 4) j)))), ((a 5), .inl (cI, 6, .inl (fun j => nI ((g 5) j)))), ((a 6), .inl (cI, 6, .inl (fun j => nI ((g 6) j)))), ((a 7), .inl (cI, 5, .inl (fun j => nI ((g 7) j)))), ((a 8), .inl (cI, 5, .inl (fun j => nI ((g 8) j)))), ((a 9), .inl (cI, 5, .inl (fun j => ly_h ((g 9) j)))), ((b 0), .inr (3, [.int (nI (d 0)), .int (nI (d 1)), .int (nI (d 2)), .int (nI (d 3)), .int (nI (d 4)), .ref (b 1), .ref (b 2)])), ((b 1), .inl (cI, 9, .inl (fun j => ly_h (ho j)))), ((b 2), .inl (cI, 9, .inl (fun j => nI (le j))))]) [0, 1, 2, 3, 4, 5, 6, 7, 8, 9, 10, 11, 12, 13] rfl
      refine ly_r (va_runV (As := [.int (nI i)]) (rest := [.ref (t 5)]) ⟨hx, hb, hml, hown, hts⟩ (c_X6_farmsThatFeelRainOn l D cI cC cZ cN t a2 lt tr a g b d ho le (nI i) hn) (cwV 1 hts gX6_rain_X6_farmsThatFeelRainOn rfl rfl rfl (by decide +kernel) ⟨Nat.le_of_ble_eq_true rfl, Nat.le_of_ble_eq_true rfl⟩) (ly_pv hK hN hPc_47 0 6 rfl rfl rfl) rfl rfl hl.1 rfl (lv_room (Nat.le_of_ble_eq_true rfl)) dX6_rain_47 ⟨Nat.zero_le _, Nat.zero_le _⟩) ?_
      have hPc_50 := hP.sub (ws' := [((t 5), .inr (1, [.int (nI (hv 0)), .int (nI (hv 1)), .int (nI (hv 2)), .int (nI (hv 3)), .int (nI (hv 4)), .int (nI (hv 5))]))]) [14] rfl
      refine ly_r (va_runV (As := [.int (s_feel g ho (nI i) (g 0 0))]) (rest := []) ⟨hx, hb, hml, hown, hts⟩ (c_X1_canBeRain l D cI cC cZ cN t hv (s_feel g ho (nI i) (g 0 0))) (cwV 1 hts gX6_rain_X1_canBeRain rfl rfl rfl (by decide +kernel) ⟨Nat.le_of_ble_eq_true rfl, Nat.le_of_ble_eq_true rfl⟩) (ly_pv hK hN hPc_50 0 1 rfl rfl rfl) rfl rfl hl.1 rfl (lv_room (Nat.le_of_ble_eq_true rfl)) dX6_rain_50 ⟨Nat.zero_le _, Nat.zero_le _⟩) ?_
      refine lv_if_eq (tgt := 76) hx hb dX6_rain_53 (by decide) (fun c_2 => ?_) (fun c_2 => ?_)
      · refine lv_iinc (v := (nI (i + 1))) (lv' := [(5, .int (nI (i + 1))), (4, .int ((s_rain g ho hv i).2.2)), (3, .int ((s_rain g ho hv i).2.1)), (2, .int (nI ((s_rain g ho hv i).1))), (0, .ref (t 0)), (1, .int (nI 1))]) hx hb dX6_rain_76 hl (k := 0) rfl (ly_add rfl rfl) (by decide) rfl (fun ls hl => ?_)
        refine lv_goto (tgt := 28) hx hb dX6_rain_79 (by decide) ?_
        have e_3 : s_rain g ho hv (i + 1) = ((s_rain g ho hv i).1, (s_rain g ho hv i).2.1, (s_rain g ho hv i).2.2) := by show s_rainB g ho hv i ((s_rain g ho hv i).1) ((s_rain g ho hv i).2.1) ((s_rain g ho hv i).2.2) = _; unfold s_rainB; rw [if_pos c_2]
        exact ih_28 (i + 1) (by omega) ls (by rw [e_3]; exact lv_sub hl [0, 1, 2, 3, 4, 5] rfl)
      · refine lv_iinc (v := (nI ((s_rain g ho hv i).1 + 1))) (lv' := [(2, .int (nI ((s_rain g ho hv i).1 + 1))), (5, .int (nI i)), (4, .int ((s_rain g ho hv i).2.2)), (3, .int ((s_rain g ho hv i).2.1)), (0, .ref (t 0)), (1, .int (nI 1))]) hx hb dX6_rain_56 hl (k := 3) rfl (ly_add rfl rfl) (by decide) rfl (fun ls hl => ?_)
        refine lv_iload_n hx hb dX6_rain_59 rfl (lv_at hl 3 rfl) ?_
        refine lv_iload hx hb dX6_rain_60 (lv_at hl 1 rfl) ?_
        refine lv_iand hx hb dX6_rain_62 ?_
        refine lv_istore_n (lv' := [(3, .int ((s_rain g ho hv i).2.1 &&& (nI i))), (2, .int (nI ((s_rain g ho hv i).1 + 1))), (5, .int (nI i)), (4, .int ((s_rain g ho hv i).2.2)), (0, .ref (t 0)), (1, .int (nI 1))]) hx hb dX6_rain_63 rfl hl (by decide) rfl (fun ls hl => ?_)
        refine lv_iload hx hb dX6_rain_64 (lv_at hl 3 rfl) ?_
        refine lv_iload hx hb dX6_rain_66 (lv_at hl 2 rfl) ?_
        have hPc_68 := hP.sub (ws' := []) [] rfl
        refine ly_r (va_runS (As := [.int (nI i)]) (rest := [.int ((s_rain g ho hv i).2.2)]) ⟨hx, hb, hml, hown, hts⟩ (c_J6_bitCount_0f7a4 l D cI cC cZ cN (nI i)) (va_cwS 1 hts gX6_rain_J6_bitCount_0f7a4 rfl rfl rfl (by decide +kernel) ⟨Nat.le_of_ble_eq_true rfl, Nat.le_of_ble_eq_true rfl⟩) (ly_ps hK hN hPc_68) rfl rfl hl.1 rfl (lv_room (Nat.le_of_ble_eq_true rfl)) dX6_rain_68 ⟨Nat.zero_le _, Nat.zero_le _⟩) ?_
        refine va_mmin hx hb (by rw [hml]; exact hl.1.symm) hown (hts (.methodLink RX6 186 Lib.Math.min.name) (by decide +kernel)) (hts (.static Lib.Math.min.name) (by decide +kernel)) (hts (.initialized "java/lang/Math") (by decide +kernel)) (hts (.code Lib.Math.min.name Lib.Math.min.code 2 (some .int)) (by decide +kernel)) (Nat.le_of_ble_eq_true rfl) (Nat.le_of_ble_eq_true rfl) (Nat.zero_le _) (Nat.zero_le _) dX6_rain_71 ?_
        refine lv_istore (lv' := [(4, .int (if (jbits (nI i)) < (s_rain g ho hv i).2.2 then (jbits (nI i)) else (s_rain g ho hv i).2.2)), (3, .int ((s_rain g ho hv i).2.1 &&& (nI i))), (2, .int (nI ((s_rain g ho hv i).1 + 1))), (5, .int (nI i)), (0, .ref (t 0)), (1, .int (nI 1))]) hx hb dX6_rain_74 hl (by decide) rfl (fun ls hl => ?_)
        refine lv_iinc (v := (nI (i + 1))) (lv' := [(5, .int (nI (i + 1))), (4, .int (if (jbits (nI i)) < (s_rain g ho hv i).2.2 then (jbits (nI i)) else (s_rain g ho hv i).2.2)), (3, .int ((s_rain g ho hv i).2.1 &&& (nI i))), (2, .int (nI ((s_rain g ho hv i).1 + 1))), (0, .ref (t 0)), (1, .int (nI 1))]) hx hb dX6_rain_76 hl (k := 3) rfl (ly_add rfl rfl) (by decide) rfl (fun ls hl => ?_)
        refine lv_goto (tgt := 28) hx hb dX6_rain_79 (by decide) ?_
        have e_4 : s_rain g ho hv (i + 1) = ((s_rain g ho hv i).1 + 1, ((s_rain g ho hv i).2.1 &&& (nI i)), (if (jbits (nI i)) < (s_rain g ho hv i).2.2 then (jbits (nI i)) else (s_rain g ho hv i).2.2)) := by show s_rainB g ho hv i ((s_rain g ho hv i).1) ((s_rain g ho hv i).2.1) ((s_rain g ho hv i).2.2) = _; unfold s_rainB; rw [if_neg c_2]
        exact ih_28 (i + 1) (by omega) ls (by rw [e_4]; exact lv_sub hl [0, 1, 2, 3, 4, 5] rfl)
  exact hloop_28 N1 0 (by omega) ls (lv_sub hl [0, 1, 2, 3, 4, 5] rfl)

def s_rain2 (v : Nat × Int32 × Int32) : Int32 := if (nI v.1) = 0 then (-9) else v.2.2

set_option maxHeartbeats 4000000 in
set_option maxRecDepth 100000 in
theorem c_X6_rain_2 (l : Launch) (D : va_G) (cI cC cZ cN : ClassId) (t a2 : Nat → Nat) (lt : Nat) (tr : Int64) (a : Nat → Nat) (g : Nat → Nat → Nat) (b : Nat → Nat) (d ho le : Nat → Nat) (hv : Nat → Nat) (N1 : Nat) (hN1 : 2 ^ g 0 1 = N1) (hN6 : N1 ≤ 64) (hn : g 0 0 ≤ 9) (hm6 : g 0 1 ≤ 6) : Met l yX6_rain wsX6_rain (ly_rm 7) (ly_Pre D (ly_tys cI cC cZ cN) [((t 0), .inr (6, [.ref (t 1), .int (nI lt), .ref (t 2), .ref (a 0), .ref (a2 0), .ref (b 0), .ref (t 4), .ref (t 5), .ref (t 6), .ref (t 7), .ref (t 8), .long tr])), ((a 0), .inr (4, [.int (nI (g 0 0)), .ref (a 1), .ref (a 2), .ref (a 3), .int (nI (g 0 1)), .ref (a 4), .ref (a 5), .ref (a 6), .ref (a 7), .ref (a 8), .ref (a 9), .int (nI (g 0 2))])), ((a 1), .inl (cI, 9, .inl (fun j => nI ((g 1) j)))), ((a 2), .inl (cI, 9, .inl (fun j => nI ((g 2) j)))), ((a 3), .inl (cI, 9, .inl (fun j => nI ((g 3) j)))), ((a 4), .inl (cI, 6, .inl (fun j => nI ((g 4) j)))), ((a 5), .inl (cI, 6, .inl (fun j => nI ((g 5) j)))), ((a 6), .inl (cI, 6, .inl (fun j => nI ((g 6) j)))), ((a 7), .inl (cI, 5, .inl (fun j => nI ((g 7) j)))), ((a 8), .inl (cI, 5, .inl (fun j => nI ((g 8) j)))), ((a 9), .inl (cI, 5, .inl (fun j => ly_h ((g 9) j)))), ((b 0), .inr (3, [.int (nI (d 0)), .int (nI (d 1)), .int (nI (d 2)), .int (nI (d 3)), .int (nI (d 4)), .ref (b 1), .ref (b 2)])), ((b 1), .inl (cI, 9, .inl (fun j => ly_h (ho j)))), ((b 2), .inl (cI, 9, .inl (fun j => nI (le j)))), ((t 5), .inr (1, [.int (nI (hv 0)), .int (nI (hv 1)), .int (nI (hv 2)), .int (nI (hv 3)), .int (nI (hv 4)), .int (nI (hv 5))]))] [.ref (t 0), .int (nI 2)]) (QcRead (s_rain2 (s_rain g ho hv N1))) 0 0 (fun _ => False) := by
  refine Met.ofW (cc := cX6_rain) (maxL := 6) (ret := (some .int)) (by decide) rfl ?_
  intro p e s m args below meth c s₁ B hml hv
  obtain ⟨rfl, hP, hK, hN⟩ := hv
  have hx := B.exec
  have hb := B.bytes
  have hr := B.returns
  have hts := atoms_spec (ws := wsX6_rain) B.pre
  have hown : s.vm.findClass RX6 = some m.cls := findClass_of_methodNamed B.named
  have hlocks := B.notSynchronized
  have hl := lv_entry ([.ref (t 0), .int (nI 2)]) (n := 6) (Nat.le_of_ble_eq_true rfl)
  rw [lg_entry_eq]
  generalize (lg_sl ([.ref (t 0), .int (nI 2)]) ++ List.replicate (6 - (lg_sl ([.ref (t 0), .int (nI 2)])).length) Slot.unset).toArray = ls at hl ⊢
  have hl : lv_has ls 6 [(0, .ref (t 0)), (1, .int (nI 2))] := hl
  generalize ([.ref (t 0), .int (nI 2)] : List Value).toArray = av at hts ⊢
  obtain ⟨Qc, hQc⟩ : ∃ Qc, Qc = (QcRead (s_rain2 (s_rain g ho hv N1))) := ⟨_, rfl⟩
  rw [← hQc]
  have f27 := hts (.fieldLink RX6 27 "KneesLent" "parish" "LKneesLent$Parish;") (by decide +kernel)
  have f51 := hts (.fieldLink RX6 51 "KneesLent" "hearsay" "LKneesLent$Hearsay;") (by decide +kernel)
  have hiX6 : ∀ w ∈ u_ws RX6 TX6 12, w ∈ wsX6_rain := by decide +kernel
  refine lv_iload_n hx hb dX6_rain_0 rfl (lv_at hl 1 rfl) ?_
  refine lv_iconst (v := 0) hx hb dX6_rain_1 (by decide) ?_
  refine lv_iconst (v := 2) hx hb dX6_rain_2 (by decide) ?_
  have hPc_3 := hP.sub (ws' := []) [] rfl
  refine ly_r (va_runS (As := [.int (nI 2), .int 0, .int 2]) (rest := []) ⟨hx, hb, hml, hown, hts⟩ (c_X6_within l D cI cC cZ cN (nI 2) 0 2) (va_cwS 3 hts gX6_rain_X6_within rfl rfl rfl (by decide +kernel) ⟨Nat.le_of_ble_eq_true rfl, Nat.le_of_ble_eq_true rfl⟩) (ly_ps hK hN hPc_3) rfl rfl hl.1 rfl (lv_room (Nat.le_of_ble_eq_true rfl)) dX6_rain_3 ⟨Nat.zero_le _, Nat.zero_le _⟩) ?_
  refine lv_if_ne (tgt := 11) hx hb dX6_rain_6 (by decide) (fun _ => ?_) (fun h_9 => absurd h_9 (jin_yes (b := 2) (by omega) (by omega)))
  refine lv_iconst (v := 0) hx hb dX6_rain_11 (by decide) ?_
  refine lv_istore_n (lv' := [(2, .int 0), (0, .ref (t 0)), (1, .int (nI 2))]) hx hb dX6_rain_12 rfl hl (by decide) rfl (fun ls hl => ?_)
  refine lv_aload_n hx hb dX6_rain_13 rfl (lv_at hl 1 rfl) ?_
  refine va_get (D := D) (ci := 6) (v := .ref (a 0)) (C := RX6) (T := TX6) (N := 12) hx hb hts hiX6 hown hK hP 0 rfl rfl 3 (by decide) f27 (fun _ h9 => h9) rfl dX6_rain_14 ?_
  have hPc_17 := hP.sub (ws' := [((a 0), .inr (4, [.int (nI (g 0 0)), .ref (a 1), .ref (a 2), .ref (a 3), .int (nI (g 0 1)), .ref (a 4), .ref (a 5), .ref (a 6), .ref (a 7), .ref (a 8), .ref (a 9), .int (nI (g 0 2))])), ((a 1), .inl (cI, 9, .inl (fun j => nI ((g 1) j)))), ((a 2), .inl (cI, 9, .inl (fun j => nI ((g 2) j)))), ((a 3), .inl (cI, 9, .inl (fun j => nI ((g 3) j)))), ((a 4), .inl (cI, 6, .inl (fun j => nI ((g 4) j)))), ((a 5), .inl (cI, 6, .inl (fun j => nI ((g 5) j)))), ((a 6), .inl (cI, 6, .inl (fun j => nI ((g 6) j)))), ((a 7), .inl (cI, 5, .inl (fun j => nI ((g 7) j)))), ((a 8), .inl (cI, 5, .inl (fun j => nI ((g 8) j)))), ((a 9), .inl (cI, 5, .inl (fun j => ly_h ((g 9) j))))]) [1, 2, 3, 4, 5, 6, 7, 8, 9, 10] rfl
  refine ly_r (va_runV (As := []) (rest := []) ⟨hx, hb, hml, hown, hts⟩ (c_X4_everybody l D cI cC cZ cN a g) (cwV 0 hts gX6_rain_X4_everybody rfl rfl rfl (by decide +kernel) ⟨Nat.le_of_ble_eq_true rfl, Nat.le_of_ble_eq_true rfl⟩) (ly_pv hK hN hPc_17 0 4 rfl rfl rfl) rfl rfl hl.1 rfl (lv_room (Nat.le_of_ble_eq_true rfl)) dX6_rain_17 ⟨Nat.zero_le _, Nat.zero_le _⟩) ?_
  refine lv_istore_n (lv' := [(3, .int (s_all (g 0 1))), (2, .int 0), (0, .ref (t 0)), (1, .int (nI 2))]) hx hb dX6_rain_20 rfl hl (by decide) rfl (fun ls hl => ?_)
  refine lv_bipush (v := 6) hx hb dX6_rain_21 (by decide) ?_
  refine lv_istore (lv' := [(4, .int 6), (3, .int (s_all (g 0 1))), (2, .int 0), (0, .ref (t 0)), (1, .int (nI 2))]) hx hb dX6_rain_23 hl (by decide) rfl (fun ls hl => ?_)
  refine lv_iconst (v := 0) hx hb dX6_rain_25 (by decide) ?_
  refine lv_istore (lv' := [(5, .int 0), (4, .int 6), (3, .int (s_all (g 0 1))), (2, .int 0), (0, .ref (t 0)), (1, .int (nI 2))]) hx hb dX6_rain_26 hl (by decide) rfl (fun ls hl => ?_)
  have hloop_28 : ∀ (k i : Nat), i + k = N1 → ∀ ls : Array Slot, lv_has ls 6 [(5, .int (nI i)), (4, .int ((s_rain g ho hv i).2.2)), (3, .int ((s_rain g ho hv i).2.1)), (2, .int (nI ((s_rain g ho hv i).1))), (0, .ref (t 0)), (1, .int (nI 2))] → W p l e (headSpec wsX6_rain (ly_rm 7)).room s m av below meth c s.heap [] 0 0 (MQ below Qc av s 0 0 (fun _ => False)) (F0 m 28 ls []) := by
    intro k
    induction k with
    | zero =>
      intro i hi_28 ls hl
      obtain rfl : N1 = i := by omega
      refine lv_iload hx hb dX6_rain_28 (lv_at hl 0 rfl) ?_
      refine lv_aload_n hx hb dX6_rain_30 rfl (lv_at hl 4 rfl) ?_
      refine va_get (D := D) (ci := 6) (v := .ref (a 0)) (C := RX6) (T := TX6) (N := 12) hx hb hts hiX6 hown hK hP 0 rfl rfl 3 (by decide) f27 (fun _ h9 => h9) rfl dX6_rain_31 ?_
      have hPc_34 := hP.sub (ws' := [((a 0), .inr (4, [.int (nI (g 0 0)), .ref (a 1), .ref (a 2), .ref (a 3), .int (nI (g 0 1)), .ref (a 4), .ref (a 5), .ref (a 6), .ref (a 7), .ref (a 8), .ref (a 9), .int (nI (g 0 2))])), ((a 1), .inl (cI, 9, .inl (fun j => nI ((g 1) j)))), ((a 2), .inl (cI, 9, .inl (fun j => nI ((g 2) j)))), ((a 3), .inl (cI, 9, .inl (fun j => nI ((g 3) j)))), ((a 4), .inl (cI, 6, .inl (fun j => nI ((g 4) j)))), ((a 5), .inl (cI, 6, .inl (fun j => nI ((g 5) j)))), ((a 6), .inl (cI, 6, .inl (fun j => nI ((g 6) j)))), ((a 7), .inl (cI, 5, .inl (fun j => nI ((g 7) j)))), ((a 8), .inl (cI, 5, .inl (fun j => nI ((g 8) j)))), ((a 9), .inl (cI, 5, .inl (fun j => ly_h ((g 9) j))))]) [1, 2, 3, 4, 5, 6, 7, 8, 9, 10] rfl
      refine ly_r (va_runV (As := []) (rest := [.int (nI N1)]) ⟨hx, hb, hml, hown, hts⟩ (c_X4_everybody l D cI cC cZ cN a g) (cwV 0 hts gX6_rain_X4_everybody rfl rfl rfl (by decide +kernel) ⟨Nat.le_of_ble_eq_true rfl, Nat.le_of_ble_eq_true rfl⟩) (ly_pv hK hN hPc_34 0 4 rfl rfl rfl) rfl rfl hl.1 rfl (lv_room (Nat.le_of_ble_eq_true rfl)) dX6_rain_34 ⟨Nat.zero_le _, Nat.zero_le _⟩) ?_
      refine lv_icmp_gt (tgt := 82) hx hb dX6_rain_37 (by decide) (fun _ => ?_) (fun h_9 => absurd (s_all_lt hm6 hN1) h_9)
      refine lv_iload_n hx hb dX6_rain_82 rfl (lv_at hl 5 rfl) ?_
      refine lv_if_ne (tgt := 88) hx hb dX6_rain_83 (by decide) (fun _ => ?_) (fun h_9 => absurd h_9 (by decide))
      refine lv_iload_n hx hb dX6_rain_88 rfl (lv_at hl 3 rfl) ?_
      refine lv_if_ne (tgt := 95) hx hb dX6_rain_89 (by decide) (fun c_1 => ?_) (fun c_1 => ?_)
      · refine lv_iload_n hx hb dX6_rain_95 rfl (lv_at hl 5 rfl) ?_
        refine lv_iconst (v := 1) hx hb dX6_rain_96 (by decide) ?_
        refine lv_icmp_ne (tgt := 104) hx hb dX6_rain_97 (by decide) (fun _ => ?_) (fun h_9 => absurd h_9 (by decide))
        refine lv_iload hx hb dX6_rain_104 (lv_at hl 1 rfl) ?_
        exact W.iret (v := (s_rain g ho hv N1).2.2) hx hb hr (fun t_9 ht_9 _ => by rw [hQc]; exact ⟨(by unfold s_rain2; rw [if_neg c_1]), ht_9⟩) t_nil dX6_rain_106
      · refine lv_bipush (v := (-9)) hx hb dX6_rain_92 (by decide) ?_
        exact W.iret (v := (-9)) hx hb hr (fun t_9 ht_9 _ => by rw [hQc]; exact ⟨(by unfold s_rain2; rw [if_pos c_1]), ht_9⟩) t_nil dX6_rain_94
    | succ k ih_28 =>
      intro i hi_28 ls hl
      refine lv_iload hx hb dX6_rain_28 (lv_at hl 0 rfl) ?_
      refine lv_aload_n hx hb dX6_rain_30 rfl (lv_at hl 4 rfl) ?_
      refine va_get (D := D) (ci := 6) (v := .ref (a 0)) (C := RX6) (T := TX6) (N := 12) hx hb hts hiX6 hown hK hP 0 rfl rfl 3 (by decide) f27 (fun _ h9 => h9) rfl dX6_rain_31 ?_
      have hPc_34 := hP.sub (ws' := [((a 0), .inr (4, [.int (nI (g 0 0)), .ref (a 1), .ref (a 2), .ref (a 3), .int (nI (g 0 1)), .ref (a 4), .ref (a 5), .ref (a 6), .ref (a 7), .ref (a 8), .ref (a 9), .int (nI (g 0 2))])), ((a 1), .inl (cI, 9, .inl (fun j => nI ((g 1) j)))), ((a 2), .inl (cI, 9, .inl (fun j => nI ((g 2) j)))), ((a 3), .inl (cI, 9, .inl (fun j => nI ((g 3) j)))), ((a 4), .inl (cI, 6, .inl (fun j => nI ((g 4) j)))), ((a 5), .inl (cI, 6, .inl (fun j => nI ((g 5) j)))), ((a 6), .inl (cI, 6, .inl (fun j => nI ((g 6) j)))), ((a 7), .inl (cI, 5, .inl (fun j => nI ((g 7) j)))), ((a 8), .inl (cI, 5, .inl (fun j => nI ((g 8) j)))), ((a 9), .inl (cI, 5, .inl (fun j => ly_h ((g 9) j))))]) [1, 2, 3, 4, 5, 6, 7, 8, 9, 10] rfl
      refine ly_r (va_runV (As := []) (rest := [.int (nI i)]) ⟨hx, hb, hml, hown, hts⟩ (c_X4_everybody l D cI cC cZ cN a g) (cwV 0 hts gX6_rain_X4_everybody rfl rfl rfl (by decide +kernel) ⟨Nat.le_of_ble_eq_true rfl, Nat.le_of_ble_eq_true rfl⟩) (ly_pv hK hN hPc_34 0 4 rfl rfl rfl) rfl rfl hl.1 rfl (lv_room (Nat.le_of_ble_eq_true rfl)) dX6_rain_34 ⟨Nat.zero_le _, Nat.zero_le _⟩) ?_
      refine lv_icmp_gt (tgt := 82) hx hb dX6_rain_37 (by decide) (fun h_9 => absurd h_9 (s_all_nlt hm6 hN1 (by omega))) (fun _ => ?_)
      refine lv_aload_n hx hb dX6_rain_40 rfl (lv_at hl 4 rfl) ?_
      refine va_get (D := D) (ci := 6) (v := .ref (t 5)) (C := RX6) (T := TX6) (N := 12) hx hb hts hiX6 hown hK hP 0 rfl rfl 7 (by decide) f51 (fun _ h9 => h9) rfl dX6_rain_41 ?_
      refine lv_aload_n hx hb dX6_rain_44 rfl (lv_at hl 4 rfl) ?_
      refine lv_iload hx hb dX6_rain_45 (lv_at hl 0 rfl) ?_
      have hPc_47 := hP.sub (ws' := [((t 0), .inr (6, [.ref (t 1), .int (nI lt), .ref (t 2), .ref (a 0), .ref (a2 0), .ref (b 0), .ref (t 4), .ref (t 5), .ref (t 6), .ref (t 7), .ref (t 8), .long tr])), ((a 0), .inr (4, [.int (nI (g 0 0)), .ref (a 1), .ref (a 2), .ref (a 3), .int (nI (g 0 1)), .ref (a 4), .ref (a 5), .ref (a 6), .ref (a 7), .ref (a 8), .ref (a 9), .int (nI (g 0 2))])), ((a 1), .inl (cI, 9, .inl (fun j => nI ((g 1) j)))), ((a 2), .inl (cI, 9, .inl (fun j => nI ((g 2) j)))), ((a 3), .inl (cI, 9, .inl (fun j => nI ((g 3) j)))), ((a 4), .inl (cI, 6, .inl (fun j => nI ((g 4) j)))), ((a 5), .inl (cI, 6, .inl (fun j => nI ((g 5) j)))), ((a 6), .inl (cI, 6, .inl (fun j => nI ((g 6) j)))), ((a 7), .inl (cI, 5, .inl (fun j => nI ((g 7) j)))), ((a 8), .inl (cI, 5, .inl (fun j => nI ((g 8) j)))), ((a 9), .inl (cI, 5, .inl (fun j => ly_h ((g 9) j)))), ((b 0), .inr (3, [.int (nI (d 0)), .int (nI (d 1)), .int (nI (d 2)), .int (nI (d 3)), .int (nI (d 4)), .ref (b 1), .ref (b 2)])), ((b 1), .inl (cI, 9, .inl (fun j => ly_h (ho j)))), ((b 2), .inl (cI, 9, .inl (fun j => nI (le j))))]) [0, 1, 2, 3, 4, 5, 6, 7, 8, 9, 10, 11, 12, 13] rfl
      refine ly_r (va_runV (As := [.int (nI i)]) (rest := [.ref (t 5)]) ⟨hx, hb, hml, hown, hts⟩ (c_X6_farmsThatFeelRainOn l D cI cC cZ cN t a2 lt tr a g b d ho le (nI i) hn) (cwV 1 hts gX6_rain_X6_farmsThatFeelRainOn rfl rfl rfl (by decide +kernel) ⟨Nat.le_of_ble_eq_true rfl, Nat.le_of_ble_eq_true rfl⟩) (ly_pv hK hN hPc_47 0 6 rfl rfl rfl) rfl rfl hl.1 rfl (lv_room (Nat.le_of_ble_eq_true rfl)) dX6_rain_47 ⟨Nat.zero_le _, Nat.zero_le _⟩) ?_
      have hPc_50 := hP.sub (ws' := [((t 5), .inr (1, [.int (nI (hv 0)), .int (nI (hv 1)), .int (nI (hv 2)), .int (nI (hv 3)), .int (nI (hv 4)), .int (nI (hv 5))]))]) [14] rfl
      refine ly_r (va_runV (As := [.int (s_feel g ho (nI i) (g 0 0))]) (rest := []) ⟨hx, hb, hml, hown, hts⟩ (c_X1_canBeRain l D cI cC cZ cN t hv (s_feel g ho (nI i) (g 0 0))) (cwV 1 hts gX6_rain_X1_canBeRain rfl rfl rfl (by decide +kernel) ⟨Nat.le_of_ble_eq_true rfl, Nat.le_of_ble_eq_true rfl⟩) (ly_pv hK hN hPc_50 0 1 rfl rfl rfl) rfl rfl hl.1 rfl (lv_room (Nat.le_of_ble_eq_true rfl)) dX6_rain_50 ⟨Nat.zero_le _, Nat.zero_le _⟩) ?_
      refine lv_if_eq (tgt := 76) hx hb dX6_rain_53 (by decide) (fun c_2 => ?_) (fun c_2 => ?_)
      · refine lv_iinc (v := (nI (i + 1))) (lv' := [(5, .int (nI (i + 1))), (4, .int ((s_rain g ho hv i).2.2)), (3, .int ((s_rain g ho hv i).2.1)), (2, .int (nI ((s_rain g ho hv i).1))), (0, .ref (t 0)), (1, .int (nI 2))]) hx hb dX6_rain_76 hl (k := 0) rfl (ly_add rfl rfl) (by decide) rfl (fun ls hl => ?_)
        refine lv_goto (tgt := 28) hx hb dX6_rain_79 (by decide) ?_
        have e_3 : s_rain g ho hv (i + 1) = ((s_rain g ho hv i).1, (s_rain g ho hv i).2.1, (s_rain g ho hv i).2.2) := by show s_rainB g ho hv i ((s_rain g ho hv i).1) ((s_rain g ho hv i).2.1) ((s_rain g ho hv i).2.2) = _; unfold s_rainB; rw [if_pos c_2]
        exact ih_28 (i + 1) (by omega) ls (by rw [e_3]; exact lv_sub hl [0, 1, 2, 3, 4, 5] rfl)
      · refine lv_iinc (v := (nI ((s_rain g ho hv i).1 + 1))) (lv' := [(2, .int (nI ((s_rain g ho hv i).1 + 1))), (5, .int (nI i)), (4, .int ((s_rain g ho hv i).2.2)), (3, .int ((s_rain g ho hv i).2.1)), (0, .ref (t 0)), (1, .int (nI 2))]) hx hb dX6_rain_56 hl (k := 3) rfl (ly_add rfl rfl) (by decide) rfl (fun ls hl => ?_)
        refine lv_iload_n hx hb dX6_rain_59 rfl (lv_at hl 3 rfl) ?_
        refine lv_iload hx hb dX6_rain_60 (lv_at hl 1 rfl) ?_
        refine lv_iand hx hb dX6_rain_62 ?_
        refine lv_istore_n (lv' := [(3, .int ((s_rain g ho hv i).2.1 &&& (nI i))), (2, .int (nI ((s_rain g ho hv i).1 + 1))), (5, .int (nI i)), (4, .int ((s_rain g ho hv i).2.2)), (0, .ref (t 0)), (1, .int (nI 2))]) hx hb dX6_rain_63 rfl hl (by decide) rfl (fun ls hl => ?_)
        refine lv_iload hx hb dX6_rain_64 (lv_at hl 3 rfl) ?_
        refine lv_iload hx hb dX6_rain_66 (lv_at hl 2 rfl) ?_
        have hPc_68 := hP.sub (ws' := []) [] rfl
        refine ly_r (va_runS (As := [.int (nI i)]) (rest := [.int ((s_rain g ho hv i).2.2)]) ⟨hx, hb, hml, hown, hts⟩ (c_J6_bitCount_0f7a4 l D cI cC cZ cN (nI i)) (va_cwS 1 hts gX6_rain_J6_bitCount_0f7a4 rfl rfl rfl (by decide +kernel) ⟨Nat.le_of_ble_eq_true rfl, Nat.le_of_ble_eq_true rfl⟩) (ly_ps hK hN hPc_68) rfl rfl hl.1 rfl (lv_room (Nat.le_of_ble_eq_true rfl)) dX6_rain_68 ⟨Nat.zero_le _, Nat.zero_le _⟩) ?_
        refine va_mmin hx hb (by rw [hml]; exact hl.1.symm) hown (hts (.methodLink RX6 186 Lib.Math.min.name) (by decide +kernel)) (hts (.static Lib.Math.min.name) (by decide +kernel)) (hts (.initialized "java/lang/Math") (by decide +kernel)) (hts (.code Lib.Math.min.name Lib.Math.min.code 2 (some .int)) (by decide +kernel)) (Nat.le_of_ble_eq_true rfl) (Nat.le_of_ble_eq_true rfl) (Nat.zero_le _) (Nat.zero_le _) dX6_rain_71 ?_
        refine lv_istore (lv' := [(4, .int (if (jbits (nI i)) < (s_rain g ho hv i).2.2 then (jbits (nI i)) else (s_rain g ho hv i).2.2)), (3, .int ((s_rain g ho hv i).2.1 &&& (nI i))), (2, .int (nI ((s_rain g ho hv i).1 + 1))), (5, .int (nI i)), (0, .ref (t 0)), (1, .int (nI 2))]) hx hb dX6_rain_74 hl (by decide) rfl (fun ls hl => ?_)
        refine lv_iinc (v := (nI (i + 1))) (lv' := [(5, .int (nI (i + 1))), (4, .int (if (jbits (nI i)) < (s_rain g ho hv i).2.2 then (jbits (nI i)) else (s_rain g ho hv i).2.2)), (3, .int ((s_rain g ho hv i).2.1 &&& (nI i))), (2, .int (nI ((s_rain g ho hv i).1 + 1))), (0, .ref (t 0)), (1, .int (nI 2))]) hx hb dX6_rain_76 hl (k := 3) rfl (ly_add rfl rfl) (by decide) rfl (fun ls hl => ?_)
        refine lv_goto (tgt := 28) hx hb dX6_rain_79 (by decide) ?_
        have e_4 : s_rain g ho hv (i + 1) = ((s_rain g ho hv i).1 + 1, ((s_rain g ho hv i).2.1 &&& (nI i)), (if (jbits (nI i)) < (s_rain g ho hv i).2.2 then (jbits (nI i)) else (s_rain g ho hv i).2.2)) := by show s_rainB g ho hv i ((s_rain g ho hv i).1) ((s_rain g ho hv i).2.1) ((s_rain g ho hv i).2.2) = _; unfold s_rainB; rw [if_neg c_2]
        exact ih_28 (i + 1) (by omega) ls (by rw [e_4]; exact lv_sub hl [0, 1, 2, 3, 4, 5] rfl)
  exact hloop_28 N1 0 (by omega) ls (lv_sub hl [0, 1, 2, 3, 4, 5] rfl)
