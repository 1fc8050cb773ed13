theorem s_held_or (g : Nat → Nat → Nat) (ho : Nat → Nat) (q o : Nat) : ∀ k i, s_held g ho q o k i = -9 ∨ ∃ j, i ≤ j ∧ j < i + k ∧ s_held g ho q o k i = nI j
  | 0, _ => Or.inl rfl
  | k + 1, i => by
    rw [s_held_s]
    have ih := s_held_or g ho q o k (i + 1)
    have key : (s_held g ho q o k (i + 1) = -9 ∨ ∃ j, i ≤ j ∧ j < i + (k + 1) ∧ s_held g ho q o k (i + 1) = nI j) := by
      rcases ih with h | ⟨j, h1, h2, h3⟩
      · exact Or.inl h
      · exact Or.inr ⟨j, by omega, by omega, h3⟩
    split
    · split
      · exact Or.inr ⟨i, by omega, by omega, rfl⟩
      · exact key
    · exact key
theorem s_held_nat {g : Nat → Nat → Nat} {ho : Nat → Nat} {q o n : Nat} (hn : n ≤ 9) (h : ¬ s_held g ho q o n 0 = -9) : s_held g ho q o n 0 = nI (s_held g ho q o n 0).toNatClampNeg ∧ (s_held g ho q o n 0).toNatClampNeg < n := by
  rcases s_held_or g ho q o n 0 with h1 | ⟨j, h1, h2, h3⟩
  · exact absurd h1 h
  · rw [h3, nI_clamp (by omega)]
    exact ⟨rfl, by omega⟩
theorem ly_h_ne {x : Nat} (h : ¬ ly_h x = -9) : ly_h x = nI (x - 1) := by
  unfold ly_h at h ⊢
  split
  · rename_i hx; rw [if_pos hx] at h; exact absurd rfl h
  · rfl
theorem ly_h_ne0 {x : Nat} (h : ¬ ly_h x = -9) : x ≠ 0 := by
  intro hx; rw [hx] at h; exact h rfl

def s_mayLend (g : Nat → Nat → Nat) (d ho le : Nat → Nat) (k q : Nat) : Int32 := (if (s_free d ho k) = 0 then 0 else (if (nI (le k)) = 0 then 0 else (if (s_needs g q ((g 1) k)) = 0 then 0 else (if (s_held g ho q ((g 1) k) (g 0 0) 0) = (-9) then (if (s_held g ho q (1 - ((g 1) k)) (g 0 0) 0) = (-9) then 1 else (if (s_speak g k ((s_held g ho q (1 - ((g 1) k)) (g 0 0) 0).toNatClampNeg)) = 0 then 0 else 1)) else 0))))
set_option maxHeartbeats 4000000 in
set_option maxRecDepth 100000 in
theorem c_X6_mayBeLent (l : Launch) (D : va_G) (cI cC cZ cN : ClassId) (t a2 : Nat → Nat) (lt : Nat) (tr : Int64) (a : Nat → Nat) (g : Nat → Nat → Nat) (b : Nat → Nat) (d ho le : Nat → Nat) (k q : Nat) (h1 : k < 9) (h2 : q < 6) (hn : g 0 0 ≤ 9) (hf : ∀ j, j < 9 → g 2 j < 5) (hs : ∀ j, j < 9 → g 1 j ≤ 1) : Met l yX6_mayBeLent wsX6_mayBeLent (ly_rm 3) (ly_Pre D (ly_tys cI cC cZ cN) [((t 0), .inr (6, [.ref (t 1), .int (nI lt), .ref (t 2), .ref (a 0), .ref (a2 0), .ref (b 0), .ref (t 4), .ref (t 5), .ref (t 6), .ref (t 7), .ref (t 8), .long tr])), ((a 0), .inr (4, [.int (nI (g 0 0)), .ref (a 1), .ref (a 2), .ref (a 3), .int (nI (g 0 1)), .ref (a 4), .ref (a 5), .ref (a 6), .ref (a 7), .ref (a 8), .ref (a 9), .int (nI (g 0 2))])), ((a 1), .inl (cI, 9, .inl (fun j => nI ((g 1) j)))), ((a 2), .inl (cI, 9, .inl (fun j => nI ((g 2) j)))), ((a 3), .inl (cI, 9, .inl (fun j => nI ((g 3) j)))), ((a 4), .inl (cI, 6, .inl (fun j => nI ((g 4) j)))), ((a 5), .inl (cI, 6, .inl (fun j => nI ((g 5) j)))), ((a 6), .inl (cI, 6, .inl (fun j => nI ((g 6) j)))), ((a 7), .inl (cI, 5, .inl (fun j => nI ((g 7) j)))), ((a 8), .inl (cI, 5, .inl (fun j => nI ((g 8) j)))), ((a 9), .inl (cI, 5, .inl (fun j => ly_h ((g 9) j)))), ((b 0), .inr (3, [.int (nI (d 0)), .int (nI (d 1)), .int (nI (d 2)), .int (nI (d 3)), .int (nI (d 4)), .ref (b 1), .ref (b 2)])), ((b 1), .inl (cI, 9, .inl (fun j => ly_h (ho j)))), ((b 2), .inl (cI, 9, .inl (fun j => nI (le j))))] [.ref (t 0), .int (nI k), .int (nI q)]) (QcRead (s_mayLend g d ho le k q)) 0 0 (fun _ => False) := by
  refine Met.ofW (cc := cX6_mayBeLent) (maxL := 5) (ret := (some .boolean)) (by decide) rfl ?_
  intro p e s m args below meth c s₁ B hml hv
  obtain ⟨rfl, hP, hK, hN⟩ := hv
  have hx := B.exec
  have hb := B.bytes
  have hr := B.returns
  have hts := atoms_spec (ws := wsX6_mayBeLent) B.pre
  have hown : s.vm.findClass RX6 = some m.cls := findClass_of_methodNamed B.named
  have hlocks := B.notSynchronized
  have hl := lv_entry ([.ref (t 0), .int (nI k), .int (nI q)]) (n := 5) (Nat.le_of_ble_eq_true rfl)
  rw [lg_entry_eq]
  generalize (lg_sl ([.ref (t 0), .int (nI k), .int (nI q)]) ++ List.replicate (5 - (lg_sl ([.ref (t 0), .int (nI k), .int (nI q)])).length) Slot.unset).toArray = ls at hl ⊢
  have hl : lv_has ls 5 [(0, .ref (t 0)), (1, .int (nI k)), (2, .int (nI q))] := hl
  generalize ([.ref (t 0), .int (nI k), .int (nI q)] : List Value).toArray = av at hts ⊢
  obtain ⟨Qc, hQc⟩ : ∃ Qc, Qc = (QcRead (s_mayLend g d ho le k q)) := ⟨_, rfl⟩
  rw [← hQc]
  have f27 := hts (.fieldLink RX6 27 "KneesLent" "parish" "LKneesLent$Parish;") (by decide +kernel)
  have f105 := hts (.fieldLink RX6 105 "KneesLent$Parish" "side" "[I") (by decide +kernel)
  have f37 := hts (.fieldLink RX6 37 "KneesLent" "now" "LKneesLent$Now;") (by decide +kernel)
  have f112 := hts (.fieldLink RX6 112 "KneesLent$Now" "left" "[I") (by decide +kernel)
  have hiX6 : ∀ w ∈ u_ws RX6 TX6 12, w ∈ wsX6_mayBeLent := by decide +kernel
  have hiX4 : ∀ w ∈ u_ws RX4 TX4 12, w ∈ wsX6_mayBeLent := by decide +kernel
  have hiX3 : ∀ w ∈ u_ws RX3 TX3 7, w ∈ wsX6_mayBeLent := by decide +kernel
  refine lv_aload_n hx hb dX6_mayBeLent_0 rfl (lv_at hl 0 rfl) ?_
  refine va_get (D := D) (ci := 6) (v := .ref (a 0)) (C := RX6) (T := TX6) (N := 12) hx hb hts hiX6 hown hK hP 0 rfl rfl 3 (by decide) f27 (fun _ h9 => h9) rfl dX6_mayBeLent_1 ?_
  refine va_get (D := D) (ci := 4) (v := .ref (a 1)) (C := RX4) (T := TX4) (N := 12) hx hb hts hiX4 hown hK hP 1 rfl rfl 1 (by decide) f105 (fun _ h9 => h9) rfl dX6_mayBeLent_4 ?_
  refine lv_iload_n hx hb dX6_mayBeLent_7 rfl (lv_at hl 1 rfl) ?_
  refine ly_iald hx hb hK hP 2 0 rfl rfl (k := k) (by decide) rfl (by first | omega | exact hf _ (by omega) | exact hs _ (by omega)) dX6_mayBeLent_8 ?_
  refine lv_istore_n (lv' := [(3, .int (nI ((g 1) k))), (0, .ref (t 0)), (1, .int (nI k)), (2, .int (nI q))]) hx hb dX6_mayBeLent_9 rfl hl (by decide) rfl (fun ls hl => ?_)
  refine lv_aload_n hx hb dX6_mayBeLent_10 rfl (lv_at hl 1 rfl) ?_
  refine va_get (D := D) (ci := 6) (v := .ref (b 0)) (C := RX6) (T := TX6) (N := 12) hx hb hts hiX6 hown hK hP 0 rfl rfl 5 (by decide) f37 (fun _ h9 => h9) rfl dX6_mayBeLent_11 ?_
  refine lv_iload_n hx hb dX6_mayBeLent_14 rfl (lv_at hl 2 rfl) ?_
  have hPc_15 := hP.sub (ws' := [((b 0), .inr (3, [.int (nI (d 0)), .int (nI (d 1)), .int (nI (d 2)), .int (nI (d 3)), .int (nI (d 4)), .ref (b 1), .ref (b 2)])), ((b 1), .inl (cI, 9, .inl (fun j => ly_h (ho j)))), ((b 2), .inl (cI, 9, .inl (fun j => nI (le j))))]) [11, 12, 13] rfl
  refine ly_r (va_runV (As := [.int (nI k)]) (rest := []) ⟨hx, hb, hml, hown, hts⟩ (c_X3_isFree l D cI cC cZ cN b d ho le k (by first | omega | exact hf _ (by omega) | exact hs _ (by omega))) (cwV 1 hts gX6_mayBeLent_X3_isFree rfl rfl rfl (by decide +kernel) ⟨Nat.le_of_ble_eq_true rfl, Nat.le_of_ble_eq_true rfl⟩) (ly_pv hK hN hPc_15 0 3 rfl rfl rfl) rfl rfl hl.1 rfl (lv_room (Nat.le_of_ble_eq_true rfl)) dX6_mayBeLent_15 ⟨Nat.zero_le _, Nat.zero_le _⟩) ?_
  refine lv_if_eq (tgt := 45) hx hb dX6_mayBeLent_18 (by decide) (fun c_1 => ?_) (fun c_1 => ?_)
  · refine lv_iconst (v := 0) hx hb dX6_mayBeLent_45 (by decide) ?_
    exact W.zret (v := 0) hx hb hr rfl (fun t_9 ht_9 _ => by rw [hQc]; exact ⟨(by unfold s_mayLend; rw [if_pos c_1]), ht_9⟩) t_nil dX6_mayBeLent_46
  · refine lv_aload_n hx hb dX6_mayBeLent_21 rfl (lv_at hl 1 rfl) ?_
    refine va_get (D := D) (ci := 6) (v := .ref (b 0)) (C := RX6) (T := TX6) (N := 12) hx hb hts hiX6 hown hK hP 0 rfl rfl 5 (by decide) f37 (fun _ h9 => h9) rfl dX6_mayBeLent_22 ?_
    refine va_get (D := D) (ci := 3) (v := .ref (b 2)) (C := RX3) (T := TX3) (N := 7) hx hb hts hiX3 hown hK hP 11 rfl rfl 6 (by decide) f112 (fun _ h9 => h9) rfl dX6_mayBeLent_25 ?_
    refine lv_iload_n hx hb dX6_mayBeLent_28 rfl (lv_at hl 2 rfl) ?_
    refine ly_iald hx hb hK hP 13 0 rfl rfl (k := k) (by decide) rfl (by first | omega | exact hf _ (by omega) | exact hs _ (by omega)) dX6_mayBeLent_29 ?_
    refine lv_if_eq (tgt := 45) hx hb dX6_mayBeLent_30 (by decide) (fun c_2 => ?_) (fun c_2 => ?_)
    · refine lv_iconst (v := 0) hx hb dX6_mayBeLent_45 (by decide) ?_
      exact W.zret (v := 0) hx hb hr rfl (fun t_9 ht_9 _ => by rw [hQc]; exact ⟨(by unfold s_mayLend; rw [if_neg c_1, if_pos c_2]), ht_9⟩) t_nil dX6_mayBeLent_46
    · refine lv_aload_n hx hb dX6_mayBeLent_33 rfl (lv_at hl 1 rfl) ?_
      refine va_get (D := D) (ci := 6) (v := .ref (a 0)) (C := RX6) (T := TX6) (N := 12) hx hb hts hiX6 hown hK hP 0 rfl rfl 3 (by decide) f27 (fun _ h9 => h9) rfl dX6_mayBeLent_34 ?_
      refine lv_iload_n hx hb dX6_mayBeLent_37 rfl (lv_at hl 3 rfl) ?_
      refine lv_iload_n hx hb dX6_mayBeLent_38 rfl (lv_at hl 0 rfl) ?_
      have hPc_39 := hP.sub (ws' := [((a 0), .inr (4, [.int (nI (g 0 0)), .ref (a 1), .ref (a 2), .ref (a 3), .int (nI (g 0 1)), .ref (a 4), .ref (a 5), .ref (a 6), .ref (a 7), .ref (a 8), .ref (a 9), .int (nI (g 0 2))])), ((a 1), .inl (cI, 9, .inl (fun j => nI ((g 1) j)))), ((a 2), .inl (cI, 9, .inl (fun j => nI ((g 2) j)))), ((a 3), .inl (cI, 9, .inl (fun j => nI ((g 3) j)))), ((a 4), .inl (cI, 6, .inl (fun j => nI ((g 4) j)))), ((a 5), .inl (cI, 6, .inl (fun j => nI ((g 5) j)))), ((a 6), .inl (cI, 6, .inl (fun j => nI ((g 6) j)))), ((a 7), .inl (cI, 5, .inl (fun j => nI ((g 7) j)))), ((a 8), .inl (cI, 5, .inl (fun j => nI ((g 8) j)))), ((a 9), .inl (cI, 5, .inl (fun j => ly_h ((g 9) j))))]) [1, 2, 3, 4, 5, 6, 7, 8, 9, 10] rfl
      refine ly_r (va_runV (As := [.int (nI q), .int (nI ((g 1) k))]) (rest := []) ⟨hx, hb, hml, hown, hts⟩ (c_X4_needsSide l D cI cC cZ cN a g q ((g 1) k) (by first | omega | exact hf _ (by omega) | exact hs _ (by omega))) (cwV 2 hts gX6_mayBeLent_X4_needsSide rfl rfl rfl (by decide +kernel) ⟨Nat.le_of_ble_eq_true rfl, Nat.le_of_ble_eq_true rfl⟩) (ly_pv hK hN hPc_39 0 4 rfl rfl rfl) rfl rfl hl.1 rfl (lv_room (Nat.le_of_ble_eq_true rfl)) dX6_mayBeLent_39 ⟨Nat.zero_le _, Nat.zero_le _⟩) ?_
      refine lv_if_ne (tgt := 47) hx hb dX6_mayBeLent_42 (by decide) (fun c_3 => ?_) (fun c_3 => ?_)
      · refine lv_aload_n hx hb dX6_mayBeLent_47 rfl (lv_at hl 1 rfl) ?_
        refine lv_iload_n hx hb dX6_mayBeLent_48 rfl (lv_at hl 3 rfl) ?_
        refine lv_iconst (v := 1) hx hb dX6_mayBeLent_49 (by decide) ?_
        refine lv_iload_n hx hb dX6_mayBeLent_50 rfl (lv_at hl 0 rfl) ?_
        refine lv_isub hx hb dX6_mayBeLent_51 ?_
        refine ly_eqi (show (1 - (nI ((g 1) k))) = (nI (1 - ((g 1) k))) from ly_sub rfl rfl (by first | omega | exact hf _ (by omega) | exact hs _ (by omega))) ?_
        have hPc_52 := hP.sub (ws' := [((t 0), .inr (6, [.ref (t 1), .int (nI lt), .ref (t 2), .ref (a 0), .ref (a2 0), .ref (b 0), .ref (t 4), .ref (t 5), .ref (t 6), .ref (t 7), .ref (t 8), .long tr])), ((a 0), .inr (4, [.int (nI (g 0 0)), .ref (a 1), .ref (a 2), .ref (a 3), .int (nI (g 0 1)), .ref (a 4), .ref (a 5), .ref (a 6), .ref (a 7), .ref (a 8), .ref (a 9), .int (nI (g 0 2))])), ((a 1), .inl (cI, 9, .inl (fun j => nI ((g 1) j)))), ((a 2), .inl (cI, 9, .inl (fun j => nI ((g 2) j)))), ((a 3), .inl (cI, 9, .inl (fun j => nI ((g 3) j)))), ((a 4), .inl (cI, 6, .inl (fun j => nI ((g 4) j)))), ((a 5), .inl (cI, 6, .inl (fun j => nI ((g 5) j)))), ((a 6), .inl (cI, 6, .inl (fun j => nI ((g 6) j)))), ((a 7), .inl (cI, 5, .inl (fun j => nI ((g 7) j)))), ((a 8), .inl (cI, 5, .inl (fun j => nI ((g 8) j)))), ((a 9), .inl (cI, 5, .inl (fun j => ly_h ((g 9) j)))), ((b 0), .inr (3, [.int (nI (d 0)), .int (nI (d 1)), .int (nI (d 2)), .int (nI (d 3)), .int (nI (d 4)), .ref (b 1), .ref (b 2)])), ((b 1), .inl (cI, 9, .inl (fun j => ly_h (ho j)))), ((b 2), .inl (cI, 9, .inl (fun j => nI (le j))))]) [0, 1, 2, 3, 4, 5, 6, 7, 8, 9, 10, 11, 12, 13] rfl
        refine ly_r (va_runV (As := [.int (nI q), .int (nI (1 - ((g 1) k)))]) (rest := []) ⟨hx, hb, hml, hown, hts⟩ (c_X6_kneeHeld l D cI cC cZ cN t a2 lt tr a g b d ho le q (1 - ((g 1) k)) hn) (cwV 2 hts gX6_mayBeLent_X6_kneeHeld rfl rfl rfl (by decide +kernel) ⟨Nat.le_of_ble_eq_true rfl, Nat.le_of_ble_eq_true rfl⟩) (ly_pv hK hN hPc_52 0 6 rfl rfl rfl) rfl rfl hl.1 rfl (lv_room (Nat.le_of_ble_eq_true rfl)) dX6_mayBeLent_52 ⟨Nat.zero_le _, Nat.zero_le _⟩) ?_
        refine lv_istore (lv' := [(4, .int (s_held g ho q (1 - ((g 1) k)) (g 0 0) 0)), (3, .int (nI ((g 1) k))), (0, .ref (t 0)), (1, .int (nI k)), (2, .int (nI q))]) hx hb dX6_mayBeLent_55 hl (by decide) rfl (fun ls hl => ?_)
        refine lv_aload_n hx hb dX6_mayBeLent_57 rfl (lv_at hl 2 rfl) ?_
        refine lv_iload_n hx hb dX6_mayBeLent_58 rfl (lv_at hl 4 rfl) ?_
        refine lv_iload_n hx hb dX6_mayBeLent_59 rfl (lv_at hl 1 rfl) ?_
        have hPc_60 := hP.sub (ws' := [((t 0), .inr (6, [.ref (t 1), .int (nI lt), .ref (t 2), .ref (a 0), .ref (a2 0), .ref (b 0), .ref (t 4), .ref (t 5), .ref (t 6), .ref (t 7), .ref (t 8), .long tr])), ((a 0), .inr (4, [.int (nI (g 0 0)), .ref (a 1), .ref (a 2), .ref (a 3), .int (nI (g 0 1)), .ref (a 4), .ref (a 5), .ref (a 6), .ref (a 7), .ref (a 8), .ref (a 9), .int (nI (g 0 2))])), ((a 1), .inl (cI, 9, .inl (fun j => nI ((g 1) j)))), ((a 2), .inl (cI, 9, .inl (fun j => nI ((g 2) j)))), ((a 3), .inl (cI, 9, .inl (fun j => nI ((g 3) j)))), ((a 4), .inl (cI, 6, .inl (fun j => nI ((g 4) j)))), ((a 5), .inl (cI, 6, .inl (fun j => nI ((g 5) j)))), ((a 6), .inl (cI, 6, .inl (fun j => nI ((g 6) j)))), ((a 7), .inl (cI, 5, .inl (fun j => nI ((g 7) j)))), ((a 8), .inl (cI, 5, .inl (fun j => nI ((g 8) j)))), ((a 9), .inl (cI, 5, .inl (fun j => ly_h ((g 9) j)))), ((b 0), .inr (3, [.int (nI (d 0)), .int (nI (d 1)), .int (nI (d 2)), .int (nI (d 3)), .int (nI (d 4)), .ref (b 1), .ref (b 2)])), ((b 1), .inl (cI, 9, .inl (fun j => ly_h (ho j)))), ((b 2), .inl (cI, 9, .inl (fun j => nI (le j))))]) [0, 1, 2, 3, 4, 5, 6, 7, 8, 9, 10, 11, 12, 13] rfl
        refine ly_r (va_runV (As := [.int (nI q), .int (nI ((g 1) k))]) (rest := []) ⟨hx, hb, hml, hown, hts⟩ (c_X6_kneeHeld l D cI cC cZ cN t a2 lt tr a g b d ho le q ((g 1) k) hn) (cwV 2 hts gX6_mayBeLent_X6_kneeHeld rfl rfl rfl (by decide +kernel) ⟨Nat.le_of_ble_eq_true rfl, Nat.le_of_ble_eq_true rfl⟩) (ly_pv hK hN hPc_60 0 6 rfl rfl rfl) rfl rfl hl.1 rfl (lv_room (Nat.le_of_ble_eq_true rfl)) dX6_mayBeLent_60 ⟨Nat.zero_le _, Nat.zero_le _⟩) ?_
        refine lv_bipush (v := (-9)) hx hb dX6_mayBeLent_63 (by decide) ?_
        refine lv_icmp_ne (tgt := 92) hx hb dX6_mayBeLent_65 (by decide) (fun c_4 => ?_) (fun c_4 => ?_)
        · refine lv_iconst (v := 0) hx hb dX6_mayBeLent_92 (by decide) ?_
          exact W.zret (v := 0) hx hb hr rfl (fun t_9 ht_9 _ => by rw [hQc]; exact ⟨(by unfold s_mayLend; rw [if_neg c_1, if_neg c_2, if_neg c_3, if_neg c_4]), ht_9⟩) t_nil dX6_mayBeLent_93
        · refine lv_iload hx hb dX6_mayBeLent_68 (lv_at hl 0 rfl) ?_
          refine lv_bipush (v := (-9)) hx hb dX6_mayBeLent_70 (by decide) ?_
          refine lv_icmp_eq (tgt := 88) hx hb dX6_mayBeLent_72 (by decide) (fun c_5 => ?_) (fun c_5 => ?_)
          · refine lv_iconst (v := 1) hx hb dX6_mayBeLent_88 (by decide) ?_
            refine lv_goto (tgt := 93) hx hb dX6_mayBeLent_89 (by decide) ?_
            exact W.zret (v := 1) hx hb hr rfl (fun t_9 ht_9 _ => by rw [hQc]; exact ⟨(by unfold s_mayLend; rw [if_neg c_1, if_neg c_2, if_neg c_3, if_pos c_4, if_pos c_5]), ht_9⟩) t_nil dX6_mayBeLent_93
          · have hj := (s_held_nat hn c_5).2
            refine lv_aload_n hx hb dX6_mayBeLent_75 rfl (lv_at hl 2 rfl) ?_
            refine va_get (D := D) (ci := 6) (v := .ref (a 0)) (C := RX6) (T := TX6) (N := 12) hx hb hts hiX6 hown hK hP 0 rfl rfl 3 (by decide) f27 (fun _ h9 => h9) rfl dX6_mayBeLent_76 ?_
            refine lv_iload_n hx hb dX6_mayBeLent_79 rfl (lv_at hl 3 rfl) ?_
            refine lv_iload hx hb dX6_mayBeLent_80 (lv_at hl 0 rfl) ?_
            refine ly_eqi (show (s_held g ho q (1 - ((g 1) k)) (g 0 0) 0) = (nI ((s_held g ho q (1 - ((g 1) k)) (g 0 0) 0).toNatClampNeg)) from (s_held_nat hn c_5).1) ?_
            have hPc_82 := hP.sub (ws' := [((a 0), .inr (4, [.int (nI (g 0 0)), .ref (a 1), .ref (a 2), .ref (a 3), .int (nI (g 0 1)), .ref (a 4), .ref (a 5), .ref (a 6), .ref (a 7), .ref (a 8), .ref (a 9), .int (nI (g 0 2))])), ((a 1), .inl (cI, 9, .inl (fun j => nI ((g 1) j)))), ((a 2), .inl (cI, 9, .inl (fun j => nI ((g 2) j)))), ((a 3), .inl (cI, 9, .inl (fun j => nI ((g 3) j)))), ((a 4), .inl (cI, 6, .inl (fun j => nI ((g 4) j)))), ((a 5), .inl (cI, 6, .inl (fun j => nI ((g 5) j)))), ((a 6), .inl (cI, 6, .inl (fun j => nI ((g 6) j)))), ((a 7), .inl (cI, 5, .inl (fun j => nI ((g 7) j)))), ((a 8), .inl (cI, 5, .inl (fun j => nI ((g 8) j)))), ((a 9), .inl (cI, 5, .inl (fun j => ly_h ((g 9) j))))]) [1, 2, 3, 4, 5, 6, 7, 8, 9, 10] rfl
            refine ly_r (va_runV (As := [.int (nI k), .int (nI ((s_held g ho q (1 - ((g 1) k)) (g 0 0) 0).toNatClampNeg))]) (rest := []) ⟨hx, hb, hml, hown, hts⟩ (c_X4_speak l D cI cC cZ cN a g k ((s_held g ho q (1 - ((g 1) k)) (g 0 0) 0).toNatClampNeg) (by first | omega | exact hf _ (by omega) | exact hs _ (by omega)) (by first | omega | exact hf _ (by omega) | exact hs _ (by omega)) hf) (cwV 2 hts gX6_mayBeLent_X4_speak rfl rfl rfl (by decide +kernel) ⟨Nat.le_of_ble_eq_true rfl, Nat.le_of_ble_eq_true rfl⟩) (ly_pv hK hN hPc_82 0 4 rfl rfl rfl) rfl rfl hl.1 rfl (lv_room (Nat.le_of_ble_eq_true rfl)) dX6_mayBeLent_82 ⟨Nat.zero_le _, Nat.zero_le _⟩) ?_
            refine lv_if_eq (tgt := 92) hx hb dX6_mayBeLent_85 (by decide) (fun c_6 => ?_) (fun c_6 => ?_)
            · refine lv_iconst (v := 0) hx hb dX6_mayBeLent_92 (by decide) ?_
              exact W.zret (v := 0) hx hb hr rfl (fun t_9 ht_9 _ => by rw [hQc]; exact ⟨(by unfold s_mayLend; rw [if_neg c_1, if_neg c_2, if_neg c_3, if_pos c_4, if_neg c_5, if_pos c_6]), ht_9⟩) t_nil dX6_mayBeLent_93
            · refine lv_iconst (v := 1) hx hb dX6_mayBeLent_88 (by decide) ?_
              refine lv_goto (tgt := 93) hx hb dX6_mayBeLent_89 (by decide) ?_
              exact W.zret (v := 1) hx hb hr rfl (fun t_9 ht_9 _ => by rw [hQc]; exact ⟨(by unfold s_mayLend; rw [if_neg c_1, if_neg c_2, if_neg c_3, if_pos c_4, if_neg c_5, if_neg c_6]), ht_9⟩) t_nil dX6_mayBeLent_93
      · refine lv_iconst (v := 0) hx hb dX6_mayBeLent_45 (by decide) ?_
        exact W.zret (v := 0) hx hb hr rfl (fun t_9 ht_9 _ => by rw [hQc]; exact ⟨(by unfold s_mayLend; rw [if_neg c_1, if_neg c_2, if_pos c_3]), ht_9⟩) t_nil dX6_mayBeLent_46

def s_homeB (ho : Nat → Nat) (i : Nat) (v0 : Int32) : Int32 := (if (ly_h (ho i)) = (-9) then (v0 ||| (1 <<< ((nI i) &&& 31))) else v0)
def s_home (ho : Nat → Nat) : Nat → Int32
  | 0 => 0
  | i + 1 => s_homeB ho i (s_home ho i)
set_option maxHeartbeats 4000000 in
set_option maxRecDepth 100000 in
theorem c_X6_kneesAtHome (l : Launch) (D : va_G) (cI cC cZ cN : ClassId) (t a2 : Nat → Nat) (lt : Nat) (tr : Int64) (a : Nat → Nat) (g : Nat → Nat → Nat) (b : Nat → Nat) (d ho le : Nat → Nat) (hn : g 0 0 ≤ 9) : Met l yX6_kneesAtHome wsX6_kneesAtHome (ly_rm 1) (ly_Pre D (ly_tys cI cC cZ cN) [((t 0), .inr (6, [.ref (t 1), .int (nI lt), .ref (t 2), .ref (a 0), .ref (a2 0), .ref (b 0), .ref (t 4), .ref (t 5), .ref (t 6), .ref (t 7), .ref (t 8), .long tr])), ((a 0), .inr (4, [.int (nI (g 0 0)), .ref (a 1), .ref (a 2), .ref (a 3), .int (nI (g 0 1)), .ref (a 4), .ref (a 5), .ref (a 6), .ref (a 7), .ref (a 8), .ref (a 9), .int (nI (g 0 2))])), ((a 1), .inl (cI, 9, .inl (fun j => nI ((g 1) j)))), ((a 2), .inl (cI, 9, .inl (fun j => nI ((g 2) j)))), ((a 3), .inl (cI, 9, .inl (fun j => nI ((g 3) j)))), ((a 4), .inl (cI, 6, .inl (fun j => nI ((g 4) j)))), ((a 5), .inl (cI, 6, .inl (fun j => nI ((g 5) j)))), ((a 6), .inl (cI, 6, .inl (fun j => nI ((g 6) j)))), ((a 7), .inl (cI, 5, .inl (fun j => nI ((g 7) j)))), ((a 8), .inl (cI, 5, .inl (fun j => nI ((g 8) j)))), ((a 9), .inl (cI, 5, .inl (fun j => ly_h ((g 9) j)))), ((b 0), .inr (3, [.int (nI (d 0)), .int (nI (d 1)), .int (nI (d 2)), .int (nI (d 3)), .int (nI (d 4)), .ref (b 1), .ref (b 2)])), ((b 1), .inl (cI, 9, .inl (fun j => ly_h (ho j)))), ((b 2), .inl (cI, 9, .inl (fun j => nI (le j))))] [.ref (t 0)]) (QcRead (s_home ho (g 0 0))) 0 0 (fun _ => False) := by
  refine Met.ofW (cc := cX6_kneesAtHome) (maxL := 3) (ret := (some .int)) (by decide) rfl ?_
  intro p e s m args below meth c s₁ B hml hv
  obtain ⟨rfl, hP, hK, hN⟩ := hv
  have hx := B.exec
  have hb := B.bytes
  have hr := B.returns
  have hts := atoms_spec (ws := wsX6_kneesAtHome) B.pre
  have hown : s.vm.findClass RX6 = some m.cls := findClass_of_methodNamed B.named
  have hlocks := B.notSynchronized
  have hl := lv_entry ([.ref (t 0)]) (n := 3) (Nat.le_of_ble_eq_true rfl)
  rw [lg_entry_eq]
  generalize (lg_sl ([.ref (t 0)]) ++ List.replicate (3 - (lg_sl ([.ref (t 0)])).length) Slot.unset).toArray = ls at hl ⊢
  have hl : lv_has ls 3 [(0, .ref (t 0))] := hl
  generalize ([.ref (t 0)] : List Value).toArray = av at hts ⊢
  obtain ⟨Qc, hQc⟩ : ∃ Qc, Qc = (QcRead (s_home ho (g 0 0))) := ⟨_, rfl⟩
  rw [← hQc]
  have f27 := hts (.fieldLink RX6 27 "KneesLent" "parish" "LKneesLent$Parish;") (by decide +kernel)
  have f191 := hts (.fieldLink RX6 191 "KneesLent$Parish" "knees" "I") (by decide +kernel)
  have f37 := hts (.fieldLink RX6 37 "KneesLent" "now" "LKneesLent$Now;") (by decide +kernel)
  have f115 := hts (.fieldLink RX6 115 "KneesLent$Now" "holder" "[I") (by decide +kernel)
  have hiX6 : ∀ w ∈ u_ws RX6 TX6 12, w ∈ wsX6_kneesAtHome := by decide +kernel
  have hiX4 : ∀ w ∈ u_ws RX4 TX4 12, w ∈ wsX6_kneesAtHome := by decide +kernel
  have hiX3 : ∀ w ∈ u_ws RX3 TX3 7, w ∈ wsX6_kneesAtHome := by decide +kernel
  refine lv_iconst (v := 0) hx hb dX6_kneesAtHome_0 (by decide) ?_
  refine lv_istore_n (lv' := [(1, .int 0), (0, .ref (t 0))]) hx hb dX6_kneesAtHome_1 rfl hl (by decide) rfl (fun ls hl => ?_)
  refine lv_iconst (v := 0) hx hb dX6_kneesAtHome_2 (by decide) ?_
  refine lv_istore_n (lv' := [(2, .int 0), (1, .int 0), (0, .ref (t 0))]) hx hb dX6_kneesAtHome_3 rfl hl (by decide) rfl (fun ls hl => ?_)
  have hloop_4 : ∀ (k i : Nat), i + k = g 0 0 → ∀ ls : Array Slot, lv_has ls 3 [(2, .int (nI i)), (1, .int (s_home ho i)), (0, .ref (t 0))] → W p l e (headSpec wsX6_kneesAtHome (ly_rm 1)).room s m av below meth c s.heap [] 0 0 (MQ below Qc av s 0 0 (fun _ => False)) (F0 m 4 ls []) := by
    intro k
    induction k with
    | zero =>
      intro i hi_4 ls hl
      obtain rfl : g 0 0 = i := by omega
      refine lv_iload_n hx hb dX6_kneesAtHome_4 rfl (lv_at hl 0 rfl) ?_
      refine lv_aload_n hx hb dX6_kneesAtHome_5 rfl (lv_at hl 2 rfl) ?_
      refine va_get (D := D) (ci := 6) (v := .ref (a 0)) (C := RX6) (T := TX6) (N := 12) hx hb hts hiX6 hown hK hP 0 rfl rfl 3 (by decide) f27 (fun _ h9 => h9) rfl dX6_kneesAtHome_6 ?_
      refine va_get (D := D) (ci := 4) (v := .int (nI (g 0 0))) (C := RX4) (T := TX4) (N := 12) hx hb hts hiX4 hown hK hP 1 rfl rfl 0 (by decide) f191 (fun _ h9 => h9) rfl dX6_kneesAtHome_9 ?_
      refine lv_icmp_ge (tgt := 41) hx hb dX6_kneesAtHome_12 (by decide) (fun _ => ?_) (fun h_9 => absurd (nI_le (Nat.le_refl _) (by omega)) h_9)
      refine lv_iload_n hx hb dX6_kneesAtHome_41 rfl (lv_at hl 1 rfl) ?_
      exact W.iret (v := (s_home ho (g 0 0))) hx hb hr (fun t_9 ht_9 _ => by rw [hQc]; exact ⟨rfl, ht_9⟩) t_nil dX6_kneesAtHome_42
    | succ k ih_4 =>
      intro i hi_4 ls hl
      refine lv_iload_n hx hb dX6_kneesAtHome_4 rfl (lv_at hl 0 rfl) ?_
      refine lv_aload_n hx hb dX6_kneesAtHome_5 rfl (lv_at hl 2 rfl) ?_
      refine va_get (D := D) (ci := 6) (v := .ref (a 0)) (C := RX6) (T := TX6) (N := 12) hx hb hts hiX6 hown hK hP 0 rfl rfl 3 (by decide) f27 (fun _ h9 => h9) rfl dX6_kneesAtHome_6 ?_
      refine va_get (D := D) (ci := 4) (v := .int (nI (g 0 0))) (C := RX4) (T := TX4) (N := 12) hx hb hts hiX4 hown hK hP 1 rfl rfl 0 (by decide) f191 (fun _ h9 => h9) rfl dX6_kneesAtHome_9 ?_
      refine lv_icmp_ge (tgt := 41) hx hb dX6_kneesAtHome_12 (by decide) (fun h_9 => absurd h_9 (nI_ge (by omega) (by omega))) (fun _ => ?_)
      refine lv_aload_n hx hb dX6_kneesAtHome_15 rfl (lv_at hl 2 rfl) ?_
      refine va_get (D := D) (ci := 6) (v := .ref (b 0)) (C := RX6) (T := TX6) (N := 12) hx hb hts hiX6 hown hK hP 0 rfl rfl 5 (by decide) f37 (fun _ h9 => h9) rfl dX6_kneesAtHome_16 ?_
      refine va_get (D := D) (ci := 3) (v := .ref (b 1)) (C := RX3) (T := TX3) (N := 7) hx hb hts hiX3 hown hK hP 11 rfl rfl 5 (by decide) f115 (fun _ h9 => h9) rfl dX6_kneesAtHome_19 ?_
      refine lv_iload_n hx hb dX6_kneesAtHome_22 rfl (lv_at hl 0 rfl) ?_
      refine ly_iald hx hb hK hP 12 0 rfl rfl (k := i) (by decide) rfl (by omega) dX6_kneesAtHome_23 ?_
      refine lv_bipush (v := (-9)) hx hb dX6_kneesAtHome_24 (by decide) ?_
      refine lv_icmp_ne (tgt := 35) hx hb dX6_kneesAtHome_26 (by decide) (fun c_1 => ?_) (fun c_1 => ?_)
      · refine lv_iinc (v := (nI (i + 1))) (lv' := [(2, .int (nI (i + 1))), (1, .int (s_home ho i)), (0, .ref (t 0))]) hx hb dX6_kneesAtHome_35 hl (k := 0) rfl (ly_add rfl rfl) (by decide) rfl (fun ls hl => ?_)
        refine lv_goto (tgt := 4) hx hb dX6_kneesAtHome_38 (by decide) ?_
        have e_2 : s_home ho (i + 1) = (s_home ho i) := by show s_homeB ho i (s_home ho i) = _; unfold s_homeB; rw [if_neg c_1]
        exact ih_4 (i + 1) (by omega) ls (by rw [e_2]; exact lv_sub hl [0, 1, 2] rfl)
      · refine lv_iload_n hx hb dX6_kneesAtHome_29 rfl (lv_at hl 1 rfl) ?_
        refine lv_iconst (v := 1) hx hb dX6_kneesAtHome_30 (by decide) ?_
        refine lv_iload_n hx hb dX6_kneesAtHome_31 rfl (lv_at hl 0 rfl) ?_
        refine lv_ishl hx hb dX6_kneesAtHome_32 ?_
        refine lv_ior hx hb dX6_kneesAtHome_33 ?_
        refine lv_istore_n (lv' := [(1, .int ((s_home ho i) ||| (1 <<< ((nI i) &&& 31)))), (2, .int (nI i)), (0, .ref (t 0))]) hx hb dX6_kneesAtHome_34 rfl hl (by decide) rfl (fun ls hl => ?_)
        refine lv_iinc (v := (nI (i + 1))) (lv' := [(2, .int (nI (i + 1))), (1, .int ((s_home ho i) ||| (1 <<< ((nI i) &&& 31)))), (0, .ref (t 0))]) hx hb dX6_kneesAtHome_35 hl (k := 1) rfl (ly_add rfl rfl) (by decide) rfl (fun ls hl => ?_)
        refine lv_goto (tgt := 4) hx hb dX6_kneesAtHome_38 (by decide) ?_
        have e_3 : s_home ho (i + 1) = ((s_home ho i) ||| (1 <<< ((nI i) &&& 31))) := by show s_homeB ho i (s_home ho i) = _; unfold s_homeB; rw [if_pos c_1]
        exact ih_4 (i + 1) (by omega) ls (by rw [e_3]; exact lv_sub hl [0, 1, 2] rfl)
  exact hloop_4 (g 0 0) 0 (by omega) ls (lv_sub hl [0, 1, 2] rfl)

def s_restB (d ho le : Nat → Nat) (i : Nat) (v0 : Nat) : Nat := (if (s_free d ho i) = 0 then v0 else (if (ly_h v0) = (-9) then (i + 1) else (if (nI (le (v0 - 1))) ≤ (nI (le i)) then v0 else (i + 1))))
def s_rest (d ho le : Nat → Nat) : Nat → Nat
  | 0 => 0
  | i + 1 => s_restB d ho le i (s_rest d ho le i)
theorem s_rest_le (d ho le : Nat → Nat) : ∀ i, s_rest d ho le i ≤ i
  | 0 => Nat.le_refl _
  | i + 1 => by
    have ih := s_rest_le d ho le i
    show s_restB d ho le i (s_rest d ho le i) ≤ i + 1
    unfold s_restB
    split
    · omega
    · split
      · omega
      · split <;> omega
set_option maxHeartbeats 4000000 in
set_option maxRecDepth 100000 in
theorem c_X6_restingKnee (l : Launch) (D : va_G) (cI cC cZ cN : ClassId) (t a2 : Nat → Nat) (lt : Nat) (tr : Int64) (a : Nat → Nat) (g : Nat → Nat → Nat) (b : Nat → Nat) (d ho le : Nat → Nat) (hn : g 0 0 ≤ 9) : Met l yX6_restingKnee wsX6_restingKnee (ly_rm 3) (ly_Pre D (ly_tys cI cC cZ cN) [((t 0), .inr (6, [.ref (t 1), .int (nI lt), .ref (t 2), .ref (a 0), .ref (a2 0), .ref (b 0), .ref (t 4), .ref (t 5), .ref (t 6), .ref (t 7), .ref (t 8), .long tr])), ((a 0), .inr (4, [.int (nI (g 0 0)), .ref (a 1), .ref (a 2), .ref (a 3), .int (nI (g 0 1)), .ref (a 4), .ref (a 5), .ref (a 6), .ref (a 7), .ref (a 8), .ref (a 9), .int (nI (g 0 2))])), ((a 1), .inl (cI, 9, .inl (fun j => nI ((g 1) j)))), ((a 2), .inl (cI, 9, .inl (fun j => nI ((g 2) j)))), ((a 3), .inl (cI, 9, .inl (fun j => nI ((g 3) j)))), ((a 4), .inl (cI, 6, .inl (fun j => nI ((g 4) j)))), ((a 5), .inl (cI, 6, .inl (fun j => nI ((g 5) j)))), ((a 6), .inl (cI, 6, .inl (fun j => nI ((g 6) j)))), ((a 7), .inl (cI, 5, .inl (fun j => nI ((g 7) j)))), ((a 8), .inl (cI, 5, .inl (fun j => nI ((g 8) j)))), ((a 9), .inl (cI, 5, .inl (fun j => ly_h ((g 9) j)))), ((b 0), .inr (3, [.int (nI (d 0)), .int (nI (d 1)), .int (nI (d 2)), .int (nI (d 3)), .int (nI (d 4)), .ref (b 1), .ref (b 2)])), ((b 1), .inl (cI, 9, .inl (fun j => ly_h (ho j)))), ((b 2), .inl (cI, 9, .inl (fun j => nI (le j))))] [.ref (t 0)]) (QcRead (ly_h (s_rest d ho le (g 0 0)))) 0 0 (fun _ => False) := by
  refine Met.ofW (cc := cX6_restingKnee) (maxL := 3) (ret := (some .int)) (by decide) rfl ?_
  intro p e s m args below meth c s₁ B hml hv
  obtain ⟨rfl, hP, hK, hN⟩ := hv
  have hx := B.exec
  have hb := B.bytes
  have hr := B.returns
  have hts := atoms_spec (ws := wsX6_restingKnee) B.pre
  have hown : s.vm.findClass RX6 = some m.cls := findClass_of_methodNamed B.named
  have hlocks := B.notSynchronized
  have hl := lv_entry ([.ref (t 0)]) (n := 3) (Nat.le_of_ble_eq_true rfl)
  rw [lg_entry_eq]
  generalize (lg_sl ([.ref (t 0)]) ++ List.replicate (3 - (lg_sl ([.ref (t 0)])).length) Slot.unset).toArray = ls at hl ⊢
  have hl : lv_has ls 3 [(0, .ref (t 0))] := hl
  generalize ([.ref (t 0)] : List Value).toArray = av at hts ⊢
  obtain ⟨Qc, hQc⟩ : ∃ Qc, Qc = (QcRead (ly_h (s_rest d ho le (g 0 0)))) := ⟨_, rfl⟩
  rw [← hQc]
  have f27 := hts (.fieldLink RX6 27 "KneesLent" "parish" "LKneesLent$Parish;") (by decide +kernel)
  have f191 := hts (.fieldLink RX6 191 "KneesLent$Parish" "knees" "I") (by decide +kernel)
  have f37 := hts (.fieldLink RX6 37 "KneesLent" "now" "LKneesLent$Now;") (by decide +kernel)
  have f112 := hts (.fieldLink RX6 112 "KneesLent$Now" "left" "[I") (by decide +kernel)
  have hiX6 : ∀ w ∈ u_ws RX6 TX6 12, w ∈ wsX6_restingKnee := by decide +kernel
  have hiX4 : ∀ w ∈ u_ws RX4 TX4 12, w ∈ wsX6_restingKnee := by decide +kernel
  have hiX3 : ∀ w ∈ u_ws RX3 TX3 7, w ∈ wsX6_restingKnee := by decide +kernel
  refine lv_bipush (v := (-9)) hx hb dX6_restingKnee_0 (by decide) ?_
  refine lv_istore_n (lv' := [(1, .int (-9)), (0, .ref (t 0))]) hx hb dX6_restingKnee_2 rfl hl (by decide) rfl (fun ls hl => ?_)
  refine lv_iconst (v := 0) hx hb dX6_restingKnee_3 (by decide) ?_
  refine lv_istore_n (lv' := [(2, .int 0), (1, .int (-9)), (0, .ref (t 0))]) hx hb dX6_restingKnee_4 rfl hl (by decide) rfl (fun ls hl => ?_)
  have hloop_5 : ∀ (k i : Nat), i + k = g 0 0 → ∀ ls : Array Slot, lv_has ls 3 [(2, .int (nI i)), (1, .int (ly_h (s_rest d ho le i))), (0, .ref (t 0))] → W p l e (headSpec wsX6_restingKnee (ly_rm 3)).room s m av below meth c s.heap [] 0 0 (MQ below Qc av s 0 0 (fun _ => False)) (F0 m 5 ls []) := by
    intro k
    induction k with
    | zero =>
      intro i hi_5 ls hl
      obtain rfl : g 0 0 = i := by omega
      refine lv_iload_n hx hb dX6_restingKnee_5 rfl (lv_at hl 0 rfl) ?_
      refine lv_aload_n hx hb dX6_restingKnee_6 rfl (lv_at hl 2 rfl) ?_
      refine va_get (D := D) (ci := 6) (v := .ref (a 0)) (C := RX6) (T := TX6) (N := 12) hx hb hts hiX6 hown hK hP 0 rfl rfl 3 (by decide) f27 (fun _ h9 => h9) rfl dX6_restingKnee_7 ?_
      refine va_get (D := D) (ci := 4) (v := .int (nI (g 0 0))) (C := RX4) (T := TX4) (N := 12) hx hb hts hiX4 hown hK hP 1 rfl rfl 0 (by decide) f191 (fun _ h9 => h9) rfl dX6_restingKnee_10 ?_
      refine lv_icmp_ge (tgt := 62) hx hb dX6_restingKnee_13 (by decide) (fun _ => ?_) (fun h_9 => absurd (nI_le (Nat.le_refl _) (by omega)) h_9)
      refine lv_iload_n hx hb dX6_restingKnee_62 rfl (lv_at hl 1 rfl) ?_
      exact W.iret (v := (ly_h (s_rest d ho le (g 0 0)))) hx hb hr (fun t_9 ht_9 _ => by rw [hQc]; exact ⟨rfl, ht_9⟩) t_nil dX6_restingKnee_63
    | succ k ih_5 =>
      intro i hi_5 ls hl
      have hv := s_rest_le d ho le i
      refine lv_iload_n hx hb dX6_restingKnee_5 rfl (lv_at hl 0 rfl) ?_
      refine lv_aload_n hx hb dX6_restingKnee_6 rfl (lv_at hl 2 rfl) ?_
      refine va_get (D := D) (ci := 6) (v := .ref (a 0)) (C := RX6) (T := TX6) (N := 12) hx hb hts hiX6 hown hK hP 0 rfl rfl 3 (by decide) f27 (fun _ h9 => h9) rfl dX6_restingKnee_7 ?_
      refine va_get (D := D) (ci := 4) (v := .int (nI (g 0 0))) (C := RX4) (T := TX4) (N := 12) hx hb hts hiX4 hown hK hP 1 rfl rfl 0 (by decide) f191 (fun _ h9 => h9) rfl dX6_restingKnee_10 ?_
      refine lv_icmp_ge (tgt := 62) hx hb dX6_restingKnee_13 (by decide) (fun h_9 => absurd h_9 (nI_ge (by omega) (by omega))) (fun _ => ?_)
      refine lv_aload_n hx hb dX6_restingKnee_16 rfl (lv_at hl 2 rfl) ?_
      refine va_get (D := D) (ci := 6) (v := .ref (b 0)) (C := RX6) (T := TX6) (N := 12) hx hb hts hiX6 hown hK hP 0 rfl rfl 5 (by decide) f37 (fun _ h9 => h9) rfl dX6_restingKnee_17 ?_
      refine lv_iload_n hx hb dX6_restingKnee_20 rfl (lv_at hl 0 rfl) ?_
      have hPc_21 := hP.sub (ws' := [((b 0), .inr (3, [.int (nI (d 0)), .int (nI (d 1)), .int (nI (d 2)), .int (nI (d 3)), .int (nI (d 4)), .ref (b 1), .ref (b 2)])), ((b 1), .inl (cI, 9, .inl (fun j => ly_h (ho j)))), ((b 2), .inl (cI, 9, .inl (fun j => nI (le j))))]) [11, 12, 13] rfl
      refine ly_r (va_runV (As := [.int (nI i)]) (rest := []) ⟨hx, hb, hml, hown, hts⟩ (c_X3_isFree l D cI cC cZ cN b d ho le i (by omega)) (cwV 1 hts gX6_restingKnee_X3_isFree rfl rfl rfl (by decide +kernel) ⟨Nat.le_of_ble_eq_true rfl, Nat.le_of_ble_eq_true rfl⟩) (ly_pv hK hN hPc_21 0 3 rfl rfl rfl) rfl rfl hl.1 rfl (lv_room (Nat.le_of_ble_eq_true rfl)) dX6_restingKnee_21 ⟨Nat.zero_le _, Nat.zero_le _⟩) ?_
      refine lv_if_eq (tgt := 56) hx hb dX6_restingKnee_24 (by decide) (fun c_1 => ?_) (fun c_1 => ?_)
      · refine lv_iinc (v := (nI (i + 1))) (lv' := [(2, .int (nI (i + 1))), (1, .int (ly_h (s_rest d ho le i))), (0, .ref (t 0))]) hx hb dX6_restingKnee_56 hl (k := 0) rfl (ly_add rfl rfl) (by decide) rfl (fun ls hl => ?_)
        refine lv_goto (tgt := 5) hx hb dX6_restingKnee_59 (by decide) ?_
        have e_2 : s_rest d ho le (i + 1) = (s_rest d ho le i) := by show s_restB d ho le i (s_rest d ho le i) = _; unfold s_restB; rw [if_pos c_1]
        exact ih_5 (i + 1) (by omega) ls (by rw [e_2]; exact lv_sub hl [0, 1, 2] rfl)
      · refine lv_iload_n hx hb dX6_restingKnee_27 rfl (lv_at hl 1 rfl) ?_
        refine lv_bipush (v := (-9)) hx hb dX6_restingKnee_28 (by decide) ?_
        refine lv_icmp_eq (tgt := 54) hx hb dX6_restingKnee_30 (by decide) (fun c_3 => ?_) (fun c_3 => ?_)
        · refine lv_iload_n hx hb dX6_restingKnee_54 rfl (lv_at hl 0 rfl) ?_
          refine lv_istore_n (lv' := [(1, .int (nI i)), (2, .int (nI i)), (0, .ref (t 0))]) hx hb dX6_restingKnee_55 rfl hl (by decide) rfl (fun ls hl => ?_)
          refine lv_iinc (v := (nI (i + 1))) (lv' := [(2, .int (nI (i + 1))), (1, .int (nI i)), (0, .ref (t 0))]) hx hb dX6_restingKnee_56 hl (k := 1) rfl (ly_add rfl rfl) (by decide) rfl (fun ls hl => ?_)
          refine lv_goto (tgt := 5) hx hb dX6_restingKnee_59 (by decide) ?_
          have e_4 : s_rest d ho le (i + 1) = (i + 1) := by show s_restB d ho le i (s_rest d ho le i) = _; unfold s_restB; rw [if_neg c_1, if_pos c_3]
          exact ih_5 (i + 1) (by omega) ls (by rw [e_4]; exact lv_sub hl [0, 1, 2] rfl)
        · refine lv_aload_n hx hb dX6_restingKnee_33 rfl (lv_at hl 2 rfl) ?_
          refine va_get (D := D) (ci := 6) (v := .ref (b 0)) (C := RX6) (T := TX6) (N := 12) hx hb hts hiX6 hown hK hP 0 rfl rfl 5 (by decide) f37 (fun _ h9 => h9) rfl dX6_restingKnee_34 ?_
          refine va_get (D := D) (ci := 3) (v := .ref (b 2)) (C := RX3) (T := TX3) (N := 7) hx hb hts hiX3 hown hK hP 11 rfl rfl 6 (by decide) f112 (fun _ h9 => h9) rfl dX6_restingKnee_37 ?_
          refine lv_iload_n hx hb dX6_restingKnee_40 rfl (lv_at hl 0 rfl) ?_
          refine ly_iald hx hb hK hP 13 0 rfl rfl (k := i) (by decide) rfl (by omega) dX6_restingKnee_41 ?_
          refine lv_aload_n hx hb dX6_restingKnee_42 rfl (lv_at hl 2 rfl) ?_
          refine va_get (D := D) (ci := 6) (v := .ref (b 0)) (C := RX6) (T := TX6) (N := 12) hx hb hts hiX6 hown hK hP 0 rfl rfl 5 (by decide) f37 (fun _ h9 => h9) rfl dX6_restingKnee_43 ?_
          refine va_get (D := D) (ci := 3) (v := .ref (b 2)) (C := RX3) (T := TX3) (N := 7) hx hb hts hiX3 hown hK hP 11 rfl rfl 6 (by decide) f112 (fun _ h9 => h9) rfl dX6_restingKnee_46 ?_
          refine lv_iload_n hx hb dX6_restingKnee_49 rfl (lv_at hl 1 rfl) ?_
          refine ly_iald hx hb hK hP 13 0 rfl rfl (k := ((s_rest d ho le i) - 1)) (by decide) (ly_h_ne c_3) (by omega) dX6_restingKnee_50 ?_
          refine lv_icmp_ge (tgt := 56) hx hb dX6_restingKnee_51 (by decide) (fun c_5 => ?_) (fun c_5 => ?_)
          · refine lv_iinc (v := (nI (i + 1))) (lv' := [(2, .int (nI (i + 1))), (1, .int (ly_h (s_rest d ho le i))), (0, .ref (t 0))]) hx hb dX6_restingKnee_56 hl (k := 0) rfl (ly_add rfl rfl) (by decide) rfl (fun ls hl => ?_)
            refine lv_goto (tgt := 5) hx hb dX6_restingKnee_59 (by decide) ?_
            have e_6 : s_rest d ho le (i + 1) = (s_rest d ho le i) := by show s_restB d ho le i (s_rest d ho le i) = _; unfold s_restB; rw [if_neg c_1, if_neg c_3, if_pos c_5]
            exact ih_5 (i + 1) (by omega) ls (by rw [e_6]; exact lv_sub hl [0, 1, 2] rfl)
          · refine lv_iload_n hx hb dX6_restingKnee_54 rfl (lv_at hl 0 rfl) ?_
            refine lv_istore_n (lv' := [(1, .int (nI i)), (2, .int (nI i)), (0, .ref (t 0))]) hx hb dX6_restingKnee_55 rfl hl (by decide) rfl (fun ls hl => ?_)
            refine lv_iinc (v := (nI (i + 1))) (lv' := [(2, .int (nI (i + 1))), (1, .int (nI i)), (0, .ref (t 0))]) hx hb dX6_restingKnee_56 hl (k := 1) rfl (ly_add rfl rfl) (by decide) rfl (fun ls hl => ?_)
            refine lv_goto (tgt := 5) hx hb dX6_restingKnee_59 (by decide) ?_
            have e_7 : s_rest d ho le (i + 1) = (i + 1) := by show s_restB d ho le i (s_rest d ho le i) = _; unfold s_restB; rw [if_neg c_1, if_neg c_3, if_neg c_5]
            exact ih_5 (i + 1) (by omega) ls (by rw [e_7]; exact lv_sub hl [0, 1, 2] rfl)
  exact hloop_5 (g 0 0) 0 (by omega) ls (lv_sub hl [0, 1, 2] rfl)

def s_feelB (g : Nat → Nat → Nat) (ho : Nat → Nat) (x : Int32) (i : Nat) (v0 : Int32) : Int32 := (if (ly_h (ho i)) = (-9) then v0 else (if (jbit x (ly_h (ho i))) = 1 then (v0 ||| (1 <<< ((nI ((g 2) i)) &&& 31))) else v0))
def s_feel (g : Nat → Nat → Nat) (ho : Nat → Nat) (x : Int32) : Nat → Int32
  | 0 => 0
  | i + 1 => s_feelB g ho x i (s_feel g ho x i)
set_option maxHeartbeats 4000000 in
set_option maxRecDepth 100000 in
theorem c_X6_farmsThatFeelRainOn (l : Launch) (D : va_G) (cI cC cZ cN : ClassId) (t a2 : Nat → Nat) (lt : Nat) (tr : Int64) (a : Nat → Nat) (g : Nat → Nat → Nat) (b : Nat → Nat) (d ho le : Nat → Nat) (x : Int32) (hn : g 0 0 ≤ 9) : Met l yX6_farmsThatFeelRainOn wsX6_farmsThatFeelRainOn (ly_rm 2) (ly_Pre D (ly_tys cI cC cZ cN) [((t 0), .inr (6, [.ref (t 1), .int (nI lt), .ref (t 2), .ref (a 0), .ref (a2 0), .ref (b 0), .ref (t 4), .ref (t 5), .ref (t 6), .ref (t 7), .ref (t 8), .long tr])), ((a 0), .inr (4, [.int (nI (g 0 0)), .ref (a 1), .ref (a 2), .ref (a 3), .int (nI (g 0 1)), .ref (a 4), .ref (a 5), .ref (a 6), .ref (a 7), .ref (a 8), .ref (a 9), .int (nI (g 0 2))])), ((a 1), .inl (cI, 9, .inl (fun j => nI ((g 1) j)))), ((a 2), .inl (cI, 9, .inl (fun j => nI ((g 2) j)))), ((a 3), .inl (cI, 9, .inl (fun j => nI ((g 3) j)))), ((a 4), .inl (cI, 6, .inl (fun j => nI ((g 4) j)))), ((a 5), .inl (cI, 6, .inl (fun j => nI ((g 5) j)))), ((a 6), .inl (cI, 6, .inl (fun j => nI ((g 6) j)))), ((a 7), .inl (cI, 5, .inl (fun j => nI ((g 7) j)))), ((a 8), .inl (cI, 5, .inl (fun j => nI ((g 8) j)))), ((a 9), .inl (cI, 5, .inl (fun j => ly_h ((g 9) j)))), ((b 0), .inr (3, [.int (nI (d 0)), .int (nI (d 1)), .int (nI (d 2)), .int (nI (d 3)), .int (nI (d 4)), .ref (b 1), .ref (b 2)])), ((b 1), .inl (cI, 9, .inl (fun j => ly_h (ho j)))), ((b 2), .inl (cI, 9, .inl (fun j => nI (le j))))] [.ref (t 0), .int x]) (QcRead (s_feel g ho x (g 0 0))) 0 0 (fun _ => False) := by
  refine Met.ofW (cc := cX6_farmsThatFeelRainOn) (maxL := 4) (ret := (some .int)) (by decide) rfl ?_
  intro p e s m args below meth c s₁ B hml hv
  obtain ⟨rfl, hP, hK, hN⟩ := hv
  have hx := B.exec
  have hb := B.bytes
  have hr := B.returns
  have hts := atoms_spec (ws := wsX6_farmsThatFeelRainOn) B.pre
  have hown : s.vm.findClass RX6 = some m.cls := findClass_of_methodNamed B.named
  have hlocks := B.notSynchronized
  have hl := lv_entry ([.ref (t 0), .int x]) (n := 4) (Nat.le_of_ble_eq_true rfl)
  rw [lg_entry_eq]
  generalize (lg_sl ([.ref (t 0), .int x]) ++ List.replicate (4 - (lg_sl ([.ref (t 0), .int x])).length) Slot.unset).toArray = ls at hl ⊢
  have hl : lv_has ls 4 [(0, .ref (t 0)), (1, .int x)] := hl
  generalize ([.ref (t 0), .int x] : List Value).toArray = av at hts ⊢
  obtain ⟨Qc, hQc⟩ : ∃ Qc, Qc = (QcRead (s_feel g ho x (g 0 0))) := ⟨_, rfl⟩
  rw [← hQc]
  have f27 := hts (.fieldLink RX6 27 "KneesLent" "parish" "LKneesLent$Parish;") (by decide +kernel)
  have f191 := hts (.fieldLink RX6 191 "KneesLent$Parish" "knees" "I") (by decide +kernel)
  have f37 := hts (.fieldLink RX6 37 "KneesLent" "now" "LKneesLent$Now;") (by decide +kernel)
  have f115 := hts (.fieldLink RX6 115 "KneesLent$Now" "holder" "[I") (by decide +kernel)
  have f109 := hts (.fieldLink RX6 109 "KneesLent$Parish" "farm" "[I") (by decide +kernel)
  have hiX6 : ∀ w ∈ u_ws RX6 TX6 12, w ∈ wsX6_farmsThatFeelRainOn := by decide +kernel
  have hiX4 : ∀ w ∈ u_ws RX4 TX4 12, w ∈ wsX6_farmsThatFeelRainOn := by decide +kernel
  have hiX3 : ∀ w ∈ u_ws RX3 TX3 7, w ∈ wsX6_farmsThatFeelRainOn := by decide +kernel
  refine lv_iconst (v := 0) hx hb dX6_farmsThatFeelRainOn_0 (by decide) ?_
  refine lv_istore_n (lv' := [(2, .int 0), (0, .ref (t 0)), (1, .int x)]) hx hb dX6_farmsThatFeelRainOn_1 rfl hl (by decide) rfl (fun ls hl => ?_)
  refine lv_iconst (v := 0) hx hb dX6_farmsThatFeelRainOn_2 (by decide) ?_
  refine lv_istore_n (lv' := [(3, .int 0), (2, .int 0), (0, .ref (t 0)), (1, .int x)]) hx hb dX6_farmsThatFeelRainOn_3 rfl hl (by decide) rfl (fun ls hl => ?_)
  have hloop_4 : ∀ (k i : Nat), i + k = g 0 0 → ∀ ls : Array Slot, lv_has ls 4 [(3, .int (nI i)), (2, .int (s_feel g ho x i)), (0, .ref (t 0)), (1, .int x)] → W p l e (headSpec wsX6_farmsThatFeelRainOn (ly_rm 2)).room s m av below meth c s.heap [] 0 0 (MQ below Qc av s 0 0 (fun _ => False)) (F0 m 4 ls []) := by
    intro k
    induction k with
    | zero =>
      intro i hi_4 ls hl
      obtain rfl : g 0 0 = i := by omega
      refine lv_iload_n hx hb dX6_farmsThatFeelRainOn_4 rfl (lv_at hl 0 rfl) ?_
      refine lv_aload_n hx hb dX6_farmsThatFeelRainOn_5 rfl (lv_at hl 2 rfl) ?_
      refine va_get (D := D) (ci := 6) (v := .ref (a 0)) (C := RX6) (T := TX6) (N := 12) hx hb hts hiX6 hown hK hP 0 rfl rfl 3 (by decide) f27 (fun _ h9 => h9) rfl dX6_farmsThatFeelRainOn_6 ?_
      refine va_get (D := D) (ci := 4) (v := .int (nI (g 0 0))) (C := RX4) (T := TX4) (N := 12) hx hb hts hiX4 hown hK hP 1 rfl rfl 0 (by decide) f191 (fun _ h9 => h9) rfl dX6_farmsThatFeelRainOn_9 ?_
      refine lv_icmp_ge (tgt := 66) hx hb dX6_farmsThatFeelRainOn_12 (by decide) (fun _ => ?_) (fun h_9 => absurd (nI_le (Nat.le_refl _) (by omega)) h_9)
      refine lv_iload_n hx hb dX6_farmsThatFeelRainOn_66 rfl (lv_at hl 1 rfl) ?_
      exact W.iret (v := (s_feel g ho x (g 0 0))) hx hb hr (fun t_9 ht_9 _ => by rw [hQc]; exact ⟨rfl, ht_9⟩) t_nil dX6_farmsThatFeelRainOn_67
    | succ k ih_4 =>
      intro i hi_4 ls hl
      refine lv_iload_n hx hb dX6_farmsThatFeelRainOn_4 rfl (lv_at hl 0 rfl) ?_
      refine lv_aload_n hx hb dX6_farmsThatFeelRainOn_5 rfl (lv_at hl 2 rfl) ?_
      refine va_get (D := D) (ci := 6) (v := .ref (a 0)) (C := RX6) (T := TX6) (N := 12) hx hb hts hiX6 hown hK hP 0 rfl rfl 3 (by decide) f27 (fun _ h9 => h9) rfl dX6_farmsThatFeelRainOn_6 ?_
      refine va_get (D := D) (ci := 4) (v := .int (nI (g 0 0))) (C := RX4) (T := TX4) (N := 12) hx hb hts hiX4 hown hK hP 1 rfl rfl 0 (by decide) f191 (fun _ h9 => h9) rfl dX6_farmsThatFeelRainOn_9 ?_
      refine lv_icmp_ge (tgt := 66) hx hb dX6_farmsThatFeelRainOn_12 (by decide) (fun h_9 => absurd h_9 (nI_ge (by omega) (by omega))) (fun _ => ?_)
      refine lv_aload_n hx hb dX6_farmsThatFeelRainOn_15 rfl (lv_at hl 2 rfl) ?_
      refine va_get (D := D) (ci := 6) (v := .ref (b 0)) (C := RX6) (T := TX6) (N := 12) hx hb hts hiX6 hown hK hP 0 rfl rfl 5 (by decide) f37 (fun _ h9 => h9) rfl dX6_farmsThatFeelRainOn_16 ?_
      refine va_get (D := D) (ci := 3) (v := .ref (b 1)) (C := RX3) (T := TX3) (N := 7) hx hb hts hiX3 hown hK hP 11 rfl rfl 5 (by decide) f115 (fun _ h9 => h9) rfl dX6_farmsThatFeelRainOn_19 ?_
      refine lv_iload_n hx hb dX6_farmsThatFeelRainOn_22 rfl (lv_at hl 0 rfl) ?_
      refine ly_iald hx hb hK hP 12 0 rfl rfl (k := i) (by decide) rfl (by omega) dX6_farmsThatFeelRainOn_23 ?_
      refine lv_bipush (v := (-9)) hx hb dX6_farmsThatFeelRainOn_24 (by decide) ?_
      refine lv_icmp_eq (tgt := 60) hx hb dX6_farmsThatFeelRainOn_26 (by decide) (fun c_1 => ?_) (fun c_1 => ?_)
      · refine lv_iinc (v := (nI (i + 1))) (lv' := [(3, .int (nI (i + 1))), (2, .int (s_feel g ho x i)), (0, .ref (t 0)), (1, .int x)]) hx hb dX6_farmsThatFeelRainOn_60 hl (k := 0) rfl (ly_add rfl rfl) (by decide) rfl (fun ls hl => ?_)
        refine lv_goto (tgt := 4) hx hb dX6_farmsThatFeelRainOn_63 (by decide) ?_
        have e_2 : s_feel g ho x (i + 1) = (s_feel g ho x i) := by show s_feelB g ho x i (s_feel g ho x i) = _; unfold s_feelB; rw [if_pos c_1]
        exact ih_4 (i + 1) (by omega) ls (by rw [e_2]; exact lv_sub hl [0, 1, 2, 3] rfl)
      · refine lv_iload_n hx hb dX6_farmsThatFeelRainOn_29 rfl (lv_at hl 3 rfl) ?_
        refine lv_aload_n hx hb dX6_farmsThatFeelRainOn_30 rfl (lv_at hl 2 rfl) ?_
        refine va_get (D := D) (ci := 6) (v := .ref (b 0)) (C := RX6) (T := TX6) (N := 12) hx hb hts hiX6 hown hK hP 0 rfl rfl 5 (by decide) f37 (fun _ h9 => h9) rfl dX6_farmsThatFeelRainOn_31 ?_
        refine va_get (D := D) (ci := 3) (v := .ref (b 1)) (C := RX3) (T := TX3) (N := 7) hx hb hts hiX3 hown hK hP 11 rfl rfl 5 (by decide) f115 (fun _ h9 => h9) rfl dX6_farmsThatFeelRainOn_34 ?_
        refine lv_iload_n hx hb dX6_farmsThatFeelRainOn_37 rfl (lv_at hl 0 rfl) ?_
        refine ly_iald hx hb hK hP 12 0 rfl rfl (k := i) (by decide) rfl (by omega) dX6_farmsThatFeelRainOn_38 ?_
        have hPc_39 := hP.sub (ws' := []) [] rfl
        refine ly_r (va_runS (As := [.int x, .int (ly_h (ho i))]) (rest := []) ⟨hx, hb, hml, hown, hts⟩ (c_X6_bit l D cI cC cZ cN x (ly_h (ho i))) (va_cwS 2 hts gX6_farmsThatFeelRainOn_X6_bit rfl rfl rfl (by decide +kernel) ⟨Nat.le_of_ble_eq_true rfl, Nat.le_of_ble_eq_true rfl⟩) (ly_ps hK hN hPc_39) rfl rfl hl.1 rfl (lv_room (Nat.le_of_ble_eq_true rfl)) dX6_farmsThatFeelRainOn_39 ⟨Nat.zero_le _, Nat.zero_le _⟩) ?_
        refine lv_iconst (v := 1) hx hb dX6_farmsThatFeelRainOn_42 (by decide) ?_
        refine lv_icmp_ne (tgt := 60) hx hb dX6_farmsThatFeelRainOn_43 (by decide) (fun c_3 => ?_) (fun c_3 => ?_)
        · refine lv_iinc (v := (nI (i + 1))) (lv' := [(3, .int (nI (i + 1))), (2, .int (s_feel g ho x i)), (0, .ref (t 0)), (1, .int x)]) hx hb dX6_farmsThatFeelRainOn_60 hl (k := 0) rfl (ly_add rfl rfl) (by decide) rfl (fun ls hl => ?_)
          refine lv_goto (tgt := 4) hx hb dX6_farmsThatFeelRainOn_63 (by decide) ?_
          have e_4 : s_feel g ho x (i + 1) = (s_feel g ho x i) := by show s_feelB g ho x i (s_feel g ho x i) = _; unfold s_feelB; rw [if_neg c_1, if_neg c_3]
          exact ih_4 (i + 1) (by omega) ls (by rw [e_4]; exact lv_sub hl [0, 1, 2, 3] rfl)
        · refine lv_iload_n hx hb dX6_farmsThatFeelRainOn_46 rfl (lv_at hl 1 rfl) ?_
          refine lv_iconst (v := 1) hx hb dX6_farmsThatFeelRainOn_47 (by decide) ?_
          refine lv_aload_n hx hb dX6_farmsThatFeelRainOn_48 rfl (lv_at hl 2 rfl) ?_
          refine va_get (D := D) (ci := 6) (v := .ref (a 0)) (C := RX6) (T := TX6) (N := 12) hx hb hts hiX6 hown hK hP 0 rfl rfl 3 (by decide) f27 (fun _ h9 => h9) rfl dX6_farmsThatFeelRainOn_49 ?_
          refine va_get (D := D) (ci := 4) (v := .ref (a 2)) (C := RX4) (T := TX4) (N := 12) hx hb hts hiX4 hown hK hP 1 rfl rfl 2 (by decide) f109 (fun _ h9 => h9) rfl dX6_farmsThatFeelRainOn_52 ?_
          refine lv_iload_n hx hb dX6_farmsThatFeelRainOn_55 rfl (lv_at hl 0 rfl) ?_
          refine ly_iald hx hb hK hP 3 0 rfl rfl (k := i) (by decide) rfl (by omega) dX6_farmsThatFeelRainOn_56 ?_
          refine lv_ishl hx hb dX6_farmsThatFeelRainOn_57 ?_
          refine lv_ior hx hb dX6_farmsThatFeelRainOn_58 ?_
          refine lv_istore_n (lv' := [(2, .int ((s_feel g ho x i) ||| (1 <<< ((nI ((g 2) i)) &&& 31)))), (3, .int (nI i)), (0, .ref (t 0)), (1, .int x)]) hx hb dX6_farmsThatFeelRainOn_59 rfl hl (by decide) rfl (fun ls hl => ?_)
          refine lv_iinc (v := (nI (i + 1))) (lv' := [(3, .int (nI (i + 1))), (2, .int ((s_feel g ho x i) ||| (1 <<< ((nI ((g 2) i)) &&& 31)))), (0, .ref (t 0)), (1, .int x)]) hx hb dX6_farmsThatFeelRainOn_60 hl (k := 1) rfl (ly_add rfl rfl) (by decide) rfl (fun ls hl => ?_)
          refine lv_goto (tgt := 4) hx hb dX6_farmsThatFeelRainOn_63 (by decide) ?_
          have e_5 : s_feel g ho x (i + 1) = ((s_feel g ho x i) ||| (1 <<< ((nI ((g 2) i)) &&& 31))) := by show s_feelB g ho x i (s_feel g ho x i) = _; unfold s_feelB; rw [if_neg c_1, if_pos c_3]
          exact ih_4 (i + 1) (by omega) ls (by rw [e_5]; exact lv_sub hl [0, 1, 2, 3] rfl)
  exact hloop_4 (g 0 0) 0 (by omega) ls (lv_sub hl [0, 1, 2, 3] rfl)
