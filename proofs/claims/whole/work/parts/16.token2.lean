def tk_U (tx : Nat → Nat) (ln vl p1 : Nat) : Nat × Nat × Nat × Nat := (if (nI p1) < (nI ln) then (if (jdig (nI (tx p1))) = 0 then (p1 + 1, tx p1, vl, p1) else ((tk_num tx ln (ln + 1) 0 p1).2, tk_tok tx p1 (tk_num tx ln (ln + 1) 0 p1).1 (tk_num tx ln (ln + 1) 0 p1).2, (tk_num tx ln (ln + 1) 0 p1).1, p1)) else (p1, 256, vl, p1))

def tk_skip (tx : Nat → Nat) (ln : Nat) : Nat → Nat → Nat
  | 0, v0_ => v0_
  | u_ + 1, v0_ => (if (nI ln) ≤ (nI v0_) then v0_ else (if (nI (tx v0_)) = 32 then tk_skip tx ln u_ (v0_ + 1) else v0_))
theorem tk_skip_s (tx : Nat → Nat) (ln : Nat) (u_ : Nat) (v0_ : Nat) : tk_skip tx ln (u_ + 1) v0_ = (if (nI ln) ≤ (nI v0_) then v0_ else (if (nI (tx v0_)) = 32 then tk_skip tx ln u_ (v0_ + 1) else v0_)) := rfl
theorem tk_skip_le (tx : Nat → Nat) (ln : Nat) (hln : ln ≤ 180) : ∀ u p, p ≤ ln → tk_skip tx ln u p ≤ ln
  | 0, _, h => h
  | u + 1, p, h => by
    rw [tk_skip_s]
    split
    · exact h
    · rename_i hc
      have hlt : p < ln := Nat.not_le.mp (fun z => hc (nI_le z (by omega)))
      split
      · exact tk_skip_le tx ln hln u (p + 1) (by omega)
      · exact h
set_option maxHeartbeats 4000000 in
set_option maxRecDepth 100000 in
theorem c_X5_takeToken (l : Launch) (D : va_G) (cI cC cZ cN : ClassId) (t tx : Nat → Nat) (iv : Value) (ln pl tok vl st it : Nat) (htx : ∀ j, tx j < 256) (hln : ln ≤ 180) (hpl : pl ≤ ln) (hD0 : va_D (fun _ => True) [((t 2), .inr (5, [.ref (t 1), .int (nI ln), .int (nI pl), iv, .ref (t 3), .int (nI tok), .int (nI vl), .int (nI st), .int (nI it)])), ((t 1), .inl (cC, 180, .inl (fun j => nI (tx j))))]) : Met l yX5_takeToken wsX5_takeToken (ly_rm 3) (ly_Pre D (ly_tys cI cC cZ cN) [((t 2), .inr (5, [.ref (t 1), .int (nI ln), .int (nI pl), iv, .ref (t 3), .int (nI tok), .int (nI vl), .int (nI st), .int (nI it)])), ((t 1), .inl (cC, 180, .inl (fun j => nI (tx j))))] [.ref (t 2)]) (ly_Q D [((t 2), .inr (5, [.ref (t 1), .int (nI ln), .int (nI pl), iv, .ref (t 3), .int (nI tok), .int (nI vl), .int (nI st), .int (nI it)])), ((t 1), .inl (cC, 180, .inl (fun j => nI (tx j))))] (fun r_9 w_9 => r_9 = none ∧ w_9 = [((t 2), .inr (5, [.ref (t 1), .int (nI ln), .int (nI ((tk_U tx ln vl (tk_skip tx ln (ln + 1) pl)).1)), iv, .ref (t 3), .int (nI ((tk_U tx ln vl (tk_skip tx ln (ln + 1) pl)).2.1)), .int (nI ((tk_U tx ln vl (tk_skip tx ln (ln + 1) pl)).2.2.1)), .int (nI ((tk_U tx ln vl (tk_skip tx ln (ln + 1) pl)).2.2.2)), .int (nI it)])), ((t 1), .inl (cC, 180, .inl (fun j => nI (tx j))))])) 0 0 (ly_in [((t 2), .inr (5, [.ref (t 1), .int (nI ln), .int (nI pl), iv, .ref (t 3), .int (nI tok), .int (nI vl), .int (nI st), .int (nI it)])), ((t 1), .inl (cC, 180, .inl (fun j => nI (tx j))))]) := by
  refine Met.ofW (cc := cX5_takeToken) (maxL := 1) (ret := none) (by decide) rfl ?_
  intro p e s m args below meth c s₁ B hml hv
  obtain ⟨rfl, hP, hK, hN⟩ := hv
  have hx := B.exec
  have hb := B.bytes
  have hr := B.returns
  have hts := atoms_spec (ws := wsX5_takeToken) B.pre
  have hown : s.vm.findClass RX5 = some m.cls := findClass_of_methodNamed B.named
  have hlocks := B.notSynchronized
  have hl := lv_entry ([.ref (t 2)]) (n := 1) (Nat.le_of_ble_eq_true rfl)
  rw [lg_entry_eq]
  generalize (lg_sl ([.ref (t 2)]) ++ List.replicate (1 - (lg_sl ([.ref (t 2)])).length) Slot.unset).toArray = ls at hl ⊢
  have hl : lv_has ls 1 [(0, .ref (t 2))] := hl
  generalize ([.ref (t 2)] : List Value).toArray = av at hts ⊢
  obtain ⟨Qc, hQc⟩ : ∃ Qc, Qc = (ly_Q D [((t 2), .inr (5, [.ref (t 1), .int (nI ln), .int (nI pl), iv, .ref (t 3), .int (nI tok), .int (nI vl), .int (nI st), .int (nI it)])), ((t 1), .inl (cC, 180, .inl (fun j => nI (tx j))))] (fun r_9 w_9 => r_9 = none ∧ w_9 = [((t 2), .inr (5, [.ref (t 1), .int (nI ln), .int (nI ((tk_U tx ln vl (tk_skip tx ln (ln + 1) pl)).1)), iv, .ref (t 3), .int (nI ((tk_U tx ln vl (tk_skip tx ln (ln + 1) pl)).2.1)), .int (nI ((tk_U tx ln vl (tk_skip tx ln (ln + 1) pl)).2.2.1)), .int (nI ((tk_U tx ln vl (tk_skip tx ln (ln + 1) pl)).2.2.2)), .int (nI it)])), ((t 1), .inl (cC, 180, .inl (fun j => nI (tx j))))])) := ⟨_, rfl⟩
  rw [← hQc]
  obtain ⟨A, hAe⟩ : ∃ A, A = ly_in [((t 2), .inr (5, [.ref (t 1), .int (nI ln), .int (nI pl), iv, .ref (t 3), .int (nI tok), .int (nI vl), .int (nI st), .int (nI it)])), ((t 1), .inl (cC, 180, .inl (fun j => nI (tx j))))] := ⟨_, rfl⟩
  rw [← hAe]
  have hD := ly_self hD0
  rw [← hAe] at hD
  have f19 := hts (.fieldLink RX5 19 "KneesLent$Reader" "place" "I") (by decide +kernel)
  have f36 := hts (.fieldLink RX5 36 "KneesLent$Reader" "start" "I") (by decide +kernel)
  have f15 := hts (.fieldLink RX5 15 "KneesLent$Reader" "length" "I") (by decide +kernel)
  have f9 := hts (.fieldLink RX5 9 "KneesLent$Reader" "text" "[C") (by decide +kernel)
  have f30 := hts (.fieldLink RX5 30 "KneesLent$Reader" "token" "I") (by decide +kernel)
  have hiX5 : ∀ w ∈ u_ws RX5 TX5 9, w ∈ wsX5_takeToken := by decide +kernel
  have hmain : ∀ (H : Heap) (locs : List Loc), va_P D vwCl [((t 2), .inr (5, [.ref (t 1), .int (nI ln), .int (nI pl), iv, .ref (t 3), .int (nI tok), .int (nI vl), .int (nI st), .int (nI it)])), ((t 1), .inl (cC, 180, .inl (fun j => nI (tx j))))] H → va_S A s.heap H locs → W p l e (headSpec wsX5_takeToken (ly_rm 3)).room s m av below meth c H locs 0 0 (MQ below Qc av s 0 0 A) (F0 m 0 ls []) := by
    intro H locs hP hS
    have hexit_0 : ∀ (H : Heap) (locs : List Loc), va_P D vwCl [((t 2), .inr (5, [.ref (t 1), .int (nI ln), .int (nI (tk_skip tx ln (ln + 1) pl)), iv, .ref (t 3), .int (nI tok), .int (nI vl), .int (nI st), .int (nI it)])), ((t 1), .inl (cC, 180, .inl (fun j => nI (tx j))))] H → va_D A [((t 2), .inr (5, [.ref (t 1), .int (nI ln), .int (nI (tk_skip tx ln (ln + 1) pl)), iv, .ref (t 3), .int (nI tok), .int (nI vl), .int (nI st), .int (nI it)])), ((t 1), .inl (cC, 180, .inl (fun j => nI (tx j))))] → va_S A s.heap H locs → ∀ ls : Array Slot, lv_has ls 1 [(0, .ref (t 2))] → W p l e (headSpec wsX5_takeToken (ly_rm 3)).room s m av below meth c H locs 0 0 (MQ below Qc av s 0 0 A) (F0 m 38 ls []) := by
      intro H locs hP hD hS ls hl
      have hx_ := tk_skip_le tx ln hln (ln + 1) pl hpl
      refine lv_aload_n hx hb dX5_takeToken_38 rfl (lv_at hl 0 rfl) ?_
      refine lv_aload_n hx hb dX5_takeToken_39 rfl (lv_at hl 0 rfl) ?_
      refine va_get (D := D) (ci := 5) (v := .int (nI (tk_skip tx ln (ln + 1) pl))) (C := RX5) (T := TX5) (N := 9) hx hb hts hiX5 hown hK hP 0 rfl rfl 2 (by decide) f19 (fun _ h9 => h9) rfl dX5_takeToken_40 ?_
      refine va_put (D := D) (ci := 5) (v := .int (nI (tk_skip tx ln (ln + 1) pl))) (ty := .int) (C := RX5) (T := TX5) (N := 9) hx hb hts hiX5 tyX5 tyX5_ok nmX5 hown hK hP hD hS 0 rfl rfl 7 (by decide) f36 (fun _ h9 => h9) rfl (by decide +kernel) rfl rfl (Nat.le_of_ble_eq_true rfl) dX5_takeToken_43 (fun H locs hP hD hS => ?_)
      have hP : va_P D vwCl [((t 2), .inr (5, [.ref (t 1), .int (nI ln), .int (nI (tk_skip tx ln (ln + 1) pl)), iv, .ref (t 3), .int (nI tok), .int (nI vl), .int (nI (tk_skip tx ln (ln + 1) pl)), .int (nI it)])), ((t 1), .inl (cC, 180, .inl (fun j => nI (tx j))))] H := hP
      have hD : va_D A [((t 2), .inr (5, [.ref (t 1), .int (nI ln), .int (nI (tk_skip tx ln (ln + 1) pl)), iv, .ref (t 3), .int (nI tok), .int (nI vl), .int (nI (tk_skip tx ln (ln + 1) pl)), .int (nI it)])), ((t 1), .inl (cC, 180, .inl (fun j => nI (tx j))))] := hD
      refine lv_aload_n hx hb dX5_takeToken_46 rfl (lv_at hl 0 rfl) ?_
      refine va_get (D := D) (ci := 5) (v := .int (nI (tk_skip tx ln (ln + 1) pl))) (C := RX5) (T := TX5) (N := 9) hx hb hts hiX5 hown hK hP 0 rfl rfl 2 (by decide) f19 (fun _ h9 => h9) rfl dX5_takeToken_47 ?_
      refine lv_aload_n hx hb dX5_takeToken_50 rfl (lv_at hl 0 rfl) ?_
      refine va_get (D := D) (ci := 5) (v := .int (nI ln)) (C := RX5) (T := TX5) (N := 9) hx hb hts hiX5 hown hK hP 0 rfl rfl 1 (by decide) f15 (fun _ h9 => h9) rfl dX5_takeToken_51 ?_
      refine lv_icmp_lt (tgt := 67) hx hb dX5_takeToken_54 (by decide) (fun c_1 => ?_) (fun c_1 => ?_)
      · have mc_1 : (tk_skip tx ln (ln + 1) pl) < ln := (nI_ltI (a := (tk_skip tx ln (ln + 1) pl)) (b := ln) (by first | omega | (have hz_ := htx; omega)) (by first | omega | (have hz_ := htx; omega))).mp c_1
        refine lv_aload_n hx hb dX5_takeToken_67 rfl (lv_at hl 0 rfl) ?_
        refine va_get (D := D) (ci := 5) (v := .ref (t 1)) (C := RX5) (T := TX5) (N := 9) hx hb hts hiX5 hown hK hP 0 rfl rfl 0 (by decide) f9 (fun _ h9 => h9) rfl dX5_takeToken_68 ?_
        refine lv_aload_n hx hb dX5_takeToken_71 rfl (lv_at hl 0 rfl) ?_
        refine va_get (D := D) (ci := 5) (v := .int (nI (tk_skip tx ln (ln + 1) pl))) (C := RX5) (T := TX5) (N := 9) hx hb hts hiX5 hown hK hP 0 rfl rfl 2 (by decide) f19 (fun _ h9 => h9) rfl dX5_takeToken_72 ?_
        refine ly_cald hx hb hK hP 1 1 rfl rfl (k := (tk_skip tx ln (ln + 1) pl)) (by decide) rfl (by first | omega | (have hz_ := htx; omega)) dX5_takeToken_75 ?_
        have hPc_76 := hP.sub (ws' := []) [] rfl
        refine ly_r (va_runS (As := [.int (nI (tx (tk_skip tx ln (ln + 1) pl)))]) (rest := []) ⟨hx, hb, hml, hown, hts⟩ (c_X5_isDigit l D cI cC cZ cN (nI (tx (tk_skip tx ln (ln + 1) pl)))) (va_cwS 1 hts gX5_takeToken_X5_isDigit rfl rfl rfl (by decide +kernel) ⟨Nat.le_of_ble_eq_true rfl, Nat.le_of_ble_eq_true rfl⟩) (ly_ps hK hN hPc_76) rfl rfl hl.1 rfl (lv_room (Nat.le_of_ble_eq_true rfl)) dX5_takeToken_76 ⟨Nat.zero_le _, Nat.zero_le _⟩) ?_
        refine lv_if_eq (tgt := 89) hx hb dX5_takeToken_79 (by decide) (fun c_2 => ?_) (fun c_2 => ?_)
        · refine lv_aload_n hx hb dX5_takeToken_89 rfl (lv_at hl 0 rfl) ?_
          refine lv_aload_n hx hb dX5_takeToken_90 rfl (lv_at hl 0 rfl) ?_
          refine va_get (D := D) (ci := 5) (v := .ref (t 1)) (C := RX5) (T := TX5) (N := 9) hx hb hts hiX5 hown hK hP 0 rfl rfl 0 (by decide) f9 (fun _ h9 => h9) rfl dX5_takeToken_91 ?_
          refine lv_aload_n hx hb dX5_takeToken_94 rfl (lv_at hl 0 rfl) ?_
          refine va_get (D := D) (ci := 5) (v := .int (nI (tk_skip tx ln (ln + 1) pl))) (C := RX5) (T := TX5) (N := 9) hx hb hts hiX5 hown hK hP 0 rfl rfl 2 (by decide) f19 (fun _ h9 => h9) rfl dX5_takeToken_95 ?_
          refine ly_cald hx hb hK hP 1 1 rfl rfl (k := (tk_skip tx ln (ln + 1) pl)) (by decide) rfl (by first | omega | (have hz_ := htx; omega)) dX5_takeToken_98 ?_
          refine va_put (D := D) (ci := 5) (v := .int (nI (tx (tk_skip tx ln (ln + 1) pl)))) (ty := .int) (C := RX5) (T := TX5) (N := 9) hx hb hts hiX5 tyX5 tyX5_ok nmX5 hown hK hP hD hS 0 rfl rfl 5 (by decide) f30 (fun _ h9 => h9) rfl (by decide +kernel) rfl rfl (Nat.le_of_ble_eq_true rfl) dX5_takeToken_99 (fun H locs hP hD hS => ?_)
          have hP : va_P D vwCl [((t 2), .inr (5, [.ref (t 1), .int (nI ln), .int (nI (tk_skip tx ln (ln + 1) pl)), iv, .ref (t 3), .int (nI (tx (tk_skip tx ln (ln + 1) pl))), .int (nI vl), .int (nI (tk_skip tx ln (ln + 1) pl)), .int (nI it)])), ((t 1), .inl (cC, 180, .inl (fun j => nI (tx j))))] H := hP
          have hD : va_D A [((t 2), .inr (5, [.ref (t 1), .int (nI ln), .int (nI (tk_skip tx ln (ln + 1) pl)), iv, .ref (t 3), .int (nI (tx (tk_skip tx ln (ln + 1) pl))), .int (nI vl), .int (nI (tk_skip tx ln (ln + 1) pl)), .int (nI it)])), ((t 1), .inl (cC, 180, .inl (fun j => nI (tx j))))] := hD
          refine lv_aload_n hx hb dX5_takeToken_102 rfl (lv_at hl 0 rfl) ?_
          refine lv_dup hx hb dX5_takeToken_103 rfl ?_
          refine va_get (D := D) (ci := 5) (v := .int (nI (tk_skip tx ln (ln + 1) pl))) (C := RX5) (T := TX5) (N := 9) hx hb hts hiX5 hown hK hP 0 rfl rfl 2 (by decide) f19 (fun _ h9 => h9) rfl dX5_takeToken_104 ?_
          refine lv_iconst (v := 1) hx hb dX5_takeToken_107 (by decide) ?_
          refine lv_iadd hx hb dX5_takeToken_108 ?_
          refine ly_eqi (show ((nI (tk_skip tx ln (ln + 1) pl)) + 1) = (nI ((tk_skip tx ln (ln + 1) pl) + 1)) from ly_add rfl rfl) ?_
          refine va_put (D := D) (ci := 5) (v := .int (nI ((tk_skip tx ln (ln + 1) pl) + 1))) (ty := .int) (C := RX5) (T := TX5) (N := 9) hx hb hts hiX5 tyX5 tyX5_ok nmX5 hown hK hP hD hS 0 rfl rfl 2 (by decide) f19 (fun _ h9 => h9) rfl (by decide +kernel) rfl rfl (Nat.le_of_ble_eq_true rfl) dX5_takeToken_109 (fun H locs hP hD hS => ?_)
          have hP : va_P D vwCl [((t 2), .inr (5, [.ref (t 1), .int (nI ln), .int (nI ((tk_skip tx ln (ln + 1) pl) + 1)), iv, .ref (t 3), .int (nI (tx (tk_skip tx ln (ln + 1) pl))), .int (nI vl), .int (nI (tk_skip tx ln (ln + 1) pl)), .int (nI it)])), ((t 1), .inl (cC, 180, .inl (fun j => nI (tx j))))] H := hP
          have hD : va_D A [((t 2), .inr (5, [.ref (t 1), .int (nI ln), .int (nI ((tk_skip tx ln (ln + 1) pl) + 1)), iv, .ref (t 3), .int (nI (tx (tk_skip tx ln (ln + 1) pl))), .int (nI vl), .int (nI (tk_skip tx ln (ln + 1) pl)), .int (nI it)])), ((t 1), .inl (cC, 180, .inl (fun j => nI (tx j))))] := hD
          exact W.vret hx hb hr (fun t_9 ht_9 _ => by rw [hQc]; exact ⟨_, [((t 2), .inr (5, [.ref (t 1), .int (nI ln), .int (nI ((tk_skip tx ln (ln + 1) pl) + 1)), iv, .ref (t 3), .int (nI (tx (tk_skip tx ln (ln + 1) pl))), .int (nI vl), .int (nI (tk_skip tx ln (ln + 1) pl)), .int (nI it)])), ((t 1), .inl (cC, 180, .inl (fun j => nI (tx j))))], rfl, ⟨(by first | rfl | (unfold tk_U; rw [if_pos c_1, if_pos c_2]; done) | (unfold tk_U; simp only [if_pos c_1, if_pos c_2]; done) | (unfold tk_U; rw [if_pos c_1, if_pos c_2]; rfl)), (by first | rfl | (unfold tk_U; rw [if_pos c_1, if_pos c_2]; done) | (unfold tk_U; simp only [if_pos c_1, if_pos c_2]; done) | (unfold tk_U; rw [if_pos c_1, if_pos c_2]; rfl))⟩, by simp only [List.map_cons, List.map_nil], by rw [ht_9]; exact hP.sub [0, 1] rfl, by rw [← hAe]; exact hS.F ht_9⟩) hS.2.2 dX5_takeToken_112
        · refine lv_aload_n hx hb dX5_takeToken_82 rfl (lv_at hl 0 rfl) ?_
          have hPc_83 := hP.sub (ws' := [((t 2), .inr (5, [.ref (t 1), .int (nI ln), .int (nI (tk_skip tx ln (ln + 1) pl)), iv, .ref (t 3), .int (nI tok), .int (nI vl), .int (nI (tk_skip tx ln (ln + 1) pl)), .int (nI it)])), ((t 1), .inl (cC, 180, .inl (fun j => nI (tx j))))]) [0, 1] rfl
          refine ly_m (wr := []) (va_runV (As := []) (rest := []) ⟨hx, hb, hml, hown, hts⟩ (c_X5_takeNumber l D cI cC cZ cN t tx iv ln (tk_skip tx ln (ln + 1) pl) tok vl (tk_skip tx ln (ln + 1) pl) it htx hln (by omega) (by omega) ((hD.sub [0, 1] (by decide) rfl).weaken (fun _ _ _ _ => trivial))) (cwV 0 hts gX5_takeToken_X5_takeNumber rfl rfl rfl (by decide +kernel) ⟨Nat.le_of_ble_eq_true rfl, Nat.le_of_ble_eq_true rfl⟩) (ly_pv hK hN hPc_83 0 5 rfl rfl rfl) rfl rfl hl.1 rfl (lv_room (Nat.le_of_ble_eq_true rfl)) dX5_takeToken_83 ⟨Nat.zero_le _, Nat.zero_le _⟩) hP hD hS [0, 1] [] rfl rfl (by decide) ?_
          rintro _ _ H locs ⟨rfl, rfl⟩ - hP hD hS
          have hP : va_P D vwCl [((t 2), .inr (5, [.ref (t 1), .int (nI ln), .int (nI ((tk_num tx ln (ln + 1) 0 (tk_skip tx ln (ln + 1) pl)).2)), iv, .ref (t 3), .int (nI (tk_tok tx (tk_skip tx ln (ln + 1) pl) (tk_num tx ln (ln + 1) 0 (tk_skip tx ln (ln + 1) pl)).1 (tk_num tx ln (ln + 1) 0 (tk_skip tx ln (ln + 1) pl)).2)), .int (nI ((tk_num tx ln (ln + 1) 0 (tk_skip tx ln (ln + 1) pl)).1)), .int (nI (tk_skip tx ln (ln + 1) pl)), .int (nI it)])), ((t 1), .inl (cC, 180, .inl (fun j => nI (tx j))))] H := hP
          have hD : va_D A [((t 2), .inr (5, [.ref (t 1), .int (nI ln), .int (nI ((tk_num tx ln (ln + 1) 0 (tk_skip tx ln (ln + 1) pl)).2)), iv, .ref (t 3), .int (nI (tk_tok tx (tk_skip tx ln (ln + 1) pl) (tk_num tx ln (ln + 1) 0 (tk_skip tx ln (ln + 1) pl)).1 (tk_num tx ln (ln + 1) 0 (tk_skip tx ln (ln + 1) pl)).2)), .int (nI ((tk_num tx ln (ln + 1) 0 (tk_skip tx ln (ln + 1) pl)).1)), .int (nI (tk_skip tx ln (ln + 1) pl)), .int (nI it)])), ((t 1), .inl (cC, 180, .inl (fun j => nI (tx j))))] := hD
          refine W.eq (g2 := F0 m 86 ls []) rfl ?_
          refine lv_goto (tgt := 112) hx hb dX5_takeToken_86 (by decide) ?_
          exact W.vret hx hb hr (fun t_9 ht_9 _ => by rw [hQc]; exact ⟨_, [((t 2), .inr (5, [.ref (t 1), .int (nI ln), .int (nI ((tk_num tx ln (ln + 1) 0 (tk_skip tx ln (ln + 1) pl)).2)), iv, .ref (t 3), .int (nI (tk_tok tx (tk_skip tx ln (ln + 1) pl) (tk_num tx ln (ln + 1) 0 (tk_skip tx ln (ln + 1) pl)).1 (tk_num tx ln (ln + 1) 0 (tk_skip tx ln (ln + 1) pl)).2)), .int (nI ((tk_num tx ln (ln + 1) 0 (tk_skip tx ln (ln + 1) pl)).1)), .int (nI (tk_skip tx ln (ln + 1) pl)), .int (nI it)])), ((t 1), .inl (cC, 180, .inl (fun j => nI (tx j))))], rfl, ⟨(by first | rfl | (unfold tk_U; rw [if_pos c_1, if_neg c_2]; done) | (unfold tk_U; simp only [if_pos c_1, if_neg c_2]; done) | (unfold tk_U; rw [if_pos c_1, if_neg c_2]; rfl)), (by first | rfl | (unfold tk_U; rw [if_pos c_1, if_neg c_2]; done) | (unfold tk_U; simp only [if_pos c_1, if_neg c_2]; done) | (unfold tk_U; rw [if_pos c_1, if_neg c_2]; rfl))⟩, by simp only [List.map_cons, List.map_nil], by rw [ht_9]; exact hP.sub [0, 1] rfl, by rw [← hAe]; exact hS.F ht_9⟩) hS.2.2 dX5_takeToken_112
      · have mc_1 : ¬ ((tk_skip tx ln (ln + 1) pl) < ln) := fun z_9 => c_1 ((nI_ltI (a := (tk_skip tx ln (ln + 1) pl)) (b := ln) (by first | omega | (have hz_ := htx; omega)) (by first | omega | (have hz_ := htx; omega))).mpr z_9)
        refine lv_aload_n hx hb dX5_takeToken_57 rfl (lv_at hl 0 rfl) ?_
        refine lv_sipush (v := 256) hx hb dX5_takeToken_58 (by decide) ?_
        refine va_put (D := D) (ci := 5) (v := .int 256) (ty := .int) (C := RX5) (T := TX5) (N := 9) hx hb hts hiX5 tyX5 tyX5_ok nmX5 hown hK hP hD hS 0 rfl rfl 5 (by decide) f30 (fun _ h9 => h9) rfl (by decide +kernel) rfl rfl (Nat.le_of_ble_eq_true rfl) dX5_takeToken_61 (fun H locs hP hD hS => ?_)
        have hP : va_P D vwCl [((t 2), .inr (5, [.ref (t 1), .int (nI ln), .int (nI (tk_skip tx ln (ln + 1) pl)), iv, .ref (t 3), .int 256, .int (nI vl), .int (nI (tk_skip tx ln (ln + 1) pl)), .int (nI it)])), ((t 1), .inl (cC, 180, .inl (fun j => nI (tx j))))] H := hP
        have hD : va_D A [((t 2), .inr (5, [.ref (t 1), .int (nI ln), .int (nI (tk_skip tx ln (ln + 1) pl)), iv, .ref (t 3), .int 256, .int (nI vl), .int (nI (tk_skip tx ln (ln + 1) pl)), .int (nI it)])), ((t 1), .inl (cC, 180, .inl (fun j => nI (tx j))))] := hD
        refine lv_goto (tgt := 112) hx hb dX5_takeToken_64 (by decide) ?_
        exact W.vret hx hb hr (fun t_9 ht_9 _ => by rw [hQc]; exact ⟨_, [((t 2), .inr (5, [.ref (t 1), .int (nI ln), .int (nI (tk_skip tx ln (ln + 1) pl)), iv, .ref (t 3), .int 256, .int (nI vl), .int (nI (tk_skip tx ln (ln + 1) pl)), .int (nI it)])), ((t 1), .inl (cC, 180, .inl (fun j => nI (tx j))))], rfl, ⟨(by first | rfl | (unfold tk_U; rw [if_neg c_1]; done) | (unfold tk_U; simp only [if_neg c_1]; done) | (unfold tk_U; rw [if_neg c_1]; rfl)), (by first | rfl | (unfold tk_U; rw [if_neg c_1]; done) | (unfold tk_U; simp only [if_neg c_1]; done) | (unfold tk_U; rw [if_neg c_1]; rfl))⟩, by simp only [List.map_cons, List.map_nil], by rw [ht_9]; exact hP.sub [0, 1] rfl, by rw [← hAe]; exact hS.F ht_9⟩) hS.2.2 dX5_takeToken_112
    have hloop_0 : ∀ (u_ : Nat) (v0_ : Nat), (ln + 1 ≤ v0_ + u_ ∧ v0_ ≤ ln) → tk_skip tx ln u_ v0_ = (tk_skip tx ln (ln + 1) pl) → ∀ (H : Heap) (locs : List Loc), va_P D vwCl [((t 2), .inr (5, [.ref (t 1), .int (nI ln), .int (nI v0_), iv, .ref (t 3), .int (nI tok), .int (nI vl), .int (nI st), .int (nI it)])), ((t 1), .inl (cC, 180, .inl (fun j => nI (tx j))))] H → va_D A [((t 2), .inr (5, [.ref (t 1), .int (nI ln), .int (nI v0_), iv, .ref (t 3), .int (nI tok), .int (nI vl), .int (nI st), .int (nI it)])), ((t 1), .inl (cC, 180, .inl (fun j => nI (tx j))))] → va_S A s.heap H locs → ∀ ls : Array Slot, lv_has ls 1 [(0, .ref (t 2))] → W p l e (headSpec wsX5_takeToken (ly_rm 3)).room s m av below meth c H locs 0 0 (MQ below Qc av s 0 0 A) (F0 m 0 ls []) := by
      intro u_
      induction u_ with
      | zero =>
        intro v0_ hinv_
        exact absurd hinv_ (by omega)
      | succ u_ ih_0 =>
        intro v0_ hinv_ hF_0 H locs hP hD hS ls hl
        have hv1 := hinv_.2
        have hty_ := htx v0_
        refine lv_aload_n hx hb dX5_takeToken_0 rfl (lv_at hl 0 rfl) ?_
        refine va_get (D := D) (ci := 5) (v := .int (nI v0_)) (C := RX5) (T := TX5) (N := 9) hx hb hts hiX5 hown hK hP 0 rfl rfl 2 (by decide) f19 (fun _ h9 => h9) rfl dX5_takeToken_1 ?_
        refine lv_aload_n hx hb dX5_takeToken_4 rfl (lv_at hl 0 rfl) ?_
        refine va_get (D := D) (ci := 5) (v := .int (nI ln)) (C := RX5) (T := TX5) (N := 9) hx hb hts hiX5 hown hK hP 0 rfl rfl 1 (by decide) f15 (fun _ h9 => h9) rfl dX5_takeToken_5 ?_
        refine lv_icmp_ge (tgt := 38) hx hb dX5_takeToken_8 (by decide) (fun c_3 => ?_) (fun c_3 => ?_)
        · have mc_3 : ln ≤ v0_ := (nI_leI (a := ln) (b := v0_) (by first | omega | (have hz_ := htx; omega)) (by first | omega | (have hz_ := htx; omega))).mp c_3
          have e_4 : v0_ = (tk_skip tx ln (ln + 1) pl) := by rw [← hF_0, tk_skip_s, if_pos c_3]
          exact hexit_0 H locs (by rw [← e_4]; exact hP.sub [0, 1] rfl) (by rw [← e_4]; exact hD.sub [0, 1] (by decide) rfl) hS ls (by first | exact lv_sub hl [0] rfl | (rw [← e_4]; exact lv_sub hl [0] rfl))
        · have mc_3 : ¬ (ln ≤ v0_) := fun z_9 => c_3 ((nI_leI (a := ln) (b := v0_) (by first | omega | (have hz_ := htx; omega)) (by first | omega | (have hz_ := htx; omega))).mpr z_9)
          refine lv_aload_n hx hb dX5_takeToken_11 rfl (lv_at hl 0 rfl) ?_
          refine va_get (D := D) (ci := 5) (v := .ref (t 1)) (C := RX5) (T := TX5) (N := 9) hx hb hts hiX5 hown hK hP 0 rfl rfl 0 (by decide) f9 (fun _ h9 => h9) rfl dX5_takeToken_12 ?_
          refine lv_aload_n hx hb dX5_takeToken_15 rfl (lv_at hl 0 rfl) ?_
          refine va_get (D := D) (ci := 5) (v := .int (nI v0_)) (C := RX5) (T := TX5) (N := 9) hx hb hts hiX5 hown hK hP 0 rfl rfl 2 (by decide) f19 (fun _ h9 => h9) rfl dX5_takeToken_16 ?_
          refine ly_cald hx hb hK hP 1 1 rfl rfl (k := v0_) (by decide) rfl (by first | omega | (have hz_ := htx; omega)) dX5_takeToken_19 ?_
          refine lv_bipush (v := 32) hx hb dX5_takeToken_20 (by decide) ?_
          refine lv_icmp_ne (tgt := 38) hx hb dX5_takeToken_22 (by decide) (fun c_5 => ?_) (fun c_5 => ?_)
          · have mc_5 : ¬ ((tx v0_) = 32) := fun z_9 => c_5 ((nI_eq (a := tx v0_) (b := 32) (by first | omega | (have hz_ := htx; omega)) (by first | omega | (have hz_ := htx; omega))).mpr z_9)
            have e_6 : v0_ = (tk_skip tx ln (ln + 1) pl) := by rw [← hF_0, tk_skip_s, if_neg c_3, if_neg c_5]
            exact hexit_0 H locs (by rw [← e_6]; exact hP.sub [0, 1] rfl) (by rw [← e_6]; exact hD.sub [0, 1] (by decide) rfl) hS ls (by first | exact lv_sub hl [0] rfl | (rw [← e_6]; exact lv_sub hl [0] rfl))
          · have mc_5 : (tx v0_) = 32 := (nI_eq (a := tx v0_) (b := 32) (by first | omega | (have hz_ := htx; omega)) (by first | omega | (have hz_ := htx; omega))).mp c_5
            refine lv_aload_n hx hb dX5_takeToken_25 rfl (lv_at hl 0 rfl) ?_
            refine lv_dup hx hb dX5_takeToken_26 rfl ?_
            refine va_get (D := D) (ci := 5) (v := .int (nI v0_)) (C := RX5) (T := TX5) (N := 9) hx hb hts hiX5 hown hK hP 0 rfl rfl 2 (by decide) f19 (fun _ h9 => h9) rfl dX5_takeToken_27 ?_
            refine lv_iconst (v := 1) hx hb dX5_takeToken_30 (by decide) ?_
            refine lv_iadd hx hb dX5_takeToken_31 ?_
            refine ly_eqi (show ((nI v0_) + 1) = (nI (v0_ + 1)) from ly_add rfl rfl) ?_
            refine va_put (D := D) (ci := 5) (v := .int (nI (v0_ + 1))) (ty := .int) (C := RX5) (T := TX5) (N := 9) hx hb hts hiX5 tyX5 tyX5_ok nmX5 hown hK hP hD hS 0 rfl rfl 2 (by decide) f19 (fun _ h9 => h9) rfl (by decide +kernel) rfl rfl (Nat.le_of_ble_eq_true rfl) dX5_takeToken_32 (fun H locs hP hD hS => ?_)
            have hP : va_P D vwCl [((t 2), .inr (5, [.ref (t 1), .int (nI ln), .int (nI (v0_ + 1)), iv, .ref (t 3), .int (nI tok), .int (nI vl), .int (nI st), .int (nI it)])), ((t 1), .inl (cC, 180, .inl (fun j => nI (tx j))))] H := hP
            have hD : va_D A [((t 2), .inr (5, [.ref (t 1), .int (nI ln), .int (nI (v0_ + 1)), iv, .ref (t 3), .int (nI tok), .int (nI vl), .int (nI st), .int (nI it)])), ((t 1), .inl (cC, 180, .inl (fun j => nI (tx j))))] := hD
            refine lv_goto (tgt := 0) hx hb dX5_takeToken_35 (by decide) ?_
            exact ih_0 (v0_ + 1) (by omega) (by rw [← hF_0, tk_skip_s, if_neg c_3, if_pos c_5]) H locs (hP.sub [0, 1] rfl) (hD.sub [0, 1] (by decide) rfl) hS ls (lv_sub hl [0] rfl)
    exact hloop_0 (ln + 1) pl (by omega) rfl H locs (hP.sub [0, 1] rfl) (hD.sub [0, 1] (by decide) rfl) hS ls (lv_sub hl [0] rfl)
  exact hmain _ _ hP va_S.rf

/-- the next token: where it ends, which it is, its value, where it starts -/
def tk_T (tx : Nat → Nat) (ln pl vl : Nat) : Nat × Nat × Nat × Nat := tk_U tx ln vl (tk_skip tx ln (ln + 1) pl)
theorem tk_T_le (tx : Nat → Nat) (ln pl vl : Nat) (htx : ∀ j, tx j < 256) (hln : ln ≤ 180) (hpl : pl ≤ ln) : (tk_T tx ln pl vl).1 ≤ ln := by
  have h1 := tk_skip_le tx ln hln (ln + 1) pl hpl
  unfold tk_T tk_U
  split
  · rename_i hc
    have hlt := (nI_ltI (by omega) (by omega)).mp hc
    split
    · exact hlt
    · exact (tk_num_le tx ln htx hln (ln + 1) 0 _ (by omega) h1).2.1
  · exact h1
theorem tk_T_vl (tx : Nat → Nat) (ln pl vl : Nat) (htx : ∀ j, tx j < 256) (hln : ln ≤ 180) (hpl : pl ≤ ln) (hv : vl ≤ 100) : (tk_T tx ln pl vl).2.2.1 ≤ 100 := by
  have h1 := tk_skip_le tx ln hln (ln + 1) pl hpl
  unfold tk_T tk_U
  split
  · split
    · exact hv
    · exact (tk_num_le tx ln htx hln (ln + 1) 0 _ (by omega) h1).1
  · exact hv
