/-- numbers, each within its bounds: whether they all stand there; where the reader is; the numbers -/
def rnL (tx : Nat → Nat) (ln : Nat) : List (Int32 × Int32) → Nat → (Nat × Nat × Nat × Nat) → (Nat → Nat) → Int32 × (Nat × Nat × Nat × Nat) × (Nat → Nat)
  | [], _, r1, nm => (1, r1, nm)
  | b :: bs, i, r1, nm => if (nI ((tk_T tx ln r1.1 r1.2.2.1).2.1)) = 257 then (if (jin (nI ((tk_T tx ln r1.1 r1.2.2.1).2.2.1)) b.1 b.2) = 0 then (0, tk_T tx ln r1.1 r1.2.2.1, nm) else rnL tx ln bs (i + 1) (tk_T tx ln r1.1 r1.2.2.1) (va_up nm i (tk_T tx ln r1.1 r1.2.2.1).2.2.1)) else (0, tk_T tx ln r1.1 r1.2.2.1, nm)

set_option maxHeartbeats 4000000 in
set_option maxRecDepth 100000 in
theorem c_X5_readsNumbers_k (l : Launch) (D : va_G) (cI cC cZ cN : ClassId) (ta tb : Nat) (t tx nm : Nat → Nat) (iv : Value) (ln pl tok vl st it : Nat) (htx : ∀ j, tx j < 256) (hln : ln ≤ 180) (hpl : pl ≤ ln) (hD0 : va_D (fun _ => True) [((t 2), .inr (5, [.ref (t 1), .int (nI ln), .int (nI pl), iv, .ref (t 3), .int (nI tok), .int (nI vl), .int (nI st), .int (nI it)])), ((t 1), .inl (cC, 180, .inl (fun j => nI (tx j)))), ((t 3), .inl (cI, 3, .inl (fun j => nI (nm j))))]) : Met l yX5_readsNumbers wsX5_readsNumbers (ly_rm 4) (ly_PreX D (ly_tys cI cC cZ cN) [((t 2), .inr (5, [.ref (t 1), .int (nI ln), .int (nI pl), iv, .ref (t 3), .int (nI tok), .int (nI vl), .int (nI st), .int (nI it)])), ((t 1), .inl (cC, 180, .inl (fun j => nI (tx j)))), ((t 3), .inl (cI, 3, .inl (fun j => nI (nm j))))] [.ref (t 2), .ref ta, .ref tb] (st_T ta tb 3 3 [0, 0, 1] [1, 4, 60] (ly_in [((t 2), .inr (5, [.ref (t 1), .int (nI ln), .int (nI pl), iv, .ref (t 3), .int (nI tok), .int (nI vl), .int (nI st), .int (nI it)])), ((t 1), .inl (cC, 180, .inl (fun j => nI (tx j)))), ((t 3), .inl (cI, 3, .inl (fun j => nI (nm j))))]))) (ly_Q D [((t 2), .inr (5, [.ref (t 1), .int (nI ln), .int (nI pl), iv, .ref (t 3), .int (nI tok), .int (nI vl), .int (nI st), .int (nI it)])), ((t 1), .inl (cC, 180, .inl (fun j => nI (tx j)))), ((t 3), .inl (cI, 3, .inl (fun j => nI (nm j))))] (fun r_9 w_9 => r_9 = some (.int (rnL tx ln [(0, 1), (0, 4), (1, 60)] 0 (pl, tok, vl, st) nm).1) ∧ w_9 = [((t 2), .inr (5, [.ref (t 1), .int (nI ln), .int (nI ((rnL tx ln [(0, 1), (0, 4), (1, 60)] 0 (pl, tok, vl, st) nm).2.1.1)), iv, .ref (t 3), .int (nI ((rnL tx ln [(0, 1), (0, 4), (1, 60)] 0 (pl, tok, vl, st) nm).2.1.2.1)), .int (nI ((rnL tx ln [(0, 1), (0, 4), (1, 60)] 0 (pl, tok, vl, st) nm).2.1.2.2.1)), .int (nI ((rnL tx ln [(0, 1), (0, 4), (1, 60)] 0 (pl, tok, vl, st) nm).2.1.2.2.2)), .int (nI it)])), ((t 1), .inl (cC, 180, .inl (fun j => nI (tx j)))), ((t 3), .inl (cI, 3, .inl (fun j => nI ((rnL tx ln [(0, 1), (0, 4), (1, 60)] 0 (pl, tok, vl, st) nm).2.2 j))))])) 0 0 (ly_in [((t 2), .inr (5, [.ref (t 1), .int (nI ln), .int (nI pl), iv, .ref (t 3), .int (nI tok), .int (nI vl), .int (nI st), .int (nI it)])), ((t 1), .inl (cC, 180, .inl (fun j => nI (tx j)))), ((t 3), .inl (cI, 3, .inl (fun j => nI (nm j))))]) := by
  refine Met.ofW (cc := cX5_readsNumbers) (maxL := 4) (ret := (some .boolean)) (by decide) rfl ?_
  intro p e s m args below meth c s₁ B hml hv
  obtain ⟨⟨rfl, hP, hK, hN⟩, hX⟩ := hv
  have hx := B.exec
  have hb := B.bytes
  have hr := B.returns
  have hts := atoms_spec (ws := wsX5_readsNumbers) B.pre
  have hown : s.vm.findClass RX5 = some m.cls := findClass_of_methodNamed B.named
  have hlocks := B.notSynchronized
  have hl := lv_entry ([.ref (t 2), .ref ta, .ref tb]) (n := 4) (Nat.le_of_ble_eq_true rfl)
  rw [lg_entry_eq]
  generalize (lg_sl ([.ref (t 2), .ref ta, .ref tb]) ++ List.replicate (4 - (lg_sl ([.ref (t 2), .ref ta, .ref tb])).length) Slot.unset).toArray = ls at hl ⊢
  have hl : lv_has ls 4 [(0, .ref (t 2)), (1, .ref ta), (2, .ref tb)] := hl
  generalize ([.ref (t 2), .ref ta, .ref tb] : List Value).toArray = av at hts ⊢
  obtain ⟨Qc, hQc⟩ : ∃ Qc, Qc = (ly_Q D [((t 2), .inr (5, [.ref (t 1), .int (nI ln), .int (nI pl), iv, .ref (t 3), .int (nI tok), .int (nI vl), .int (nI st), .int (nI it)])), ((t 1), .inl (cC, 180, .inl (fun j => nI (tx j)))), ((t 3), .inl (cI, 3, .inl (fun j => nI (nm j))))] (fun r_9 w_9 => r_9 = some (.int (rnL tx ln [(0, 1), (0, 4), (1, 60)] 0 (pl, tok, vl, st) nm).1) ∧ w_9 = [((t 2), .inr (5, [.ref (t 1), .int (nI ln), .int (nI ((rnL tx ln [(0, 1), (0, 4), (1, 60)] 0 (pl, tok, vl, st) nm).2.1.1)), iv, .ref (t 3), .int (nI ((rnL tx ln [(0, 1), (0, 4), (1, 60)] 0 (pl, tok, vl, st) nm).2.1.2.1)), .int (nI ((rnL tx ln [(0, 1), (0, 4), (1, 60)] 0 (pl, tok, vl, st) nm).2.1.2.2.1)), .int (nI ((rnL tx ln [(0, 1), (0, 4), (1, 60)] 0 (pl, tok, vl, st) nm).2.1.2.2.2)), .int (nI it)])), ((t 1), .inl (cC, 180, .inl (fun j => nI (tx j)))), ((t 3), .inl (cI, 3, .inl (fun j => nI ((rnL tx ln [(0, 1), (0, 4), (1, 60)] 0 (pl, tok, vl, st) nm).2.2 j))))])) := ⟨_, rfl⟩
  rw [← hQc]
  obtain ⟨A, hAe⟩ : ∃ A, A = ly_in [((t 2), .inr (5, [.ref (t 1), .int (nI ln), .int (nI pl), iv, .ref (t 3), .int (nI tok), .int (nI vl), .int (nI st), .int (nI it)])), ((t 1), .inl (cC, 180, .inl (fun j => nI (tx j)))), ((t 3), .inl (cI, 3, .inl (fun j => nI (nm j))))] := ⟨_, rfl⟩
  rw [← hAe]
  have hD := ly_self hD0
  rw [← hAe] at hD
  rw [← hAe] at hX
  obtain ⟨hTa, hTb⟩ := hX
  have f26 := hts (.fieldLink RX5 26 "KneesLent$Reader" "numbers" "[I") (by decide +kernel)
  have f30 := hts (.fieldLink RX5 30 "KneesLent$Reader" "token" "I") (by decide +kernel)
  have f33 := hts (.fieldLink RX5 33 "KneesLent$Reader" "value" "I") (by decide +kernel)
  have hiX5 : ∀ w ∈ u_ws RX5 TX5 9, w ∈ wsX5_readsNumbers := by decide +kernel
  have hmain : ∀ (H : Heap) (locs : List Loc), va_P D vwCl [((t 2), .inr (5, [.ref (t 1), .int (nI ln), .int (nI pl), iv, .ref (t 3), .int (nI tok), .int (nI vl), .int (nI st), .int (nI it)])), ((t 1), .inl (cC, 180, .inl (fun j => nI (tx j)))), ((t 3), .inl (cI, 3, .inl (fun j => nI (nm j))))] H → va_S A s.heap H locs → W p l e (headSpec wsX5_readsNumbers (ly_rm 4)).room s m av below meth c H locs 0 0 (MQ below Qc av s 0 0 A) (F0 m 0 ls []) := by
    intro H locs hP hS
    refine lv_iconst (v := 0) hx hb dX5_readsNumbers_0 (by decide) ?_
    refine lv_istore_n (lv' := [(3, .int 0), (0, .ref (t 2)), (1, .ref ta), (2, .ref tb)]) hx hb dX5_readsNumbers_1 rfl hl (by decide) rfl (fun ls hl => ?_)
    refine lv_iload_n hx hb dX5_readsNumbers_2 rfl (lv_at hl 0 rfl) ?_
    refine lv_aload_n hx hb dX5_readsNumbers_3 rfl (lv_at hl 2 rfl) ?_
    refine va_tlen (v := 3) hx hb hTa hS rfl dX5_readsNumbers_4 ?_
    refine lv_icmp_ge (tgt := 71) hx hb dX5_readsNumbers_5 (by decide) (fun h_9 => absurd h_9 (by decide)) (fun _ => ?_)
    refine lv_iload_n hx hb dX5_readsNumbers_8 rfl (lv_at hl 0 rfl) ?_
    refine lv_aload_n hx hb dX5_readsNumbers_9 rfl (lv_at hl 3 rfl) ?_
    refine va_tlen (v := 3) hx hb hTb hS rfl dX5_readsNumbers_10 ?_
    refine lv_icmp_ge (tgt := 71) hx hb dX5_readsNumbers_11 (by decide) (fun h_9 => absurd h_9 (by decide)) (fun _ => ?_)
    refine lv_iload_n hx hb dX5_readsNumbers_14 rfl (lv_at hl 0 rfl) ?_
    refine lv_aload_n hx hb dX5_readsNumbers_15 rfl (lv_at hl 1 rfl) ?_
    refine va_get (D := D) (ci := 5) (v := .ref (t 3)) (C := RX5) (T := TX5) (N := 9) hx hb hts hiX5 hown hK hP 0 rfl rfl 4 (by decide) f26 (fun _ h9 => h9) rfl dX5_readsNumbers_16 ?_
    refine va_alen (v := 3) hx hb hK hP 2 0 rfl rfl rfl dX5_readsNumbers_19 ?_
    refine lv_icmp_ge (tgt := 71) hx hb dX5_readsNumbers_20 (by decide) (fun h_9 => absurd h_9 (by decide)) (fun _ => ?_)
    refine lv_aload_n hx hb dX5_readsNumbers_23 rfl (lv_at hl 1 rfl) ?_
    have hPc_24 := hP.sub (ws' := [((t 2), .inr (5, [.ref (t 1), .int (nI ln), .int (nI pl), iv, .ref (t 3), .int (nI tok), .int (nI vl), .int (nI st), .int (nI it)])), ((t 1), .inl (cC, 180, .inl (fun j => nI (tx j))))]) [0, 1] rfl
    refine ly_m (wr := [((t 3), .inl (cI, 3, .inl (fun j => nI (nm j))))]) (va_runV (As := []) (rest := []) ⟨hx, hb, hml, hown, hts⟩ (c_X5_takeToken l D cI cC cZ cN t tx iv ln pl tok vl st it htx hln (by omega) ((hD.sub [0, 1] (by decide) rfl).weaken (fun _ _ _ _ => trivial))) (cwV 0 hts gX5_readsNumbers_X5_takeToken rfl rfl rfl (by decide +kernel) ⟨Nat.le_of_ble_eq_true rfl, Nat.le_of_ble_eq_true rfl⟩) (ly_pv hK hN hPc_24 0 5 rfl rfl rfl) rfl rfl hl.1 rfl (lv_room (Nat.le_of_ble_eq_true rfl)) dX5_readsNumbers_24 ⟨Nat.zero_le _, Nat.zero_le _⟩) hP hD hS [0, 1] [2] rfl rfl (by decide) ?_
    rintro _ _ H locs ⟨rfl, rfl⟩ - hP hD hS
    have hT_24 := tk_T_le tx ln pl vl htx hln (by omega)
    have hP : va_P D vwCl [((t 3), .inl (cI, 3, .inl (fun j => nI (nm j)))), ((t 2), .inr (5, [.ref (t 1), .int (nI ln), .int (nI ((tk_T tx ln pl vl).1)), iv, .ref (t 3), .int (nI ((tk_T tx ln pl vl).2.1)), .int (nI ((tk_T tx ln pl vl).2.2.1)), .int (nI ((tk_T tx ln pl vl).2.2.2)), .int (nI it)])), ((t 1), .inl (cC, 180, .inl (fun j => nI (tx j))))] H := hP
    have hD : va_D A [((t 3), .inl (cI, 3, .inl (fun j => nI (nm j)))), ((t 2), .inr (5, [.ref (t 1), .int (nI ln), .int (nI ((tk_T tx ln pl vl).1)), iv, .ref (t 3), .int (nI ((tk_T tx ln pl vl).2.1)), .int (nI ((tk_T tx ln pl vl).2.2.1)), .int (nI ((tk_T tx ln pl vl).2.2.2)), .int (nI it)])), ((t 1), .inl (cC, 180, .inl (fun j => nI (tx j))))] := hD
    refine W.eq (g2 := F0 m 27 ls []) rfl ?_
    refine lv_aload_n hx hb dX5_readsNumbers_27 rfl (lv_at hl 1 rfl) ?_
    refine va_get (D := D) (ci := 5) (v := .int (nI ((tk_T tx ln pl vl).2.1))) (C := RX5) (T := TX5) (N := 9) hx hb hts hiX5 hown hK hP 1 rfl rfl 5 (by decide) f30 (fun _ h9 => h9) rfl dX5_readsNumbers_28 ?_
    refine lv_sipush (v := 257) hx hb dX5_readsNumbers_31 (by decide) ?_
    refine lv_icmp_ne (tgt := 53) hx hb dX5_readsNumbers_34 (by decide) (fun c_1 => ?_) (fun c_1 => ?_)
    · refine lv_iconst (v := 0) hx hb dX5_readsNumbers_53 (by decide) ?_
      have e_2 : (0, (tk_T tx ln pl vl), nm) = (rnL tx ln [(0, 1), (0, 4), (1, 60)] 0 (pl, tok, vl, st) nm) := (by simp only [rnL, if_neg c_1])
      exact W.zret (v := 0) hx hb hr rfl (fun t_9 ht_9 _ => by rw [hQc]; exact ⟨_, [((t 2), .inr (5, [.ref (t 1), .int (nI ln), .int (nI ((tk_T tx ln pl vl).1)), iv, .ref (t 3), .int (nI ((tk_T tx ln pl vl).2.1)), .int (nI ((tk_T tx ln pl vl).2.2.1)), .int (nI ((tk_T tx ln pl vl).2.2.2)), .int (nI it)])), ((t 1), .inl (cC, 180, .inl (fun j => nI (tx j)))), ((t 3), .inl (cI, 3, .inl (fun j => nI (nm j))))], rfl, ⟨(by rw [← e_2]), (by rw [← e_2])⟩, rfl, by rw [ht_9]; exact hP.sub [1, 2, 0] rfl, by rw [← hAe]; exact hS.F ht_9⟩) hS.2.2 dX5_readsNumbers_54
    · refine lv_aload_n hx hb dX5_readsNumbers_37 rfl (lv_at hl 1 rfl) ?_
      refine va_get (D := D) (ci := 5) (v := .int (nI ((tk_T tx ln pl vl).2.2.1))) (C := RX5) (T := TX5) (N := 9) hx hb hts hiX5 hown hK hP 1 rfl rfl 6 (by decide) f33 (fun _ h9 => h9) rfl dX5_readsNumbers_38 ?_
      refine lv_aload_n hx hb dX5_readsNumbers_41 rfl (lv_at hl 2 rfl) ?_
      refine lv_iload_n hx hb dX5_readsNumbers_42 rfl (lv_at hl 0 rfl) ?_
      refine va_ti (v := .int 0) hx hb hTa hS (show vp_in 0 3 from vp_in_nI (n := 0) (by decide) (by decide)) rfl dX5_readsNumbers_43 ?_
      refine lv_aload_n hx hb dX5_readsNumbers_44 rfl (lv_at hl 3 rfl) ?_
      refine lv_iload_n hx hb dX5_readsNumbers_45 rfl (lv_at hl 0 rfl) ?_
      refine va_ti (v := .int 1) hx hb hTb hS (show vp_in 0 3 from vp_in_nI (n := 0) (by decide) (by decide)) rfl dX5_readsNumbers_46 ?_
      have hPc_47 := hP.sub (ws' := []) [] rfl
      refine ly_r (va_runSN (As := [.int (nI ((tk_T tx ln pl vl).2.2.1)), .int 0, .int 1]) (rest := []) ⟨hx, hb, hml, hown, hts⟩ (c_X6_within l D cI cC cZ cN (nI ((tk_T tx ln pl vl).2.2.1)) 0 1) ⟨va_cnB 3 hts gX5_readsNumbers_X6_within_n108 rfl rfl rfl hN.2.2.2.2.2.1 (hts (.initialized RX6) (by decide +kernel)) (by decide +kernel) ⟨Nat.le_of_ble_eq_true rfl, Nat.le_of_ble_eq_true rfl⟩, hts (.static yX6_within) (by decide +kernel), trivial⟩ (ly_ps hK hN hPc_47) rfl rfl hl.1 rfl (lv_room (Nat.le_of_ble_eq_true rfl)) dX5_readsNumbers_47 ⟨Nat.zero_le _, Nat.zero_le _⟩) ?_
      refine lv_if_ne (tgt := 55) hx hb dX5_readsNumbers_50 (by decide) (fun c_3 => ?_) (fun c_3 => ?_)
      · refine lv_aload_n hx hb dX5_readsNumbers_55 rfl (lv_at hl 1 rfl) ?_
        refine va_get (D := D) (ci := 5) (v := .ref (t 3)) (C := RX5) (T := TX5) (N := 9) hx hb hts hiX5 hown hK hP 1 rfl rfl 4 (by decide) f26 (fun _ h9 => h9) rfl dX5_readsNumbers_56 ?_
        refine lv_iload_n hx hb dX5_readsNumbers_59 rfl (lv_at hl 0 rfl) ?_
        refine lv_aload_n hx hb dX5_readsNumbers_60 rfl (lv_at hl 1 rfl) ?_
        refine va_get (D := D) (ci := 5) (v := .int (nI ((tk_T tx ln pl vl).2.2.1))) (C := RX5) (T := TX5) (N := 9) hx hb hts hiX5 hown hK hP 1 rfl rfl 6 (by decide) f33 (fun _ h9 => h9) rfl dX5_readsNumbers_61 ?_
        refine ly_iastN hx hb hK hP hD hS 0 0 rfl rfl (k := 0) (v := (tk_T tx ln pl vl).2.2.1) (by decide) rfl (by omega) rfl dX5_readsNumbers_64 (fun H locs hP hD hS => ?_)
        have hP : va_P D vwCl [((t 3), .inl (cI, 3, .inl (fun j => nI ((va_up nm 0 ((tk_T tx ln pl vl).2.2.1)) j)))), ((t 2), .inr (5, [.ref (t 1), .int (nI ln), .int (nI ((tk_T tx ln pl vl).1)), iv, .ref (t 3), .int (nI ((tk_T tx ln pl vl).2.1)), .int (nI ((tk_T tx ln pl vl).2.2.1)), .int (nI ((tk_T tx ln pl vl).2.2.2)), .int (nI it)])), ((t 1), .inl (cC, 180, .inl (fun j => nI (tx j))))] H := hP
        have hD : va_D A [((t 3), .inl (cI, 3, .inl (fun j => nI ((va_up nm 0 ((tk_T tx ln pl vl).2.2.1)) j)))), ((t 2), .inr (5, [.ref (t 1), .int (nI ln), .int (nI ((tk_T tx ln pl vl).1)), iv, .ref (t 3), .int (nI ((tk_T tx ln pl vl).2.1)), .int (nI ((tk_T tx ln pl vl).2.2.1)), .int (nI ((tk_T tx ln pl vl).2.2.2)), .int (nI it)])), ((t 1), .inl (cC, 180, .inl (fun j => nI (tx j))))] := hD
        refine lv_iinc (v := 1) (lv' := [(3, .int 1), (0, .ref (t 2)), (1, .ref ta), (2, .ref tb)]) hx hb dX5_readsNumbers_65 hl (k := 0) rfl (by decide) (by decide) rfl (fun ls hl => ?_)
        refine lv_goto (tgt := 2) hx hb dX5_readsNumbers_68 (by decide) ?_
        refine lv_iload_n hx hb dX5_readsNumbers_2 rfl (lv_at hl 0 rfl) ?_
        refine lv_aload_n hx hb dX5_readsNumbers_3 rfl (lv_at hl 2 rfl) ?_
        refine va_tlen (v := 3) hx hb hTa hS rfl dX5_readsNumbers_4 ?_
        refine lv_icmp_ge (tgt := 71) hx hb dX5_readsNumbers_5 (by decide) (fun h_9 => absurd h_9 (by decide)) (fun _ => ?_)
        refine lv_iload_n hx hb dX5_readsNumbers_8 rfl (lv_at hl 0 rfl) ?_
        refine lv_aload_n hx hb dX5_readsNumbers_9 rfl (lv_at hl 3 rfl) ?_
        refine va_tlen (v := 3) hx hb hTb hS rfl dX5_readsNumbers_10 ?_
        refine lv_icmp_ge (tgt := 71) hx hb dX5_readsNumbers_11 (by decide) (fun h_9 => absurd h_9 (by decide)) (fun _ => ?_)
        refine lv_iload_n hx hb dX5_readsNumbers_14 rfl (lv_at hl 0 rfl) ?_
        refine lv_aload_n hx hb dX5_readsNumbers_15 rfl (lv_at hl 1 rfl) ?_
        refine va_get (D := D) (ci := 5) (v := .ref (t 3)) (C := RX5) (T := TX5) (N := 9) hx hb hts hiX5 hown hK hP 1 rfl rfl 4 (by decide) f26 (fun _ h9 => h9) rfl dX5_readsNumbers_16 ?_
        refine va_alen (v := 3) hx hb hK hP 0 0 rfl rfl rfl dX5_readsNumbers_19 ?_
        refine lv_icmp_ge (tgt := 71) hx hb dX5_readsNumbers_20 (by decide) (fun h_9 => absurd h_9 (by decide)) (fun _ => ?_)
        refine lv_aload_n hx hb dX5_readsNumbers_23 rfl (lv_at hl 1 rfl) ?_
        have hPc_24 := hP.sub (ws' := [((t 2), .inr (5, [.ref (t 1), .int (nI ln), .int (nI ((tk_T tx ln pl vl).1)), iv, .ref (t 3), .int (nI ((tk_T tx ln pl vl).2.1)), .int (nI ((tk_T tx ln pl vl).2.2.1)), .int (nI ((tk_T tx ln pl vl).2.2.2)), .int (nI it)])), ((t 1), .inl (cC, 180, .inl (fun j => nI (tx j))))]) [1, 2] rfl
        refine ly_m (wr := [((t 3), .inl (cI, 3, .inl (fun j => nI ((va_up nm 0 ((tk_T tx ln pl vl).2.2.1)) j))))]) (va_runV (As := []) (rest := []) ⟨hx, hb, hml, hown, hts⟩ (c_X5_takeToken l D cI cC cZ cN t tx iv ln ((tk_T tx ln pl vl).1) ((tk_T tx ln pl vl).2.1) ((tk_T tx ln pl vl).2.2.1) ((tk_T tx ln pl vl).2.2.2) it htx hln (by omega) ((hD.sub [1, 2] (by decide) rfl).weaken (fun _ _ _ _ => trivial))) (cwV 0 hts gX5_readsNumbers_X5_takeToken rfl rfl rfl (by decide +kernel) ⟨Nat.le_of_ble_eq_true rfl, Nat.le_of_ble_eq_true rfl⟩) (ly_pv hK hN hPc_24 0 5 rfl rfl rfl) rfl rfl hl.1 rfl (lv_room (Nat.le_of_ble_eq_true rfl)) dX5_readsNumbers_24 ⟨Nat.zero_le _, Nat.zero_le _⟩) hP hD hS [1, 2] [0] rfl rfl (by decide) ?_
        rintro _ _ H locs ⟨rfl, rfl⟩ - hP hD hS
        have hT_24 := tk_T_le tx ln ((tk_T tx ln pl vl).1) ((tk_T tx ln pl vl).2.2.1) htx hln (by omega)
        have hP : va_P D vwCl [((t 3), .inl (cI, 3, .inl (fun j => nI ((va_up nm 0 ((tk_T tx ln pl vl).2.2.1)) j)))), ((t 2), .inr (5, [.ref (t 1), .int (nI ln), .int (nI ((tk_T tx ln ((tk_T tx ln pl vl).1) ((tk_T tx ln pl vl).2.2.1)).1)), iv, .ref (t 3), .int (nI ((tk_T tx ln ((tk_T tx ln pl vl).1) ((tk_T tx ln pl vl).2.2.1)).2.1)), .int (nI ((tk_T tx ln ((tk_T tx ln pl vl).1) ((tk_T tx ln pl vl).2.2.1)).2.2.1)), .int (nI ((tk_T tx ln ((tk_T tx ln pl vl).1) ((tk_T tx ln pl vl).2.2.1)).2.2.2)), .int (nI it)])), ((t 1), .inl (cC, 180, .inl (fun j => nI (tx j))))] H := hP
        have hD : va_D A [((t 3), .inl (cI, 3, .inl (fun j => nI ((va_up nm 0 ((tk_T tx ln pl vl).2.2.1)) j)))), ((t 2), .inr (5, [.ref (t 1), .int (nI ln), .int (nI ((tk_T tx ln ((tk_T tx ln pl vl).1) ((tk_T tx ln pl vl).2.2.1)).1)), iv, .ref (t 3), .int (nI ((tk_T tx ln ((tk_T tx ln pl vl).1) ((tk_T tx ln pl vl).2.2.1)).2.1)), .int (nI ((tk_T tx ln ((tk_T tx ln pl vl).1) ((tk_T tx ln pl vl).2.2.1)).2.2.1)), .int (nI ((tk_T tx ln ((tk_T tx ln pl vl).1) ((tk_T tx ln pl vl).2.2.1)).2.2.2)), .int (nI it)])), ((t 1), .inl (cC, 180, .inl (fun j => nI (tx j))))] := hD
        refine W.eq (g2 := F0 m 27 ls []) rfl ?_
        refine lv_aload_n hx hb dX5_readsNumbers_27 rfl (lv_at hl 1 rfl) ?_
        refine va_get (D := D) (ci := 5) (v := .int (nI ((tk_T tx ln ((tk_T tx ln pl vl).1) ((tk_T tx ln pl vl).2.2.1)).2.1))) (C := RX5) (T := TX5) (N := 9) hx hb hts hiX5 hown hK hP 1 rfl rfl 5 (by decide) f30 (fun _ h9 => h9) rfl dX5_readsNumbers_28 ?_
        refine lv_sipush (v := 257) hx hb dX5_readsNumbers_31 (by decide) ?_
        refine lv_icmp_ne (tgt := 53) hx hb dX5_readsNumbers_34 (by decide) (fun c_4 => ?_) (fun c_4 => ?_)
        · refine lv_iconst (v := 0) hx hb dX5_readsNumbers_53 (by decide) ?_
          have e_5 : (0, (tk_T tx ln ((tk_T tx ln pl vl).1) ((tk_T tx ln pl vl).2.2.1)), (va_up nm 0 ((tk_T tx ln pl vl).2.2.1))) = (rnL tx ln [(0, 1), (0, 4), (1, 60)] 0 (pl, tok, vl, st) nm) := (by simp only [rnL, if_pos c_1, if_neg c_3, if_neg c_4])
          exact W.zret (v := 0) hx hb hr rfl (fun t_9 ht_9 _ => by rw [hQc]; exact ⟨_, [((t 2), .inr (5, [.ref (t 1), .int (nI ln), .int (nI ((tk_T tx ln ((tk_T tx ln pl vl).1) ((tk_T tx ln pl vl).2.2.1)).1)), iv, .ref (t 3), .int (nI ((tk_T tx ln ((tk_T tx ln pl vl).1) ((tk_T tx ln pl vl).2.2.1)).2.1)), .int (nI ((tk_T tx ln ((tk_T tx ln pl vl).1) ((tk_T tx ln pl vl).2.2.1)).2.2.1)), .int (nI ((tk_T tx ln ((tk_T tx ln pl vl).1) ((tk_T tx ln pl vl).2.2.1)).2.2.2)), .int (nI it)])), ((t 1), .inl (cC, 180, .inl (fun j => nI (tx j)))), ((t 3), .inl (cI, 3, .inl (fun j => nI ((va_up nm 0 ((tk_T tx ln pl vl).2.2.1)) j))))], rfl, ⟨(by rw [← e_5]), (by rw [← e_5])⟩, rfl, by rw [ht_9]; exact hP.sub [1, 2, 0] rfl, by rw [← hAe]; exact hS.F ht_9⟩) hS.2.2 dX5_readsNumbers_54
        · refine lv_aload_n hx hb dX5_readsNumbers_37 rfl (lv_at hl 1 rfl) ?_
          refine va_get (D := D) (ci := 5) (v := .int (nI ((tk_T tx ln ((tk_T tx ln pl vl).1) ((tk_T tx ln pl vl).2.2.1)).2.2.1))) (C := RX5) (T := TX5) (N := 9) hx hb hts hiX5 hown hK hP 1 rfl rfl 6 (by decide) f33 (fun _ h9 => h9) rfl dX5_readsNumbers_38 ?_
          refine lv_aload_n hx hb dX5_readsNumbers_41 rfl (lv_at hl 2 rfl) ?_
          refine lv_iload_n hx hb dX5_readsNumbers_42 rfl (lv_at hl 0 rfl) ?_
          refine va_ti (v := .int 0) hx hb hTa hS (show vp_in 1 3 from vp_in_nI (n := 1) (by decide) (by decide)) rfl dX5_readsNumbers_43 ?_
          refine lv_aload_n hx hb dX5_readsNumbers_44 rfl (lv_at hl 3 rfl) ?_
          refine lv_iload_n hx hb dX5_readsNumbers_45 rfl (lv_at hl 0 rfl) ?_
          refine va_ti (v := .int 4) hx hb hTb hS (show vp_in 1 3 from vp_in_nI (n := 1) (by decide) (by decide)) rfl dX5_readsNumbers_46 ?_
          have hPc_47 := hP.sub (ws' := []) [] rfl
          refine ly_r (va_runSN (As := [.int (nI ((tk_T tx ln ((tk_T tx ln pl vl).1) ((tk_T tx ln pl vl).2.2.1)).2.2.1)), .int 0, .int 4]) (rest := []) ⟨hx, hb, hml, hown, hts⟩ (c_X6_within l D cI cC cZ cN (nI ((tk_T tx ln ((tk_T tx ln pl vl).1) ((tk_T tx ln pl vl).2.2.1)).2.2.1)) 0 4) ⟨va_cnB 3 hts gX5_readsNumbers_X6_within_n108 rfl rfl rfl hN.2.2.2.2.2.1 (hts (.initialized RX6) (by decide +kernel)) (by decide +kernel) ⟨Nat.le_of_ble_eq_true rfl, Nat.le_of_ble_eq_true rfl⟩, hts (.static yX6_within) (by decide +kernel), trivial⟩ (ly_ps hK hN hPc_47) rfl rfl hl.1 rfl (lv_room (Nat.le_of_ble_eq_true rfl)) dX5_readsNumbers_47 ⟨Nat.zero_le _, Nat.zero_le _⟩) ?_
          refine lv_if_ne (tgt := 55) hx hb dX5_readsNumbers_50 (by decide) (fun c_6 => ?_) (fun c_6 => ?_)
          · refine lv_aload_n hx hb dX5_readsNumbers_55 rfl (lv_at hl 1 rfl) ?_
            refine va_get (D := D) (ci := 5) (v := .ref (t 3)) (C := RX5) (T := TX5) (N := 9) hx hb hts hiX5 hown hK hP 1 rfl rfl 4 (by decide) f26 (fun _ h9 => h9) rfl dX5_readsNumbers_56 ?_
            refine lv_iload_n hx hb dX5_readsNumbers_59 rfl (lv_at hl 0 rfl) ?_
            refine lv_aload_n hx hb dX5_readsNumbers_60 rfl (lv_at hl 1 rfl) ?_
            refine va_get (D := D) (ci := 5) (v := .int (nI ((tk_T tx ln ((tk_T tx ln pl vl).1) ((tk_T tx ln pl vl).2.2.1)).2.2.1))) (C := RX5) (T := TX5) (N := 9) hx hb hts hiX5 hown hK hP 1 rfl rfl 6 (by decide) f33 (fun _ h9 => h9) rfl dX5_readsNumbers_61 ?_
            refine ly_iastN hx hb hK hP hD hS 0 0 rfl rfl (k := 1) (v := (tk_T tx ln ((tk_T tx ln pl vl).1) ((tk_T tx ln pl vl).2.2.1)).2.2.1) (by decide) rfl (by omega) rfl dX5_readsNumbers_64 (fun H locs hP hD hS => ?_)
            have hP : va_P D vwCl [((t 3), .inl (cI, 3, .inl (fun j => nI ((va_up (va_up nm 0 ((tk_T tx ln pl vl).2.2.1)) 1 ((tk_T tx ln ((tk_T tx ln pl vl).1) ((tk_T tx ln pl vl).2.2.1)).2.2.1)) j)))), ((t 2), .inr (5, [.ref (t 1), .int (nI ln), .int (nI ((tk_T tx ln ((tk_T tx ln pl vl).1) ((tk_T tx ln pl vl).2.2.1)).1)), iv, .ref (t 3), .int (nI ((tk_T tx ln ((tk_T tx ln pl vl).1) ((tk_T tx ln pl vl).2.2.1)).2.1)), .int (nI ((tk_T tx ln ((tk_T tx ln pl vl).1) ((tk_T tx ln pl vl).2.2.1)).2.2.1)), .int (nI ((tk_T tx ln ((tk_T tx ln pl vl).1) ((tk_T tx ln pl vl).2.2.1)).2.2.2)), .int (nI it)])), ((t 1), .inl (cC, 180, .inl (fun j => nI (tx j))))] H := hP
            have hD : va_D A [((t 3), .inl (cI, 3, .inl (fun j => nI ((va_up (va_up nm 0 ((tk_T tx ln pl vl).2.2.1)) 1 ((tk_T tx ln ((tk_T tx ln pl vl).1) ((tk_T tx ln pl vl).2.2.1)).2.2.1)) j)))), ((t 2), .inr (5, [.ref (t 1), .int (nI ln), .int (nI ((tk_T tx ln ((tk_T tx ln pl vl).1) ((tk_T tx ln pl vl).2.2.1)).1)), iv, .ref (t 3), .int (nI ((tk_T tx ln ((tk_T tx ln pl vl).1) ((tk_T tx ln pl vl).2.2.1)).2.1)), .int (nI ((tk_T tx ln ((tk_T tx ln pl vl).1) ((tk_T tx ln pl vl).2.2.1)).2.2.1)), .int (nI ((tk_T tx ln ((tk_T tx ln pl vl).1) ((tk_T tx ln pl vl).2.2.1)).2.2.2)), .int (nI it)])), ((t 1), .inl (cC, 180, .inl (fun j => nI (tx j))))] := hD
            refine lv_iinc (v := 2) (lv' := [(3, .int 2), (0, .ref (t 2)), (1, .ref ta), (2, .ref tb)]) hx hb dX5_readsNumbers_65 hl (k := 0) rfl (by decide) (by decide) rfl (fun ls hl => ?_)
            refine lv_goto (tgt := 2) hx hb dX5_readsNumbers_68 (by decide) ?_
            refine lv_iload_n hx hb dX5_readsNumbers_2 rfl (lv_at hl 0 rfl) ?_
            refine lv_aload_n hx hb dX5_readsNumbers_3 rfl (lv_at hl 2 rfl) ?_
            refine va_tlen (v := 3) hx hb hTa hS rfl dX5_readsNumbers_4 ?_
            refine lv_icmp_ge (tgt := 71) hx hb dX5_readsNumbers_5 (by decide) (fun h_9 => absurd h_9 (by decide)) (fun _ => ?_)
            refine lv_iload_n hx hb dX5_readsNumbers_8 rfl (lv_at hl 0 rfl) ?_
            refine lv_aload_n hx hb dX5_readsNumbers_9 rfl (lv_at hl 3 rfl) ?_
            refine va_tlen (v := 3) hx hb hTb hS rfl dX5_readsNumbers_10 ?_
            refine lv_icmp_ge (tgt := 71) hx hb dX5_readsNumbers_11 (by decide) (fun h_9 => absurd h_9 (by decide)) (fun _ => ?_)
            refine lv_iload_n hx hb dX5_readsNumbers_14 rfl (lv_at hl 0 rfl) ?_
            refine lv_aload_n hx hb dX5_readsNumbers_15 rfl (lv_at hl 1 rfl) ?_
            refine va_get (D := D) (ci := 5) (v := .ref (t 3)) (C := RX5) (T := TX5) (N := 9) hx hb hts hiX5 hown hK hP 1 rfl rfl 4 (by decide) f26 (fun _ h9 => h9) rfl dX5_readsNumbers_16 ?_
            refine va_alen (v := 3) hx hb hK hP 0 0 rfl rfl rfl dX5_readsNumbers_19 ?_
            refine lv_icmp_ge (tgt := 71) hx hb dX5_readsNumbers_20 (by decide) (fun h_9 => absurd h_9 (by decide)) (fun _ => ?_)
            refine lv_aload_n hx hb dX5_readsNumbers_23 rfl (lv_at hl 1 rfl) ?_
            have hPc_24 := hP.sub (ws' := [((t 2), .inr (5, [.ref (t 1), .int (nI ln), .int (nI ((tk_T tx ln ((tk_T tx ln pl vl).1) ((tk_T tx ln pl vl).2.2.1)).1)), iv, .ref (t 3), .int (nI ((tk_T tx ln ((tk_T tx ln pl vl).1) ((tk_T tx ln pl vl).2.2.1)).2.1)), .int (nI ((tk_T tx ln ((tk_T tx ln pl vl).1) ((tk_T tx ln pl vl).2.2.1)).2.2.1)), .int (nI ((tk_T tx ln ((tk_T tx ln pl vl).1) ((tk_T tx ln pl vl).2.2.1)).2.2.2)), .int (nI it)])), ((t 1), .inl (cC, 180, .inl (fun j => nI (tx j))))]) [1, 2] rfl
            refine ly_m (wr := [((t 3), .inl (cI, 3, .inl (fun j => nI ((va_up (va_up nm 0 ((tk_T tx ln pl vl).2.2.1)) 1 ((tk_T tx ln ((tk_T tx ln pl vl).1) ((tk_T tx ln pl vl).2.2.1)).2.2.1)) j))))]) (va_runV (As := []) (rest := []) ⟨hx, hb, hml, hown, hts⟩ (c_X5_takeToken l D cI cC cZ cN t tx iv ln ((tk_T tx ln ((tk_T tx ln pl vl).1) ((tk_T tx ln pl vl).2.2.1)).1) ((tk_T tx ln ((tk_T tx ln pl vl).1) ((tk_T tx ln pl vl).2.2.1)).2.1) ((tk_T tx ln ((tk_T tx ln pl vl).1) ((tk_T tx ln pl vl).2.2.1)).2.2.1) ((tk_T tx ln ((tk_T tx ln pl vl).1) ((tk_T tx ln pl vl).2.2.1)).2.2.2) it htx hln (by omega) ((hD.sub [1, 2] (by decide) rfl).weaken (fun _ _ _ _ => trivial))) (cwV 0 hts gX5_readsNumbers_X5_takeToken rfl rfl rfl (by decide +kernel) ⟨Nat.le_of_ble_eq_true rfl, Nat.le_of_ble_eq_true rfl⟩) (ly_pv hK hN hPc_24 0 5 rfl rfl rfl) rfl rfl hl.1 rfl (lv_room (Nat.le_of_ble_eq_true rfl)) dX5_readsNumbers_24 ⟨Nat.zero_le _, Nat.zero_le _⟩) hP hD hS [1, 2] [0] rfl rfl (by decide) ?_
            rintro _ _ H locs ⟨rfl, rfl⟩ - hP hD hS
            have hT_24 := tk_T_le tx ln ((tk_T tx ln ((tk_T tx ln pl vl).1) ((tk_T tx ln pl vl).2.2.1)).1) ((tk_T tx ln ((tk_T tx ln pl vl).1) ((tk_T tx ln pl vl).2.2.1)).2.2.1) htx hln (by omega)
            have hP : va_P D vwCl [((t 3), .inl (cI, 3, .inl (fun j => nI ((va_up (va_up nm 0 ((tk_T tx ln pl vl).2.2.1)) 1 ((tk_T tx ln ((tk_T tx ln pl vl).1) ((tk_T tx ln pl vl).2.2.1)).2.2.1)) j)))), ((t 2), .inr (5, [.ref (t 1), .int (nI ln), .int (nI ((tk_T tx ln ((tk_T tx ln ((tk_T tx ln pl vl).1) ((tk_T tx ln pl vl).2.2.1)).1) ((tk_T tx ln ((tk_T tx ln pl vl).1) ((tk_T tx ln pl vl).2.2.1)).2.2.1)).1)), iv, .ref (t 3), .int (nI ((tk_T tx ln ((tk_T tx ln ((tk_T tx ln pl vl).1) ((tk_T tx ln pl vl).2.2.1)).1) ((tk_T tx ln ((tk_T tx ln pl vl).1) ((tk_T tx ln pl vl).2.2.1)).2.2.1)).2.1)), .int (nI ((tk_T tx ln ((tk_T tx ln ((tk_T tx ln pl vl).1) ((tk_T tx ln pl vl).2.2.1)).1) ((tk_T tx ln ((tk_T tx ln pl vl).1) ((tk_T tx ln pl vl).2.2.1)).2.2.1)).2.2.1)), .int (nI ((tk_T tx ln ((tk_T tx ln ((tk_T tx ln pl vl).1) ((tk_T tx ln pl vl).2.2.1)).1) ((tk_T tx ln ((tk_T tx ln pl vl).1) ((tk_T tx ln pl vl).2.2.1)).2.2.1)).2.2.2)), .int (nI it)])), ((t 1), .inl (cC, 180, .inl (fun j => nI (tx j))))] H := hP
            have hD : va_D A [((t 3), .inl (cI, 3, .inl (fun j => nI ((va_up (va_up nm 0 ((tk_T tx ln pl vl).2.2.1)) 1 ((tk_T tx ln ((tk_T tx ln pl vl).1) ((tk_T tx ln pl vl).2.2.1)).2.2.1)) j)))), ((t 2), .inr (5, [.ref (t 1), .int (nI ln), .int (nI ((tk_T tx ln ((tk_T tx ln ((tk_T tx ln pl vl).1) ((tk_T tx ln pl vl).2.2.1)).1) ((tk_T tx ln ((tk_T tx ln pl vl).1) ((tk_T tx ln pl vl).2.2.1)).2.2.1)).1)), iv, .ref (t 3), .int (nI ((tk_T tx ln ((tk_T tx ln ((tk_T tx ln pl vl).1) ((tk_T tx ln pl vl).2.2.1)).1) ((tk_T tx ln ((tk_T tx ln pl vl).1) ((tk_T tx ln pl vl).2.2.1)).2.2.1)).2.1)), .int (nI ((tk_T tx ln ((tk_T tx ln ((tk_T tx ln pl vl).1) ((tk_T tx ln pl vl).2.2.1)).1) ((tk_T tx ln ((tk_T tx ln pl vl).1) ((tk_T tx ln pl vl).2.2.1)).2.2.1)).2.2.1)), .int (nI ((tk_T tx ln ((tk_T tx ln ((tk_T tx ln pl vl).1) ((tk_T tx ln pl vl).2.2.1)).1) ((tk_T tx ln ((tk_T tx ln pl vl).1) ((tk_T tx ln pl vl).2.2.1)).2.2.1)).2.2.2)), .int (nI it)])), ((t 1), .inl (cC, 180, .inl (fun j => nI (tx j))))] := hD
            refine W.eq (g2 := F0 m 27 ls []) rfl ?_
            refine lv_aload_n hx hb dX5_readsNumbers_27 rfl (lv_at hl 1 rfl) ?_
            refine va_get (D := D) (ci := 5) (v := .int (nI ((tk_T tx ln ((tk_T tx ln ((tk_T tx ln pl vl).1) ((tk_T tx ln pl vl).2.2.1)).1) ((tk_T tx ln ((tk_T tx ln pl vl).1) ((tk_T tx ln pl vl).2.2.1)).2.2.1)).2.1))) (C := RX5) (T := TX5) (N := 9) hx hb hts hiX5 hown hK hP 1 rfl rfl 5 (by decide) f30 (fun _ h9 => h9) rfl dX5_readsNumbers_28 ?_
            refine lv_sipush (v := 257) hx hb dX5_readsNumbers_31 (by decide) ?_
            refine lv_icmp_ne (tgt := 53) hx hb dX5_readsNumbers_34 (by decide) (fun c_7 => ?_) (fun c_7 => ?_)
            · refine lv_iconst (v := 0) hx hb dX5_readsNumbers_53 (by decide) ?_
              have e_8 : (0, (tk_T tx ln ((tk_T tx ln ((tk_T tx ln pl vl).1) ((tk_T tx ln pl vl).2.2.1)).1) ((tk_T tx ln ((tk_T tx ln pl vl).1) ((tk_T tx ln pl vl).2.2.1)).2.2.1)), (va_up (va_up nm 0 ((tk_T tx ln pl vl).2.2.1)) 1 ((tk_T tx ln ((tk_T tx ln pl vl).1) ((tk_T tx ln pl vl).2.2.1)).2.2.1))) = (rnL tx ln [(0, 1), (0, 4), (1, 60)] 0 (pl, tok, vl, st) nm) := (by simp only [rnL, if_pos c_1, if_neg c_3, if_pos c_4, if_neg c_6, if_neg c_7])
              exact W.zret (v := 0) hx hb hr rfl (fun t_9 ht_9 _ => by rw [hQc]; exact ⟨_, [((t 2), .inr (5, [.ref (t 1), .int (nI ln), .int (nI ((tk_T tx ln ((tk_T tx ln ((tk_T tx ln pl vl).1) ((tk_T tx ln pl vl).2.2.1)).1) ((tk_T tx ln ((tk_T tx ln pl vl).1) ((tk_T tx ln pl vl).2.2.1)).2.2.1)).1)), iv, .ref (t 3), .int (nI ((tk_T tx ln ((tk_T tx ln ((tk_T tx ln pl vl).1) ((tk_T tx ln pl vl).2.2.1)).1) ((tk_T tx ln ((tk_T tx ln pl vl).1) ((tk_T tx ln pl vl).2.2.1)).2.2.1)).2.1)), .int (nI ((tk_T tx ln ((tk_T tx ln ((tk_T tx ln pl vl).1) ((tk_T tx ln pl vl).2.2.1)).1) ((tk_T tx ln ((tk_T tx ln pl vl).1) ((tk_T tx ln pl vl).2.2.1)).2.2.1)).2.2.1)), .int (nI ((tk_T tx ln ((tk_T tx ln ((tk_T tx ln pl vl).1) ((tk_T tx ln pl vl).2.2.1)).1) ((tk_T tx ln ((tk_T tx ln pl vl).1) ((tk_T tx ln pl vl).2.2.1)).2.2.1)).2.2.2)), .int (nI it)])), ((t 1), .inl (cC, 180, .inl (fun j => nI (tx j)))), ((t 3), .inl (cI, 3, .inl (fun j => nI ((va_up (va_up nm 0 ((tk_T tx ln pl vl).2.2.1)) 1 ((tk_T tx ln ((tk_T tx ln pl vl).1) ((tk_T tx ln pl vl).2.2.1)).2.2.1)) j))))], rfl, ⟨(by rw [← e_8]), (by rw [← e_8])⟩, rfl, by rw [ht_9]; exact hP.sub [1, 2, 0] rfl, by rw [← hAe]; exact hS.F ht_9⟩) hS.2.2 dX5_readsNumbers_54
            · refine lv_aload_n hx hb dX5_readsNumbers_37 rfl (lv_at hl 1 rfl) ?_
              refine va_get (D := D) (ci := 5) (v := .int (nI ((tk_T tx ln ((tk_T tx ln ((tk_T tx ln pl vl).1) ((tk_T tx ln pl vl).2.2.1)).1) ((tk_T tx ln ((tk_T tx ln pl vl).1) ((tk_T tx ln pl vl).2.2.1)).2.2.1)).2.2.1))) (C := RX5) (T := TX5) (N := 9) hx hb hts hiX5 hown hK hP 1 rfl rfl 6 (by decide) f33 (fun _ h9 => h9) rfl dX5_readsNumbers_38 ?_
              refine lv_aload_n hx hb dX5_readsNumbers_41 rfl (lv_at hl 2 rfl) ?_
              refine lv_iload_n hx hb dX5_readsNumbers_42 rfl (lv_at hl 0 rfl) ?_
              refine va_ti (v := .int 1) hx hb hTa hS (show vp_in 2 3 from vp_in_nI (n := 2) (by decide) (by decide)) rfl dX5_readsNumbers_43 ?_
              refine lv_aload_n hx hb dX5_readsNumbers_44 rfl (lv_at hl 3 rfl) ?_
              refine lv_iload_n hx hb dX5_readsNumbers_45 rfl (lv_at hl 0 rfl) ?_
              refine va_ti (v := .int 60) hx hb hTb hS (show vp_in 2 3 from vp_in_nI (n := 2) (by decide) (by decide)) rfl dX5_readsNumbers_46 ?_
              have hPc_47 := hP.sub (ws' := []) [] rfl
              refine ly_r (va_runSN (As := [.int (nI ((tk_T tx ln ((tk_T tx ln ((tk_T tx ln pl vl).1) ((tk_T tx ln pl vl).2.2.1)).1) ((tk_T tx ln ((tk_T tx ln pl vl).1) ((tk_T tx ln pl vl).2.2.1)).2.2.1)).2.2.1)), .int 1, .int 60]) (rest := []) ⟨hx, hb, hml, hown, hts⟩ (c_X6_within l D cI cC cZ cN (nI ((tk_T tx ln ((tk_T tx ln ((tk_T tx ln pl vl).1) ((tk_T tx ln pl vl).2.2.1)).1) ((tk_T tx ln ((tk_T tx ln pl vl).1) ((tk_T tx ln pl vl).2.2.1)).2.2.1)).2.2.1)) 1 60) ⟨va_cnB 3 hts gX5_readsNumbers_X6_within_n108 rfl rfl rfl hN.2.2.2.2.2.1 (hts (.initialized RX6) (by decide +kernel)) (by decide +kernel) ⟨Nat.le_of_ble_eq_true rfl, Nat.le_of_ble_eq_true rfl⟩, hts (.static yX6_within) (by decide +kernel), trivial⟩ (ly_ps hK hN hPc_47) rfl rfl hl.1 rfl (lv_room (Nat.le_of_ble_eq_true rfl)) dX5_readsNumbers_47 ⟨Nat.zero_le _, Nat.zero_le _⟩) ?_
              refine lv_if_ne (tgt := 55) hx hb dX5_readsNumbers_50 (by decide) (fun c_9 => ?_) (fun c_9 => ?_)
              · refine lv_aload_n hx hb dX5_readsNumbers_55 rfl (lv_at hl 1 rfl) ?_
                refine va_get (D := D) (ci := 5) (v := .ref (t 3)) (C := RX5) (T := TX5) (N := 9) hx hb hts hiX5 hown hK hP 1 rfl rfl 4 (by decide) f26 (fun _ h9 => h9) rfl dX5_readsNumbers_56 ?_
                refine lv_iload_n hx hb dX5_readsNumbers_59 rfl (lv_at hl 0 rfl) ?_
                refine lv_aload_n hx hb dX5_readsNumbers_60 rfl (lv_at hl 1 rfl) ?_
                refine va_get (D := D) (ci := 5) (v := .int (nI ((tk_T tx ln ((tk_T tx ln ((tk_T tx ln pl vl).1) ((tk_T tx ln pl vl).2.2.1)).1) ((tk_T tx ln ((tk_T tx ln pl vl).1) ((tk_T tx ln pl vl).2.2.1)).2.2.1)).2.2.1))) (C := RX5) (T := TX5) (N := 9) hx hb hts hiX5 hown hK hP 1 rfl rfl 6 (by decide) f33 (fun _ h9 => h9) rfl dX5_readsNumbers_61 ?_
                refine ly_iastN hx hb hK hP hD hS 0 0 rfl rfl (k := 2) (v := (tk_T tx ln ((tk_T tx ln ((tk_T tx ln pl vl).1) ((tk_T tx ln pl vl).2.2.1)).1) ((tk_T tx ln ((tk_T tx ln pl vl).1) ((tk_T tx ln pl vl).2.2.1)).2.2.1)).2.2.1) (by decide) rfl (by omega) rfl dX5_readsNumbers_64 (fun H locs hP hD hS => ?_)
                have hP : va_P D vwCl [((t 3), .inl (cI, 3, .inl (fun j => nI ((va_up (va_up (va_up nm 0 ((tk_T tx ln pl vl).2.2.1)) 1 ((tk_T tx ln ((tk_T tx ln pl vl).1) ((tk_T tx ln pl vl).2.2.1)).2.2.1)) 2 ((tk_T tx ln ((tk_T tx ln ((tk_T tx ln pl vl).1) ((tk_T tx ln pl vl).2.2.1)).1) ((tk_T tx ln ((tk_T tx ln pl vl).1) ((tk_T tx ln pl vl).2.2.1)).2.2.1)).2.2.1)) j)))), ((t 2), .inr (5, [.ref (t 1), .int (nI ln), .int (nI ((tk_T tx ln ((tk_T tx ln ((tk_T tx ln pl vl).1) ((tk_T tx ln pl vl).2.2.1)).1) ((tk_T tx ln ((tk_T tx ln pl vl).1) ((tk_T tx ln pl vl).2.2.1)).2.2.1)).1)), iv, .ref (t 3), .int (nI ((tk_T tx ln ((tk_T tx ln ((tk_T tx ln pl vl).1) ((tk_T tx ln pl vl).2.2.1)).1) ((tk_T tx ln ((tk_T tx ln pl vl).1) ((tk_T tx ln pl vl).2.2.1)).2.2.1)).2.1)), .int (nI ((tk_T tx ln ((tk_T tx ln ((tk_T tx ln pl vl).1) ((tk_T tx ln pl vl).2.2.1)).1) ((tk_T tx ln ((tk_T tx ln pl vl).1) ((tk_T tx ln pl vl).2.2.1)).2.2.1)).2.2.1)), .int (nI ((tk_T tx ln ((tk_T tx ln ((tk_T tx ln pl vl).1) ((tk_T tx ln pl vl).2.2.1)).1) ((tk_T tx ln ((tk_T tx ln pl vl).1) ((tk_T tx ln pl vl).2.2.1)).2.2.1)).2.2.2)), .int (nI it)])), ((t 1), .inl (cC, 180, .inl (fun j => nI (tx j))))] H := hP
                have hD : va_D A [((t 3), .inl (cI, 3, .inl (fun j => nI ((va_up (va_up (va_up nm 0 ((tk_T tx ln pl vl).2.2.1)) 1 ((tk_T tx ln ((tk_T tx ln pl vl).1) ((tk_T tx ln pl vl).2.2.1)).2.2.1)) 2 ((tk_T tx ln ((tk_T tx ln ((tk_T tx ln pl vl).1) ((tk_T tx ln pl vl).2.2.1)).1) ((tk_T tx ln ((tk_T tx ln pl vl).1) ((tk_T tx ln pl vl).2.2.1)).2.2.1)).2.2.1)) j)))), ((t 2), .inr (5, [.ref (t 1), .int (nI ln), .int (nI ((tk_T tx ln ((tk_T tx ln ((tk_T tx ln pl vl).1) ((tk_T tx ln pl vl).2.2.1)).1) ((tk_T tx ln ((tk_T tx ln pl vl).1) ((tk_T tx ln pl vl).2.2.1)).2.2.1)).1)), iv, .ref (t 3), .int (nI ((tk_T tx ln ((tk_T tx ln ((tk_T tx ln pl vl).1) ((tk_T tx ln pl vl).2.2.1)).1) ((tk_T tx ln ((tk_T tx ln pl vl).1) ((tk_T tx ln pl vl).2.2.1)).2.2.1)).2.1)), .int (nI ((tk_T tx ln ((tk_T tx ln ((tk_T tx ln pl vl).1) ((tk_T tx ln pl vl).2.2.1)).1) ((tk_T tx ln ((tk_T tx ln pl vl).1) ((tk_T tx ln pl vl).2.2.1)).2.2.1)).2.2.1)), .int (nI ((tk_T tx ln ((tk_T tx ln ((tk_T tx ln pl vl).1) ((tk_T tx ln pl vl).2.2.1)).1) ((tk_T tx ln ((tk_T tx ln pl vl).1) ((tk_T tx ln pl vl).2.2.1)).2.2.1)).2.2.2)), .int (nI it)])), ((t 1), .inl (cC, 180, .inl (fun j => nI (tx j))))] := hD
                refine lv_iinc (v := 3) (lv' := [(3, .int 3), (0, .ref (t 2)), (1, .ref ta), (2, .ref tb)]) hx hb dX5_readsNumbers_65 hl (k := 0) rfl (by decide) (by decide) rfl (fun ls hl => ?_)
                refine lv_goto (tgt := 2) hx hb dX5_readsNumbers_68 (by decide) ?_
                refine lv_iload_n hx hb dX5_readsNumbers_2 rfl (lv_at hl 0 rfl) ?_
                refine lv_aload_n hx hb dX5_readsNumbers_3 rfl (lv_at hl 2 rfl) ?_
                refine va_tlen (v := 3) hx hb hTa hS rfl dX5_readsNumbers_4 ?_
                refine lv_icmp_ge (tgt := 71) hx hb dX5_readsNumbers_5 (by decide) (fun _ => ?_) (fun h_9 => absurd (by decide) h_9)
                refine lv_iconst (v := 1) hx hb dX5_readsNumbers_71 (by decide) ?_
                have e_10 : (1, (tk_T tx ln ((tk_T tx ln ((tk_T tx ln pl vl).1) ((tk_T tx ln pl vl).2.2.1)).1) ((tk_T tx ln ((tk_T tx ln pl vl).1) ((tk_T tx ln pl vl).2.2.1)).2.2.1)), (va_up (va_up (va_up nm 0 ((tk_T tx ln pl vl).2.2.1)) 1 ((tk_T tx ln ((tk_T tx ln pl vl).1) ((tk_T tx ln pl vl).2.2.1)).2.2.1)) 2 ((tk_T tx ln ((tk_T tx ln ((tk_T tx ln pl vl).1) ((tk_T tx ln pl vl).2.2.1)).1) ((tk_T tx ln ((tk_T tx ln pl vl).1) ((tk_T tx ln pl vl).2.2.1)).2.2.1)).2.2.1))) = (rnL tx ln [(0, 1), (0, 4), (1, 60)] 0 (pl, tok, vl, st) nm) := (by simp only [rnL, if_pos c_1, if_neg c_3, if_pos c_4, if_neg c_6, if_pos c_7, if_neg c_9])
                exact W.zret (v := 1) hx hb hr rfl (fun t_9 ht_9 _ => by rw [hQc]; exact ⟨_, [((t 2), .inr (5, [.ref (t 1), .int (nI ln), .int (nI ((tk_T tx ln ((tk_T tx ln ((tk_T tx ln pl vl).1) ((tk_T tx ln pl vl).2.2.1)).1) ((tk_T tx ln ((tk_T tx ln pl vl).1) ((tk_T tx ln pl vl).2.2.1)).2.2.1)).1)), iv, .ref (t 3), .int (nI ((tk_T tx ln ((tk_T tx ln ((tk_T tx ln pl vl).1) ((tk_T tx ln pl vl).2.2.1)).1) ((tk_T tx ln ((tk_T tx ln pl vl).1) ((tk_T tx ln pl vl).2.2.1)).2.2.1)).2.1)), .int (nI ((tk_T tx ln ((tk_T tx ln ((tk_T tx ln pl vl).1) ((tk_T tx ln pl vl).2.2.1)).1) ((tk_T tx ln ((tk_T tx ln pl vl).1) ((tk_T tx ln pl vl).2.2.1)).2.2.1)).2.2.1)), .int (nI ((tk_T tx ln ((tk_T tx ln ((tk_T tx ln pl vl).1) ((tk_T tx ln pl vl).2.2.1)).1) ((tk_T tx ln ((tk_T tx ln pl vl).1) ((tk_T tx ln pl vl).2.2.1)).2.2.1)).2.2.2)), .int (nI it)])), ((t 1), .inl (cC, 180, .inl (fun j => nI (tx j)))), ((t 3), .inl (cI, 3, .inl (fun j => nI ((va_up (va_up (va_up nm 0 ((tk_T tx ln pl vl).2.2.1)) 1 ((tk_T tx ln ((tk_T tx ln pl vl).1) ((tk_T tx ln pl vl).2.2.1)).2.2.1)) 2 ((tk_T tx ln ((tk_T tx ln ((tk_T tx ln pl vl).1) ((tk_T tx ln pl vl).2.2.1)).1) ((tk_T tx ln ((tk_T tx ln pl vl).1) ((tk_T tx ln pl vl).2.2.1)).2.2.1)).2.2.1)) j))))], rfl, ⟨(by rw [← e_10]), (by rw [← e_10])⟩, rfl, by rw [ht_9]; exact hP.sub [1, 2, 0] rfl, by rw [← hAe]; exact hS.F ht_9⟩) hS.2.2 dX5_readsNumbers_72
              · refine lv_iconst (v := 0) hx hb dX5_readsNumbers_53 (by decide) ?_
                have e_11 : (0, (tk_T tx ln ((tk_T tx ln ((tk_T tx ln pl vl).1) ((tk_T tx ln pl vl).2.2.1)).1) ((tk_T tx ln ((tk_T tx ln pl vl).1) ((tk_T tx ln pl vl).2.2.1)).2.2.1)), (va_up (va_up nm 0 ((tk_T tx ln pl vl).2.2.1)) 1 ((tk_T tx ln ((tk_T tx ln pl vl).1) ((tk_T tx ln pl vl).2.2.1)).2.2.1))) = (rnL tx ln [(0, 1), (0, 4), (1, 60)] 0 (pl, tok, vl, st) nm) := (by simp only [rnL, if_pos c_1, if_neg c_3, if_pos c_4, if_neg c_6, if_pos c_7, if_pos c_9])
                exact W.zret (v := 0) hx hb hr rfl (fun t_9 ht_9 _ => by rw [hQc]; exact ⟨_, [((t 2), .inr (5, [.ref (t 1), .int (nI ln), .int (nI ((tk_T tx ln ((tk_T tx ln ((tk_T tx ln pl vl).1) ((tk_T tx ln pl vl).2.2.1)).1) ((tk_T tx ln ((tk_T tx ln pl vl).1) ((tk_T tx ln pl vl).2.2.1)).2.2.1)).1)), iv, .ref (t 3), .int (nI ((tk_T tx ln ((tk_T tx ln ((tk_T tx ln pl vl).1) ((tk_T tx ln pl vl).2.2.1)).1) ((tk_T tx ln ((tk_T tx ln pl vl).1) ((tk_T tx ln pl vl).2.2.1)).2.2.1)).2.1)), .int (nI ((tk_T tx ln ((tk_T tx ln ((tk_T tx ln pl vl).1) ((tk_T tx ln pl vl).2.2.1)).1) ((tk_T tx ln ((tk_T tx ln pl vl).1) ((tk_T tx ln pl vl).2.2.1)).2.2.1)).2.2.1)), .int (nI ((tk_T tx ln ((tk_T tx ln ((tk_T tx ln pl vl).1) ((tk_T tx ln pl vl).2.2.1)).1) ((tk_T tx ln ((tk_T tx ln pl vl).1) ((tk_T tx ln pl vl).2.2.1)).2.2.1)).2.2.2)), .int (nI it)])), ((t 1), .inl (cC, 180, .inl (fun j => nI (tx j)))), ((t 3), .inl (cI, 3, .inl (fun j => nI ((va_up (va_up nm 0 ((tk_T tx ln pl vl).2.2.1)) 1 ((tk_T tx ln ((tk_T tx ln pl vl).1) ((tk_T tx ln pl vl).2.2.1)).2.2.1)) j))))], rfl, ⟨(by rw [← e_11]), (by rw [← e_11])⟩, rfl, by rw [ht_9]; exact hP.sub [1, 2, 0] rfl, by rw [← hAe]; exact hS.F ht_9⟩) hS.2.2 dX5_readsNumbers_54
          · refine lv_iconst (v := 0) hx hb dX5_readsNumbers_53 (by decide) ?_
            have e_12 : (0, (tk_T tx ln ((tk_T tx ln pl vl).1) ((tk_T tx ln pl vl).2.2.1)), (va_up nm 0 ((tk_T tx ln pl vl).2.2.1))) = (rnL tx ln [(0, 1), (0, 4), (1, 60)] 0 (pl, tok, vl, st) nm) := (by simp only [rnL, if_pos c_1, if_neg c_3, if_pos c_4, if_pos c_6])
            exact W.zret (v := 0) hx hb hr rfl (fun t_9 ht_9 _ => by rw [hQc]; exact ⟨_, [((t 2), .inr (5, [.ref (t 1), .int (nI ln), .int (nI ((tk_T tx ln ((tk_T tx ln pl vl).1) ((tk_T tx ln pl vl).2.2.1)).1)), iv, .ref (t 3), .int (nI ((tk_T tx ln ((tk_T tx ln pl vl).1) ((tk_T tx ln pl vl).2.2.1)).2.1)), .int (nI ((tk_T tx ln ((tk_T tx ln pl vl).1) ((tk_T tx ln pl vl).2.2.1)).2.2.1)), .int (nI ((tk_T tx ln ((tk_T tx ln pl vl).1) ((tk_T tx ln pl vl).2.2.1)).2.2.2)), .int (nI it)])), ((t 1), .inl (cC, 180, .inl (fun j => nI (tx j)))), ((t 3), .inl (cI, 3, .inl (fun j => nI ((va_up nm 0 ((tk_T tx ln pl vl).2.2.1)) j))))], rfl, ⟨(by rw [← e_12]), (by rw [← e_12])⟩, rfl, by rw [ht_9]; exact hP.sub [1, 2, 0] rfl, by rw [← hAe]; exact hS.F ht_9⟩) hS.2.2 dX5_readsNumbers_54
      · refine lv_iconst (v := 0) hx hb dX5_readsNumbers_53 (by decide) ?_
        have e_13 : (0, (tk_T tx ln pl vl), nm) = (rnL tx ln [(0, 1), (0, 4), (1, 60)] 0 (pl, tok, vl, st) nm) := (by simp only [rnL, if_pos c_1, if_pos c_3])
        exact W.zret (v := 0) hx hb hr rfl (fun t_9 ht_9 _ => by rw [hQc]; exact ⟨_, [((t 2), .inr (5, [.ref (t 1), .int (nI ln), .int (nI ((tk_T tx ln pl vl).1)), iv, .ref (t 3), .int (nI ((tk_T tx ln pl vl).2.1)), .int (nI ((tk_T tx ln pl vl).2.2.1)), .int (nI ((tk_T tx ln pl vl).2.2.2)), .int (nI it)])), ((t 1), .inl (cC, 180, .inl (fun j => nI (tx j)))), ((t 3), .inl (cI, 3, .inl (fun j => nI (nm j))))], rfl, ⟨(by rw [← e_13]), (by rw [← e_13])⟩, rfl, by rw [ht_9]; exact hP.sub [1, 2, 0] rfl, by rw [← hAe]; exact hS.F ht_9⟩) hS.2.2 dX5_readsNumbers_54
  exact hmain _ _ hP va_S.rf

set_option maxHeartbeats 4000000 in
set_option maxRecDepth 100000 in
theorem c_X5_readsNumbers_p (l : Launch) (D : va_G) (cI cC cZ cN : ClassId) (ta tb : Nat) (t tx nm : Nat → Nat) (iv : Value) (ln pl tok vl st it : Nat) (htx : ∀ j, tx j < 256) (hln : ln ≤ 180) (hpl : pl ≤ ln) (hD0 : va_D (fun _ => True) [((t 2), .inr (5, [.ref (t 1), .int (nI ln), .int (nI pl), iv, .ref (t 3), .int (nI tok), .int (nI vl), .int (nI st), .int (nI it)])), ((t 1), .inl (cC, 180, .inl (fun j => nI (tx j)))), ((t 3), .inl (cI, 3, .inl (fun j => nI (nm j))))]) : Met l yX5_readsNumbers wsX5_readsNumbers (ly_rm 4) (ly_PreX D (ly_tys cI cC cZ cN) [((t 2), .inr (5, [.ref (t 1), .int (nI ln), .int (nI pl), iv, .ref (t 3), .int (nI tok), .int (nI vl), .int (nI st), .int (nI it)])), ((t 1), .inl (cC, 180, .inl (fun j => nI (tx j)))), ((t 3), .inl (cI, 3, .inl (fun j => nI (nm j))))] [.ref (t 2), .ref ta, .ref tb] (st_T ta tb 3 3 [1, 0, 0] [3, 20, 20] (ly_in [((t 2), .inr (5, [.ref (t 1), .int (nI ln), .int (nI pl), iv, .ref (t 3), .int (nI tok), .int (nI vl), .int (nI st), .int (nI it)])), ((t 1), .inl (cC, 180, .inl (fun j => nI (tx j)))), ((t 3), .inl (cI, 3, .inl (fun j => nI (nm j))))]))) (ly_Q D [((t 2), .inr (5, [.ref (t 1), .int (nI ln), .int (nI pl), iv, .ref (t 3), .int (nI tok), .int (nI vl), .int (nI st), .int (nI it)])), ((t 1), .inl (cC, 180, .inl (fun j => nI (tx j)))), ((t 3), .inl (cI, 3, .inl (fun j => nI (nm j))))] (fun r_9 w_9 => r_9 = some (.int (rnL tx ln [(1, 3), (0, 20), (0, 20)] 0 (pl, tok, vl, st) nm).1) ∧ w_9 = [((t 2), .inr (5, [.ref (t 1), .int (nI ln), .int (nI ((rnL tx ln [(1, 3), (0, 20), (0, 20)] 0 (pl, tok, vl, st) nm).2.1.1)), iv, .ref (t 3), .int (nI ((rnL tx ln [(1, 3), (0, 20), (0, 20)] 0 (pl, tok, vl, st) nm).2.1.2.1)), .int (nI ((rnL tx ln [(1, 3), (0, 20), (0, 20)] 0 (pl, tok, vl, st) nm).2.1.2.2.1)), .int (nI ((rnL tx ln [(1, 3), (0, 20), (0, 20)] 0 (pl, tok, vl, st) nm).2.1.2.2.2)), .int (nI it)])), ((t 1), .inl (cC, 180, .inl (fun j => nI (tx j)))), ((t 3), .inl (cI, 3, .inl (fun j => nI ((rnL tx ln [(1, 3), (0, 20), (0, 20)] 0 (pl, tok, vl, st) nm).2.2 j))))])) 0 0 (ly_in [((t 2), .inr (5, [.ref (t 1), .int (nI ln), .int (nI pl), iv, .ref (t 3), .int (nI tok), .int (nI vl), .int (nI st), .int (nI it)])), ((t 1), .inl (cC, 180, .inl (fun j => nI (tx j)))), ((t 3), .inl (cI, 3, .inl (fun j => nI (nm j))))]) := by
  refine Met.ofW (cc := cX5_readsNumbers) (maxL := 4) (ret := (some .boolean)) (by decide) rfl ?_
  intro p e s m args below meth c s₁ B hml hv
  obtain ⟨⟨rfl, hP, hK, hN⟩, hX⟩ := hv
  have hx := B.exec
  have hb := B.bytes
  have hr := B.returns
  have hts := atoms_spec (ws := wsX5_readsNumbers) B.pre
  have hown : s.vm.findClass RX5 = some m.cls := findClass_of_methodNamed B.named
  have hlocks := B.notSynchronized
  have hl := lv_entry ([.ref (t 2), .ref ta, .ref tb]) (n := 4) (Nat.le_of_ble_eq_true rfl)
  rw [lg_entry_eq]
  generalize (lg_sl ([.ref (t 2), .ref ta, .ref tb]) ++ List.replicate (4 - (lg_sl ([.ref (t 2), .ref ta, .ref tb])).length) Slot.unset).toArray = ls at hl ⊢
  have hl : lv_has ls 4 [(0, .ref (t 2)), (1, .ref ta), (2, .ref tb)] := hl
  generalize ([.ref (t 2), .ref ta, .ref tb] : List Value).toArray = av at hts ⊢
  obtain ⟨Qc, hQc⟩ : ∃ Qc, Qc = (ly_Q D [((t 2), .inr (5, [.ref (t 1), .int (nI ln), .int (nI pl), iv, .ref (t 3), .int (nI tok), .int (nI vl), .int (nI st), .int (nI it)])), ((t 1), .inl (cC, 180, .inl (fun j => nI (tx j)))), ((t 3), .inl (cI, 3, .inl (fun j => nI (nm j))))] (fun r_9 w_9 => r_9 = some (.int (rnL tx ln [(1, 3), (0, 20), (0, 20)] 0 (pl, tok, vl, st) nm).1) ∧ w_9 = [((t 2), .inr (5, [.ref (t 1), .int (nI ln), .int (nI ((rnL tx ln [(1, 3), (0, 20), (0, 20)] 0 (pl, tok, vl, st) nm).2.1.1)), iv, .ref (t 3), .int (nI ((rnL tx ln [(1, 3), (0, 20), (0, 20)] 0 (pl, tok, vl, st) nm).2.1.2.1)), .int (nI ((rnL tx ln [(1, 3), (0, 20), (0, 20)] 0 (pl, tok, vl, st) nm).2.1.2.2.1)), .int (nI ((rnL tx ln [(1, 3), (0, 20), (0, 20)] 0 (pl, tok, vl, st) nm).2.1.2.2.2)), .int (nI it)])), ((t 1), .inl (cC, 180, .inl (fun j => nI (tx j)))), ((t 3), .inl (cI, 3, .inl (fun j => nI ((rnL tx ln [(1, 3), (0, 20), (0, 20)] 0 (pl, tok, vl, st) nm).2.2 j))))])) := ⟨_, rfl⟩
  rw [← hQc]
  obtain ⟨A, hAe⟩ : ∃ A, A = ly_in [((t 2), .inr (5, [.ref (t 1), .int (nI ln), .int (nI pl), iv, .ref (t 3), .int (nI tok), .int (nI vl), .int (nI st), .int (nI it)])), ((t 1), .inl (cC, 180, .inl (fun j => nI (tx j)))), ((t 3), .inl (cI, 3, .inl (fun j => nI (nm j))))] := ⟨_, rfl⟩
  rw [← hAe]
  have hD := ly_self hD0
  rw [← hAe] at hD
  rw [← hAe] at hX
  obtain ⟨hTa, hTb⟩ := hX
  have f26 := hts (.fieldLink RX5 26 "KneesLent$Reader" "numbers" "[I") (by decide +kernel)
  have f30 := hts (.fieldLink RX5 30 "KneesLent$Reader" "token" "I") (by decide +kernel)
  have f33 := hts (.fieldLink RX5 33 "KneesLent$Reader" "value" "I") (by decide +kernel)
  have hiX5 : ∀ w ∈ u_ws RX5 TX5 9, w ∈ wsX5_readsNumbers := by decide +kernel
  have hmain : ∀ (H : Heap) (locs : List Loc), va_P D vwCl [((t 2), .inr (5, [.ref (t 1), .int (nI ln), .int (nI pl), iv, .ref (t 3), .int (nI tok), .int (nI vl), .int (nI st), .int (nI it)])), ((t 1), .inl (cC, 180, .inl (fun j => nI (tx j)))), ((t 3), .inl (cI, 3, .inl (fun j => nI (nm j))))] H → va_S A s.heap H locs → W p l e (headSpec wsX5_readsNumbers (ly_rm 4)).room s m av below meth c H locs 0 0 (MQ below Qc av s 0 0 A) (F0 m 0 ls []) := by
    intro H locs hP hS
    refine lv_iconst (v := 0) hx hb dX5_readsNumbers_0 (by decide) ?_
    refine lv_istore_n (lv' := [(3, .int 0), (0, .ref (t 2)), (1, .ref ta), (2, .ref tb)]) hx hb dX5_readsNumbers_1 rfl hl (by decide) rfl (fun ls hl => ?_)
    refine lv_iload_n hx hb dX5_readsNumbers_2 rfl (lv_at hl 0 rfl) ?_
    refine lv_aload_n hx hb dX5_readsNumbers_3 rfl (lv_at hl 2 rfl) ?_
    refine va_tlen (v := 3) hx hb hTa hS rfl dX5_readsNumbers_4 ?_
    refine lv_icmp_ge (tgt := 71) hx hb dX5_readsNumbers_5 (by decide) (fun h_9 => absurd h_9 (by decide)) (fun _ => ?_)
    refine lv_iload_n hx hb dX5_readsNumbers_8 rfl (lv_at hl 0 rfl) ?_
    refine lv_aload_n hx hb dX5_readsNumbers_9 rfl (lv_at hl 3 rfl) ?_
    refine va_tlen (v := 3) hx hb hTb hS rfl dX5_readsNumbers_10 ?_
    refine lv_icmp_ge (tgt := 71) hx hb dX5_readsNumbers_11 (by decide) (fun h_9 => absurd h_9 (by decide)) (fun _ => ?_)
    refine lv_iload_n hx hb dX5_readsNumbers_14 rfl (lv_at hl 0 rfl) ?_
    refine lv_aload_n hx hb dX5_readsNumbers_15 rfl (lv_at hl 1 rfl) ?_
    refine va_get (D := D) (ci := 5) (v := .ref (t 3)) (C := RX5) (T := TX5) (N := 9) hx hb hts hiX5 hown hK hP 0 rfl rfl 4 (by decide) f26 (fun _ h9 => h9) rfl dX5_readsNumbers_16 ?_
    refine va_alen (v := 3) hx hb hK hP 2 0 rfl rfl rfl dX5_readsNumbers_19 ?_
    refine lv_icmp_ge (tgt := 71) hx hb dX5_readsNumbers_20 (by decide) (fun h_9 => absurd h_9 (by decide)) (fun _ => ?_)
    refine lv_aload_n hx hb dX5_readsNumbers_23 rfl (lv_at hl 1 rfl) ?_
    have hPc_24 := hP.sub (ws' := [((t 2), .inr (5, [.ref (t 1), .int (nI ln), .int (nI pl), iv, .ref (t 3), .int (nI tok), .int (nI vl), .int (nI st), .int (nI it)])), ((t 1), .inl (cC, 180, .inl (fun j => nI (tx j))))]) [0, 1] rfl
    refine ly_m (wr := [((t 3), .inl (cI, 3, .inl (fun j => nI (nm j))))]) (va_runV (As := []) (rest := []) ⟨hx, hb, hml, hown, hts⟩ (c_X5_takeToken l D cI cC cZ cN t tx iv ln pl tok vl st it htx hln (by omega) ((hD.sub [0, 1] (by decide) rfl).weaken (fun _ _ _ _ => trivial))) (cwV 0 hts gX5_readsNumbers_X5_takeToken rfl rfl rfl (by decide +kernel) ⟨Nat.le_of_ble_eq_true rfl, Nat.le_of_ble_eq_true rfl⟩) (ly_pv hK hN hPc_24 0 5 rfl rfl rfl) rfl rfl hl.1 rfl (lv_room (Nat.le_of_ble_eq_true rfl)) dX5_readsNumbers_24 ⟨Nat.zero_le _, Nat.zero_le _⟩) hP hD hS [0, 1] [2] rfl rfl (by decide) ?_
    rintro _ _ H locs ⟨rfl, rfl⟩ - hP hD hS
    have hT_24 := tk_T_le tx ln pl vl htx hln (by omega)
    have hP : va_P D vwCl [((t 3), .inl (cI, 3, .inl (fun j => nI (nm j)))), ((t 2), .inr (5, [.ref (t 1), .int (nI ln), .int (nI ((tk_T tx ln pl vl).1)), iv, .ref (t 3), .int (nI ((tk_T tx ln pl vl).2.1)), .int (nI ((tk_T tx ln pl vl).2.2.1)), .int (nI ((tk_T tx ln pl vl).2.2.2)), .int (nI it)])), ((t 1), .inl (cC, 180, .inl (fun j => nI (tx j))))] H := hP
    have hD : va_D A [((t 3), .inl (cI, 3, .inl (fun j => nI (nm j)))), ((t 2), .inr (5, [.ref (t 1), .int (nI ln), .int (nI ((tk_T tx ln pl vl).1)), iv, .ref (t 3), .int (nI ((tk_T tx ln pl vl).2.1)), .int (nI ((tk_T tx ln pl vl).2.2.1)), .int (nI ((tk_T tx ln pl vl).2.2.2)), .int (nI it)])), ((t 1), .inl (cC, 180, .inl (fun j => nI (tx j))))] := hD
    refine W.eq (g2 := F0 m 27 ls []) rfl ?_
    refine lv_aload_n hx hb dX5_readsNumbers_27 rfl (lv_at hl 1 rfl) ?_
    refine va_get (D := D) (ci := 5) (v := .int (nI ((tk_T tx ln pl vl).2.1))) (C := RX5) (T := TX5) (N := 9) hx hb hts hiX5 hown hK hP 1 rfl rfl 5 (by decide) f30 (fun _ h9 => h9) rfl dX5_readsNumbers_28 ?_
    refine lv_sipush (v := 257) hx hb dX5_readsNumbers_31 (by decide) ?_
    refine lv_icmp_ne (tgt := 53) hx hb dX5_readsNumbers_34 (by decide) (fun c_1 => ?_) (fun c_1 => ?_)
    · refine lv_iconst (v := 0) hx hb dX5_readsNumbers_53 (by decide) ?_
      have e_2 : (0, (tk_T tx ln pl vl), nm) = (rnL tx ln [(1, 3), (0, 20), (0, 20)] 0 (pl, tok, vl, st) nm) := (by simp only [rnL, if_neg c_1])
      exact W.zret (v := 0) hx hb hr rfl (fun t_9 ht_9 _ => by rw [hQc]; exact ⟨_, [((t 2), .inr (5, [.ref (t 1), .int (nI ln), .int (nI ((tk_T tx ln pl vl).1)), iv, .ref (t 3), .int (nI ((tk_T tx ln pl vl).2.1)), .int (nI ((tk_T tx ln pl vl).2.2.1)), .int (nI ((tk_T tx ln pl vl).2.2.2)), .int (nI it)])), ((t 1), .inl (cC, 180, .inl (fun j => nI (tx j)))), ((t 3), .inl (cI, 3, .inl (fun j => nI (nm j))))], rfl, ⟨(by rw [← e_2]), (by rw [← e_2])⟩, rfl, by rw [ht_9]; exact hP.sub [1, 2, 0] rfl, by rw [← hAe]; exact hS.F ht_9⟩) hS.2.2 dX5_readsNumbers_54
    · refine lv_aload_n hx hb dX5_readsNumbers_37 rfl (lv_at hl 1 rfl) ?_
      refine va_get (D := D) (ci := 5) (v := .int (nI ((tk_T tx ln pl vl).2.2.1))) (C := RX5) (T := TX5) (N := 9) hx hb hts hiX5 hown hK hP 1 rfl rfl 6 (by decide) f33 (fun _ h9 => h9) rfl dX5_readsNumbers_38 ?_
      refine lv_aload_n hx hb dX5_readsNumbers_41 rfl (lv_at hl 2 rfl) ?_
      refine lv_iload_n hx hb dX5_readsNumbers_42 rfl (lv_at hl 0 rfl) ?_
      refine va_ti (v := .int 1) hx hb hTa hS (show vp_in 0 3 from vp_in_nI (n := 0) (by decide) (by decide)) rfl dX5_readsNumbers_43 ?_
      refine lv_aload_n hx hb dX5_readsNumbers_44 rfl (lv_at hl 3 rfl) ?_
      refine lv_iload_n hx hb dX5_readsNumbers_45 rfl (lv_at hl 0 rfl) ?_
      refine va_ti (v := .int 3) hx hb hTb hS (show vp_in 0 3 from vp_in_nI (n := 0) (by decide) (by decide)) rfl dX5_readsNumbers_46 ?_
      have hPc_47 := hP.sub (ws' := []) [] rfl
      refine ly_r (va_runSN (As := [.int (nI ((tk_T tx ln pl vl).2.2.1)), .int 1, .int 3]) (rest := []) ⟨hx, hb, hml, hown, hts⟩ (c_X6_within l D cI cC cZ cN (nI ((tk_T tx ln pl vl).2.2.1)) 1 3) ⟨va_cnB 3 hts gX5_readsNumbers_X6_within_n108 rfl rfl rfl hN.2.2.2.2.2.1 (hts (.initialized RX6) (by decide +kernel)) (by decide +kernel) ⟨Nat.le_of_ble_eq_true rfl, Nat.le_of_ble_eq_true rfl⟩, hts (.static yX6_within) (by decide +kernel), trivial⟩ (ly_ps hK hN hPc_47) rfl rfl hl.1 rfl (lv_room (Nat.le_of_ble_eq_true rfl)) dX5_readsNumbers_47 ⟨Nat.zero_le _, Nat.zero_le _⟩) ?_
      refine lv_if_ne (tgt := 55) hx hb dX5_readsNumbers_50 (by decide) (fun c_3 => ?_) (fun c_3 => ?_)
      · refine lv_aload_n hx hb dX5_readsNumbers_55 rfl (lv_at hl 1 rfl) ?_
        refine va_get (D := D) (ci := 5) (v := .ref (t 3)) (C := RX5) (T := TX5) (N := 9) hx hb hts hiX5 hown hK hP 1 rfl rfl 4 (by decide) f26 (fun _ h9 => h9) rfl dX5_readsNumbers_56 ?_
        refine lv_iload_n hx hb dX5_readsNumbers_59 rfl (lv_at hl 0 rfl) ?_
        refine lv_aload_n hx hb dX5_readsNumbers_60 rfl (lv_at hl 1 rfl) ?_
        refine va_get (D := D) (ci := 5) (v := .int (nI ((tk_T tx ln pl vl).2.2.1))) (C := RX5) (T := TX5) (N := 9) hx hb hts hiX5 hown hK hP 1 rfl rfl 6 (by decide) f33 (fun _ h9 => h9) rfl dX5_readsNumbers_61 ?_
        refine ly_iastN hx hb hK hP hD hS 0 0 rfl rfl (k := 0) (v := (tk_T tx ln pl vl).2.2.1) (by decide) rfl (by omega) rfl dX5_readsNumbers_64 (fun H locs hP hD hS => ?_)
        have hP : va_P D vwCl [((t 3), .inl (cI, 3, .inl (fun j => nI ((va_up nm 0 ((tk_T tx ln pl vl).2.2.1)) j)))), ((t 2), .inr (5, [.ref (t 1), .int (nI ln), .int (nI ((tk_T tx ln pl vl).1)), iv, .ref (t 3), .int (nI ((tk_T tx ln pl vl).2.1)), .int (nI ((tk_T tx ln pl vl).2.2.1)), .int (nI ((tk_T tx ln pl vl).2.2.2)), .int (nI it)])), ((t 1), .inl (cC, 180, .inl (fun j => nI (tx j))))] H := hP
        have hD : va_D A [((t 3), .inl (cI, 3, .inl (fun j => nI ((va_up nm 0 ((tk_T tx ln pl vl).2.2.1)) j)))), ((t 2), .inr (5, [.ref (t 1), .int (nI ln), .int (nI ((tk_T tx ln pl vl).1)), iv, .ref (t 3), .int (nI ((tk_T tx ln pl vl).2.1)), .int (nI ((tk_T tx ln pl vl).2.2.1)), .int (nI ((tk_T tx ln pl vl).2.2.2)), .int (nI it)])), ((t 1), .inl (cC, 180, .inl (fun j => nI (tx j))))] := hD
        refine lv_iinc (v := 1) (lv' := [(3, .int 1), (0, .ref (t 2)), (1, .ref ta), (2, .ref tb)]) hx hb dX5_readsNumbers_65 hl (k := 0) rfl (by decide) (by decide) rfl (fun ls hl => ?_)
        refine lv_goto (tgt := 2) hx hb dX5_readsNumbers_68 (by decide) ?_
        refine lv_iload_n hx hb dX5_readsNumbers_2 rfl (lv_at hl 0 rfl) ?_
        refine lv_aload_n hx hb dX5_readsNumbers_3 rfl (lv_at hl 2 rfl) ?_
        refine va_tlen (v := 3) hx hb hTa hS rfl dX5_readsNumbers_4 ?_
        refine lv_icmp_ge (tgt := 71) hx hb dX5_readsNumbers_5 (by decide) (fun h_9 => absurd h_9 (by decide)) (fun _ => ?_)
        refine lv_iload_n hx hb dX5_readsNumbers_8 rfl (lv_at hl 0 rfl) ?_
        refine lv_aload_n hx hb dX5_readsNumbers_9 rfl (lv_at hl 3 rfl) ?_
        refine va_tlen (v := 3) hx hb hTb hS rfl dX5_readsNumbers_10 ?_
        refine lv_icmp_ge (tgt := 71) hx hb dX5_readsNumbers_11 (by decide) (fun h_9 => absurd h_9 (by decide)) (fun _ => ?_)
        refine lv_iload_n hx hb dX5_readsNumbers_14 rfl (lv_at hl 0 rfl) ?_
        refine lv_aload_n hx hb dX5_readsNumbers_15 rfl (lv_at hl 1 rfl) ?_
        refine va_get (D := D) (ci := 5) (v := .ref (t 3)) (C := RX5) (T := TX5) (N := 9) hx hb hts hiX5 hown hK hP 1 rfl rfl 4 (by decide) f26 (fun _ h9 => h9) rfl dX5_readsNumbers_16 ?_
        refine va_alen (v := 3) hx hb hK hP 0 0 rfl rfl rfl dX5_readsNumbers_19 ?_
        refine lv_icmp_ge (tgt := 71) hx hb dX5_readsNumbers_20 (by decide) (fun h_9 => absurd h_9 (by decide)) (fun _ => ?_)
        refine lv_aload_n hx hb dX5_readsNumbers_23 rfl (lv_at hl 1 rfl) ?_
        have hPc_24 := hP.sub (ws' := [((t 2), .inr (5, [.ref (t 1), .int (nI ln), .int (nI ((tk_T tx ln pl vl).1)), iv, .ref (t 3), .int (nI ((tk_T tx ln pl vl).2.1)), .int (nI ((tk_T tx ln pl vl).2.2.1)), .int (nI ((tk_T tx ln pl vl).2.2.2)), .int (nI it)])), ((t 1), .inl (cC, 180, .inl (fun j => nI (tx j))))]) [1, 2] rfl
        refine ly_m (wr := [((t 3), .inl (cI, 3, .inl (fun j => nI ((va_up nm 0 ((tk_T tx ln pl vl).2.2.1)) j))))]) (va_runV (As := []) (rest := []) ⟨hx, hb, hml, hown, hts⟩ (c_X5_takeToken l D cI cC cZ cN t tx iv ln ((tk_T tx ln pl vl).1) ((tk_T tx ln pl vl).2.1) ((tk_T tx ln pl vl).2.2.1) ((tk_T tx ln pl vl).2.2.2) it htx hln (by omega) ((hD.sub [1, 2] (by decide) rfl).weaken (fun _ _ _ _ => trivial))) (cwV 0 hts gX5_readsNumbers_X5_takeToken rfl rfl rfl (by decide +kernel) ⟨Nat.le_of_ble_eq_true rfl, Nat.le_of_ble_eq_true rfl⟩) (ly_pv hK hN hPc_24 0 5 rfl rfl rfl) rfl rfl hl.1 rfl (lv_room (Nat.le_of_ble_eq_true rfl)) dX5_readsNumbers_24 ⟨Nat.zero_le _, Nat.zero_le _⟩) hP hD hS [1, 2] [0] rfl rfl (by decide) ?_
        rintro _ _ H locs ⟨rfl, rfl⟩ - hP hD hS
        have hT_24 := tk_T_le tx ln ((tk_T tx ln pl vl).1) ((tk_T tx ln pl vl).2.2.1) htx hln (by omega)
        have hP : va_P D vwCl [((t 3), .inl (cI, 3, .inl (fun j => nI ((va_up nm 0 ((tk_T tx ln pl vl).2.2.1)) j)))), ((t 2), .inr (5, [.ref (t 1), .int (nI ln), .int (nI ((tk_T tx ln ((tk_T tx ln pl vl).1) ((tk_T tx ln pl vl).2.2.1)).1)), iv, .ref (t 3), .int (nI ((tk_T tx ln ((tk_T tx ln pl vl).1) ((tk_T tx ln pl vl).2.2.1)).2.1)), .int (nI ((tk_T tx ln ((tk_T tx ln pl vl).1) ((tk_T tx ln pl vl).2.2.1)).2.2.1)), .int (nI ((tk_T tx ln ((tk_T tx ln pl vl).1) ((tk_T tx ln pl vl).2.2.1)).2.2.2)), .int (nI it)])), ((t 1), .inl (cC, 180, .inl (fun j => nI (tx j))))] H := hP
        have hD : va_D A [((t 3), .inl (cI, 3, .inl (fun j => nI ((va_up nm 0 ((tk_T tx ln pl vl).2.2.1)) j)))), ((t 2), .inr (5, [.ref (t 1), .int (nI ln), .int (nI ((tk_T tx ln ((tk_T tx ln pl vl).1) ((tk_T tx ln pl vl).2.2.1)).1)), iv, .ref (t 3), .int (nI ((tk_T tx ln ((tk_T tx ln pl vl).1) ((tk_T tx ln pl vl).2.2.1)).2.1)), .int (nI ((tk_T tx ln ((tk_T tx ln pl vl).1) ((tk_T tx ln pl vl).2.2.1)).2.2.1)), .int (nI ((tk_T tx ln ((tk_T tx ln pl vl).1) ((tk_T tx ln pl vl).2.2.1)).2.2.2)), .int (nI it)])), ((t 1), .inl (cC, 180, .inl (fun j => nI (tx j))))] := hD
        refine W.eq (g2 := F0 m 27 ls []) rfl ?_
        refine lv_aload_n hx hb dX5_readsNumbers_27 rfl (lv_at hl 1 rfl) ?_
        refine va_get (D := D) (ci := 5) (v := .int (nI ((tk_T tx ln ((tk_T tx ln pl vl).1) ((tk_T tx ln pl vl).2.2.1)).2.1))) (C := RX5) (T := TX5) (N := 9) hx hb hts hiX5 hown hK hP 1 rfl rfl 5 (by decide) f30 (fun _ h9 => h9) rfl dX5_readsNumbers_28 ?_
        refine lv_sipush (v := 257) hx hb dX5_readsNumbers_31 (by decide) ?_
        refine lv_icmp_ne (tgt := 53) hx hb dX5_readsNumbers_34 (by decide) (fun c_4 => ?_) (fun c_4 => ?_)
        · refine lv_iconst (v := 0) hx hb dX5_readsNumbers_53 (by decide) ?_
          have e_5 : (0, (tk_T tx ln ((tk_T tx ln pl vl).1) ((tk_T tx ln pl vl).2.2.1)), (va_up nm 0 ((tk_T tx ln pl vl).2.2.1))) = (rnL tx ln [(1, 3), (0, 20), (0, 20)] 0 (pl, tok, vl, st) nm) := (by simp only [rnL, if_pos c_1, if_neg c_3, if_neg c_4])
          exact W.zret (v := 0) hx hb hr rfl (fun t_9 ht_9 _ => by rw [hQc]; exact ⟨_, [((t 2), .inr (5, [.ref (t 1), .int (nI ln), .int (nI ((tk_T tx ln ((tk_T tx ln pl vl).1) ((tk_T tx ln pl vl).2.2.1)).1)), iv, .ref (t 3), .int (nI ((tk_T tx ln ((tk_T tx ln pl vl).1) ((tk_T tx ln pl vl).2.2.1)).2.1)), .int (nI ((tk_T tx ln ((tk_T tx ln pl vl).1) ((tk_T tx ln pl vl).2.2.1)).2.2.1)), .int (nI ((tk_T tx ln ((tk_T tx ln pl vl).1) ((tk_T tx ln pl vl).2.2.1)).2.2.2)), .int (nI it)])), ((t 1), .inl (cC, 180, .inl (fun j => nI (tx j)))), ((t 3), .inl (cI, 3, .inl (fun j => nI ((va_up nm 0 ((tk_T tx ln pl vl).2.2.1)) j))))], rfl, ⟨(by rw [← e_5]), (by rw [← e_5])⟩, rfl, by rw [ht_9]; exact hP.sub [1, 2, 0] rfl, by rw [← hAe]; exact hS.F ht_9⟩) hS.2.2 dX5_readsNumbers_54
        · refine lv_aload_n hx hb dX5_readsNumbers_37 rfl (lv_at hl 1 rfl) ?_
          refine va_get (D := D) (ci := 5) (v := .int (nI ((tk_T tx ln ((tk_T tx ln pl vl).1) ((tk_T tx ln pl vl).2.2.1)).2.2.1))) (C := RX5) (T := TX5) (N := 9) hx hb hts hiX5 hown hK hP 1 rfl rfl 6 (by decide) f33 (fun _ h9 => h9) rfl dX5_readsNumbers_38 ?_
          refine lv_aload_n hx hb dX5_readsNumbers_41 rfl (lv_at hl 2 rfl) ?_
          refine lv_iload_n hx hb dX5_readsNumbers_42 rfl (lv_at hl 0 rfl) ?_
          refine va_ti (v := .int 0) hx hb hTa hS (show vp_in 1 3 from vp_in_nI (n := 1) (by decide) (by decide)) rfl dX5_readsNumbers_43 ?_
          refine lv_aload_n hx hb dX5_readsNumbers_44 rfl (lv_at hl 3 rfl) ?_
          refine lv_iload_n hx hb dX5_readsNumbers_45 rfl (lv_at hl 0 rfl) ?_
          refine va_ti (v := .int 20) hx hb hTb hS (show vp_in 1 3 from vp_in_nI (n := 1) (by decide) (by decide)) rfl dX5_readsNumbers_46 ?_
          have hPc_47 := hP.sub (ws' := []) [] rfl
          refine ly_r (va_runSN (As := [.int (nI ((tk_T tx ln ((tk_T tx ln pl vl).1) ((tk_T tx ln pl vl).2.2.1)).2.2.1)), .int 0, .int 20]) (rest := []) ⟨hx, hb, hml, hown, hts⟩ (c_X6_within l D cI cC cZ cN (nI ((tk_T tx ln ((tk_T tx ln pl vl).1) ((tk_T tx ln pl vl).2.2.1)).2.2.1)) 0 20) ⟨va_cnB 3 hts gX5_readsNumbers_X6_within_n108 rfl rfl rfl hN.2.2.2.2.2.1 (hts (.initialized RX6) (by decide +kernel)) (by decide +kernel) ⟨Nat.le_of_ble_eq_true rfl, Nat.le_of_ble_eq_true rfl⟩, hts (.static yX6_within) (by decide +kernel), trivial⟩ (ly_ps hK hN hPc_47) rfl rfl hl.1 rfl (lv_room (Nat.le_of_ble_eq_true rfl)) dX5_readsNumbers_47 ⟨Nat.zero_le _, Nat.zero_le _⟩) ?_
          refine lv_if_ne (tgt := 55) hx hb dX5_readsNumbers_50 (by decide) (fun c_6 => ?_) (fun c_6 => ?_)
          · refine lv_aload_n hx hb dX5_readsNumbers_55 rfl (lv_at hl 1 rfl) ?_
            refine va_get (D := D) (ci := 5) (v := .ref (t 3)) (C := RX5) (T := TX5) (N := 9) hx hb hts hiX5 hown hK hP 1 rfl rfl 4 (by decide) f26 (fun _ h9 => h9) rfl dX5_readsNumbers_56 ?_
            refine lv_iload_n hx hb dX5_readsNumbers_59 rfl (lv_at hl 0 rfl) ?_
            refine lv_aload_n hx hb dX5_readsNumbers_60 rfl (lv_at hl 1 rfl) ?_
            refine va_get (D := D) (ci := 5) (v := .int (nI ((tk_T tx ln ((tk_T tx ln pl vl).1) ((tk_T tx ln pl vl).2.2.1)).2.2.1))) (C := RX5) (T := TX5) (N := 9) hx hb hts hiX5 hown hK hP 1 rfl rfl 6 (by decide) f33 (fun _ h9 => h9) rfl dX5_readsNumbers_61 ?_
            refine ly_iastN hx hb hK hP hD hS 0 0 rfl rfl (k := 1) (v := (tk_T tx ln ((tk_T tx ln pl vl).1) ((tk_T tx ln pl vl).2.2.1)).2.2.1) (by decide) rfl (by omega) rfl dX5_readsNumbers_64 (fun H locs hP hD hS => ?_)
            have hP : va_P D vwCl [((t 3), .inl (cI, 3, .inl (fun j => nI ((va_up (va_up nm 0 ((tk_T tx ln pl vl).2.2.1)) 1 ((tk_T tx ln ((tk_T tx ln pl vl).1) ((tk_T tx ln pl vl).2.2.1)).2.2.1)) j)))), ((t 2), .inr (5, [.ref (t 1), .int (nI ln), .int (nI ((tk_T tx ln ((tk_T tx ln pl vl).1) ((tk_T tx ln pl vl).2.2.1)).1)), iv, .ref (t 3), .int (nI ((tk_T tx ln ((tk_T tx ln pl vl).1) ((tk_T tx ln pl vl).2.2.1)).2.1)), .int (nI ((tk_T tx ln ((tk_T tx ln pl vl).1) ((tk_T tx ln pl vl).2.2.1)).2.2.1)), .int (nI ((tk_T tx ln ((tk_T tx ln pl vl).1) ((tk_T tx ln pl vl).2.2.1)).2.2.2)), .int (nI it)])), ((t 1), .inl (cC, 180, .inl (fun j => nI (tx j))))] H := hP
            have hD : va_D A [((t 3), .inl (cI, 3, .inl (fun j => nI ((va_up (va_up nm 0 ((tk_T tx ln pl vl).2.2.1)) 1 ((tk_T tx ln ((tk_T tx ln pl vl).1) ((tk_T tx ln pl vl).2.2.1)).2.2.1)) j)))), ((t 2), .inr (5, [.ref (t 1), .int (nI ln), .int (nI ((tk_T tx ln ((tk_T tx ln pl vl).1) ((tk_T tx ln pl vl).2.2.1)).1)), iv, .ref (t 3), .int (nI ((tk_T tx ln ((tk_T tx ln pl vl).1) ((tk_T tx ln pl vl).2.2.1)).2.1)), .int (nI ((tk_T tx ln ((tk_T tx ln pl vl).1) ((tk_T tx ln pl vl).2.2.1)).2.2.1)), .int (nI ((tk_T tx ln ((tk_T tx ln pl vl).1) ((tk_T tx ln pl vl).2.2.1)).2.2.2)), .int (nI it)])), ((t 1), .inl (cC, 180, .inl (fun j => nI (tx j))))] := hD
            refine lv_iinc (v := 2) (lv' := [(3, .int 2), (0, .ref (t 2)), (1, .ref ta), (2, .ref tb)]) hx hb dX5_readsNumbers_65 hl (k := 0) rfl (by decide) (by decide) rfl (fun ls hl => ?_)
            refine lv_goto (tgt := 2) hx hb dX5_readsNumbers_68 (by decide) ?_
            refine lv_iload_n hx hb dX5_readsNumbers_2 rfl (lv_at hl 0 rfl) ?_
            refine lv_aload_n hx hb dX5_readsNumbers_3 rfl (lv_at hl 2 rfl) ?_
            refine va_tlen (v := 3) hx hb hTa hS rfl dX5_readsNumbers_4 ?_
            refine lv_icmp_ge (tgt := 71) hx hb dX5_readsNumbers_5 (by decide) (fun h_9 => absurd h_9 (by decide)) (fun _ => ?_)
            refine lv_iload_n hx hb dX5_readsNumbers_8 rfl (lv_at hl 0 rfl) ?_
            refine lv_aload_n hx hb dX5_readsNumbers_9 rfl (lv_at hl 3 rfl) ?_
            refine va_tlen (v := 3) hx hb hTb hS rfl dX5_readsNumbers_10 ?_
            refine lv_icmp_ge (tgt := 71) hx hb dX5_readsNumbers_11 (by decide) (fun h_9 => absurd h_9 (by decide)) (fun _ => ?_)
            refine lv_iload_n hx hb dX5_readsNumbers_14 rfl (lv_at hl 0 rfl) ?_
            refine lv_aload_n hx hb dX5_readsNumbers_15 rfl (lv_at hl 1 rfl) ?_
            refine va_get (D := D) (ci := 5) (v := .ref (t 3)) (C := RX5) (T := TX5) (N := 9) hx hb hts hiX5 hown hK hP 1 rfl rfl 4 (by decide) f26 (fun _ h9 => h9) rfl dX5_readsNumbers_16 ?_
            refine va_alen (v := 3) hx hb hK hP 0 0 rfl rfl rfl dX5_readsNumbers_19 ?_
            refine lv_icmp_ge (tgt := 71) hx hb dX5_readsNumbers_20 (by decide) (fun h_9 => absurd h_9 (by decide)) (fun _ => ?_)
            refine lv_aload_n hx hb dX5_readsNumbers_23 rfl (lv_at hl 1 rfl) ?_
            have hPc_24 := hP.sub (ws' := [((t 2), .inr (5, [.ref (t 1), .int (nI ln), .int (nI ((tk_T tx ln ((tk_T tx ln pl vl).1) ((tk_T tx ln pl vl).2.2.1)).1)), iv, .ref (t 3), .int (nI ((tk_T tx ln ((tk_T tx ln pl vl).1) ((tk_T tx ln pl vl).2.2.1)).2.1)), .int (nI ((tk_T tx ln ((tk_T tx ln pl vl).1) ((tk_T tx ln pl vl).2.2.1)).2.2.1)), .int (nI ((tk_T tx ln ((tk_T tx ln pl vl).1) ((tk_T tx ln pl vl).2.2.1)).2.2.2)), .int (nI it)])), ((t 1), .inl (cC, 180, .inl (fun j => nI (tx j))))]) [1, 2] rfl
            refine ly_m (wr := [((t 3), .inl (cI, 3, .inl (fun j => nI ((va_up (va_up nm 0 ((tk_T tx ln pl vl).2.2.1)) 1 ((tk_T tx ln ((tk_T tx ln pl vl).1) ((tk_T tx ln pl vl).2.2.1)).2.2.1)) j))))]) (va_runV (As := []) (rest := []) ⟨hx, hb, hml, hown, hts⟩ (c_X5_takeToken l D cI cC cZ cN t tx iv ln ((tk_T tx ln ((tk_T tx ln pl vl).1) ((tk_T tx ln pl vl).2.2.1)).1) ((tk_T tx ln ((tk_T tx ln pl vl).1) ((tk_T tx ln pl vl).2.2.1)).2.1) ((tk_T tx ln ((tk_T tx ln pl vl).1) ((tk_T tx ln pl vl).2.2.1)).2.2.1) ((tk_T tx ln ((tk_T tx ln pl vl).1) ((tk_T tx ln pl vl).2.2.1)).2.2.2) it htx hln (by omega) ((hD.sub [1, 2] (by decide) rfl).weaken (fun _ _ _ _ => trivial))) (cwV 0 hts gX5_readsNumbers_X5_takeToken rfl rfl rfl (by decide +kernel) ⟨Nat.le_of_ble_eq_true rfl, Nat.le_of_ble_eq_true rfl⟩) (ly_pv hK hN hPc_24 0 5 rfl rfl rfl) rfl rfl hl.1 rfl (lv_room (Nat.le_of_ble_eq_true rfl)) dX5_readsNumbers_24 ⟨Nat.zero_le _, Nat.zero_le _⟩) hP hD hS [1, 2] [0] rfl rfl (by decide) ?_
            rintro _ _ H locs ⟨rfl, rfl⟩ - hP hD hS
            have hT_24 := tk_T_le tx ln ((tk_T tx ln ((tk_T tx ln pl vl).1) ((tk_T tx ln pl vl).2.2.1)).1) ((tk_T tx ln ((tk_T tx ln pl vl).1) ((tk_T tx ln pl vl).2.2.1)).2.2.1) htx hln (by omega)
            have hP : va_P D vwCl [((t 3), .inl (cI, 3, .inl (fun j => nI ((va_up (va_up nm 0 ((tk_T tx ln pl vl).2.2.1)) 1 ((tk_T tx ln ((tk_T tx ln pl vl).1) ((tk_T tx ln pl vl).2.2.1)).2.2.1)) j)))), ((t 2), .inr (5, [.ref (t 1), .int (nI ln), .int (nI ((tk_T tx ln ((tk_T tx ln ((tk_T tx ln pl vl).1) ((tk_T tx ln pl vl).2.2.1)).1) ((tk_T tx ln ((tk_T tx ln pl vl).1) ((tk_T tx ln pl vl).2.2.1)).2.2.1)).1)), iv, .ref (t 3), .int (nI ((tk_T tx ln ((tk_T tx ln ((tk_T tx ln pl vl).1) ((tk_T tx ln pl vl).2.2.1)).1) ((tk_T tx ln ((tk_T tx ln pl vl).1) ((tk_T tx ln pl vl).2.2.1)).2.2.1)).2.1)), .int (nI ((tk_T tx ln ((tk_T tx ln ((tk_T tx ln pl vl).1) ((tk_T tx ln pl vl).2.2.1)).1) ((tk_T tx ln ((tk_T tx ln pl vl).1) ((tk_T tx ln pl vl).2.2.1)).2.2.1)).2.2.1)), .int (nI ((tk_T tx ln ((tk_T tx ln ((tk_T tx ln pl vl).1) ((tk_T tx ln pl vl).2.2.1)).1) ((tk_T tx ln ((tk_T tx ln pl vl).1) ((tk_T tx ln pl vl).2.2.1)).2.2.1)).2.2.2)), .int (nI it)])), ((t 1), .inl (cC, 180, .inl (fun j => nI (tx j))))] H := hP
            have hD : va_D A [((t 3), .inl (cI, 3, .inl (fun j => nI ((va_up (va_up nm 0 ((tk_T tx ln pl vl).2.2.1)) 1 ((tk_T tx ln ((tk_T tx ln pl vl).1) ((tk_T tx ln pl vl).2.2.1)).2.2.1)) j)))), ((t 2), .inr (5, [.ref (t 1), .int (nI ln), .int (nI ((tk_T tx ln ((tk_T tx ln ((tk_T tx ln pl vl).1) ((tk_T tx ln pl vl).2.2.1)).1) ((tk_T tx ln ((tk_T tx ln pl vl).1) ((tk_T tx ln pl vl).2.2.1)).2.2.1)).1)), iv, .ref (t 3), .int (nI ((tk_T tx ln ((tk_T tx ln ((tk_T tx ln pl vl).1) ((tk_T tx ln pl vl).2.2.1)).1) ((tk_T tx ln ((tk_T tx ln pl vl).1) ((tk_T tx ln pl vl).2.2.1)).2.2.1)).2.1)), .int (nI ((tk_T tx ln ((tk_T tx ln ((tk_T tx ln pl vl).1) ((tk_T tx ln pl vl).2.2.1)).1) ((tk_T tx ln ((tk_T tx ln pl vl).1) ((tk_T tx ln pl vl).2.2.1)).2.2.1)).2.2.1)), .int (nI ((tk_T tx ln ((tk_T tx ln ((tk_T tx ln pl vl).1) ((tk_T tx ln pl vl).2.2.1)).1) ((tk_T tx ln ((tk_T tx ln pl vl).1) ((tk_T tx ln pl vl).2.2.1)).2.2.1)).2.2.2)), .int (nI it)])), ((t 1), .inl (cC, 180, .inl (fun j => nI (tx j))))] := hD
            refine W.eq (g2 := F0 m 27 ls []) rfl ?_
            refine lv_aload_n hx hb dX5_readsNumbers_27 rfl (lv_at hl 1 rfl) ?_
            refine va_get (D := D) (ci := 5) (v := .int (nI ((tk_T tx ln ((tk_T tx ln ((tk_T tx ln pl vl).1) ((tk_T tx ln pl vl).2.2.1)).1) ((tk_T tx ln ((tk_T tx ln pl vl).1) ((tk_T tx ln pl vl).2.2.1)).2.2.1)).2.1))) (C := RX5) (T := TX5) (N := 9) hx hb hts hiX5 hown hK hP 1 rfl rfl 5 (by decide) f30 (fun _ h9 => h9) rfl dX5_readsNumbers_28 ?_
            refine lv_sipush (v := 257) hx hb dX5_readsNumbers_31 (by decide) ?_
            refine lv_icmp_ne (tgt := 53) hx hb dX5_readsNumbers_34 (by decide) (fun c_7 => ?_) (fun c_7 => ?_)
            · refine lv_iconst (v := 0) hx hb dX5_readsNumbers_53 (by decide) ?_
              have e_8 : (0, (tk_T tx ln ((tk_T tx ln ((tk_T tx ln pl vl).1) ((tk_T tx ln pl vl).2.2.1)).1) ((tk_T tx ln ((tk_T tx ln pl vl).1) ((tk_T tx ln pl vl).2.2.1)).2.2.1)), (va_up (va_up nm 0 ((tk_T tx ln pl vl).2.2.1)) 1 ((tk_T tx ln ((tk_T tx ln pl vl).1) ((tk_T tx ln pl vl).2.2.1)).2.2.1))) = (rnL tx ln [(1, 3), (0, 20), (0, 20)] 0 (pl, tok, vl, st) nm) := (by simp only [rnL, if_pos c_1, if_neg c_3, if_pos c_4, if_neg c_6, if_neg c_7])
              exact W.zret (v := 0) hx hb hr rfl (fun t_9 ht_9 _ => by rw [hQc]; exact ⟨_, [((t 2), .inr (5, [.ref (t 1), .int (nI ln), .int (nI ((tk_T tx ln ((tk_T tx ln ((tk_T tx ln pl vl).1) ((tk_T tx ln pl vl).2.2.1)).1) ((tk_T tx ln ((tk_T tx ln pl vl).1) ((tk_T tx ln pl vl).2.2.1)).2.2.1)).1)), iv, .ref (t 3), .int (nI ((tk_T tx ln ((tk_T tx ln ((tk_T tx ln pl vl).1) ((tk_T tx ln pl vl).2.2.1)).1) ((tk_T tx ln ((tk_T tx ln pl vl).1) ((tk_T tx ln pl vl).2.2.1)).2.2.1)).2.1)), .int (nI ((tk_T tx ln ((tk_T tx ln ((tk_T tx ln pl vl).1) ((tk_T tx ln pl vl).2.2.1)).1) ((tk_T tx ln ((tk_T tx ln pl vl).1) ((tk_T tx ln pl vl).2.2.1)).2.2.1)).2.2.1)), .int (nI ((tk_T tx ln ((tk_T tx ln ((tk_T tx ln pl vl).1) ((tk_T tx ln pl vl).2.2.1)).1) ((tk_T tx ln ((tk_T tx ln pl vl).1) ((tk_T tx ln pl vl).2.2.1)).2.2.1)).2.2.2)), .int (nI it)])), ((t 1), .inl (cC, 180, .inl (fun j => nI (tx j)))), ((t 3), .inl (cI, 3, .inl (fun j => nI ((va_up (va_up nm 0 ((tk_T tx ln pl vl).2.2.1)) 1 ((tk_T tx ln ((tk_T tx ln pl vl).1) ((tk_T tx ln pl vl).2.2.1)).2.2.1)) j))))], rfl, ⟨(by rw [← e_8]), (by rw [← e_8])⟩, rfl, by rw [ht_9]; exact hP.sub [1, 2, 0] rfl, by rw [← hAe]; exact hS.F ht_9⟩) hS.2.2 dX5_readsNumbers_54
            · refine lv_aload_n hx hb dX5_readsNumbers_37 rfl (lv_at hl 1 rfl) ?_
              refine va_get (D := D) (ci := 5) (v := .int (nI ((tk_T tx ln ((tk_T tx ln ((tk_T tx ln pl vl).1) ((tk_T tx ln pl vl).2.2.1)).1) ((tk_T tx ln ((tk_T tx ln pl vl).1) ((tk_T tx ln pl vl).2.2.1)).2.2.1)).2.2.1))) (C := RX5) (T := TX5) (N := 9) hx hb hts hiX5 hown hK hP 1 rfl rfl 6 (by decide) f33 (fun _ h9 => h9) rfl dX5_readsNumbers_38 ?_
              refine lv_aload_n hx hb dX5_readsNumbers_41 rfl (lv_at hl 2 rfl) ?_
              refine lv_iload_n hx hb dX5_readsNumbers_42 rfl (lv_at hl 0 rfl) ?_
              refine va_ti (v := .int 0) hx hb hTa hS (show vp_in 2 3 from vp_in_nI (n := 2) (by decide) (by decide)) rfl dX5_readsNumbers_43 ?_
              refine lv_aload_n hx hb dX5_readsNumbers_44 rfl (lv_at hl 3 rfl) ?_
              refine lv_iload_n hx hb dX5_readsNumbers_45 rfl (lv_at hl 0 rfl) ?_
              refine va_ti (v := .int 20) hx hb hTb hS (show vp_in 2 3 from vp_in_nI (n := 2) (by decide) (by decide)) rfl dX5_readsNumbers_46 ?_
              have hPc_47 := hP.sub (ws' := []) [] rfl
              refine ly_r (va_runSN (As := [.int (nI ((tk_T tx ln ((tk_T tx ln ((tk_T tx ln pl vl).1) ((tk_T tx ln pl vl).2.2.1)).1) ((tk_T tx ln ((tk_T tx ln pl vl).1) ((tk_T tx ln pl vl).2.2.1)).2.2.1)).2.2.1)), .int 0, .int 20]) (rest := []) ⟨hx, hb, hml, hown, hts⟩ (c_X6_within l D cI cC cZ cN (nI ((tk_T tx ln ((tk_T tx ln ((tk_T tx ln pl vl).1) ((tk_T tx ln pl vl).2.2.1)).1) ((tk_T tx ln ((tk_T tx ln pl vl).1) ((tk_T tx ln pl vl).2.2.1)).2.2.1)).2.2.1)) 0 20) ⟨va_cnB 3 hts gX5_readsNumbers_X6_within_n108 rfl rfl rfl hN.2.2.2.2.2.1 (hts (.initialized RX6) (by decide +kernel)) (by decide +kernel) ⟨Nat.le_of_ble_eq_true rfl, Nat.le_of_ble_eq_true rfl⟩, hts (.static yX6_within) (by decide +kernel), trivial⟩ (ly_ps hK hN hPc_47) rfl rfl hl.1 rfl (lv_room (Nat.le_of_ble_eq_true rfl)) dX5_readsNumbers_47 ⟨Nat.zero_le _, Nat.zero_le _⟩) ?_
              refine lv_if_ne (tgt := 55) hx hb dX5_readsNumbers_50 (by decide) (fun c_9 => ?_) (fun c_9 => ?_)
              · refine lv_aload_n hx hb dX5_readsNumbers_55 rfl (lv_at hl 1 rfl) ?_
                refine va_get (D := D) (ci := 5) (v := .ref (t 3)) (C := RX5) (T := TX5) (N := 9) hx hb hts hiX5 hown hK hP 1 rfl rfl 4 (by decide) f26 (fun _ h9 => h9) rfl dX5_readsNumbers_56 ?_
                refine lv_iload_n hx hb dX5_readsNumbers_59 rfl (lv_at hl 0 rfl) ?_
                refine lv_aload_n hx hb dX5_readsNumbers_60 rfl (lv_at hl 1 rfl) ?_
                refine va_get (D := D) (ci := 5) (v := .int (nI ((tk_T tx ln ((tk_T tx ln ((tk_T tx ln pl vl).1) ((tk_T tx ln pl vl).2.2.1)).1) ((tk_T tx ln ((tk_T tx ln pl vl).1) ((tk_T tx ln pl vl).2.2.1)).2.2.1)).2.2.1))) (C := RX5) (T := TX5) (N := 9) hx hb hts hiX5 hown hK hP 1 rfl rfl 6 (by decide) f33 (fun _ h9 => h9) rfl dX5_readsNumbers_61 ?_
                refine ly_iastN hx hb hK hP hD hS 0 0 rfl rfl (k := 2) (v := (tk_T tx ln ((tk_T tx ln ((tk_T tx ln pl vl).1) ((tk_T tx ln pl vl).2.2.1)).1) ((tk_T tx ln ((tk_T tx ln pl vl).1) ((tk_T tx ln pl vl).2.2.1)).2.2.1)).2.2.1) (by decide) rfl (by omega) rfl dX5_readsNumbers_64 (fun H locs hP hD hS => ?_)
                have hP : va_P D vwCl [((t 3), .inl (cI, 3, .inl (fun j => nI ((va_up (va_up (va_up nm 0 ((tk_T tx ln pl vl).2.2.1)) 1 ((tk_T tx ln ((tk_T tx ln pl vl).1) ((tk_T tx ln pl vl).2.2.1)).2.2.1)) 2 ((tk_T tx ln ((tk_T tx ln ((tk_T tx ln pl vl).1) ((tk_T tx ln pl vl).2.2.1)).1) ((tk_T tx ln ((tk_T tx ln pl vl).1) ((tk_T tx ln pl vl).2.2.1)).2.2.1)).2.2.1)) j)))), ((t 2), .inr (5, [.ref (t 1), .int (nI ln), .int (nI ((tk_T tx ln ((tk_T tx ln ((tk_T tx ln pl vl).1) ((tk_T tx ln pl vl).2.2.1)).1) ((tk_T tx ln ((tk_T tx ln pl vl).1) ((tk_T tx ln pl vl).2.2.1)).2.2.1)).1)), iv, .ref (t 3), .int (nI ((tk_T tx ln ((tk_T tx ln ((tk_T tx ln pl vl).1) ((tk_T tx ln pl vl).2.2.1)).1) ((tk_T tx ln ((tk_T tx ln pl vl).1) ((tk_T tx ln pl vl).2.2.1)).2.2.1)).2.1)), .int (nI ((tk_T tx ln ((tk_T tx ln ((tk_T tx ln pl vl).1) ((tk_T tx ln pl vl).2.2.1)).1) ((tk_T tx ln ((tk_T tx ln pl vl).1) ((tk_T tx ln pl vl).2.2.1)).2.2.1)).2.2.1)), .int (nI ((tk_T tx ln ((tk_T tx ln ((tk_T tx ln pl vl).1) ((tk_T tx ln pl vl).2.2.1)).1) ((tk_T tx ln ((tk_T tx ln pl vl).1) ((tk_T tx ln pl vl).2.2.1)).2.2.1)).2.2.2)), .int (nI it)])), ((t 1), .inl (cC, 180, .inl (fun j => nI (tx j))))] H := hP
                have hD : va_D A [((t 3), .inl (cI, 3, .inl (fun j => nI ((va_up (va_up (va_up nm 0 ((tk_T tx ln pl vl).2.2.1)) 1 ((tk_T tx ln ((tk_T tx ln pl vl).1) ((tk_T tx ln pl vl).2.2.1)).2.2.1)) 2 ((tk_T tx ln ((tk_T tx ln ((tk_T tx ln pl vl).1) ((tk_T tx ln pl vl).2.2.1)).1) ((tk_T tx ln ((tk_T tx ln pl vl).1) ((tk_T tx ln pl vl).2.2.1)).2.2.1)).2.2.1)) j)))), ((t 2), .inr (5, [.ref (t 1), .int (nI ln), .int (nI ((tk_T tx ln ((tk_T tx ln ((tk_T tx ln pl vl).1) ((tk_T tx ln pl vl).2.2.1)).1) ((tk_T tx ln ((tk_T tx ln pl vl).1) ((tk_T tx ln pl vl).2.2.1)).2.2.1)).1)), iv, .ref (t 3), .int (nI ((tk_T tx ln ((tk_T tx ln ((tk_T tx ln pl vl).1) ((tk_T tx ln pl vl).2.2.1)).1) ((tk_T tx ln ((tk_T tx ln pl vl).1) ((tk_T tx ln pl vl).2.2.1)).2.2.1)).2.1)), .int (nI ((tk_T tx ln ((tk_T tx ln ((tk_T tx ln pl vl).1) ((tk_T tx ln pl vl).2.2.1)).1) ((tk_T tx ln ((tk_T tx ln pl vl).1) ((tk_T tx ln pl vl).2.2.1)).2.2.1)).2.2.1)), .int (nI ((tk_T tx ln ((tk_T tx ln ((tk_T tx ln pl vl).1) ((tk_T tx ln pl vl).2.2.1)).1) ((tk_T tx ln ((tk_T tx ln pl vl).1) ((tk_T tx ln pl vl).2.2.1)).2.2.1)).2.2.2)), .int (nI it)])), ((t 1), .inl (cC, 180, .inl (fun j => nI (tx j))))] := hD
                refine lv_iinc (v := 3) (lv' := [(3, .int 3), (0, .ref (t 2)), (1, .ref ta), (2, .ref tb)]) hx hb dX5_readsNumbers_65 hl (k := 0) rfl (by decide) (by decide) rfl (fun ls hl => ?_)
                refine lv_goto (tgt := 2) hx hb dX5_readsNumbers_68 (by decide) ?_
                refine lv_iload_n hx hb dX5_readsNumbers_2 rfl (lv_at hl 0 rfl) ?_
                refine lv_aload_n hx hb dX5_readsNumbers_3 rfl (lv_at hl 2 rfl) ?_
                refine va_tlen (v := 3) hx hb hTa hS rfl dX5_readsNumbers_4 ?_
                refine lv_icmp_ge (tgt := 71) hx hb dX5_readsNumbers_5 (by decide) (fun _ => ?_) (fun h_9 => absurd (by decide) h_9)
                refine lv_iconst (v := 1) hx hb dX5_readsNumbers_71 (by decide) ?_
                have e_10 : (1, (tk_T tx ln ((tk_T tx ln ((tk_T tx ln pl vl).1) ((tk_T tx ln pl vl).2.2.1)).1) ((tk_T tx ln ((tk_T tx ln pl vl).1) ((tk_T tx ln pl vl).2.2.1)).2.2.1)), (va_up (va_up (va_up nm 0 ((tk_T tx ln pl vl).2.2.1)) 1 ((tk_T tx ln ((tk_T tx ln pl vl).1) ((tk_T tx ln pl vl).2.2.1)).2.2.1)) 2 ((tk_T tx ln ((tk_T tx ln ((tk_T tx ln pl vl).1) ((tk_T tx ln pl vl).2.2.1)).1) ((tk_T tx ln ((tk_T tx ln pl vl).1) ((tk_T tx ln pl vl).2.2.1)).2.2.1)).2.2.1))) = (rnL tx ln [(1, 3), (0, 20), (0, 20)] 0 (pl, tok, vl, st) nm) := (by simp only [rnL, if_pos c_1, if_neg c_3, if_pos c_4, if_neg c_6, if_pos c_7, if_neg c_9])
                exact W.zret (v := 1) hx hb hr rfl (fun t_9 ht_9 _ => by rw [hQc]; exact ⟨_, [((t 2), .inr (5, [.ref (t 1), .int (nI ln), .int (nI ((tk_T tx ln ((tk_T tx ln ((tk_T tx ln pl vl).1) ((tk_T tx ln pl vl).2.2.1)).1) ((tk_T tx ln ((tk_T tx ln pl vl).1) ((tk_T tx ln pl vl).2.2.1)).2.2.1)).1)), iv, .ref (t 3), .int (nI ((tk_T tx ln ((tk_T tx ln ((tk_T tx ln pl vl).1) ((tk_T tx ln pl vl).2.2.1)).1) ((tk_T tx ln ((tk_T tx ln pl vl).1) ((tk_T tx ln pl vl).2.2.1)).2.2.1)).2.1)), .int (nI ((tk_T tx ln ((tk_T tx ln ((tk_T tx ln pl vl).1) ((tk_T tx ln pl vl).2.2.1)).1) ((tk_T tx ln ((tk_T tx ln pl vl).1) ((tk_T tx ln pl vl).2.2.1)).2.2.1)).2.2.1)), .int (nI ((tk_T tx ln ((tk_T tx ln ((tk_T tx ln pl vl).1) ((tk_T tx ln pl vl).2.2.1)).1) ((tk_T tx ln ((tk_T tx ln pl vl).1) ((tk_T tx ln pl vl).2.2.1)).2.2.1)).2.2.2)), .int (nI it)])), ((t 1), .inl (cC, 180, .inl (fun j => nI (tx j)))), ((t 3), .inl (cI, 3, .inl (fun j => nI ((va_up (va_up (va_up nm 0 ((tk_T tx ln pl vl).2.2.1)) 1 ((tk_T tx ln ((tk_T tx ln pl vl).1) ((tk_T tx ln pl vl).2.2.1)).2.2.1)) 2 ((tk_T tx ln ((tk_T tx ln ((tk_T tx ln pl vl).1) ((tk_T tx ln pl vl).2.2.1)).1) ((tk_T tx ln ((tk_T tx ln pl vl).1) ((tk_T tx ln pl vl).2.2.1)).2.2.1)).2.2.1)) j))))], rfl, ⟨(by rw [← e_10]), (by rw [← e_10])⟩, rfl, by rw [ht_9]; exact hP.sub [1, 2, 0] rfl, by rw [← hAe]; exact hS.F ht_9⟩) hS.2.2 dX5_readsNumbers_72
              · refine lv_iconst (v := 0) hx hb dX5_readsNumbers_53 (by decide) ?_
                have e_11 : (0, (tk_T tx ln ((tk_T tx ln ((tk_T tx ln pl vl).1) ((tk_T tx ln pl vl).2.2.1)).1) ((tk_T tx ln ((tk_T tx ln pl vl).1) ((tk_T tx ln pl vl).2.2.1)).2.2.1)), (va_up (va_up nm 0 ((tk_T tx ln pl vl).2.2.1)) 1 ((tk_T tx ln ((tk_T tx ln pl vl).1) ((tk_T tx ln pl vl).2.2.1)).2.2.1))) = (rnL tx ln [(1, 3), (0, 20), (0, 20)] 0 (pl, tok, vl, st) nm) := (by simp only [rnL, if_pos c_1, if_neg c_3, if_pos c_4, if_neg c_6, if_pos c_7, if_pos c_9])
                exact W.zret (v := 0) hx hb hr rfl (fun t_9 ht_9 _ => by rw [hQc]; exact ⟨_, [((t 2), .inr (5, [.ref (t 1), .int (nI ln), .int (nI ((tk_T tx ln ((tk_T tx ln ((tk_T tx ln pl vl).1) ((tk_T tx ln pl vl).2.2.1)).1) ((tk_T tx ln ((tk_T tx ln pl vl).1) ((tk_T tx ln pl vl).2.2.1)).2.2.1)).1)), iv, .ref (t 3), .int (nI ((tk_T tx ln ((tk_T tx ln ((tk_T tx ln pl vl).1) ((tk_T tx ln pl vl).2.2.1)).1) ((tk_T tx ln ((tk_T tx ln pl vl).1) ((tk_T tx ln pl vl).2.2.1)).2.2.1)).2.1)), .int (nI ((tk_T tx ln ((tk_T tx ln ((tk_T tx ln pl vl).1) ((tk_T tx ln pl vl).2.2.1)).1) ((tk_T tx ln ((tk_T tx ln pl vl).1) ((tk_T tx ln pl vl).2.2.1)).2.2.1)).2.2.1)), .int (nI ((tk_T tx ln ((tk_T tx ln ((tk_T tx ln pl vl).1) ((tk_T tx ln pl vl).2.2.1)).1) ((tk_T tx ln ((tk_T tx ln pl vl).1) ((tk_T tx ln pl vl).2.2.1)).2.2.1)).2.2.2)), .int (nI it)])), ((t 1), .inl (cC, 180, .inl (fun j => nI (tx j)))), ((t 3), .inl (cI, 3, .inl (fun j => nI ((va_up (va_up nm 0 ((tk_T tx ln pl vl).2.2.1)) 1 ((tk_T tx ln ((tk_T tx ln pl vl).1) ((tk_T tx ln pl vl).2.2.1)).2.2.1)) j))))], rfl, ⟨(by rw [← e_11]), (by rw [← e_11])⟩, rfl, by rw [ht_9]; exact hP.sub [1, 2, 0] rfl, by rw [← hAe]; exact hS.F ht_9⟩) hS.2.2 dX5_readsNumbers_54
          · refine lv_iconst (v := 0) hx hb dX5_readsNumbers_53 (by decide) ?_
            have e_12 : (0, (tk_T tx ln ((tk_T tx ln pl vl).1) ((tk_T tx ln pl vl).2.2.1)), (va_up nm 0 ((tk_T tx ln pl vl).2.2.1))) = (rnL tx ln [(1, 3), (0, 20), (0, 20)] 0 (pl, tok, vl, st) nm) := (by simp only [rnL, if_pos c_1, if_neg c_3, if_pos c_4, if_pos c_6])
            exact W.zret (v := 0) hx hb hr rfl (fun t_9 ht_9 _ => by rw [hQc]; exact ⟨_, [((t 2), .inr (5, [.ref (t 1), .int (nI ln), .int (nI ((tk_T tx ln ((tk_T tx ln pl vl).1) ((tk_T tx ln pl vl).2.2.1)).1)), iv, .ref (t 3), .int (nI ((tk_T tx ln ((tk_T tx ln pl vl).1) ((tk_T tx ln pl vl).2.2.1)).2.1)), .int (nI ((tk_T tx ln ((tk_T tx ln pl vl).1) ((tk_T tx ln pl vl).2.2.1)).2.2.1)), .int (nI ((tk_T tx ln ((tk_T tx ln pl vl).1) ((tk_T tx ln pl vl).2.2.1)).2.2.2)), .int (nI it)])), ((t 1), .inl (cC, 180, .inl (fun j => nI (tx j)))), ((t 3), .inl (cI, 3, .inl (fun j => nI ((va_up nm 0 ((tk_T tx ln pl vl).2.2.1)) j))))], rfl, ⟨(by rw [← e_12]), (by rw [← e_12])⟩, rfl, by rw [ht_9]; exact hP.sub [1, 2, 0] rfl, by rw [← hAe]; exact hS.F ht_9⟩) hS.2.2 dX5_readsNumbers_54
      · refine lv_iconst (v := 0) hx hb dX5_readsNumbers_53 (by decide) ?_
        have e_13 : (0, (tk_T tx ln pl vl), nm) = (rnL tx ln [(1, 3), (0, 20), (0, 20)] 0 (pl, tok, vl, st) nm) := (by simp only [rnL, if_pos c_1, if_pos c_3])
        exact W.zret (v := 0) hx hb hr rfl (fun t_9 ht_9 _ => by rw [hQc]; exact ⟨_, [((t 2), .inr (5, [.ref (t 1), .int (nI ln), .int (nI ((tk_T tx ln pl vl).1)), iv, .ref (t 3), .int (nI ((tk_T tx ln pl vl).2.1)), .int (nI ((tk_T tx ln pl vl).2.2.1)), .int (nI ((tk_T tx ln pl vl).2.2.2)), .int (nI it)])), ((t 1), .inl (cC, 180, .inl (fun j => nI (tx j)))), ((t 3), .inl (cI, 3, .inl (fun j => nI (nm j))))], rfl, ⟨(by rw [← e_13]), (by rw [← e_13])⟩, rfl, by rw [ht_9]; exact hP.sub [1, 2, 0] rfl, by rw [← hAe]; exact hS.F ht_9⟩) hS.2.2 dX5_readsNumbers_54
  exact hmain _ _ hP va_S.rf

set_option maxHeartbeats 4000000 in
set_option maxRecDepth 100000 in
theorem c_X5_readsNumbers_x (l : Launch) (D : va_G) (cI cC cZ cN : ClassId) (ta tb : Nat) (t tx nm : Nat → Nat) (iv : Value) (ln pl tok vl st it : Nat) (htx : ∀ j, tx j < 256) (hln : ln ≤ 180) (hpl : pl ≤ ln) (hD0 : va_D (fun _ => True) [((t 2), .inr (5, [.ref (t 1), .int (nI ln), .int (nI pl), iv, .ref (t 3), .int (nI tok), .int (nI vl), .int (nI st), .int (nI it)])), ((t 1), .inl (cC, 180, .inl (fun j => nI (tx j)))), ((t 3), .inl (cI, 3, .inl (fun j => nI (nm j))))]) : Met l yX5_readsNumbers wsX5_readsNumbers (ly_rm 4) (ly_PreX D (ly_tys cI cC cZ cN) [((t 2), .inr (5, [.ref (t 1), .int (nI ln), .int (nI pl), iv, .ref (t 3), .int (nI tok), .int (nI vl), .int (nI st), .int (nI it)])), ((t 1), .inl (cC, 180, .inl (fun j => nI (tx j)))), ((t 3), .inl (cI, 3, .inl (fun j => nI (nm j))))] [.ref (t 2), .ref ta, .ref tb] (st_T ta tb 2 2 [0, 0] [4, 4] (ly_in [((t 2), .inr (5, [.ref (t 1), .int (nI ln), .int (nI pl), iv, .ref (t 3), .int (nI tok), .int (nI vl), .int (nI st), .int (nI it)])), ((t 1), .inl (cC, 180, .inl (fun j => nI (tx j)))), ((t 3), .inl (cI, 3, .inl (fun j => nI (nm j))))]))) (ly_Q D [((t 2), .inr (5, [.ref (t 1), .int (nI ln), .int (nI pl), iv, .ref (t 3), .int (nI tok), .int (nI vl), .int (nI st), .int (nI it)])), ((t 1), .inl (cC, 180, .inl (fun j => nI (tx j)))), ((t 3), .inl (cI, 3, .inl (fun j => nI (nm j))))] (fun r_9 w_9 => r_9 = some (.int (rnL tx ln [(0, 4), (0, 4)] 0 (pl, tok, vl, st) nm).1) ∧ w_9 = [((t 2), .inr (5, [.ref (t 1), .int (nI ln), .int (nI ((rnL tx ln [(0, 4), (0, 4)] 0 (pl, tok, vl, st) nm).2.1.1)), iv, .ref (t 3), .int (nI ((rnL tx ln [(0, 4), (0, 4)] 0 (pl, tok, vl, st) nm).2.1.2.1)), .int (nI ((rnL tx ln [(0, 4), (0, 4)] 0 (pl, tok, vl, st) nm).2.1.2.2.1)), .int (nI ((rnL tx ln [(0, 4), (0, 4)] 0 (pl, tok, vl, st) nm).2.1.2.2.2)), .int (nI it)])), ((t 1), .inl (cC, 180, .inl (fun j => nI (tx j)))), ((t 3), .inl (cI, 3, .inl (fun j => nI ((rnL tx ln [(0, 4), (0, 4)] 0 (pl, tok, vl, st) nm).2.2 j))))])) 0 0 (ly_in [((t 2), .inr (5, [.ref (t 1), .int (nI ln), .int (nI pl), iv, .ref (t 3), .int (nI tok), .int (nI vl), .int (nI st), .int (nI it)])), ((t 1), .inl (cC, 180, .inl (fun j => nI (tx j)))), ((t 3), .inl (cI, 3, .inl (fun j => nI (nm j))))]) := by
  refine Met.ofW (cc := cX5_readsNumbers) (maxL := 4) (ret := (some .boolean)) (by decide) rfl ?_
  intro p e s m args below meth c s₁ B hml hv
  obtain ⟨⟨rfl, hP, hK, hN⟩, hX⟩ := hv
  have hx := B.exec
  have hb := B.bytes
  have hr := B.returns
  have hts := atoms_spec (ws := wsX5_readsNumbers) B.pre
  have hown : s.vm.findClass RX5 = some m.cls := findClass_of_methodNamed B.named
  have hlocks := B.notSynchronized
  have hl := lv_entry ([.ref (t 2), .ref ta, .ref tb]) (n := 4) (Nat.le_of_ble_eq_true rfl)
  rw [lg_entry_eq]
  generalize (lg_sl ([.ref (t 2), .ref ta, .ref tb]) ++ List.replicate (4 - (lg_sl ([.ref (t 2), .ref ta, .ref tb])).length) Slot.unset).toArray = ls at hl ⊢
  have hl : lv_has ls 4 [(0, .ref (t 2)), (1, .ref ta), (2, .ref tb)] := hl
  generalize ([.ref (t 2), .ref ta, .ref tb] : List Value).toArray = av at hts ⊢
  obtain ⟨Qc, hQc⟩ : ∃ Qc, Qc = (ly_Q D [((t 2), .inr (5, [.ref (t 1), .int (nI ln), .int (nI pl), iv, .ref (t 3), .int (nI tok), .int (nI vl), .int (nI st), .int (nI it)])), ((t 1), .inl (cC, 180, .inl (fun j => nI (tx j)))), ((t 3), .inl (cI, 3, .inl (fun j => nI (nm j))))] (fun r_9 w_9 => r_9 = some (.int (rnL tx ln [(0, 4), (0, 4)] 0 (pl, tok, vl, st) nm).1) ∧ w_9 = [((t 2), .inr (5, [.ref (t 1), .int (nI ln), .int (nI ((rnL tx ln [(0, 4), (0, 4)] 0 (pl, tok, vl, st) nm).2.1.1)), iv, .ref (t 3), .int (nI ((rnL tx ln [(0, 4), (0, 4)] 0 (pl, tok, vl, st) nm).2.1.2.1)), .int (nI ((rnL tx ln [(0, 4), (0, 4)] 0 (pl, tok, vl, st) nm).2.1.2.2.1)), .int (nI ((rnL tx ln [(0, 4), (0, 4)] 0 (pl, tok, vl, st) nm).2.1.2.2.2)), .int (nI it)])), ((t 1), .inl (cC, 180, .inl (fun j => nI (tx j)))), ((t 3), .inl (cI, 3, .inl (fun j => nI ((rnL tx ln [(0, 4), (0, 4)] 0 (pl, tok, vl, st) nm).2.2 j))))])) := ⟨_, rfl⟩
  rw [← hQc]
  obtain ⟨A, hAe⟩ : ∃ A, A = ly_in [((t 2), .inr (5, [.ref (t 1), .int (nI ln), .int (nI pl), iv, .ref (t 3), .int (nI tok), .int (nI vl), .int (nI st), .int (nI it)])), ((t 1), .inl (cC, 180, .inl (fun j => nI (tx j)))), ((t 3), .inl (cI, 3, .inl (fun j => nI (nm j))))] := ⟨_, rfl⟩
  rw [← hAe]
  have hD := ly_self hD0
  rw [← hAe] at hD
  rw [← hAe] at hX
  obtain ⟨hTa, hTb⟩ := hX
  have f26 := hts (.fieldLink RX5 26 "KneesLent$Reader" "numbers" "[I") (by decide +kernel)
  have f30 := hts (.fieldLink RX5 30 "KneesLent$Reader" "token" "I") (by decide +kernel)
  have f33 := hts (.fieldLink RX5 33 "KneesLent$Reader" "value" "I") (by decide +kernel)
  have hiX5 : ∀ w ∈ u_ws RX5 TX5 9, w ∈ wsX5_readsNumbers := by decide +kernel
  have hmain : ∀ (H : Heap) (locs : List Loc), va_P D vwCl [((t 2), .inr (5, [.ref (t 1), .int (nI ln), .int (nI pl), iv, .ref (t 3), .int (nI tok), .int (nI vl), .int (nI st), .int (nI it)])), ((t 1), .inl (cC, 180, .inl (fun j => nI (tx j)))), ((t 3), .inl (cI, 3, .inl (fun j => nI (nm j))))] H → va_S A s.heap H locs → W p l e (headSpec wsX5_readsNumbers (ly_rm 4)).room s m av below meth c H locs 0 0 (MQ below Qc av s 0 0 A) (F0 m 0 ls []) := by
    intro H locs hP hS
    refine lv_iconst (v := 0) hx hb dX5_readsNumbers_0 (by decide) ?_
    refine lv_istore_n (lv' := [(3, .int 0), (0, .ref (t 2)), (1, .ref ta), (2, .ref tb)]) hx hb dX5_readsNumbers_1 rfl hl (by decide) rfl (fun ls hl => ?_)
    refine lv_iload_n hx hb dX5_readsNumbers_2 rfl (lv_at hl 0 rfl) ?_
    refine lv_aload_n hx hb dX5_readsNumbers_3 rfl (lv_at hl 2 rfl) ?_
    refine va_tlen (v := 2) hx hb hTa hS rfl dX5_readsNumbers_4 ?_
    refine lv_icmp_ge (tgt := 71) hx hb dX5_readsNumbers_5 (by decide) (fun h_9 => absurd h_9 (by decide)) (fun _ => ?_)
    refine lv_iload_n hx hb dX5_readsNumbers_8 rfl (lv_at hl 0 rfl) ?_
    refine lv_aload_n hx hb dX5_readsNumbers_9 rfl (lv_at hl 3 rfl) ?_
    refine va_tlen (v := 2) hx hb hTb hS rfl dX5_readsNumbers_10 ?_
    refine lv_icmp_ge (tgt := 71) hx hb dX5_readsNumbers_11 (by decide) (fun h_9 => absurd h_9 (by decide)) (fun _ => ?_)
    refine lv_iload_n hx hb dX5_readsNumbers_14 rfl (lv_at hl 0 rfl) ?_
    refine lv_aload_n hx hb dX5_readsNumbers_15 rfl (lv_at hl 1 rfl) ?_
    refine va_get (D := D) (ci := 5) (v := .ref (t 3)) (C := RX5) (T := TX5) (N := 9) hx hb hts hiX5 hown hK hP 0 rfl rfl 4 (by decide) f26 (fun _ h9 => h9) rfl dX5_readsNumbers_16 ?_
    refine va_alen (v := 3) hx hb hK hP 2 0 rfl rfl rfl dX5_readsNumbers_19 ?_
    refine lv_icmp_ge (tgt := 71) hx hb dX5_readsNumbers_20 (by decide) (fun h_9 => absurd h_9 (by decide)) (fun _ => ?_)
    refine lv_aload_n hx hb dX5_readsNumbers_23 rfl (lv_at hl 1 rfl) ?_
    have hPc_24 := hP.sub (ws' := [((t 2), .inr (5, [.ref (t 1), .int (nI ln), .int (nI pl), iv, .ref (t 3), .int (nI tok), .int (nI vl), .int (nI st), .int (nI it)])), ((t 1), .inl (cC, 180, .inl (fun j => nI (tx j))))]) [0, 1] rfl
    refine ly_m (wr := [((t 3), .inl (cI, 3, .inl (fun j => nI (nm j))))]) (va_runV (As := []) (rest := []) ⟨hx, hb, hml, hown, hts⟩ (c_X5_takeToken l D cI cC cZ cN t tx iv ln pl tok vl st it htx hln (by omega) ((hD.sub [0, 1] (by decide) rfl).weaken (fun _ _ _ _ => trivial))) (cwV 0 hts gX5_readsNumbers_X5_takeToken rfl rfl rfl (by decide +kernel) ⟨Nat.le_of_ble_eq_true rfl, Nat.le_of_ble_eq_true rfl⟩) (ly_pv hK hN hPc_24 0 5 rfl rfl rfl) rfl rfl hl.1 rfl (lv_room (Nat.le_of_ble_eq_true rfl)) dX5_readsNumbers_24 ⟨Nat.zero_le _, Nat.zero_le _⟩) hP hD hS [0, 1] [2] rfl rfl (by decide) ?_
    rintro _ _ H locs ⟨rfl, rfl⟩ - hP hD hS
    have hT_24 := tk_T_le tx ln pl vl htx hln (by omega)
    have hP : va_P D vwCl [((t 3), .inl (cI, 3, .inl (fun j => nI (nm j)))), ((t 2), .inr (5, [.ref (t 1), .int (nI ln), .int (nI ((tk_T tx ln pl vl).1)), iv, .ref (t 3), .int (nI ((tk_T tx ln pl vl).2.1)), .int (nI ((tk_T tx ln pl vl).2.2.1)), .int (nI ((tk_T tx ln pl vl).2.2.2)), .int (nI it)])), ((t 1), .inl (cC, 180, .inl (fun j => nI (tx j))))] H := hP
    have hD : va_D A [((t 3), .inl (cI, 3, .inl (fun j => nI (nm j)))), ((t 2), .inr (5, [.ref (t 1), .int (nI ln), .int (nI ((tk_T tx ln pl vl).1)), iv, .ref (t 3), .int (nI ((tk_T tx ln pl vl).2.1)), .int (nI ((tk_T tx ln pl vl).2.2.1)), .int (nI ((tk_T tx ln pl vl).2.2.2)), .int (nI it)])), ((t 1), .inl (cC, 180, .inl (fun j => nI (tx j))))] := hD
    refine W.eq (g2 := F0 m 27 ls []) rfl ?_
    refine lv_aload_n hx hb dX5_readsNumbers_27 rfl (lv_at hl 1 rfl) ?_
    refine va_get (D := D) (ci := 5) (v := .int (nI ((tk_T tx ln pl vl).2.1))) (C := RX5) (T := TX5) (N := 9) hx hb hts hiX5 hown hK hP 1 rfl rfl 5 (by decide) f30 (fun _ h9 => h9) rfl dX5_readsNumbers_28 ?_
    refine lv_sipush (v := 257) hx hb dX5_readsNumbers_31 (by decide) ?_
    refine lv_icmp_ne (tgt := 53) hx hb dX5_readsNumbers_34 (by decide) (fun c_1 => ?_) (fun c_1 => ?_)
    · refine lv_iconst (v := 0) hx hb dX5_readsNumbers_53 (by decide) ?_
      have e_2 : (0, (tk_T tx ln pl vl), nm) = (rnL tx ln [(0, 4), (0, 4)] 0 (pl, tok, vl, st) nm) := (by simp only [rnL, if_neg c_1])
      exact W.zret (v := 0) hx hb hr rfl (fun t_9 ht_9 _ => by rw [hQc]; exact ⟨_, [((t 2), .inr (5, [.ref (t 1), .int (nI ln), .int (nI ((tk_T tx ln pl vl).1)), iv, .ref (t 3), .int (nI ((tk_T tx ln pl vl).2.1)), .int (nI ((tk_T tx ln pl vl).2.2.1)), .int (nI ((tk_T tx ln pl vl).2.2.2)), .int (nI it)])), ((t 1), .inl (cC, 180, .inl (fun j => nI (tx j)))), ((t 3), .inl (cI, 3, .inl (fun j => nI (nm j))))], rfl, ⟨(by rw [← e_2]), (by rw [← e_2])⟩, rfl, by rw [ht_9]; exact hP.sub [1, 2, 0] rfl, by rw [← hAe]; exact hS.F ht_9⟩) hS.2.2 dX5_readsNumbers_54
    · refine lv_aload_n hx hb dX5_readsNumbers_37 rfl (lv_at hl 1 rfl) ?_
      refine va_get (D := D) (ci := 5) (v := .int (nI ((tk_T tx ln pl vl).2.2.1))) (C := RX5) (T := TX5) (N := 9) hx hb hts hiX5 hown hK hP 1 rfl rfl 6 (by decide) f33 (fun _ h9 => h9) rfl dX5_readsNumbers_38 ?_
      refine lv_aload_n hx hb dX5_readsNumbers_41 rfl (lv_at hl 2 rfl) ?_
      refine lv_iload_n hx hb dX5_readsNumbers_42 rfl (lv_at hl 0 rfl) ?_
      refine va_ti (v := .int 0) hx hb hTa hS (show vp_in 0 2 from vp_in_nI (n := 0) (by decide) (by decide)) rfl dX5_readsNumbers_43 ?_
      refine lv_aload_n hx hb dX5_readsNumbers_44 rfl (lv_at hl 3 rfl) ?_
      refine lv_iload_n hx hb dX5_readsNumbers_45 rfl (lv_at hl 0 rfl) ?_
      refine va_ti (v := .int 4) hx hb hTb hS (show vp_in 0 2 from vp_in_nI (n := 0) (by decide) (by decide)) rfl dX5_readsNumbers_46 ?_
      have hPc_47 := hP.sub (ws' := []) [] rfl
      refine ly_r (va_runSN (As := [.int (nI ((tk_T tx ln pl vl).2.2.1)), .int 0, .int 4]) (rest := []) ⟨hx, hb, hml, hown, hts⟩ (c_X6_within l D cI cC cZ cN (nI ((tk_T tx ln pl vl).2.2.1)) 0 4) ⟨va_cnB 3 hts gX5_readsNumbers_X6_within_n108 rfl rfl rfl hN.2.2.2.2.2.1 (hts (.initialized RX6) (by decide +kernel)) (by decide +kernel) ⟨Nat.le_of_ble_eq_true rfl, Nat.le_of_ble_eq_true rfl⟩, hts (.static yX6_within) (by decide +kernel), trivial⟩ (ly_ps hK hN hPc_47) rfl rfl hl.1 rfl (lv_room (Nat.le_of_ble_eq_true rfl)) dX5_readsNumbers_47 ⟨Nat.zero_le _, Nat.zero_le _⟩) ?_
      refine lv_if_ne (tgt := 55) hx hb dX5_readsNumbers_50 (by decide) (fun c_3 => ?_) (fun c_3 => ?_)
      · refine lv_aload_n hx hb dX5_readsNumbers_55 rfl (lv_at hl 1 rfl) ?_
        refine va_get (D := D) (ci := 5) (v := .ref (t 3)) (C := RX5) (T := TX5) (N := 9) hx hb hts hiX5 hown hK hP 1 rfl rfl 4 (by decide) f26 (fun _ h9 => h9) rfl dX5_readsNumbers_56 ?_
        refine lv_iload_n hx hb dX5_readsNumbers_59 rfl (lv_at hl 0 rfl) ?_
        refine lv_aload_n hx hb dX5_readsNumbers_60 rfl (lv_at hl 1 rfl) ?_
        refine va_get (D := D) (ci := 5) (v := .int (nI ((tk_T tx ln pl vl).2.2.1))) (C := RX5) (T := TX5) (N := 9) hx hb hts hiX5 hown hK hP 1 rfl rfl 6 (by decide) f33 (fun _ h9 => h9) rfl dX5_readsNumbers_61 ?_
        refine ly_iastN hx hb hK hP hD hS 0 0 rfl rfl (k := 0) (v := (tk_T tx ln pl vl).2.2.1) (by decide) rfl (by omega) rfl dX5_readsNumbers_64 (fun H locs hP hD hS => ?_)
        have hP : va_P D vwCl [((t 3), .inl (cI, 3, .inl (fun j => nI ((va_up nm 0 ((tk_T tx ln pl vl).2.2.1)) j)))), ((t 2), .inr (5, [.ref (t 1), .int (nI ln), .int (nI ((tk_T tx ln pl vl).1)), iv, .ref (t 3), .int (nI ((tk_T tx ln pl vl).2.1)), .int (nI ((tk_T tx ln pl vl).2.2.1)), .int (nI ((tk_T tx ln pl vl).2.2.2)), .int (nI it)])), ((t 1), .inl (cC, 180, .inl (fun j => nI (tx j))))] H := hP
        have hD : va_D A [((t 3), .inl (cI, 3, .inl (fun j => nI ((va_up nm 0 ((tk_T tx ln pl vl).2.2.1)) j)))), ((t 2), .inr (5, [.ref (t 1), .int (nI ln), .int (nI ((tk_T tx ln pl vl).1)), iv, .ref (t 3), .int (nI ((tk_T tx ln pl vl).2.1)), .int (nI ((tk_T tx ln pl vl).2.2.1)), .int (nI ((tk_T tx ln pl vl).2.2.2)), .int (nI it)])), ((t 1), .inl (cC, 180, .inl (fun j => nI (tx j))))] := hD
        refine lv_iinc (v := 1) (lv' := [(3, .int 1), (0, .ref (t 2)), (1, .ref ta), (2, .ref tb)]) hx hb dX5_readsNumbers_65 hl (k := 0) rfl (by decide) (by decide) rfl (fun ls hl => ?_)
        refine lv_goto (tgt := 2) hx hb dX5_readsNumbers_68 (by decide) ?_
        refine lv_iload_n hx hb dX5_readsNumbers_2 rfl (lv_at hl 0 rfl) ?_
        refine lv_aload_n hx hb dX5_readsNumbers_3 rfl (lv_at hl 2 rfl) ?_
        refine va_tlen (v := 2) hx hb hTa hS rfl dX5_readsNumbers_4 ?_
        refine lv_icmp_ge (tgt := 71) hx hb dX5_readsNumbers_5 (by decide) (fun h_9 => absurd h_9 (by decide)) (fun _ => ?_)
        refine lv_iload_n hx hb dX5_readsNumbers_8 rfl (lv_at hl 0 rfl) ?_
        refine lv_aload_n hx hb dX5_readsNumbers_9 rfl (lv_at hl 3 rfl) ?_
        refine va_tlen (v := 2) hx hb hTb hS rfl dX5_readsNumbers_10 ?_
        refine lv_icmp_ge (tgt := 71) hx hb dX5_readsNumbers_11 (by decide) (fun h_9 => absurd h_9 (by decide)) (fun _ => ?_)
        refine lv_iload_n hx hb dX5_readsNumbers_14 rfl (lv_at hl 0 rfl) ?_
        refine lv_aload_n hx hb dX5_readsNumbers_15 rfl (lv_at hl 1 rfl) ?_
        refine va_get (D := D) (ci := 5) (v := .ref (t 3)) (C := RX5) (T := TX5) (N := 9) hx hb hts hiX5 hown hK hP 1 rfl rfl 4 (by decide) f26 (fun _ h9 => h9) rfl dX5_readsNumbers_16 ?_
        refine va_alen (v := 3) hx hb hK hP 0 0 rfl rfl rfl dX5_readsNumbers_19 ?_
        refine lv_icmp_ge (tgt := 71) hx hb dX5_readsNumbers_20 (by decide) (fun h_9 => absurd h_9 (by decide)) (fun _ => ?_)
        refine lv_aload_n hx hb dX5_readsNumbers_23 rfl (lv_at hl 1 rfl) ?_
        have hPc_24 := hP.sub (ws' := [((t 2), .inr (5, [.ref (t 1), .int (nI ln), .int (nI ((tk_T tx ln pl vl).1)), iv, .ref (t 3), .int (nI ((tk_T tx ln pl vl).2.1)), .int (nI ((tk_T tx ln pl vl).2.2.1)), .int (nI ((tk_T tx ln pl vl).2.2.2)), .int (nI it)])), ((t 1), .inl (cC, 180, .inl (fun j => nI (tx j))))]) [1, 2] rfl
        refine ly_m (wr := [((t 3), .inl (cI, 3, .inl (fun j => nI ((va_up nm 0 ((tk_T tx ln pl vl).2.2.1)) j))))]) (va_runV (As := []) (rest := []) ⟨hx, hb, hml, hown, hts⟩ (c_X5_takeToken l D cI cC cZ cN t tx iv ln ((tk_T tx ln pl vl).1) ((tk_T tx ln pl vl).2.1) ((tk_T tx ln pl vl).2.2.1) ((tk_T tx ln pl vl).2.2.2) it htx hln (by omega) ((hD.sub [1, 2] (by decide) rfl).weaken (fun _ _ _ _ => trivial))) (cwV 0 hts gX5_readsNumbers_X5_takeToken rfl rfl rfl (by decide +kernel) ⟨Nat.le_of_ble_eq_true rfl, Nat.le_of_ble_eq_true rfl⟩) (ly_pv hK hN hPc_24 0 5 rfl rfl rfl) rfl rfl hl.1 rfl (lv_room (Nat.le_of_ble_eq_true rfl)) dX5_readsNumbers_24 ⟨Nat.zero_le _, Nat.zero_le _⟩) hP hD hS [1, 2] [0] rfl rfl (by decide) ?_
        rintro _ _ H locs ⟨rfl, rfl⟩ - hP hD hS
        have hT_24 := tk_T_le tx ln ((tk_T tx ln pl vl).1) ((tk_T tx ln pl vl).2.2.1) htx hln (by omega)
        have hP : va_P D vwCl [((t 3), .inl (cI, 3, .inl (fun j => nI ((va_up nm 0 ((tk_T tx ln pl vl).2.2.1)) j)))), ((t 2), .inr (5, [.ref (t 1), .int (nI ln), .int (nI ((tk_T tx ln ((tk_T tx ln pl vl).1) ((tk_T tx ln pl vl).2.2.1)).1)), iv, .ref (t 3), .int (nI ((tk_T tx ln ((tk_T tx ln pl vl).1) ((tk_T tx ln pl vl).2.2.1)).2.1)), .int (nI ((tk_T tx ln ((tk_T tx ln pl vl).1) ((tk_T tx ln pl vl).2.2.1)).2.2.1)), .int (nI ((tk_T tx ln ((tk_T tx ln pl vl).1) ((tk_T tx ln pl vl).2.2.1)).2.2.2)), .int (nI it)])), ((t 1), .inl (cC, 180, .inl (fun j => nI (tx j))))] H := hP
        have hD : va_D A [((t 3), .inl (cI, 3, .inl (fun j => nI ((va_up nm 0 ((tk_T tx ln pl vl).2.2.1)) j)))), ((t 2), .inr (5, [.ref (t 1), .int (nI ln), .int (nI ((tk_T tx ln ((tk_T tx ln pl vl).1) ((tk_T tx ln pl vl).2.2.1)).1)), iv, .ref (t 3), .int (nI ((tk_T tx ln ((tk_T tx ln pl vl).1) ((tk_T tx ln pl vl).2.2.1)).2.1)), .int (nI ((tk_T tx ln ((tk_T tx ln pl vl).1) ((tk_T tx ln pl vl).2.2.1)).2.2.1)), .int (nI ((tk_T tx ln ((tk_T tx ln pl vl).1) ((tk_T tx ln pl vl).2.2.1)).2.2.2)), .int (nI it)])), ((t 1), .inl (cC, 180, .inl (fun j => nI (tx j))))] := hD
        refine W.eq (g2 := F0 m 27 ls []) rfl ?_
        refine lv_aload_n hx hb dX5_readsNumbers_27 rfl (lv_at hl 1 rfl) ?_
        refine va_get (D := D) (ci := 5) (v := .int (nI ((tk_T tx ln ((tk_T tx ln pl vl).1) ((tk_T tx ln pl vl).2.2.1)).2.1))) (C := RX5) (T := TX5) (N := 9) hx hb hts hiX5 hown hK hP 1 rfl rfl 5 (by decide) f30 (fun _ h9 => h9) rfl dX5_readsNumbers_28 ?_
        refine lv_sipush (v := 257) hx hb dX5_readsNumbers_31 (by decide) ?_
        refine lv_icmp_ne (tgt := 53) hx hb dX5_readsNumbers_34 (by decide) (fun c_4 => ?_) (fun c_4 => ?_)
        · refine lv_iconst (v := 0) hx hb dX5_readsNumbers_53 (by decide) ?_
          have e_5 : (0, (tk_T tx ln ((tk_T tx ln pl vl).1) ((tk_T tx ln pl vl).2.2.1)), (va_up nm 0 ((tk_T tx ln pl vl).2.2.1))) = (rnL tx ln [(0, 4), (0, 4)] 0 (pl, tok, vl, st) nm) := (by simp only [rnL, if_pos c_1, if_neg c_3, if_neg c_4])
          exact W.zret (v := 0) hx hb hr rfl (fun t_9 ht_9 _ => by rw [hQc]; exact ⟨_, [((t 2), .inr (5, [.ref (t 1), .int (nI ln), .int (nI ((tk_T tx ln ((tk_T tx ln pl vl).1) ((tk_T tx ln pl vl).2.2.1)).1)), iv, .ref (t 3), .int (nI ((tk_T tx ln ((tk_T tx ln pl vl).1) ((tk_T tx ln pl vl).2.2.1)).2.1)), .int (nI ((tk_T tx ln ((tk_T tx ln pl vl).1) ((tk_T tx ln pl vl).2.2.1)).2.2.1)), .int (nI ((tk_T tx ln ((tk_T tx ln pl vl).1) ((tk_T tx ln pl vl).2.2.1)).2.2.2)), .int (nI it)])), ((t 1), .inl (cC, 180, .inl (fun j => nI (tx j)))), ((t 3), .inl (cI, 3, .inl (fun j => nI ((va_up nm 0 ((tk_T tx ln pl vl).2.2.1)) j))))], rfl, ⟨(by rw [← e_5]), (by rw [← e_5])⟩, rfl, by rw [ht_9]; exact hP.sub [1, 2, 0] rfl, by rw [← hAe]; exact hS.F ht_9⟩) hS.2.2 dX5_readsNumbers_54
        · refine lv_aload_n hx hb dX5_readsNumbers_37 rfl (lv_at hl 1 rfl) ?_
          refine va_get (D := D) (ci := 5) (v := .int (nI ((tk_T tx ln ((tk_T tx ln pl vl).1) ((tk_T tx ln pl vl).2.2.1)).2.2.1))) (C := RX5) (T := TX5) (N := 9) hx hb hts hiX5 hown hK hP 1 rfl rfl 6 (by decide) f33 (fun _ h9 => h9) rfl dX5_readsNumbers_38 ?_
          refine lv_aload_n hx hb dX5_readsNumbers_41 rfl (lv_at hl 2 rfl) ?_
          refine lv_iload_n hx hb dX5_readsNumbers_42 rfl (lv_at hl 0 rfl) ?_
          refine va_ti (v := .int 0) hx hb hTa hS (show vp_in 1 2 from vp_in_nI (n := 1) (by decide) (by decide)) rfl dX5_readsNumbers_43 ?_
          refine lv_aload_n hx hb dX5_readsNumbers_44 rfl (lv_at hl 3 rfl) ?_
          refine lv_iload_n hx hb dX5_readsNumbers_45 rfl (lv_at hl 0 rfl) ?_
          refine va_ti (v := .int 4) hx hb hTb hS (show vp_in 1 2 from vp_in_nI (n := 1) (by decide) (by decide)) rfl dX5_readsNumbers_46 ?_
          have hPc_47 := hP.sub (ws' := []) [] rfl
          refine ly_r (va_runSN (As := [.int (nI ((tk_T tx ln ((tk_T tx ln pl vl).1) ((tk_T tx ln pl vl).2.2.1)).2.2.1)), .int 0, .int 4]) (rest := []) ⟨hx, hb, hml, hown, hts⟩ (c_X6_within l D cI cC cZ cN (nI ((tk_T tx ln ((tk_T tx ln pl vl).1) ((tk_T tx ln pl vl).2.2.1)).2.2.1)) 0 4) ⟨va_cnB 3 hts gX5_readsNumbers_X6_within_n108 rfl rfl rfl hN.2.2.2.2.2.1 (hts (.initialized RX6) (by decide +kernel)) (by decide +kernel) ⟨Nat.le_of_ble_eq_true rfl, Nat.le_of_ble_eq_true rfl⟩, hts (.static yX6_within) (by decide +kernel), trivial⟩ (ly_ps hK hN hPc_47) rfl rfl hl.1 rfl (lv_room (Nat.le_of_ble_eq_true rfl)) dX5_readsNumbers_47 ⟨Nat.zero_le _, Nat.zero_le _⟩) ?_
          refine lv_if_ne (tgt := 55) hx hb dX5_readsNumbers_50 (by decide) (fun c_6 => ?_) (fun c_6 => ?_)
          · refine lv_aload_n hx hb dX5_readsNumbers_55 rfl (lv_at hl 1 rfl) ?_
            refine va_get (D := D) (ci := 5) (v := .ref (t 3)) (C := RX5) (T := TX5) (N := 9) hx hb hts hiX5 hown hK hP 1 rfl rfl 4 (by decide) f26 (fun _ h9 => h9) rfl dX5_readsNumbers_56 ?_
            refine lv_iload_n hx hb dX5_readsNumbers_59 rfl (lv_at hl 0 rfl) ?_
            refine lv_aload_n hx hb dX5_readsNumbers_60 rfl (lv_at hl 1 rfl) ?_
            refine va_get (D := D) (ci := 5) (v := .int (nI ((tk_T tx ln ((tk_T tx ln pl vl).1) ((tk_T tx ln pl vl).2.2.1)).2.2.1))) (C := RX5) (T := TX5) (N := 9) hx hb hts hiX5 hown hK hP 1 rfl rfl 6 (by decide) f33 (fun _ h9 => h9) rfl dX5_readsNumbers_61 ?_
            refine ly_iastN hx hb hK hP hD hS 0 0 rfl rfl (k := 1) (v := (tk_T tx ln ((tk_T tx ln pl vl).1) ((tk_T tx ln pl vl).2.2.1)).2.2.1) (by decide) rfl (by omega) rfl dX5_readsNumbers_64 (fun H locs hP hD hS => ?_)
            have hP : va_P D vwCl [((t 3), .inl (cI, 3, .inl (fun j => nI ((va_up (va_up nm 0 ((tk_T tx ln pl vl).2.2.1)) 1 ((tk_T tx ln ((tk_T tx ln pl vl).1) ((tk_T tx ln pl vl).2.2.1)).2.2.1)) j)))), ((t 2), .inr (5, [.ref (t 1), .int (nI ln), .int (nI ((tk_T tx ln ((tk_T tx ln pl vl).1) ((tk_T tx ln pl vl).2.2.1)).1)), iv, .ref (t 3), .int (nI ((tk_T tx ln ((tk_T tx ln pl vl).1) ((tk_T tx ln pl vl).2.2.1)).2.1)), .int (nI ((tk_T tx ln ((tk_T tx ln pl vl).1) ((tk_T tx ln pl vl).2.2.1)).2.2.1)), .int (nI ((tk_T tx ln ((tk_T tx ln pl vl).1) ((tk_T tx ln pl vl).2.2.1)).2.2.2)), .int (nI it)])), ((t 1), .inl (cC, 180, .inl (fun j => nI (tx j))))] H := hP
            have hD : va_D A [((t 3), .inl (cI, 3, .inl (fun j => nI ((va_up (va_up nm 0 ((tk_T tx ln pl vl).2.2.1)) 1 ((tk_T tx ln ((tk_T tx ln pl vl).1) ((tk_T tx ln pl vl).2.2.1)).2.2.1)) j)))), ((t 2), .inr (5, [.ref (t 1), .int (nI ln), .int (nI ((tk_T tx ln ((tk_T tx ln pl vl).1) ((tk_T tx ln pl vl).2.2.1)).1)), iv, .ref (t 3), .int (nI ((tk_T tx ln ((tk_T tx ln pl vl).1) ((tk_T tx ln pl vl).2.2.1)).2.1)), .int (nI ((tk_T tx ln ((tk_T tx ln pl vl).1) ((tk_T tx ln pl vl).2.2.1)).2.2.1)), .int (nI ((tk_T tx ln ((tk_T tx ln pl vl).1) ((tk_T tx ln pl vl).2.2.1)).2.2.2)), .int (nI it)])), ((t 1), .inl (cC, 180, .inl (fun j => nI (tx j))))] := hD
            refine lv_iinc (v := 2) (lv' := [(3, .int 2), (0, .ref (t 2)), (1, .ref ta), (2, .ref tb)]) hx hb dX5_readsNumbers_65 hl (k := 0) rfl (by decide) (by decide) rfl (fun ls hl => ?_)
            refine lv_goto (tgt := 2) hx hb dX5_readsNumbers_68 (by decide) ?_
            refine lv_iload_n hx hb dX5_readsNumbers_2 rfl (lv_at hl 0 rfl) ?_
            refine lv_aload_n hx hb dX5_readsNumbers_3 rfl (lv_at hl 2 rfl) ?_
            refine va_tlen (v := 2) hx hb hTa hS rfl dX5_readsNumbers_4 ?_
            refine lv_icmp_ge (tgt := 71) hx hb dX5_readsNumbers_5 (by decide) (fun _ => ?_) (fun h_9 => absurd (by decide) h_9)
            refine lv_iconst (v := 1) hx hb dX5_readsNumbers_71 (by decide) ?_
            have e_7 : (1, (tk_T tx ln ((tk_T tx ln pl vl).1) ((tk_T tx ln pl vl).2.2.1)), (va_up (va_up nm 0 ((tk_T tx ln pl vl).2.2.1)) 1 ((tk_T tx ln ((tk_T tx ln pl vl).1) ((tk_T tx ln pl vl).2.2.1)).2.2.1))) = (rnL tx ln [(0, 4), (0, 4)] 0 (pl, tok, vl, st) nm) := (by simp only [rnL, if_pos c_1, if_neg c_3, if_pos c_4, if_neg c_6])
            exact W.zret (v := 1) hx hb hr rfl (fun t_9 ht_9 _ => by rw [hQc]; exact ⟨_, [((t 2), .inr (5, [.ref (t 1), .int (nI ln), .int (nI ((tk_T tx ln ((tk_T tx ln pl vl).1) ((tk_T tx ln pl vl).2.2.1)).1)), iv, .ref (t 3), .int (nI ((tk_T tx ln ((tk_T tx ln pl vl).1) ((tk_T tx ln pl vl).2.2.1)).2.1)), .int (nI ((tk_T tx ln ((tk_T tx ln pl vl).1) ((tk_T tx ln pl vl).2.2.1)).2.2.1)), .int (nI ((tk_T tx ln ((tk_T tx ln pl vl).1) ((tk_T tx ln pl vl).2.2.1)).2.2.2)), .int (nI it)])), ((t 1), .inl (cC, 180, .inl (fun j => nI (tx j)))), ((t 3), .inl (cI, 3, .inl (fun j => nI ((va_up (va_up nm 0 ((tk_T tx ln pl vl).2.2.1)) 1 ((tk_T tx ln ((tk_T tx ln pl vl).1) ((tk_T tx ln pl vl).2.2.1)).2.2.1)) j))))], rfl, ⟨(by rw [← e_7]), (by rw [← e_7])⟩, rfl, by rw [ht_9]; exact hP.sub [1, 2, 0] rfl, by rw [← hAe]; exact hS.F ht_9⟩) hS.2.2 dX5_readsNumbers_72
          · refine lv_iconst (v := 0) hx hb dX5_readsNumbers_53 (by decide) ?_
            have e_8 : (0, (tk_T tx ln ((tk_T tx ln pl vl).1) ((tk_T tx ln pl vl).2.2.1)), (va_up nm 0 ((tk_T tx ln pl vl).2.2.1))) = (rnL tx ln [(0, 4), (0, 4)] 0 (pl, tok, vl, st) nm) := (by simp only [rnL, if_pos c_1, if_neg c_3, if_pos c_4, if_pos c_6])
            exact W.zret (v := 0) hx hb hr rfl (fun t_9 ht_9 _ => by rw [hQc]; exact ⟨_, [((t 2), .inr (5, [.ref (t 1), .int (nI ln), .int (nI ((tk_T tx ln ((tk_T tx ln pl vl).1) ((tk_T tx ln pl vl).2.2.1)).1)), iv, .ref (t 3), .int (nI ((tk_T tx ln ((tk_T tx ln pl vl).1) ((tk_T tx ln pl vl).2.2.1)).2.1)), .int (nI ((tk_T tx ln ((tk_T tx ln pl vl).1) ((tk_T tx ln pl vl).2.2.1)).2.2.1)), .int (nI ((tk_T tx ln ((tk_T tx ln pl vl).1) ((tk_T tx ln pl vl).2.2.1)).2.2.2)), .int (nI it)])), ((t 1), .inl (cC, 180, .inl (fun j => nI (tx j)))), ((t 3), .inl (cI, 3, .inl (fun j => nI ((va_up nm 0 ((tk_T tx ln pl vl).2.2.1)) j))))], rfl, ⟨(by rw [← e_8]), (by rw [← e_8])⟩, rfl, by rw [ht_9]; exact hP.sub [1, 2, 0] rfl, by rw [← hAe]; exact hS.F ht_9⟩) hS.2.2 dX5_readsNumbers_54
      · refine lv_iconst (v := 0) hx hb dX5_readsNumbers_53 (by decide) ?_
        have e_9 : (0, (tk_T tx ln pl vl), nm) = (rnL tx ln [(0, 4), (0, 4)] 0 (pl, tok, vl, st) nm) := (by simp only [rnL, if_pos c_1, if_pos c_3])
        exact W.zret (v := 0) hx hb hr rfl (fun t_9 ht_9 _ => by rw [hQc]; exact ⟨_, [((t 2), .inr (5, [.ref (t 1), .int (nI ln), .int (nI ((tk_T tx ln pl vl).1)), iv, .ref (t 3), .int (nI ((tk_T tx ln pl vl).2.1)), .int (nI ((tk_T tx ln pl vl).2.2.1)), .int (nI ((tk_T tx ln pl vl).2.2.2)), .int (nI it)])), ((t 1), .inl (cC, 180, .inl (fun j => nI (tx j)))), ((t 3), .inl (cI, 3, .inl (fun j => nI (nm j))))], rfl, ⟨(by rw [← e_9]), (by rw [← e_9])⟩, rfl, by rw [ht_9]; exact hP.sub [1, 2, 0] rfl, by rw [← hAe]; exact hS.F ht_9⟩) hS.2.2 dX5_readsNumbers_54
  exact hmain _ _ hP va_S.rf

set_option maxHeartbeats 4000000 in
set_option maxRecDepth 100000 in
theorem c_X5_readsNumbers_o (l : Launch) (D : va_G) (cI cC cZ cN : ClassId) (ta tb : Nat) (t tx nm : Nat → Nat) (iv : Value) (ln pl tok vl st it : Nat) (htx : ∀ j, tx j < 256) (hln : ln ≤ 180) (hpl : pl ≤ ln) (hD0 : va_D (fun _ => True) [((t 2), .inr (5, [.ref (t 1), .int (nI ln), .int (nI pl), iv, .ref (t 3), .int (nI tok), .int (nI vl), .int (nI st), .int (nI it)])), ((t 1), .inl (cC, 180, .inl (fun j => nI (tx j)))), ((t 3), .inl (cI, 3, .inl (fun j => nI (nm j))))]) : Met l yX5_readsNumbers wsX5_readsNumbers (ly_rm 4) (ly_PreX D (ly_tys cI cC cZ cN) [((t 2), .inr (5, [.ref (t 1), .int (nI ln), .int (nI pl), iv, .ref (t 3), .int (nI tok), .int (nI vl), .int (nI st), .int (nI it)])), ((t 1), .inl (cC, 180, .inl (fun j => nI (tx j)))), ((t 3), .inl (cI, 3, .inl (fun j => nI (nm j))))] [.ref (t 2), .ref ta, .ref tb] (st_T ta tb 2 2 [0, 0] [4, 9] (ly_in [((t 2), .inr (5, [.ref (t 1), .int (nI ln), .int (nI pl), iv, .ref (t 3), .int (nI tok), .int (nI vl), .int (nI st), .int (nI it)])), ((t 1), .inl (cC, 180, .inl (fun j => nI (tx j)))), ((t 3), .inl (cI, 3, .inl (fun j => nI (nm j))))]))) (ly_Q D [((t 2), .inr (5, [.ref (t 1), .int (nI ln), .int (nI pl), iv, .ref (t 3), .int (nI tok), .int (nI vl), .int (nI st), .int (nI it)])), ((t 1), .inl (cC, 180, .inl (fun j => nI (tx j)))), ((t 3), .inl (cI, 3, .inl (fun j => nI (nm j))))] (fun r_9 w_9 => r_9 = some (.int (rnL tx ln [(0, 4), (0, 9)] 0 (pl, tok, vl, st) nm).1) ∧ w_9 = [((t 2), .inr (5, [.ref (t 1), .int (nI ln), .int (nI ((rnL tx ln [(0, 4), (0, 9)] 0 (pl, tok, vl, st) nm).2.1.1)), iv, .ref (t 3), .int (nI ((rnL tx ln [(0, 4), (0, 9)] 0 (pl, tok, vl, st) nm).2.1.2.1)), .int (nI ((rnL tx ln [(0, 4), (0, 9)] 0 (pl, tok, vl, st) nm).2.1.2.2.1)), .int (nI ((rnL tx ln [(0, 4), (0, 9)] 0 (pl, tok, vl, st) nm).2.1.2.2.2)), .int (nI it)])), ((t 1), .inl (cC, 180, .inl (fun j => nI (tx j)))), ((t 3), .inl (cI, 3, .inl (fun j => nI ((rnL tx ln [(0, 4), (0, 9)] 0 (pl, tok, vl, st) nm).2.2 j))))])) 0 0 (ly_in [((t 2), .inr (5, [.ref (t 1), .int (nI ln), .int (nI pl), iv, .ref (t 3), .int (nI tok), .int (nI vl), .int (nI st), .int (nI it)])), ((t 1), .inl (cC, 180, .inl (fun j => nI (tx j)))), ((t 3), .inl (cI, 3, .inl (fun j => nI (nm j))))]) := by
  refine Met.ofW (cc := cX5_readsNumbers) (maxL := 4) (ret := (some .boolean)) (by decide) rfl ?_
  intro p e s m args below meth c s₁ B hml hv
  obtain ⟨⟨rfl, hP, hK, hN⟩, hX⟩ := hv
  have hx := B.exec
  have hb := B.bytes
  have hr := B.returns
  have hts := atoms_spec (ws := wsX5_readsNumbers) B.pre
  have hown : s.vm.findClass RX5 = some m.cls := findClass_of_methodNamed B.named
  have hlocks := B.notSynchronized
  have hl := lv_entry ([.ref (t 2), .ref ta, .ref tb]) (n := 4) (Nat.le_of_ble_eq_true rfl)
  rw [lg_entry_eq]
  generalize (lg_sl ([.ref (t 2), .ref ta, .ref tb]) ++ List.replicate (4 - (lg_sl ([.ref (t 2), .ref ta, .ref tb])).length) Slot.unset).toArray = ls at hl ⊢
  have hl : lv_has ls 4 [(0, .ref (t 2)), (1, .ref ta), (2, .ref tb)] := hl
  generalize ([.ref (t 2), .ref ta, .ref tb] : List Value).toArray = av at hts ⊢
  obtain ⟨Qc, hQc⟩ : ∃ Qc, Qc = (ly_Q D [((t 2), .inr (5, [.ref (t 1), .int (nI ln), .int (nI pl), iv, .ref (t 3), .int (nI tok), .int (nI vl), .int (nI st), .int (nI it)])), ((t 1), .inl (cC, 180, .inl (fun j => nI (tx j)))), ((t 3), .inl (cI, 3, .inl (fun j => nI (nm j))))] (fun r_9 w_9 => r_9 = some (.int (rnL tx ln [(0, 4), (0, 9)] 0 (pl, tok, vl, st) nm).1) ∧ w_9 = [((t 2), .inr (5, [.ref (t 1), .int (nI ln), .int (nI ((rnL tx ln [(0, 4), (0, 9)] 0 (pl, tok, vl, st) nm).2.1.1)), iv, .ref (t 3), .int (nI ((rnL tx ln [(0, 4), (0, 9)] 0 (pl, tok, vl, st) nm).2.1.2.1)), .int (nI ((rnL tx ln [(0, 4), (0, 9)] 0 (pl, tok, vl, st) nm).2.1.2.2.1)), .int (nI ((rnL tx ln [(0, 4), (0, 9)] 0 (pl, tok, vl, st) nm).2.1.2.2.2)), .int (nI it)])), ((t 1), .inl (cC, 180, .inl (fun j => nI (tx j)))), ((t 3), .inl (cI, 3, .inl (fun j => nI ((rnL tx ln [(0, 4), (0, 9)] 0 (pl, tok, vl, st) nm).2.2 j))))])) := ⟨_, rfl⟩
  rw [← hQc]
  obtain ⟨A, hAe⟩ : ∃ A, A = ly_in [((t 2), .inr (5, [.ref (t 1), .int (nI ln), .int (nI pl), iv, .ref (t 3), .int (nI tok), .int (nI vl), .int (nI st), .int (nI it)])), ((t 1), .inl (cC, 180, .inl (fun j => nI (tx j)))), ((t 3), .inl (cI, 3, .inl (fun j => nI (nm j))))] := ⟨_, rfl⟩
  rw [← hAe]
  have hD := ly_self hD0
  rw [← hAe] at hD
  rw [← hAe] at hX
  obtain ⟨hTa, hTb⟩ := hX
  have f26 := hts (.fieldLink RX5 26 "KneesLent$Reader" "numbers" "[I") (by decide +kernel)
  have f30 := hts (.fieldLink RX5 30 "KneesLent$Reader" "token" "I") (by decide +kernel)
  have f33 := hts (.fieldLink RX5 33 "KneesLent$Reader" "value" "I") (by decide +kernel)
  have hiX5 : ∀ w ∈ u_ws RX5 TX5 9, w ∈ wsX5_readsNumbers := by decide +kernel
  have hmain : ∀ (H : Heap) (locs : List Loc), va_P D vwCl [((t 2), .inr (5, [.ref (t 1), .int (nI ln), .int (nI pl), iv, .ref (t 3), .int (nI tok), .int (nI vl), .int (nI st), .int (nI it)])), ((t 1), .inl (cC, 180, .inl (fun j => nI (tx j)))), ((t 3), .inl (cI, 3, .inl (fun j => nI (nm j))))] H → va_S A s.heap H locs → W p l e (headSpec wsX5_readsNumbers (ly_rm 4)).room s m av below meth c H locs 0 0 (MQ below Qc av s 0 0 A) (F0 m 0 ls []) := by
    intro H locs hP hS
    refine lv_iconst (v := 0) hx hb dX5_readsNumbers_0 (by decide) ?_
    refine lv_istore_n (lv' := [(3, .int 0), (0, .ref (t 2)), (1, .ref ta), (2, .ref tb)]) hx hb dX5_readsNumbers_1 rfl hl (by decide) rfl (fun ls hl => ?_)
    refine lv_iload_n hx hb dX5_readsNumbers_2 rfl (lv_at hl 0 rfl) ?_
    refine lv_aload_n hx hb dX5_readsNumbers_3 rfl (lv_at hl 2 rfl) ?_
    refine va_tlen (v := 2) hx hb hTa hS rfl dX5_readsNumbers_4 ?_
    refine lv_icmp_ge (tgt := 71) hx hb dX5_readsNumbers_5 (by decide) (fun h_9 => absurd h_9 (by decide)) (fun _ => ?_)
    refine lv_iload_n hx hb dX5_readsNumbers_8 rfl (lv_at hl 0 rfl) ?_
    refine lv_aload_n hx hb dX5_readsNumbers_9 rfl (lv_at hl 3 rfl) ?_
    refine va_tlen (v := 2) hx hb hTb hS rfl dX5_readsNumbers_10 ?_
    refine lv_icmp_ge (tgt := 71) hx hb dX5_readsNumbers_11 (by decide) (fun h_9 => absurd h_9 (by decide)) (fun _ => ?_)
    refine lv_iload_n hx hb dX5_readsNumbers_14 rfl (lv_at hl 0 rfl) ?_
    refine lv_aload_n hx hb dX5_readsNumbers_15 rfl (lv_at hl 1 rfl) ?_
    refine va_get (D := D) (ci := 5) (v := .ref (t 3)) (C := RX5) (T := TX5) (N := 9) hx hb hts hiX5 hown hK hP 0 rfl rfl 4 (by decide) f26 (fun _ h9 => h9) rfl dX5_readsNumbers_16 ?_
    refine va_alen (v := 3) hx hb hK hP 2 0 rfl rfl rfl dX5_readsNumbers_19 ?_
    refine lv_icmp_ge (tgt := 71) hx hb dX5_readsNumbers_20 (by decide) (fun h_9 => absurd h_9 (by decide)) (fun _ => ?_)
    refine lv_aload_n hx hb dX5_readsNumbers_23 rfl (lv_at hl 1 rfl) ?_
    have hPc_24 := hP.sub (ws' := [((t 2), .inr (5, [.ref (t 1), .int (nI ln), .int (nI pl), iv, .ref (t 3), .int (nI tok), .int (nI vl), .int (nI st), .int (nI it)])), ((t 1), .inl (cC, 180, .inl (fun j => nI (tx j))))]) [0, 1] rfl
    refine ly_m (wr := [((t 3), .inl (cI, 3, .inl (fun j => nI (nm j))))]) (va_runV (As := []) (rest := []) ⟨hx, hb, hml, hown, hts⟩ (c_X5_takeToken l D cI cC cZ cN t tx iv ln pl tok vl st it htx hln (by omega) ((hD.sub [0, 1] (by decide) rfl).weaken (fun _ _ _ _ => trivial))) (cwV 0 hts gX5_readsNumbers_X5_takeToken rfl rfl rfl (by decide +kernel) ⟨Nat.le_of_ble_eq_true rfl, Nat.le_of_ble_eq_true rfl⟩) (ly_pv hK hN hPc_24 0 5 rfl rfl rfl) rfl rfl hl.1 rfl (lv_room (Nat.le_of_ble_eq_true rfl)) dX5_readsNumbers_24 ⟨Nat.zero_le _, Nat.zero_le _⟩) hP hD hS [0, 1] [2] rfl rfl (by decide) ?_
    rintro _ _ H locs ⟨rfl, rfl⟩ - hP hD hS
    have hT_24 := tk_T_le tx ln pl vl htx hln (by omega)
    have hP : va_P D vwCl [((t 3), .inl (cI, 3, .inl (fun j => nI (nm j)))), ((t 2), .inr (5, [.ref (t 1), .int (nI ln), .int (nI ((tk_T tx ln pl vl).1)), iv, .ref (t 3), .int (nI ((tk_T tx ln pl vl).2.1)), .int (nI ((tk_T tx ln pl vl).2.2.1)), .int (nI ((tk_T tx ln pl vl).2.2.2)), .int (nI it)])), ((t 1), .inl (cC, 180, .inl (fun j => nI (tx j))))] H := hP
    have hD : va_D A [((t 3), .inl (cI, 3, .inl (fun j => nI (nm j)))), ((t 2), .inr (5, [.ref (t 1), .int (nI ln), .int (nI ((tk_T tx ln pl vl).1)), iv, .ref (t 3), .int (nI ((tk_T tx ln pl vl).2.1)), .int (nI ((tk_T tx ln pl vl).2.2.1)), .int (nI ((tk_T tx ln pl vl).2.2.2)), .int (nI it)])), ((t 1), .inl (cC, 180, .inl (fun j => nI (tx j))))] := hD
    refine W.eq (g2 := F0 m 27 ls []) rfl ?_
    refine lv_aload_n hx hb dX5_readsNumbers_27 rfl (lv_at hl 1 rfl) ?_
    refine va_get (D := D) (ci := 5) (v := .int (nI ((tk_T tx ln pl vl).2.1))) (C := RX5) (T := TX5) (N := 9) hx hb hts hiX5 hown hK hP 1 rfl rfl 5 (by decide) f30 (fun _ h9 => h9) rfl dX5_readsNumbers_28 ?_
    refine lv_sipush (v := 257) hx hb dX5_readsNumbers_31 (by decide) ?_
    refine lv_icmp_ne (tgt := 53) hx hb dX5_readsNumbers_34 (by decide) (fun c_1 => ?_) (fun c_1 => ?_)
    · refine lv_iconst (v := 0) hx hb dX5_readsNumbers_53 (by decide) ?_
      have e_2 : (0, (tk_T tx ln pl vl), nm) = (rnL tx ln [(0, 4), (0, 9)] 0 (pl, tok, vl, st) nm) := (by simp only [rnL, if_neg c_1])
      exact W.zret (v := 0) hx hb hr rfl (fun t_9 ht_9 _ => by rw [hQc]; exact ⟨_, [((t 2), .inr (5, [.ref (t 1), .int (nI ln), .int (nI ((tk_T tx ln pl vl).1)), iv, .ref (t 3), .int (nI ((tk_T tx ln pl vl).2.1)), .int (nI ((tk_T tx ln pl vl).2.2.1)), .int (nI ((tk_T tx ln pl vl).2.2.2)), .int (nI it)])), ((t 1), .inl (cC, 180, .inl (fun j => nI (tx j)))), ((t 3), .inl (cI, 3, .inl (fun j => nI (nm j))))], rfl, ⟨(by rw [← e_2]), (by rw [← e_2])⟩, rfl, by rw [ht_9]; exact hP.sub [1, 2, 0] rfl, by rw [← hAe]; exact hS.F ht_9⟩) hS.2.2 dX5_readsNumbers_54
    · refine lv_aload_n hx hb dX5_readsNumbers_37 rfl (lv_at hl 1 rfl) ?_
      refine va_get (D := D) (ci := 5) (v := .int (nI ((tk_T tx ln pl vl).2.2.1))) (C := RX5) (T := TX5) (N := 9) hx hb hts hiX5 hown hK hP 1 rfl rfl 6 (by decide) f33 (fun _ h9 => h9) rfl dX5_readsNumbers_38 ?_
      refine lv_aload_n hx hb dX5_readsNumbers_41 rfl (lv_at hl 2 rfl) ?_
      refine lv_iload_n hx hb dX5_readsNumbers_42 rfl (lv_at hl 0 rfl) ?_
      refine va_ti (v := .int 0) hx hb hTa hS (show vp_in 0 2 from vp_in_nI (n := 0) (by decide) (by decide)) rfl dX5_readsNumbers_43 ?_
      refine lv_aload_n hx hb dX5_readsNumbers_44 rfl (lv_at hl 3 rfl) ?_
      refine lv_iload_n hx hb dX5_readsNumbers_45 rfl (lv_at hl 0 rfl) ?_
      refine va_ti (v := .int 4) hx hb hTb hS (show vp_in 0 2 from vp_in_nI (n := 0) (by decide) (by decide)) rfl dX5_readsNumbers_46 ?_
      have hPc_47 := hP.sub (ws' := []) [] rfl
      refine ly_r (va_runSN (As := [.int (nI ((tk_T tx ln pl vl).2.2.1)), .int 0, .int 4]) (rest := []) ⟨hx, hb, hml, hown, hts⟩ (c_X6_within l D cI cC cZ cN (nI ((tk_T tx ln pl vl).2.2.1)) 0 4) ⟨va_cnB 3 hts gX5_readsNumbers_X6_within_n108 rfl rfl rfl hN.2.2.2.2.2.1 (hts (.initialized RX6) (by decide +kernel)) (by decide +kernel) ⟨Nat.le_of_ble_eq_true rfl, Nat.le_of_ble_eq_true rfl⟩, hts (.static yX6_within) (by decide +kernel), trivial⟩ (ly_ps hK hN hPc_47) rfl rfl hl.1 rfl (lv_room (Nat.le_of_ble_eq_true rfl)) dX5_readsNumbers_47 ⟨Nat.zero_le _, Nat.zero_le _⟩) ?_
      refine lv_if_ne (tgt := 55) hx hb dX5_readsNumbers_50 (by decide) (fun c_3 => ?_) (fun c_3 => ?_)
      · refine lv_aload_n hx hb dX5_readsNumbers_55 rfl (lv_at hl 1 rfl) ?_
        refine va_get (D := D) (ci := 5) (v := .ref (t 3)) (C := RX5) (T := TX5) (N := 9) hx hb hts hiX5 hown hK hP 1 rfl rfl 4 (by decide) f26 (fun _ h9 => h9) rfl dX5_readsNumbers_56 ?_
        refine lv_iload_n hx hb dX5_readsNumbers_59 rfl (lv_at hl 0 rfl) ?_
        refine lv_aload_n hx hb dX5_readsNumbers_60 rfl (lv_at hl 1 rfl) ?_
        refine va_get (D := D) (ci := 5) (v := .int (nI ((tk_T tx ln pl vl).2.2.1))) (C := RX5) (T := TX5) (N := 9) hx hb hts hiX5 hown hK hP 1 rfl rfl 6 (by decide) f33 (fun _ h9 => h9) rfl dX5_readsNumbers_61 ?_
        refine ly_iastN hx hb hK hP hD hS 0 0 rfl rfl (k := 0) (v := (tk_T tx ln pl vl).2.2.1) (by decide) rfl (by omega) rfl dX5_readsNumbers_64 (fun H locs hP hD hS => ?_)
        have hP : va_P D vwCl [((t 3), .inl (cI, 3, .inl (fun j => nI ((va_up nm 0 ((tk_T tx ln pl vl).2.2.1)) j)))), ((t 2), .inr (5, [.ref (t 1), .int (nI ln), .int (nI ((tk_T tx ln pl vl).1)), iv, .ref (t 3), .int (nI ((tk_T tx ln pl vl).2.1)), .int (nI ((tk_T tx ln pl vl).2.2.1)), .int (nI ((tk_T tx ln pl vl).2.2.2)), .int (nI it)])), ((t 1), .inl (cC, 180, .inl (fun j => nI (tx j))))] H := hP
        have hD : va_D A [((t 3), .inl (cI, 3, .inl (fun j => nI ((va_up nm 0 ((tk_T tx ln pl vl).2.2.1)) j)))), ((t 2), .inr (5, [.ref (t 1), .int (nI ln), .int (nI ((tk_T tx ln pl vl).1)), iv, .ref (t 3), .int (nI ((tk_T tx ln pl vl).2.1)), .int (nI ((tk_T tx ln pl vl).2.2.1)), .int (nI ((tk_T tx ln pl vl).2.2.2)), .int (nI it)])), ((t 1), .inl (cC, 180, .inl (fun j => nI (tx j))))] := hD
        refine lv_iinc (v := 1) (lv' := [(3, .int 1), (0, .ref (t 2)), (1, .ref ta), (2, .ref tb)]) hx hb dX5_readsNumbers_65 hl (k := 0) rfl (by decide) (by decide) rfl (fun ls hl => ?_)
        refine lv_goto (tgt := 2) hx hb dX5_readsNumbers_68 (by decide) ?_
        refine lv_iload_n hx hb dX5_readsNumbers_2 rfl (lv_at hl 0 rfl) ?_
        refine lv_aload_n hx hb dX5_readsNumbers_3 rfl (lv_at hl 2 rfl) ?_
        refine va_tlen (v := 2) hx hb hTa hS rfl dX5_readsNumbers_4 ?_
        refine lv_icmp_ge (tgt := 71) hx hb dX5_readsNumbers_5 (by decide) (fun h_9 => absurd h_9 (by decide)) (fun _ => ?_)
        refine lv_iload_n hx hb dX5_readsNumbers_8 rfl (lv_at hl 0 rfl) ?_
        refine lv_aload_n hx hb dX5_readsNumbers_9 rfl (lv_at hl 3 rfl) ?_
        refine va_tlen (v := 2) hx hb hTb hS rfl dX5_readsNumbers_10 ?_
        refine lv_icmp_ge (tgt := 71) hx hb dX5_readsNumbers_11 (by decide) (fun h_9 => absurd h_9 (by decide)) (fun _ => ?_)
        refine lv_iload_n hx hb dX5_readsNumbers_14 rfl (lv_at hl 0 rfl) ?_
        refine lv_aload_n hx hb dX5_readsNumbers_15 rfl (lv_at hl 1 rfl) ?_
        refine va_get (D := D) (ci := 5) (v := .ref (t 3)) (C := RX5) (T := TX5) (N := 9) hx hb hts hiX5 hown hK hP 1 rfl rfl 4 (by decide) f26 (fun _ h9 => h9) rfl dX5_readsNumbers_16 ?_
        refine va_alen (v := 3) hx hb hK hP 0 0 rfl rfl rfl dX5_readsNumbers_19 ?_
        refine lv_icmp_ge (tgt := 71) hx hb dX5_readsNumbers_20 (by decide) (fun h_9 => absurd h_9 (by decide)) (fun _ => ?_)
        refine lv_aload_n hx hb dX5_readsNumbers_23 rfl (lv_at hl 1 rfl) ?_
        have hPc_24 := hP.sub (ws' := [((t 2), .inr (5, [.ref (t 1), .int (nI ln), .int (nI ((tk_T tx ln pl vl).1)), iv, .ref (t 3), .int (nI ((tk_T tx ln pl vl).2.1)), .int (nI ((tk_T tx ln pl vl).2.2.1)), .int (nI ((tk_T tx ln pl vl).2.2.2)), .int (nI it)])), ((t 1), .inl (cC, 180, .inl (fun j => nI (tx j))))]) [1, 2] rfl
        refine ly_m (wr := [((t 3), .inl (cI, 3, .inl (fun j => nI ((va_up nm 0 ((tk_T tx ln pl vl).2.2.1)) j))))]) (va_runV (As := []) (rest := []) ⟨hx, hb, hml, hown, hts⟩ (c_X5_takeToken l D cI cC cZ cN t tx iv ln ((tk_T tx ln pl vl).1) ((tk_T tx ln pl vl).2.1) ((tk_T tx ln pl vl).2.2.1) ((tk_T tx ln pl vl).2.2.2) it htx hln (by omega) ((hD.sub [1, 2] (by decide) rfl).weaken (fun _ _ _ _ => trivial))) (cwV 0 hts gX5_readsNumbers_X5_takeToken rfl rfl rfl (by decide +kernel) ⟨Nat.le_of_ble_eq_true rfl, Nat.le_of_ble_eq_true rfl⟩) (ly_pv hK hN hPc_24 0 5 rfl rfl rfl) rfl rfl hl.1 rfl (lv_room (Nat.le_of_ble_eq_true rfl)) dX5_readsNumbers_24 ⟨Nat.zero_le _, Nat.zero_le _⟩) hP hD hS [1, 2] [0] rfl rfl (by decide) ?_
        rintro _ _ H locs ⟨rfl, rfl⟩ - hP hD hS
        have hT_24 := tk_T_le tx ln ((tk_T tx ln pl vl).1) ((tk_T tx ln pl vl).2.2.1) htx hln (by omega)
        have hP : va_P D vwCl [((t 3), .inl (cI, 3, .inl (fun j => nI ((va_up nm 0 ((tk_T tx ln pl vl).2.2.1)) j)))), ((t 2), .inr (5, [.ref (t 1), .int (nI ln), .int (nI ((tk_T tx ln ((tk_T tx ln pl vl).1) ((tk_T tx ln pl vl).2.2.1)).1)), iv, .ref (t 3), .int (nI ((tk_T tx ln ((tk_T tx ln pl vl).1) ((tk_T tx ln pl vl).2.2.1)).2.1)), .int (nI ((tk_T tx ln ((tk_T tx ln pl vl).1) ((tk_T tx ln pl vl).2.2.1)).2.2.1)), .int (nI ((tk_T tx ln ((tk_T tx ln pl vl).1) ((tk_T tx ln pl vl).2.2.1)).2.2.2)), .int (nI it)])), ((t 1), .inl (cC, 180, .inl (fun j => nI (tx j))))] H := hP
        have hD : va_D A [((t 3), .inl (cI, 3, .inl (fun j => nI ((va_up nm 0 ((tk_T tx ln pl vl).2.2.1)) j)))), ((t 2), .inr (5, [.ref (t 1), .int (nI ln), .int (nI ((tk_T tx ln ((tk_T tx ln pl vl).1) ((tk_T tx ln pl vl).2.2.1)).1)), iv, .ref (t 3), .int (nI ((tk_T tx ln ((tk_T tx ln pl vl).1) ((tk_T tx ln pl vl).2.2.1)).2.1)), .int (nI ((tk_T tx ln ((tk_T tx ln pl vl).1) ((tk_T tx ln pl vl).2.2.1)).2.2.1)), .int (nI ((tk_T tx ln ((tk_T tx ln pl vl).1) ((tk_T tx ln pl vl).2.2.1)).2.2.2)), .int (nI it)])), ((t 1), .inl (cC, 180, .inl (fun j => nI (tx j))))] := hD
        refine W.eq (g2 := F0 m 27 ls []) rfl ?_
        refine lv_aload_n hx hb dX5_readsNumbers_27 rfl (lv_at hl 1 rfl) ?_
        refine va_get (D := D) (ci := 5) (v := .int (nI ((tk_T tx ln ((tk_T tx ln pl vl).1) ((tk_T tx ln pl vl).2.2.1)).2.1))) (C := RX5) (T := TX5) (N := 9) hx hb hts hiX5 hown hK hP 1 rfl rfl 5 (by decide) f30 (fun _ h9 => h9) rfl dX5_readsNumbers_28 ?_
        refine lv_sipush (v := 257) hx hb dX5_readsNumbers_31 (by decide) ?_
        refine lv_icmp_ne (tgt := 53) hx hb dX5_readsNumbers_34 (by decide) (fun c_4 => ?_) (fun c_4 => ?_)
        · refine lv_iconst (v := 0) hx hb dX5_readsNumbers_53 (by decide) ?_
          have e_5 : (0, (tk_T tx ln ((tk_T tx ln pl vl).1) ((tk_T tx ln pl vl).2.2.1)), (va_up nm 0 ((tk_T tx ln pl vl).2.2.1))) = (rnL tx ln [(0, 4), (0, 9)] 0 (pl, tok, vl, st) nm) := (by simp only [rnL, if_pos c_1, if_neg c_3, if_neg c_4])
          exact W.zret (v := 0) hx hb hr rfl (fun t_9 ht_9 _ => by rw [hQc]; exact ⟨_, [((t 2), .inr (5, [.ref (t 1), .int (nI ln), .int (nI ((tk_T tx ln ((tk_T tx ln pl vl).1) ((tk_T tx ln pl vl).2.2.1)).1)), iv, .ref (t 3), .int (nI ((tk_T tx ln ((tk_T tx ln pl vl).1) ((tk_T tx ln pl vl).2.2.1)).2.1)), .int (nI ((tk_T tx ln ((tk_T tx ln pl vl).1) ((tk_T tx ln pl vl).2.2.1)).2.2.1)), .int (nI ((tk_T tx ln ((tk_T tx ln pl vl).1) ((tk_T tx ln pl vl).2.2.1)).2.2.2)), .int (nI it)])), ((t 1), .inl (cC, 180, .inl (fun j => nI (tx j)))), ((t 3), .inl (cI, 3, .inl (fun j => nI ((va_up nm 0 ((tk_T tx ln pl vl).2.2.1)) j))))], rfl, ⟨(by rw [← e_5]), (by rw [← e_5])⟩, rfl, by rw [ht_9]; exact hP.sub [1, 2, 0] rfl, by rw [← hAe]; exact hS.F ht_9⟩) hS.2.2 dX5_readsNumbers_54
        · refine lv_aload_n hx hb dX5_readsNumbers_37 rfl (lv_at hl 1 rfl) ?_
          refine va_get (D := D) (ci := 5) (v := .int (nI ((tk_T tx ln ((tk_T tx ln pl vl).1) ((tk_T tx ln pl vl).2.2.1)).2.2.1))) (C := RX5) (T := TX5) (N := 9) hx hb hts hiX5 hown hK hP 1 rfl rfl 6 (by decide) f33 (fun _ h9 => h9) rfl dX5_readsNumbers_38 ?_
          refine lv_aload_n hx hb dX5_readsNumbers_41 rfl (lv_at hl 2 rfl) ?_
          refine lv_iload_n hx hb dX5_readsNumbers_42 rfl (lv_at hl 0 rfl) ?_
          refine va_ti (v := .int 0) hx hb hTa hS (show vp_in 1 2 from vp_in_nI (n := 1) (by decide) (by decide)) rfl dX5_readsNumbers_43 ?_
          refine lv_aload_n hx hb dX5_readsNumbers_44 rfl (lv_at hl 3 rfl) ?_
          refine lv_iload_n hx hb dX5_readsNumbers_45 rfl (lv_at hl 0 rfl) ?_
          refine va_ti (v := .int 9) hx hb hTb hS (show vp_in 1 2 from vp_in_nI (n := 1) (by decide) (by decide)) rfl dX5_readsNumbers_46 ?_
          have hPc_47 := hP.sub (ws' := []) [] rfl
          refine ly_r (va_runSN (As := [.int (nI ((tk_T tx ln ((tk_T tx ln pl vl).1) ((tk_T tx ln pl vl).2.2.1)).2.2.1)), .int 0, .int 9]) (rest := []) ⟨hx, hb, hml, hown, hts⟩ (c_X6_within l D cI cC cZ cN (nI ((tk_T tx ln ((tk_T tx ln pl vl).1) ((tk_T tx ln pl vl).2.2.1)).2.2.1)) 0 9) ⟨va_cnB 3 hts gX5_readsNumbers_X6_within_n108 rfl rfl rfl hN.2.2.2.2.2.1 (hts (.initialized RX6) (by decide +kernel)) (by decide +kernel) ⟨Nat.le_of_ble_eq_true rfl, Nat.le_of_ble_eq_true rfl⟩, hts (.static yX6_within) (by decide +kernel), trivial⟩ (ly_ps hK hN hPc_47) rfl rfl hl.1 rfl (lv_room (Nat.le_of_ble_eq_true rfl)) dX5_readsNumbers_47 ⟨Nat.zero_le _, Nat.zero_le _⟩) ?_
          refine lv_if_ne (tgt := 55) hx hb dX5_readsNumbers_50 (by decide) (fun c_6 => ?_) (fun c_6 => ?_)
          · refine lv_aload_n hx hb dX5_readsNumbers_55 rfl (lv_at hl 1 rfl) ?_
            refine va_get (D := D) (ci := 5) (v := .ref (t 3)) (C := RX5) (T := TX5) (N := 9) hx hb hts hiX5 hown hK hP 1 rfl rfl 4 (by decide) f26 (fun _ h9 => h9) rfl dX5_readsNumbers_56 ?_
            refine lv_iload_n hx hb dX5_readsNumbers_59 rfl (lv_at hl 0 rfl) ?_
            refine lv_aload_n hx hb dX5_readsNumbers_60 rfl (lv_at hl 1 rfl) ?_
            refine va_get (D := D) (ci := 5) (v := .int (nI ((tk_T tx ln ((tk_T tx ln pl vl).1) ((tk_T tx ln pl vl).2.2.1)).2.2.1))) (C := RX5) (T := TX5) (N := 9) hx hb hts hiX5 hown hK hP 1 rfl rfl 6 (by decide) f33 (fun _ h9 => h9) rfl dX5_readsNumbers_61 ?_
            refine ly_iastN hx hb hK hP hD hS 0 0 rfl rfl (k := 1) (v := (tk_T tx ln ((tk_T tx ln pl vl).1) ((tk_T tx ln pl vl).2.2.1)).2.2.1) (by decide) rfl (by omega) rfl dX5_readsNumbers_64 (fun H locs hP hD hS => ?_)
            have hP : va_P D vwCl [((t 3), .inl (cI, 3, .inl (fun j => nI ((va_up (va_up nm 0 ((tk_T tx ln pl vl).2.2.1)) 1 ((tk_T tx ln ((tk_T tx ln pl vl).1) ((tk_T tx ln pl vl).2.2.1)).2.2.1)) j)))), ((t 2), .inr (5, [.ref (t 1), .int (nI ln), .int (nI ((tk_T tx ln ((tk_T tx ln pl vl).1) ((tk_T tx ln pl vl).2.2.1)).1)), iv, .ref (t 3), .int (nI ((tk_T tx ln ((tk_T tx ln pl vl).1) ((tk_T tx ln pl vl).2.2.1)).2.1)), .int (nI ((tk_T tx ln ((tk_T tx ln pl vl).1) ((tk_T tx ln pl vl).2.2.1)).2.2.1)), .int (nI ((tk_T tx ln ((tk_T tx ln pl vl).1) ((tk_T tx ln pl vl).2.2.1)).2.2.2)), .int (nI it)])), ((t 1), .inl (cC, 180, .inl (fun j => nI (tx j))))] H := hP
            have hD : va_D A [((t 3), .inl (cI, 3, .inl (fun j => nI ((va_up (va_up nm 0 ((tk_T tx ln pl vl).2.2.1)) 1 ((tk_T tx ln ((tk_T tx ln pl vl).1) ((tk_T tx ln pl vl).2.2.1)).2.2.1)) j)))), ((t 2), .inr (5, [.ref (t 1), .int (nI ln), .int (nI ((tk_T tx ln ((tk_T tx ln pl vl).1) ((tk_T tx ln pl vl).2.2.1)).1)), iv, .ref (t 3), .int (nI ((tk_T tx ln ((tk_T tx ln pl vl).1) ((tk_T tx ln pl vl).2.2.1)).2.1)), .int (nI ((tk_T tx ln ((tk_T tx ln pl vl).1) ((tk_T tx ln pl vl).2.2.1)).2.2.1)), .int (nI ((tk_T tx ln ((tk_T tx ln pl vl).1) ((tk_T tx ln pl vl).2.2.1)).2.2.2)), .int (nI it)])), ((t 1), .inl (cC, 180, .inl (fun j => nI (tx j))))] := hD
            refine lv_iinc (v := 2) (lv' := [(3, .int 2), (0, .ref (t 2)), (1, .ref ta), (2, .ref tb)]) hx hb dX5_readsNumbers_65 hl (k := 0) rfl (by decide) (by decide) rfl (fun ls hl => ?_)
            refine lv_goto (tgt := 2) hx hb dX5_readsNumbers_68 (by decide) ?_
            refine lv_iload_n hx hb dX5_readsNumbers_2 rfl (lv_at hl 0 rfl) ?_
            refine lv_aload_n hx hb dX5_readsNumbers_3 rfl (lv_at hl 2 rfl) ?_
            refine va_tlen (v := 2) hx hb hTa hS rfl dX5_readsNumbers_4 ?_
            refine lv_icmp_ge (tgt := 71) hx hb dX5_readsNumbers_5 (by decide) (fun _ => ?_) (fun h_9 => absurd (by decide) h_9)
            refine lv_iconst (v := 1) hx hb dX5_readsNumbers_71 (by decide) ?_
            have e_7 : (1, (tk_T tx ln ((tk_T tx ln pl vl).1) ((tk_T tx ln pl vl).2.2.1)), (va_up (va_up nm 0 ((tk_T tx ln pl vl).2.2.1)) 1 ((tk_T tx ln ((tk_T tx ln pl vl).1) ((tk_T tx ln pl vl).2.2.1)).2.2.1))) = (rnL tx ln [(0, 4), (0, 9)] 0 (pl, tok, vl, st) nm) := (by simp only [rnL, if_pos c_1, if_neg c_3, if_pos c_4, if_neg c_6])
            exact W.zret (v := 1) hx hb hr rfl (fun t_9 ht_9 _ => by rw [hQc]; exact ⟨_, [((t 2), .inr (5, [.ref (t 1), .int (nI ln), .int (nI ((tk_T tx ln ((tk_T tx ln pl vl).1) ((tk_T tx ln pl vl).2.2.1)).1)), iv, .ref (t 3), .int (nI ((tk_T tx ln ((tk_T tx ln pl vl).1) ((tk_T tx ln pl vl).2.2.1)).2.1)), .int (nI ((tk_T tx ln ((tk_T tx ln pl vl).1) ((tk_T tx ln pl vl).2.2.1)).2.2.1)), .int (nI ((tk_T tx ln ((tk_T tx ln pl vl).1) ((tk_T tx ln pl vl).2.2.1)).2.2.2)), .int (nI it)])), ((t 1), .inl (cC, 180, .inl (fun j => nI (tx j)))), ((t 3), .inl (cI, 3, .inl (fun j => nI ((va_up (va_up nm 0 ((tk_T tx ln pl vl).2.2.1)) 1 ((tk_T tx ln ((tk_T tx ln pl vl).1) ((tk_T tx ln pl vl).2.2.1)).2.2.1)) j))))], rfl, ⟨(by rw [← e_7]), (by rw [← e_7])⟩, rfl, by rw [ht_9]; exact hP.sub [1, 2, 0] rfl, by rw [← hAe]; exact hS.F ht_9⟩) hS.2.2 dX5_readsNumbers_72
          · refine lv_iconst (v := 0) hx hb dX5_readsNumbers_53 (by decide) ?_
            have e_8 : (0, (tk_T tx ln ((tk_T tx ln pl vl).1) ((tk_T tx ln pl vl).2.2.1)), (va_up nm 0 ((tk_T tx ln pl vl).2.2.1))) = (rnL tx ln [(0, 4), (0, 9)] 0 (pl, tok, vl, st) nm) := (by simp only [rnL, if_pos c_1, if_neg c_3, if_pos c_4, if_pos c_6])
            exact W.zret (v := 0) hx hb hr rfl (fun t_9 ht_9 _ => by rw [hQc]; exact ⟨_, [((t 2), .inr (5, [.ref (t 1), .int (nI ln), .int (nI ((tk_T tx ln ((tk_T tx ln pl vl).1) ((tk_T tx ln pl vl).2.2.1)).1)), iv, .ref (t 3), .int (nI ((tk_T tx ln ((tk_T tx ln pl vl).1) ((tk_T tx ln pl vl).2.2.1)).2.1)), .int (nI ((tk_T tx ln ((tk_T tx ln pl vl).1) ((tk_T tx ln pl vl).2.2.1)).2.2.1)), .int (nI ((tk_T tx ln ((tk_T tx ln pl vl).1) ((tk_T tx ln pl vl).2.2.1)).2.2.2)), .int (nI it)])), ((t 1), .inl (cC, 180, .inl (fun j => nI (tx j)))), ((t 3), .inl (cI, 3, .inl (fun j => nI ((va_up nm 0 ((tk_T tx ln pl vl).2.2.1)) j))))], rfl, ⟨(by rw [← e_8]), (by rw [← e_8])⟩, rfl, by rw [ht_9]; exact hP.sub [1, 2, 0] rfl, by rw [← hAe]; exact hS.F ht_9⟩) hS.2.2 dX5_readsNumbers_54
      · refine lv_iconst (v := 0) hx hb dX5_readsNumbers_53 (by decide) ?_
        have e_9 : (0, (tk_T tx ln pl vl), nm) = (rnL tx ln [(0, 4), (0, 9)] 0 (pl, tok, vl, st) nm) := (by simp only [rnL, if_pos c_1, if_pos c_3])
        exact W.zret (v := 0) hx hb hr rfl (fun t_9 ht_9 _ => by rw [hQc]; exact ⟨_, [((t 2), .inr (5, [.ref (t 1), .int (nI ln), .int (nI ((tk_T tx ln pl vl).1)), iv, .ref (t 3), .int (nI ((tk_T tx ln pl vl).2.1)), .int (nI ((tk_T tx ln pl vl).2.2.1)), .int (nI ((tk_T tx ln pl vl).2.2.2)), .int (nI it)])), ((t 1), .inl (cC, 180, .inl (fun j => nI (tx j)))), ((t 3), .inl (cI, 3, .inl (fun j => nI (nm j))))], rfl, ⟨(by rw [← e_9]), (by rw [← e_9])⟩, rfl, by rw [ht_9]; exact hP.sub [1, 2, 0] rfl, by rw [← hAe]; exact hS.F ht_9⟩) hS.2.2 dX5_readsNumbers_54
  exact hmain _ _ hP va_S.rf
