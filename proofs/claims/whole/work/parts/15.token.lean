def jdig (x : Int32) : Int32 := (if x < 48 then 0 else (if 57 < x then 0 else 1))
set_option maxHeartbeats 4000000 in
set_option maxRecDepth 100000 in
theorem c_X5_isDigit (l : Launch) (D : va_G) (cI cC cZ cN : ClassId) (x : Int32) : Met l yX5_isDigit wsX5_isDigit (ly_rm 1) (ly_Pre D (ly_tys cI cC cZ cN) [] [.int x]) (QcRead (jdig x)) 0 0 (fun _ => False) := by
  refine Met.ofW (cc := cX5_isDigit) (maxL := 1) (ret := (some .boolean)) (by decide) rfl ?_
  intro p e s m args below meth c s₁ B hml hv
  obtain ⟨rfl, hP, hK, hN⟩ := hv
  have hx := B.exec
  have hb := B.bytes
  have hr := B.returns
  have hts := atoms_spec (ws := wsX5_isDigit) B.pre
  have hown : s.vm.findClass RX5 = some m.cls := findClass_of_methodNamed B.named
  have hlocks := B.notSynchronized
  have hl := lv_entry ([.int x]) (n := 1) (Nat.le_of_ble_eq_true rfl)
  rw [lg_entry_eq]
  generalize (lg_sl ([.int x]) ++ List.replicate (1 - (lg_sl ([.int x])).length) Slot.unset).toArray = ls at hl ⊢
  have hl : lv_has ls 1 [(0, .int x)] := hl
  generalize ([.int x] : List Value).toArray = av at hts ⊢
  obtain ⟨Qc, hQc⟩ : ∃ Qc, Qc = (QcRead (jdig x)) := ⟨_, rfl⟩
  rw [← hQc]
  refine lv_iload_n hx hb dX5_isDigit_0 rfl (lv_at hl 0 rfl) ?_
  refine lv_bipush (v := 48) hx hb dX5_isDigit_1 (by decide) ?_
  refine lv_icmp_lt (tgt := 16) hx hb dX5_isDigit_3 (by decide) (fun c_1 => ?_) (fun c_1 => ?_)
  · refine lv_iconst (v := 0) hx hb dX5_isDigit_16 (by decide) ?_
    exact W.zret (v := 0) hx hb hr rfl (fun t_9 ht_9 _ => by rw [hQc]; exact ⟨(by unfold jdig; rw [if_pos c_1]), ht_9⟩) t_nil dX5_isDigit_17
  · refine lv_iload_n hx hb dX5_isDigit_6 rfl (lv_at hl 0 rfl) ?_
    refine lv_bipush (v := 57) hx hb dX5_isDigit_7 (by decide) ?_
    refine lv_icmp_gt (tgt := 16) hx hb dX5_isDigit_9 (by decide) (fun c_2 => ?_) (fun c_2 => ?_)
    · refine lv_iconst (v := 0) hx hb dX5_isDigit_16 (by decide) ?_
      exact W.zret (v := 0) hx hb hr rfl (fun t_9 ht_9 _ => by rw [hQc]; exact ⟨(by unfold jdig; rw [if_neg c_1, if_pos c_2]), ht_9⟩) t_nil dX5_isDigit_17
    · refine lv_iconst (v := 1) hx hb dX5_isDigit_12 (by decide) ?_
      refine lv_goto (tgt := 17) hx hb dX5_isDigit_13 (by decide) ?_
      exact W.zret (v := 1) hx hb hr rfl (fun t_9 ht_9 _ => by rw [hQc]; exact ⟨(by unfold jdig; rw [if_neg c_1, if_neg c_2]), ht_9⟩) t_nil dX5_isDigit_17

theorem jdig_nat {a : Nat} (ha : a < 256) (h : ¬ jdig (nI a) = 0) : 48 ≤ a ∧ a ≤ 57 := by
  unfold jdig at h
  by_cases h1 : nI a < 48
  · rw [if_pos h1] at h; exact absurd rfl h
  · rw [if_neg h1] at h
    by_cases h2 : 57 < nI a
    · rw [if_pos h2] at h; exact absurd rfl h
    · exact ⟨Nat.not_lt.mp (fun z => h1 ((nI_ltI (a := a) (b := 48) (by omega) (by omega)).mpr z)), Nat.not_lt.mp (fun z => h2 ((nI_ltI (a := 57) (b := a) (by omega) (by omega)).mpr z))⟩

def tk_tok (tx : Nat → Nat) (st v pl : Nat) : Nat := (if (nI (tx st)) = 48 then (if (nI pl) - (nI st) ≤ 1 then (if 99 < (nI v) then 258 else 257) else (if 99 < (nI v) then 258 else 258)) else (if 99 < (nI v) then 258 else 257))

def tk_num (tx : Nat → Nat) (ln : Nat) : Nat → Nat → Nat → Nat × Nat
  | 0, v0_, v1_ => (v0_, v1_)
  | u_ + 1, v0_, v1_ => (if (nI ln) ≤ (nI v1_) then (v0_, v1_) else (if (jdig (nI (tx v1_))) = 0 then (v0_, v1_) else tk_num tx ln u_ (min 100 (v0_ * 10 + (tx v1_ - 48))) (v1_ + 1)))
theorem tk_num_s (tx : Nat → Nat) (ln : Nat) (u_ : Nat) (v0_ : Nat) (v1_ : Nat) : tk_num tx ln (u_ + 1) v0_ v1_ = (if (nI ln) ≤ (nI v1_) then (v0_, v1_) else (if (jdig (nI (tx v1_))) = 0 then (v0_, v1_) else tk_num tx ln u_ (min 100 (v0_ * 10 + (tx v1_ - 48))) (v1_ + 1))) := rfl
theorem tk_num_le (tx : Nat → Nat) (ln : Nat) (htx : ∀ j, tx j < 256) (hln : ln ≤ 180) : ∀ u v p, v ≤ 100 → p ≤ ln → (tk_num tx ln u v p).1 ≤ 100 ∧ (tk_num tx ln u v p).2 ≤ ln ∧ p ≤ (tk_num tx ln u v p).2
  | 0, v, p, h1, h2 => ⟨h1, h2, Nat.le_refl _⟩
  | u + 1, v, p, h1, h2 => by
    rw [tk_num_s]
    split
    · exact ⟨h1, h2, Nat.le_refl _⟩
    · rename_i hc
      have hlt : p < ln := Nat.not_le.mp (fun z => hc (nI_le z (by omega)))
      split
      · exact ⟨h1, h2, Nat.le_refl _⟩
      · have ih := tk_num_le tx ln htx hln u (min 100 (v * 10 + (tx p - 48))) (p + 1) (by omega) (by omega)
        exact ⟨ih.1, ih.2.1, by omega⟩
set_option maxHeartbeats 4000000 in
set_option maxRecDepth 100000 in
theorem c_X5_takeNumber (l : Launch) (D : va_G) (cI cC cZ cN : ClassId) (t tx : Nat → Nat) (iv : Value) (ln pl tok vl st it : Nat) (htx : ∀ j, tx j < 256) (hln : ln ≤ 180) (hpl : pl ≤ ln) (hst : st < 180) (hD0 : va_D (fun _ => True) [((t 2), .inr (5, [.ref (t 1), .int (nI ln), .int (nI pl), iv, .ref (t 3), .int (nI tok), .int (nI vl), .int (nI st), .int (nI it)])), ((t 1), .inl (cC, 180, .inl (fun j => nI (tx j))))]) : Met l yX5_takeNumber wsX5_takeNumber (ly_rm 2) (ly_Pre D (ly_tys cI cC cZ cN) [((t 2), .inr (5, [.ref (t 1), .int (nI ln), .int (nI pl), iv, .ref (t 3), .int (nI tok), .int (nI vl), .int (nI st), .int (nI it)])), ((t 1), .inl (cC, 180, .inl (fun j => nI (tx j))))] [.ref (t 2)]) (ly_Q D [((t 2), .inr (5, [.ref (t 1), .int (nI ln), .int (nI pl), iv, .ref (t 3), .int (nI tok), .int (nI vl), .int (nI st), .int (nI it)])), ((t 1), .inl (cC, 180, .inl (fun j => nI (tx j))))] (fun r_9 w_9 => r_9 = none ∧ w_9 = [((t 2), .inr (5, [.ref (t 1), .int (nI ln), .int (nI ((tk_num tx ln (ln + 1) 0 pl).2)), iv, .ref (t 3), .int (nI (tk_tok tx st (tk_num tx ln (ln + 1) 0 pl).1 (tk_num tx ln (ln + 1) 0 pl).2)), .int (nI ((tk_num tx ln (ln + 1) 0 pl).1)), .int (nI st), .int (nI it)])), ((t 1), .inl (cC, 180, .inl (fun j => nI (tx j))))])) 0 0 (ly_in [((t 2), .inr (5, [.ref (t 1), .int (nI ln), .int (nI pl), iv, .ref (t 3), .int (nI tok), .int (nI vl), .int (nI st), .int (nI it)])), ((t 1), .inl (cC, 180, .inl (fun j => nI (tx j))))]) := by
  refine Met.ofW (cc := cX5_takeNumber) (maxL := 2) (ret := none) (by decide) rfl ?_
  intro p e s m args below meth c s₁ B hml hv
  obtain ⟨rfl, hP, hK, hN⟩ := hv
  have hx := B.exec
  have hb := B.bytes
  have hr := B.returns
  have hts := atoms_spec (ws := wsX5_takeNumber) B.pre
  have hown : s.vm.findClass RX5 = some m.cls := findClass_of_methodNamed B.named
  have hlocks := B.notSynchronized
  have hl := lv_entry ([.ref (t 2)]) (n := 2) (Nat.le_of_ble_eq_true rfl)
  rw [lg_entry_eq]
  generalize (lg_sl ([.ref (t 2)]) ++ List.replicate (2 - (lg_sl ([.ref (t 2)])).length) Slot.unset).toArray = ls at hl ⊢
  have hl : lv_has ls 2 [(0, .ref (t 2))] := hl
  generalize ([.ref (t 2)] : List Value).toArray = av at hts ⊢
  obtain ⟨Qc, hQc⟩ : ∃ Qc, Qc = (ly_Q D [((t 2), .inr (5, [.ref (t 1), .int (nI ln), .int (nI pl), iv, .ref (t 3), .int (nI tok), .int (nI vl), .int (nI st), .int (nI it)])), ((t 1), .inl (cC, 180, .inl (fun j => nI (tx j))))] (fun r_9 w_9 => r_9 = none ∧ w_9 = [((t 2), .inr (5, [.ref (t 1), .int (nI ln), .int (nI ((tk_num tx ln (ln + 1) 0 pl).2)), iv, .ref (t 3), .int (nI (tk_tok tx st (tk_num tx ln (ln + 1) 0 pl).1 (tk_num tx ln (ln + 1) 0 pl).2)), .int (nI ((tk_num tx ln (ln + 1) 0 pl).1)), .int (nI st), .int (nI it)])), ((t 1), .inl (cC, 180, .inl (fun j => nI (tx j))))])) := ⟨_, rfl⟩
  rw [← hQc]
  obtain ⟨A, hAe⟩ : ∃ A, A = ly_in [((t 2), .inr (5, [.ref (t 1), .int (nI ln), .int (nI pl), iv, .ref (t 3), .int (nI tok), .int (nI vl), .int (nI st), .int (nI it)])), ((t 1), .inl (cC, 180, .inl (fun j => nI (tx j))))] := ⟨_, rfl⟩
  rw [← hAe]
  have hD := ly_self hD0
  rw [← hAe] at hD
  have f33 := hts (.fieldLink RX5 33 "KneesLent$Reader" "value" "I") (by decide +kernel)
  have f9 := hts (.fieldLink RX5 9 "KneesLent$Reader" "text" "[C") (by decide +kernel)
  have f36 := hts (.fieldLink RX5 36 "KneesLent$Reader" "start" "I") (by decide +kernel)
  have f30 := hts (.fieldLink RX5 30 "KneesLent$Reader" "token" "I") (by decide +kernel)
  have f19 := hts (.fieldLink RX5 19 "KneesLent$Reader" "place" "I") (by decide +kernel)
  have f15 := hts (.fieldLink RX5 15 "KneesLent$Reader" "length" "I") (by decide +kernel)
  have hiX5 : ∀ w ∈ u_ws RX5 TX5 9, w ∈ wsX5_takeNumber := by decide +kernel
  have hmain : ∀ (H : Heap) (locs : List Loc), va_P D vwCl [((t 2), .inr (5, [.ref (t 1), .int (nI ln), .int (nI pl), iv, .ref (t 3), .int (nI tok), .int (nI vl), .int (nI st), .int (nI it)])), ((t 1), .inl (cC, 180, .inl (fun j => nI (tx j))))] H → va_S A s.heap H locs → W p l e (headSpec wsX5_takeNumber (ly_rm 2)).room s m av below meth c H locs 0 0 (MQ below Qc av s 0 0 A) (F0 m 0 ls []) := by
    intro H locs hP hS
    refine lv_aload_n hx hb dX5_takeNumber_0 rfl (lv_at hl 0 rfl) ?_
    refine lv_iconst (v := 0) hx hb dX5_takeNumber_1 (by decide) ?_
    refine va_put (D := D) (ci := 5) (v := .int 0) (ty := .int) (C := RX5) (T := TX5) (N := 9) hx hb hts hiX5 tyX5 tyX5_ok nmX5 hown hK hP hD hS 0 rfl rfl 6 (by decide) f33 (fun _ h9 => h9) rfl (by decide +kernel) rfl rfl (Nat.le_of_ble_eq_true rfl) dX5_takeNumber_2 (fun H locs hP hD hS => ?_)
    have hP : va_P D vwCl [((t 2), .inr (5, [.ref (t 1), .int (nI ln), .int (nI pl), iv, .ref (t 3), .int (nI tok), .int 0, .int (nI st), .int (nI it)])), ((t 1), .inl (cC, 180, .inl (fun j => nI (tx j))))] H := hP
    have hD : va_D A [((t 2), .inr (5, [.ref (t 1), .int (nI ln), .int (nI pl), iv, .ref (t 3), .int (nI tok), .int 0, .int (nI st), .int (nI it)])), ((t 1), .inl (cC, 180, .inl (fun j => nI (tx j))))] := hD
    have hexit_5 : ∀ (H : Heap) (locs : List Loc), va_P D vwCl [((t 2), .inr (5, [.ref (t 1), .int (nI ln), .int (nI ((tk_num tx ln (ln + 1) 0 pl).2)), iv, .ref (t 3), .int (nI tok), .int (nI ((tk_num tx ln (ln + 1) 0 pl).1)), .int (nI st), .int (nI it)])), ((t 1), .inl (cC, 180, .inl (fun j => nI (tx j))))] H → va_D A [((t 2), .inr (5, [.ref (t 1), .int (nI ln), .int (nI ((tk_num tx ln (ln + 1) 0 pl).2)), iv, .ref (t 3), .int (nI tok), .int (nI ((tk_num tx ln (ln + 1) 0 pl).1)), .int (nI st), .int (nI it)])), ((t 1), .inl (cC, 180, .inl (fun j => nI (tx j))))] → va_S A s.heap H locs → ∀ ls : Array Slot, lv_has ls 2 [(0, .ref (t 2))] → W p l e (headSpec wsX5_takeNumber (ly_rm 2)).room s m av below meth c H locs 0 0 (MQ below Qc av s 0 0 A) (F0 m 73 ls []) := by
      intro H locs hP hD hS ls hl
      have hts_ := htx st
      have hx_ := tk_num_le tx ln htx hln (ln + 1) 0 pl (by omega) hpl
      refine lv_aload_n hx hb dX5_takeNumber_73 rfl (lv_at hl 0 rfl) ?_
      refine va_get (D := D) (ci := 5) (v := .ref (t 1)) (C := RX5) (T := TX5) (N := 9) hx hb hts hiX5 hown hK hP 0 rfl rfl 0 (by decide) f9 (fun _ h9 => h9) rfl dX5_takeNumber_74 ?_
      refine lv_aload_n hx hb dX5_takeNumber_77 rfl (lv_at hl 0 rfl) ?_
      refine va_get (D := D) (ci := 5) (v := .int (nI st)) (C := RX5) (T := TX5) (N := 9) hx hb hts hiX5 hown hK hP 0 rfl rfl 7 (by decide) f36 (fun _ h9 => h9) rfl dX5_takeNumber_78 ?_
      refine ly_cald hx hb hK hP 1 1 rfl rfl (k := st) (by decide) rfl (by omega) dX5_takeNumber_81 ?_
      refine lv_bipush (v := 48) hx hb dX5_takeNumber_82 (by decide) ?_
      refine lv_icmp_ne (tgt := 104) hx hb dX5_takeNumber_84 (by decide) (fun c_1 => ?_) (fun c_1 => ?_)
      · have mc_1 : ¬ ((tx st) = 48) := fun z_9 => c_1 ((nI_eq (a := tx st) (b := 48) (by omega) (by omega)).mpr z_9)
        refine lv_iconst (v := 0) hx hb dX5_takeNumber_104 (by decide) ?_
        refine lv_istore_n (lv' := [(1, .int 0), (0, .ref (t 2))]) hx hb dX5_takeNumber_105 rfl hl (by decide) rfl (fun ls hl => ?_)
        refine lv_aload_n hx hb dX5_takeNumber_106 rfl (lv_at hl 1 rfl) ?_
        refine lv_aload_n hx hb dX5_takeNumber_107 rfl (lv_at hl 1 rfl) ?_
        refine va_get (D := D) (ci := 5) (v := .int (nI ((tk_num tx ln (ln + 1) 0 pl).1))) (C := RX5) (T := TX5) (N := 9) hx hb hts hiX5 hown hK hP 0 rfl rfl 6 (by decide) f33 (fun _ h9 => h9) rfl dX5_takeNumber_108 ?_
        refine lv_bipush (v := 99) hx hb dX5_takeNumber_111 (by decide) ?_
        refine lv_icmp_gt (tgt := 120) hx hb dX5_takeNumber_113 (by decide) (fun c_2 => ?_) (fun c_2 => ?_)
        · have mc_2 : 99 < ((tk_num tx ln (ln + 1) 0 pl).1) := (nI_ltI (a := 99) (b := (tk_num tx ln (ln + 1) 0 pl).1) (by omega) (by omega)).mp c_2
          refine lv_sipush (v := 258) hx hb dX5_takeNumber_120 (by decide) ?_
          refine lv_goto (tgt := 129) hx hb dX5_takeNumber_123 (by decide) ?_
          refine va_put (D := D) (ci := 5) (v := .int 258) (ty := .int) (C := RX5) (T := TX5) (N := 9) hx hb hts hiX5 tyX5 tyX5_ok nmX5 hown hK hP hD hS 0 rfl rfl 5 (by decide) f30 (fun _ h9 => h9) rfl (by decide +kernel) rfl rfl (Nat.le_of_ble_eq_true rfl) dX5_takeNumber_129 (fun H locs hP hD hS => ?_)
          have hP : va_P D vwCl [((t 2), .inr (5, [.ref (t 1), .int (nI ln), .int (nI ((tk_num tx ln (ln + 1) 0 pl).2)), iv, .ref (t 3), .int 258, .int (nI ((tk_num tx ln (ln + 1) 0 pl).1)), .int (nI st), .int (nI it)])), ((t 1), .inl (cC, 180, .inl (fun j => nI (tx j))))] H := hP
          have hD : va_D A [((t 2), .inr (5, [.ref (t 1), .int (nI ln), .int (nI ((tk_num tx ln (ln + 1) 0 pl).2)), iv, .ref (t 3), .int 258, .int (nI ((tk_num tx ln (ln + 1) 0 pl).1)), .int (nI st), .int (nI it)])), ((t 1), .inl (cC, 180, .inl (fun j => nI (tx j))))] := hD
          exact W.vret hx hb hr (fun t_9 ht_9 _ => by rw [hQc]; exact ⟨_, [((t 2), .inr (5, [.ref (t 1), .int (nI ln), .int (nI ((tk_num tx ln (ln + 1) 0 pl).2)), iv, .ref (t 3), .int 258, .int (nI ((tk_num tx ln (ln + 1) 0 pl).1)), .int (nI st), .int (nI it)])), ((t 1), .inl (cC, 180, .inl (fun j => nI (tx j))))], rfl, ⟨(by first | rfl | (unfold tk_tok; rw [if_neg c_1, if_pos c_2]; done) | (unfold tk_tok; simp only [if_neg c_1, if_pos c_2]; done) | (unfold tk_tok; rw [if_neg c_1, if_pos c_2]; rfl)), (by first | rfl | (unfold tk_tok; rw [if_neg c_1, if_pos c_2]; done) | (unfold tk_tok; simp only [if_neg c_1, if_pos c_2]; done) | (unfold tk_tok; rw [if_neg c_1, if_pos c_2]; rfl))⟩, by simp only [List.map_cons, List.map_nil], by rw [ht_9]; exact hP.sub [0, 1] rfl, by rw [← hAe]; exact hS.F ht_9⟩) hS.2.2 dX5_takeNumber_132
        · have mc_2 : ¬ (99 < ((tk_num tx ln (ln + 1) 0 pl).1)) := fun z_9 => c_2 ((nI_ltI (a := 99) (b := (tk_num tx ln (ln + 1) 0 pl).1) (by omega) (by omega)).mpr z_9)
          refine lv_iload_n hx hb dX5_takeNumber_116 rfl (lv_at hl 0 rfl) ?_
          refine lv_if_eq (tgt := 126) hx hb dX5_takeNumber_117 (by decide) (fun _ => ?_) (fun h_9 => absurd (by decide) h_9)
          refine lv_sipush (v := 257) hx hb dX5_takeNumber_126 (by decide) ?_
          refine va_put (D := D) (ci := 5) (v := .int 257) (ty := .int) (C := RX5) (T := TX5) (N := 9) hx hb hts hiX5 tyX5 tyX5_ok nmX5 hown hK hP hD hS 0 rfl rfl 5 (by decide) f30 (fun _ h9 => h9) rfl (by decide +kernel) rfl rfl (Nat.le_of_ble_eq_true rfl) dX5_takeNumber_129 (fun H locs hP hD hS => ?_)
          have hP : va_P D vwCl [((t 2), .inr (5, [.ref (t 1), .int (nI ln), .int (nI ((tk_num tx ln (ln + 1) 0 pl).2)), iv, .ref (t 3), .int 257, .int (nI ((tk_num tx ln (ln + 1) 0 pl).1)), .int (nI st), .int (nI it)])), ((t 1), .inl (cC, 180, .inl (fun j => nI (tx j))))] H := hP
          have hD : va_D A [((t 2), .inr (5, [.ref (t 1), .int (nI ln), .int (nI ((tk_num tx ln (ln + 1) 0 pl).2)), iv, .ref (t 3), .int 257, .int (nI ((tk_num tx ln (ln + 1) 0 pl).1)), .int (nI st), .int (nI it)])), ((t 1), .inl (cC, 180, .inl (fun j => nI (tx j))))] := hD
          exact W.vret hx hb hr (fun t_9 ht_9 _ => by rw [hQc]; exact ⟨_, [((t 2), .inr (5, [.ref (t 1), .int (nI ln), .int (nI ((tk_num tx ln (ln + 1) 0 pl).2)), iv, .ref (t 3), .int 257, .int (nI ((tk_num tx ln (ln + 1) 0 pl).1)), .int (nI st), .int (nI it)])), ((t 1), .inl (cC, 180, .inl (fun j => nI (tx j))))], rfl, ⟨(by first | rfl | (unfold tk_tok; rw [if_neg c_1, if_neg c_2]; done) | (unfold tk_tok; simp only [if_neg c_1, if_neg c_2]; done) | (unfold tk_tok; rw [if_neg c_1, if_neg c_2]; rfl)), (by first | rfl | (unfold tk_tok; rw [if_neg c_1, if_neg c_2]; done) | (unfold tk_tok; simp only [if_neg c_1, if_neg c_2]; done) | (unfold tk_tok; rw [if_neg c_1, if_neg c_2]; rfl))⟩, by simp only [List.map_cons, List.map_nil], by rw [ht_9]; exact hP.sub [0, 1] rfl, by rw [← hAe]; exact hS.F ht_9⟩) hS.2.2 dX5_takeNumber_132
      · have mc_1 : (tx st) = 48 := (nI_eq (a := tx st) (b := 48) (by omega) (by omega)).mp c_1
        refine lv_aload_n hx hb dX5_takeNumber_87 rfl (lv_at hl 0 rfl) ?_
        refine va_get (D := D) (ci := 5) (v := .int (nI ((tk_num tx ln (ln + 1) 0 pl).2))) (C := RX5) (T := TX5) (N := 9) hx hb hts hiX5 hown hK hP 0 rfl rfl 2 (by decide) f19 (fun _ h9 => h9) rfl dX5_takeNumber_88 ?_
        refine lv_aload_n hx hb dX5_takeNumber_91 rfl (lv_at hl 0 rfl) ?_
        refine va_get (D := D) (ci := 5) (v := .int (nI st)) (C := RX5) (T := TX5) (N := 9) hx hb hts hiX5 hown hK hP 0 rfl rfl 7 (by decide) f36 (fun _ h9 => h9) rfl dX5_takeNumber_92 ?_
        refine lv_isub hx hb dX5_takeNumber_95 ?_
        refine lv_iconst (v := 1) hx hb dX5_takeNumber_96 (by decide) ?_
        refine lv_icmp_le (tgt := 104) hx hb dX5_takeNumber_97 (by decide) (fun c_3 => ?_) (fun c_3 => ?_)
        · refine lv_iconst (v := 0) hx hb dX5_takeNumber_104 (by decide) ?_
          refine lv_istore_n (lv' := [(1, .int 0), (0, .ref (t 2))]) hx hb dX5_takeNumber_105 rfl hl (by decide) rfl (fun ls hl => ?_)
          refine lv_aload_n hx hb dX5_takeNumber_106 rfl (lv_at hl 1 rfl) ?_
          refine lv_aload_n hx hb dX5_takeNumber_107 rfl (lv_at hl 1 rfl) ?_
          refine va_get (D := D) (ci := 5) (v := .int (nI ((tk_num tx ln (ln + 1) 0 pl).1))) (C := RX5) (T := TX5) (N := 9) hx hb hts hiX5 hown hK hP 0 rfl rfl 6 (by decide) f33 (fun _ h9 => h9) rfl dX5_takeNumber_108 ?_
          refine lv_bipush (v := 99) hx hb dX5_takeNumber_111 (by decide) ?_
          refine lv_icmp_gt (tgt := 120) hx hb dX5_takeNumber_113 (by decide) (fun c_4 => ?_) (fun c_4 => ?_)
          · have mc_4 : 99 < ((tk_num tx ln (ln + 1) 0 pl).1) := (nI_ltI (a := 99) (b := (tk_num tx ln (ln + 1) 0 pl).1) (by omega) (by omega)).mp c_4
            refine lv_sipush (v := 258) hx hb dX5_takeNumber_120 (by decide) ?_
            refine lv_goto (tgt := 129) hx hb dX5_takeNumber_123 (by decide) ?_
            refine va_put (D := D) (ci := 5) (v := .int 258) (ty := .int) (C := RX5) (T := TX5) (N := 9) hx hb hts hiX5 tyX5 tyX5_ok nmX5 hown hK hP hD hS 0 rfl rfl 5 (by decide) f30 (fun _ h9 => h9) rfl (by decide +kernel) rfl rfl (Nat.le_of_ble_eq_true rfl) dX5_takeNumber_129 (fun H locs hP hD hS => ?_)
            have hP : va_P D vwCl [((t 2), .inr (5, [.ref (t 1), .int (nI ln), .int (nI ((tk_num tx ln (ln + 1) 0 pl).2)), iv, .ref (t 3), .int 258, .int (nI ((tk_num tx ln (ln + 1) 0 pl).1)), .int (nI st), .int (nI it)])), ((t 1), .inl (cC, 180, .inl (fun j => nI (tx j))))] H := hP
            have hD : va_D A [((t 2), .inr (5, [.ref (t 1), .int (nI ln), .int (nI ((tk_num tx ln (ln + 1) 0 pl).2)), iv, .ref (t 3), .int 258, .int (nI ((tk_num tx ln (ln + 1) 0 pl).1)), .int (nI st), .int (nI it)])), ((t 1), .inl (cC, 180, .inl (fun j => nI (tx j))))] := hD
            exact W.vret hx hb hr (fun t_9 ht_9 _ => by rw [hQc]; exact ⟨_, [((t 2), .inr (5, [.ref (t 1), .int (nI ln), .int (nI ((tk_num tx ln (ln + 1) 0 pl).2)), iv, .ref (t 3), .int 258, .int (nI ((tk_num tx ln (ln + 1) 0 pl).1)), .int (nI st), .int (nI it)])), ((t 1), .inl (cC, 180, .inl (fun j => nI (tx j))))], rfl, ⟨(by first | rfl | (unfold tk_tok; rw [if_pos c_1, if_pos c_3, if_pos c_4]; done) | (unfold tk_tok; simp only [if_pos c_1, if_pos c_3, if_pos c_4]; done) | (unfold tk_tok; rw [if_pos c_1, if_pos c_3, if_pos c_4]; rfl)), (by first | rfl | (unfold tk_tok; rw [if_pos c_1, if_pos c_3, if_pos c_4]; done) | (unfold tk_tok; simp only [if_pos c_1, if_pos c_3, if_pos c_4]; done) | (unfold tk_tok; rw [if_pos c_1, if_pos c_3, if_pos c_4]; rfl))⟩, by simp only [List.map_cons, List.map_nil], by rw [ht_9]; exact hP.sub [0, 1] rfl, by rw [← hAe]; exact hS.F ht_9⟩) hS.2.2 dX5_takeNumber_132
          · have mc_4 : ¬ (99 < ((tk_num tx ln (ln + 1) 0 pl).1)) := fun z_9 => c_4 ((nI_ltI (a := 99) (b := (tk_num tx ln (ln + 1) 0 pl).1) (by omega) (by omega)).mpr z_9)
            refine lv_iload_n hx hb dX5_takeNumber_116 rfl (lv_at hl 0 rfl) ?_
            refine lv_if_eq (tgt := 126) hx hb dX5_takeNumber_117 (by decide) (fun _ => ?_) (fun h_9 => absurd (by decide) h_9)
            refine lv_sipush (v := 257) hx hb dX5_takeNumber_126 (by decide) ?_
            refine va_put (D := D) (ci := 5) (v := .int 257) (ty := .int) (C := RX5) (T := TX5) (N := 9) hx hb hts hiX5 tyX5 tyX5_ok nmX5 hown hK hP hD hS 0 rfl rfl 5 (by decide) f30 (fun _ h9 => h9) rfl (by decide +kernel) rfl rfl (Nat.le_of_ble_eq_true rfl) dX5_takeNumber_129 (fun H locs hP hD hS => ?_)
            have hP : va_P D vwCl [((t 2), .inr (5, [.ref (t 1), .int (nI ln), .int (nI ((tk_num tx ln (ln + 1) 0 pl).2)), iv, .ref (t 3), .int 257, .int (nI ((tk_num tx ln (ln + 1) 0 pl).1)), .int (nI st), .int (nI it)])), ((t 1), .inl (cC, 180, .inl (fun j => nI (tx j))))] H := hP
            have hD : va_D A [((t 2), .inr (5, [.ref (t 1), .int (nI ln), .int (nI ((tk_num tx ln (ln + 1) 0 pl).2)), iv, .ref (t 3), .int 257, .int (nI ((tk_num tx ln (ln + 1) 0 pl).1)), .int (nI st), .int (nI it)])), ((t 1), .inl (cC, 180, .inl (fun j => nI (tx j))))] := hD
            exact W.vret hx hb hr (fun t_9 ht_9 _ => by rw [hQc]; exact ⟨_, [((t 2), .inr (5, [.ref (t 1), .int (nI ln), .int (nI ((tk_num tx ln (ln + 1) 0 pl).2)), iv, .ref (t 3), .int 257, .int (nI ((tk_num tx ln (ln + 1) 0 pl).1)), .int (nI st), .int (nI it)])), ((t 1), .inl (cC, 180, .inl (fun j => nI (tx j))))], rfl, ⟨(by first | rfl | (unfold tk_tok; rw [if_pos c_1, if_pos c_3, if_neg c_4]; done) | (unfold tk_tok; simp only [if_pos c_1, if_pos c_3, if_neg c_4]; done) | (unfold tk_tok; rw [if_pos c_1, if_pos c_3, if_neg c_4]; rfl)), (by first | rfl | (unfold tk_tok; rw [if_pos c_1, if_pos c_3, if_neg c_4]; done) | (unfold tk_tok; simp only [if_pos c_1, if_pos c_3, if_neg c_4]; done) | (unfold tk_tok; rw [if_pos c_1, if_pos c_3, if_neg c_4]; rfl))⟩, by simp only [List.map_cons, List.map_nil], by rw [ht_9]; exact hP.sub [0, 1] rfl, by rw [← hAe]; exact hS.F ht_9⟩) hS.2.2 dX5_takeNumber_132
        · refine lv_iconst (v := 1) hx hb dX5_takeNumber_100 (by decide) ?_
          refine lv_goto (tgt := 105) hx hb dX5_takeNumber_101 (by decide) ?_
          refine lv_istore_n (lv' := [(1, .int 1), (0, .ref (t 2))]) hx hb dX5_takeNumber_105 rfl hl (by decide) rfl (fun ls hl => ?_)
          refine lv_aload_n hx hb dX5_takeNumber_106 rfl (lv_at hl 1 rfl) ?_
          refine lv_aload_n hx hb dX5_takeNumber_107 rfl (lv_at hl 1 rfl) ?_
          refine va_get (D := D) (ci := 5) (v := .int (nI ((tk_num tx ln (ln + 1) 0 pl).1))) (C := RX5) (T := TX5) (N := 9) hx hb hts hiX5 hown hK hP 0 rfl rfl 6 (by decide) f33 (fun _ h9 => h9) rfl dX5_takeNumber_108 ?_
          refine lv_bipush (v := 99) hx hb dX5_takeNumber_111 (by decide) ?_
          refine lv_icmp_gt (tgt := 120) hx hb dX5_takeNumber_113 (by decide) (fun c_5 => ?_) (fun c_5 => ?_)
          · have mc_5 : 99 < ((tk_num tx ln (ln + 1) 0 pl).1) := (nI_ltI (a := 99) (b := (tk_num tx ln (ln + 1) 0 pl).1) (by omega) (by omega)).mp c_5
            refine lv_sipush (v := 258) hx hb dX5_takeNumber_120 (by decide) ?_
            refine lv_goto (tgt := 129) hx hb dX5_takeNumber_123 (by decide) ?_
            refine va_put (D := D) (ci := 5) (v := .int 258) (ty := .int) (C := RX5) (T := TX5) (N := 9) hx hb hts hiX5 tyX5 tyX5_ok nmX5 hown hK hP hD hS 0 rfl rfl 5 (by decide) f30 (fun _ h9 => h9) rfl (by decide +kernel) rfl rfl (Nat.le_of_ble_eq_true rfl) dX5_takeNumber_129 (fun H locs hP hD hS => ?_)
            have hP : va_P D vwCl [((t 2), .inr (5, [.ref (t 1), .int (nI ln), .int (nI ((tk_num tx ln (ln + 1) 0 pl).2)), iv, .ref (t 3), .int 258, .int (nI ((tk_num tx ln (ln + 1) 0 pl).1)), .int (nI st), .int (nI it)])), ((t 1), .inl (cC, 180, .inl (fun j => nI (tx j))))] H := hP
            have hD : va_D A [((t 2), .inr (5, [.ref (t 1), .int (nI ln), .int (nI ((tk_num tx ln (ln + 1) 0 pl).2)), iv, .ref (t 3), .int 258, .int (nI ((tk_num tx ln (ln + 1) 0 pl).1)), .int (nI st), .int (nI it)])), ((t 1), .inl (cC, 180, .inl (fun j => nI (tx j))))] := hD
            exact W.vret hx hb hr (fun t_9 ht_9 _ => by rw [hQc]; exact ⟨_, [((t 2), .inr (5, [.ref (t 1), .int (nI ln), .int (nI ((tk_num tx ln (ln + 1) 0 pl).2)), iv, .ref (t 3), .int 258, .int (nI ((tk_num tx ln (ln + 1) 0 pl).1)), .int (nI st), .int (nI it)])), ((t 1), .inl (cC, 180, .inl (fun j => nI (tx j))))], rfl, ⟨(by first | rfl | (unfold tk_tok; rw [if_pos c_1, if_neg c_3, if_pos c_5]; done) | (unfold tk_tok; simp only [if_pos c_1, if_neg c_3, if_pos c_5]; done) | (unfold tk_tok; rw [if_pos c_1, if_neg c_3, if_pos c_5]; rfl)), (by first | rfl | (unfold tk_tok; rw [if_pos c_1, if_neg c_3, if_pos c_5]; done) | (unfold tk_tok; simp only [if_pos c_1, if_neg c_3, if_pos c_5]; done) | (unfold tk_tok; rw [if_pos c_1, if_neg c_3, if_pos c_5]; rfl))⟩, by simp only [List.map_cons, List.map_nil], by rw [ht_9]; exact hP.sub [0, 1] rfl, by rw [← hAe]; exact hS.F ht_9⟩) hS.2.2 dX5_takeNumber_132
          · have mc_5 : ¬ (99 < ((tk_num tx ln (ln + 1) 0 pl).1)) := fun z_9 => c_5 ((nI_ltI (a := 99) (b := (tk_num tx ln (ln + 1) 0 pl).1) (by omega) (by omega)).mpr z_9)
            refine lv_iload_n hx hb dX5_takeNumber_116 rfl (lv_at hl 0 rfl) ?_
            refine lv_if_eq (tgt := 126) hx hb dX5_takeNumber_117 (by decide) (fun h_9 => absurd h_9 (by decide)) (fun _ => ?_)
            refine lv_sipush (v := 258) hx hb dX5_takeNumber_120 (by decide) ?_
            refine lv_goto (tgt := 129) hx hb dX5_takeNumber_123 (by decide) ?_
            refine va_put (D := D) (ci := 5) (v := .int 258) (ty := .int) (C := RX5) (T := TX5) (N := 9) hx hb hts hiX5 tyX5 tyX5_ok nmX5 hown hK hP hD hS 0 rfl rfl 5 (by decide) f30 (fun _ h9 => h9) rfl (by decide +kernel) rfl rfl (Nat.le_of_ble_eq_true rfl) dX5_takeNumber_129 (fun H locs hP hD hS => ?_)
            have hP : va_P D vwCl [((t 2), .inr (5, [.ref (t 1), .int (nI ln), .int (nI ((tk_num tx ln (ln + 1) 0 pl).2)), iv, .ref (t 3), .int 258, .int (nI ((tk_num tx ln (ln + 1) 0 pl).1)), .int (nI st), .int (nI it)])), ((t 1), .inl (cC, 180, .inl (fun j => nI (tx j))))] H := hP
            have hD : va_D A [((t 2), .inr (5, [.ref (t 1), .int (nI ln), .int (nI ((tk_num tx ln (ln + 1) 0 pl).2)), iv, .ref (t 3), .int 258, .int (nI ((tk_num tx ln (ln + 1) 0 pl).1)), .int (nI st), .int (nI it)])), ((t 1), .inl (cC, 180, .inl (fun j => nI (tx j))))] := hD
            exact W.vret hx hb hr (fun t_9 ht_9 _ => by rw [hQc]; exact ⟨_, [((t 2), .inr (5, [.ref (t 1), .int (nI ln), .int (nI ((tk_num tx ln (ln + 1) 0 pl).2)), iv, .ref (t 3), .int 258, .int (nI ((tk_num tx ln (ln + 1) 0 pl).1)), .int (nI st), .int (nI it)])), ((t 1), .inl (cC, 180, .inl (fun j => nI (tx j))))], rfl, ⟨(by first | rfl | (unfold tk_tok; rw [if_pos c_1, if_neg c_3, if_neg c_5]; done) | (unfold tk_tok; simp only [if_pos c_1, if_neg c_3, if_neg c_5]; done) | (unfold tk_tok; rw [if_pos c_1, if_neg c_3, if_neg c_5]; rfl)), (by first | rfl | (unfold tk_tok; rw [if_pos c_1, if_neg c_3, if_neg c_5]; done) | (unfold tk_tok; simp only [if_pos c_1, if_neg c_3, if_neg c_5]; done) | (unfold tk_tok; rw [if_pos c_1, if_neg c_3, if_neg c_5]; rfl))⟩, by simp only [List.map_cons, List.map_nil], by rw [ht_9]; exact hP.sub [0, 1] rfl, by rw [← hAe]; exact hS.F ht_9⟩) hS.2.2 dX5_takeNumber_132
    have hloop_5 : ∀ (u_ : Nat) (v0_ : Nat) (v1_ : Nat), (v0_ ≤ 100 ∧ ln + 1 ≤ v1_ + u_ ∧ v1_ ≤ ln) → tk_num tx ln u_ v0_ v1_ = (tk_num tx ln (ln + 1) 0 pl) → ∀ (H : Heap) (locs : List Loc), va_P D vwCl [((t 2), .inr (5, [.ref (t 1), .int (nI ln), .int (nI v1_), iv, .ref (t 3), .int (nI tok), .int (nI v0_), .int (nI st), .int (nI it)])), ((t 1), .inl (cC, 180, .inl (fun j => nI (tx j))))] H → va_D A [((t 2), .inr (5, [.ref (t 1), .int (nI ln), .int (nI v1_), iv, .ref (t 3), .int (nI tok), .int (nI v0_), .int (nI st), .int (nI it)])), ((t 1), .inl (cC, 180, .inl (fun j => nI (tx j))))] → va_S A s.heap H locs → ∀ ls : Array Slot, lv_has ls 2 [(0, .ref (t 2))] → W p l e (headSpec wsX5_takeNumber (ly_rm 2)).room s m av below meth c H locs 0 0 (MQ below Qc av s 0 0 A) (F0 m 5 ls []) := by
      intro u_
      induction u_ with
      | zero =>
        intro v0_ v1_ hinv_
        exact absurd hinv_ (by omega)
      | succ u_ ih_5 =>
        intro v0_ v1_ hinv_ hF_5 H locs hP hD hS ls hl
        have hv0 := hinv_.1
        have hv1 := hinv_.2.2
        refine lv_aload_n hx hb dX5_takeNumber_5 rfl (lv_at hl 0 rfl) ?_
        refine va_get (D := D) (ci := 5) (v := .int (nI v1_)) (C := RX5) (T := TX5) (N := 9) hx hb hts hiX5 hown hK hP 0 rfl rfl 2 (by decide) f19 (fun _ h9 => h9) rfl dX5_takeNumber_6 ?_
        refine lv_aload_n hx hb dX5_takeNumber_9 rfl (lv_at hl 0 rfl) ?_
        refine va_get (D := D) (ci := 5) (v := .int (nI ln)) (C := RX5) (T := TX5) (N := 9) hx hb hts hiX5 hown hK hP 0 rfl rfl 1 (by decide) f15 (fun _ h9 => h9) rfl dX5_takeNumber_10 ?_
        refine lv_icmp_ge (tgt := 73) hx hb dX5_takeNumber_13 (by decide) (fun c_6 => ?_) (fun c_6 => ?_)
        · have mc_6 : ln ≤ v1_ := (nI_leI (a := ln) (b := v1_) (by omega) (by omega)).mp c_6
          have e_7 : (v0_, v1_) = (tk_num tx ln (ln + 1) 0 pl) := by rw [← hF_5, tk_num_s, if_pos c_6]
          have e_7_0 : v0_ = (tk_num tx ln (ln + 1) 0 pl).1 := congrArg (fun z_9 => z_9.1) e_7
          have e_7_1 : v1_ = (tk_num tx ln (ln + 1) 0 pl).2 := congrArg (fun z_9 => z_9.2) e_7
          exact hexit_5 H locs (by rw [← e_7_0, ← e_7_1]; exact hP.sub [0, 1] rfl) (by rw [← e_7_0, ← e_7_1]; exact hD.sub [0, 1] (by decide) rfl) hS ls (by first | exact lv_sub hl [0] rfl | (rw [← e_7_0, ← e_7_1]; exact lv_sub hl [0] rfl))
        · have mc_6 : ¬ (ln ≤ v1_) := fun z_9 => c_6 ((nI_leI (a := ln) (b := v1_) (by omega) (by omega)).mpr z_9)
          refine lv_aload_n hx hb dX5_takeNumber_16 rfl (lv_at hl 0 rfl) ?_
          refine va_get (D := D) (ci := 5) (v := .ref (t 1)) (C := RX5) (T := TX5) (N := 9) hx hb hts hiX5 hown hK hP 0 rfl rfl 0 (by decide) f9 (fun _ h9 => h9) rfl dX5_takeNumber_17 ?_
          refine lv_aload_n hx hb dX5_takeNumber_20 rfl (lv_at hl 0 rfl) ?_
          refine va_get (D := D) (ci := 5) (v := .int (nI v1_)) (C := RX5) (T := TX5) (N := 9) hx hb hts hiX5 hown hK hP 0 rfl rfl 2 (by decide) f19 (fun _ h9 => h9) rfl dX5_takeNumber_21 ?_
          refine ly_cald hx hb hK hP 1 1 rfl rfl (k := v1_) (by decide) rfl (by omega) dX5_takeNumber_24 ?_
          have hPc_25 := hP.sub (ws' := []) [] rfl
          refine ly_r (va_runS (As := [.int (nI (tx v1_))]) (rest := []) ⟨hx, hb, hml, hown, hts⟩ (c_X5_isDigit l D cI cC cZ cN (nI (tx v1_))) (va_cwS 1 hts gX5_takeNumber_X5_isDigit rfl rfl rfl (by decide +kernel) ⟨Nat.le_of_ble_eq_true rfl, Nat.le_of_ble_eq_true rfl⟩) (ly_ps hK hN hPc_25) rfl rfl hl.1 rfl (lv_room (Nat.le_of_ble_eq_true rfl)) dX5_takeNumber_25 ⟨Nat.zero_le _, Nat.zero_le _⟩) ?_
          refine lv_if_eq (tgt := 73) hx hb dX5_takeNumber_28 (by decide) (fun c_8 => ?_) (fun c_8 => ?_)
          · have e_9 : (v0_, v1_) = (tk_num tx ln (ln + 1) 0 pl) := by rw [← hF_5, tk_num_s, if_neg c_6, if_pos c_8]
            have e_9_0 : v0_ = (tk_num tx ln (ln + 1) 0 pl).1 := congrArg (fun z_9 => z_9.1) e_9
            have e_9_1 : v1_ = (tk_num tx ln (ln + 1) 0 pl).2 := congrArg (fun z_9 => z_9.2) e_9
            exact hexit_5 H locs (by rw [← e_9_0, ← e_9_1]; exact hP.sub [0, 1] rfl) (by rw [← e_9_0, ← e_9_1]; exact hD.sub [0, 1] (by decide) rfl) hS ls (by first | exact lv_sub hl [0] rfl | (rw [← e_9_0, ← e_9_1]; exact lv_sub hl [0] rfl))
          · have hdg_ := jdig_nat (htx _) c_8
            refine lv_aload_n hx hb dX5_takeNumber_31 rfl (lv_at hl 0 rfl) ?_
            refine lv_bipush (v := 100) hx hb dX5_takeNumber_32 (by decide) ?_
            refine lv_aload_n hx hb dX5_takeNumber_34 rfl (lv_at hl 0 rfl) ?_
            refine va_get (D := D) (ci := 5) (v := .int (nI v0_)) (C := RX5) (T := TX5) (N := 9) hx hb hts hiX5 hown hK hP 0 rfl rfl 6 (by decide) f33 (fun _ h9 => h9) rfl dX5_takeNumber_35 ?_
            refine lv_bipush (v := 10) hx hb dX5_takeNumber_38 (by decide) ?_
            refine lv_imul hx hb dX5_takeNumber_40 ?_
            refine ly_eqi (show ((nI v0_) * 10) = (nI (v0_ * 10)) from ly_mul rfl rfl) ?_
            refine lv_aload_n hx hb dX5_takeNumber_41 rfl (lv_at hl 0 rfl) ?_
            refine va_get (D := D) (ci := 5) (v := .ref (t 1)) (C := RX5) (T := TX5) (N := 9) hx hb hts hiX5 hown hK hP 0 rfl rfl 0 (by decide) f9 (fun _ h9 => h9) rfl dX5_takeNumber_42 ?_
            refine lv_aload_n hx hb dX5_takeNumber_45 rfl (lv_at hl 0 rfl) ?_
            refine va_get (D := D) (ci := 5) (v := .int (nI v1_)) (C := RX5) (T := TX5) (N := 9) hx hb hts hiX5 hown hK hP 0 rfl rfl 2 (by decide) f19 (fun _ h9 => h9) rfl dX5_takeNumber_46 ?_
            refine ly_cald hx hb hK hP 1 1 rfl rfl (k := v1_) (by decide) rfl (by omega) dX5_takeNumber_49 ?_
            refine lv_bipush (v := 48) hx hb dX5_takeNumber_50 (by decide) ?_
            refine lv_isub hx hb dX5_takeNumber_52 ?_
            refine ly_eqi (show ((nI (tx v1_)) - 48) = (nI (tx v1_ - 48)) from ly_sub rfl rfl (by omega)) ?_
            refine lv_iadd hx hb dX5_takeNumber_53 ?_
            refine ly_eqi (show ((nI (v0_ * 10)) + (nI (tx v1_ - 48))) = (nI (v0_ * 10 + (tx v1_ - 48))) from ly_add rfl rfl) ?_
            refine va_mmin hx hb (by rw [hml]; exact hl.1.symm) hown (hts (.methodLink RX5 42 Lib.Math.min.name) (by decide +kernel)) (hts (.static Lib.Math.min.name) (by decide +kernel)) (hts (.initialized "java/lang/Math") (by decide +kernel)) (hts (.code Lib.Math.min.name Lib.Math.min.code 2 (some .int)) (by decide +kernel)) (Nat.le_of_ble_eq_true rfl) (Nat.le_of_ble_eq_true rfl) (Nat.zero_le _) (Nat.zero_le _) dX5_takeNumber_54 ?_
            refine ly_eqi (show (if (nI (v0_ * 10 + (tx v1_ - 48))) < 100 then (nI (v0_ * 10 + (tx v1_ - 48))) else 100) = (nI (min 100 (v0_ * 10 + (tx v1_ - 48)))) from (ly_min (a1 := 100) (b1 := v0_ * 10 + (tx v1_ - 48)) rfl rfl (by omega) (by omega))) ?_
            refine va_put (D := D) (ci := 5) (v := .int (nI (min 100 (v0_ * 10 + (tx v1_ - 48))))) (ty := .int) (C := RX5) (T := TX5) (N := 9) hx hb hts hiX5 tyX5 tyX5_ok nmX5 hown hK hP hD hS 0 rfl rfl 6 (by decide) f33 (fun _ h9 => h9) rfl (by decide +kernel) rfl rfl (Nat.le_of_ble_eq_true rfl) dX5_takeNumber_57 (fun H locs hP hD hS => ?_)
            have hP : va_P D vwCl [((t 2), .inr (5, [.ref (t 1), .int (nI ln), .int (nI v1_), iv, .ref (t 3), .int (nI tok), .int (nI (min 100 (v0_ * 10 + (tx v1_ - 48)))), .int (nI st), .int (nI it)])), ((t 1), .inl (cC, 180, .inl (fun j => nI (tx j))))] H := hP
            have hD : va_D A [((t 2), .inr (5, [.ref (t 1), .int (nI ln), .int (nI v1_), iv, .ref (t 3), .int (nI tok), .int (nI (min 100 (v0_ * 10 + (tx v1_ - 48)))), .int (nI st), .int (nI it)])), ((t 1), .inl (cC, 180, .inl (fun j => nI (tx j))))] := hD
            refine lv_aload_n hx hb dX5_takeNumber_60 rfl (lv_at hl 0 rfl) ?_
            refine lv_dup hx hb dX5_takeNumber_61 rfl ?_
            refine va_get (D := D) (ci := 5) (v := .int (nI v1_)) (C := RX5) (T := TX5) (N := 9) hx hb hts hiX5 hown hK hP 0 rfl rfl 2 (by decide) f19 (fun _ h9 => h9) rfl dX5_takeNumber_62 ?_
            refine lv_iconst (v := 1) hx hb dX5_takeNumber_65 (by decide) ?_
            refine lv_iadd hx hb dX5_takeNumber_66 ?_
            refine ly_eqi (show ((nI v1_) + 1) = (nI (v1_ + 1)) from ly_add rfl rfl) ?_
            refine va_put (D := D) (ci := 5) (v := .int (nI (v1_ + 1))) (ty := .int) (C := RX5) (T := TX5) (N := 9) hx hb hts hiX5 tyX5 tyX5_ok nmX5 hown hK hP hD hS 0 rfl rfl 2 (by decide) f19 (fun _ h9 => h9) rfl (by decide +kernel) rfl rfl (Nat.le_of_ble_eq_true rfl) dX5_takeNumber_67 (fun H locs hP hD hS => ?_)
            have hP : va_P D vwCl [((t 2), .inr (5, [.ref (t 1), .int (nI ln), .int (nI (v1_ + 1)), iv, .ref (t 3), .int (nI tok), .int (nI (min 100 (v0_ * 10 + (tx v1_ - 48)))), .int (nI st), .int (nI it)])), ((t 1), .inl (cC, 180, .inl (fun j => nI (tx j))))] H := hP
            have hD : va_D A [((t 2), .inr (5, [.ref (t 1), .int (nI ln), .int (nI (v1_ + 1)), iv, .ref (t 3), .int (nI tok), .int (nI (min 100 (v0_ * 10 + (tx v1_ - 48)))), .int (nI st), .int (nI it)])), ((t 1), .inl (cC, 180, .inl (fun j => nI (tx j))))] := hD
            refine lv_goto (tgt := 5) hx hb dX5_takeNumber_70 (by decide) ?_
            exact ih_5 (min 100 (v0_ * 10 + (tx v1_ - 48))) (v1_ + 1) (by omega) (by rw [← hF_5, tk_num_s, if_neg c_6, if_neg c_8]) H locs (hP.sub [0, 1] rfl) (hD.sub [0, 1] (by decide) rfl) hS ls (lv_sub hl [0] rfl)
    exact hloop_5 (ln + 1) 0 pl (by omega) rfl H locs (hP.sub [0, 1] rfl) (hD.sub [0, 1] (by decide) rfl) hS ls (lv_sub hl [0] rfl)
  exact hmain _ _ hP va_S.rf
