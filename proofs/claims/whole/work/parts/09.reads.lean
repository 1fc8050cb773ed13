
def s_all (k : Nat) : Int32 := ((1 <<< ((nI k) &&& 31)) - 1)

set_option maxHeartbeats 4000000 in
set_option maxRecDepth 100000 in
theorem c_X4_everybody (l : Launch) (D : va_G) (cI cC cZ cN : ClassId) (a : Nat → Nat) (g : Nat → Nat → Nat) : Met l yX4_everybody wsX4_everybody (ly_rm 1) (ly_Pre D (ly_tys cI cC cZ cN) [((a 0), .inr (4, [.int (nI (g 0 0)), .ref (a 1), .ref (a 2), .ref (a 3), .int (nI (g 0 1)), .ref (a 4), .ref (a 5), .ref (a 6), .ref (a 7), .ref (a 8), .ref (a 9), .int (nI (g 0 2))])), ((a 1), .inl (cI, 9, .inl (fun j => nI ((g 1) j)))), ((a 2), .inl (cI, 9, .inl (fun j => nI ((g 2) j)))), ((a 3), .inl (cI, 9, .inl (fun j => nI ((g 3) j)))), ((a 4), .inl (cI, 6, .inl (fun j => nI ((g 4) j)))), ((a 5), .inl (cI, 6, .inl (fun j => nI ((g 5) j)))), ((a 6), .inl (cI, 6, .inl (fun j => nI ((g 6) j)))), ((a 7), .inl (cI, 5, .inl (fun j => nI ((g 7) j)))), ((a 8), .inl (cI, 5, .inl (fun j => nI ((g 8) j)))), ((a 9), .inl (cI, 5, .inl (fun j => ly_h ((g 9) j))))] [.ref (a 0)]) (QcRead (s_all (g 0 1))) 0 0 (fun _ => False) := by
  refine Met.ofW (cc := cX4_everybody) (maxL := 1) (ret := (some .int)) (by decide) rfl ?_
  intro p e s m args below meth c s₁ B hml hv
  obtain ⟨rfl, hP, hK, hN⟩ := hv
  have hx := B.exec
  have hb := B.bytes
  have hr := B.returns
  have hts := atoms_spec (ws := wsX4_everybody) B.pre
  have hown : s.vm.findClass RX4 = some m.cls := findClass_of_methodNamed B.named
  have hlocks := B.notSynchronized
  have hl := lv_entry ([.ref (a 0)]) (n := 1) (Nat.le_of_ble_eq_true rfl)
  rw [lg_entry_eq]
  generalize (lg_sl ([.ref (a 0)]) ++ List.replicate (1 - (lg_sl ([.ref (a 0)])).length) Slot.unset).toArray = ls at hl ⊢
  have hl : lv_has ls 1 [(0, .ref (a 0))] := hl
  generalize ([.ref (a 0)] : List Value).toArray = av at hts ⊢
  obtain ⟨Qc, hQc⟩ : ∃ Qc, Qc = (QcRead (s_all (g 0 1))) := ⟨_, rfl⟩
  rw [← hQc]
  have f25 := hts (.fieldLink RX4 25 "KneesLent$Parish" "people" "I") (by decide +kernel)
  have hiX4 : ∀ w ∈ u_ws RX4 TX4 12, w ∈ wsX4_everybody := by decide +kernel
  refine lv_iconst (v := 1) hx hb dX4_everybody_0 (by decide) ?_
  refine lv_aload_n hx hb dX4_everybody_1 rfl (lv_at hl 0 rfl) ?_
  refine va_get (D := D) (ci := 4) (v := .int (nI (g 0 1))) (C := RX4) (T := TX4) (N := 12) hx hb hts hiX4 hown hK hP 0 rfl rfl 4 (by decide) f25 (fun _ h9 => h9) rfl dX4_everybody_2 ?_
  refine lv_ishl hx hb dX4_everybody_5 ?_
  refine lv_iconst (v := 1) hx hb dX4_everybody_6 (by decide) ?_
  refine lv_isub hx hb dX4_everybody_7 ?_
  exact W.iret (v := ((1 <<< ((nI (g 0 1)) &&& 31)) - 1)) hx hb hr (fun t_9 ht_9 _ => by rw [hQc]; exact ⟨(by unfold s_all; rfl), ht_9⟩) t_nil dX4_everybody_8

def s_kneesOfB (g : Nat → Nat → Nat) (f : Nat) (i : Nat) (v0 : Int32) : Int32 := (if (nI ((g 2) i)) = (nI f) then (v0 ||| (1 <<< ((nI i) &&& 31))) else v0)
def s_kneesOf (g : Nat → Nat → Nat) (f : Nat) : Nat → Int32
  | 0 => 0
  | i + 1 => s_kneesOfB g f i (s_kneesOf g f i)
set_option maxHeartbeats 4000000 in
set_option maxRecDepth 100000 in
theorem c_X4_kneesOf (l : Launch) (D : va_G) (cI cC cZ cN : ClassId) (a : Nat → Nat) (g : Nat → Nat → Nat) (f : Nat) (hn : g 0 0 ≤ 9) : Met l yX4_kneesOf wsX4_kneesOf (ly_rm 1) (ly_Pre D (ly_tys cI cC cZ cN) [((a 0), .inr (4, [.int (nI (g 0 0)), .ref (a 1), .ref (a 2), .ref (a 3), .int (nI (g 0 1)), .ref (a 4), .ref (a 5), .ref (a 6), .ref (a 7), .ref (a 8), .ref (a 9), .int (nI (g 0 2))])), ((a 1), .inl (cI, 9, .inl (fun j => nI ((g 1) j)))), ((a 2), .inl (cI, 9, .inl (fun j => nI ((g 2) j)))), ((a 3), .inl (cI, 9, .inl (fun j => nI ((g 3) j)))), ((a 4), .inl (cI, 6, .inl (fun j => nI ((g 4) j)))), ((a 5), .inl (cI, 6, .inl (fun j => nI ((g 5) j)))), ((a 6), .inl (cI, 6, .inl (fun j => nI ((g 6) j)))), ((a 7), .inl (cI, 5, .inl (fun j => nI ((g 7) j)))), ((a 8), .inl (cI, 5, .inl (fun j => nI ((g 8) j)))), ((a 9), .inl (cI, 5, .inl (fun j => ly_h ((g 9) j))))] [.ref (a 0), .int (nI f)]) (QcRead (s_kneesOf g f (g 0 0))) 0 0 (fun _ => False) := by
  refine Met.ofW (cc := cX4_kneesOf) (maxL := 4) (ret := (some .int)) (by decide) rfl ?_
  intro p e s m args below meth c s₁ B hml hv
  obtain ⟨rfl, hP, hK, hN⟩ := hv
  have hx := B.exec
  have hb := B.bytes
  have hr := B.returns
  have hts := atoms_spec (ws := wsX4_kneesOf) B.pre
  have hown : s.vm.findClass RX4 = some m.cls := findClass_of_methodNamed B.named
  have hlocks := B.notSynchronized
  have hl := lv_entry ([.ref (a 0), .int (nI f)]) (n := 4) (Nat.le_of_ble_eq_true rfl)
  rw [lg_entry_eq]
  generalize (lg_sl ([.ref (a 0), .int (nI f)]) ++ List.replicate (4 - (lg_sl ([.ref (a 0), .int (nI f)])).length) Slot.unset).toArray = ls at hl ⊢
  have hl : lv_has ls 4 [(0, .ref (a 0)), (1, .int (nI f))] := hl
  generalize ([.ref (a 0), .int (nI f)] : List Value).toArray = av at hts ⊢
  obtain ⟨Qc, hQc⟩ : ∃ Qc, Qc = (QcRead (s_kneesOf g f (g 0 0))) := ⟨_, rfl⟩
  rw [← hQc]
  have f9 := hts (.fieldLink RX4 9 "KneesLent$Parish" "knees" "I") (by decide +kernel)
  have f19 := hts (.fieldLink RX4 19 "KneesLent$Parish" "farm" "[I") (by decide +kernel)
  have hiX4 : ∀ w ∈ u_ws RX4 TX4 12, w ∈ wsX4_kneesOf := by decide +kernel
  refine lv_iconst (v := 0) hx hb dX4_kneesOf_0 (by decide) ?_
  refine lv_istore_n (lv' := [(2, .int 0), (0, .ref (a 0)), (1, .int (nI f))]) hx hb dX4_kneesOf_1 rfl hl (by decide) rfl (fun ls hl => ?_)
  refine lv_iconst (v := 0) hx hb dX4_kneesOf_2 (by decide) ?_
  refine lv_istore_n (lv' := [(3, .int 0), (2, .int 0), (0, .ref (a 0)), (1, .int (nI f))]) hx hb dX4_kneesOf_3 rfl hl (by decide) rfl (fun ls hl => ?_)
  have hloop_4 : ∀ (k i : Nat), i + k = g 0 0 → ∀ ls : Array Slot, lv_has ls 4 [(3, .int (nI i)), (2, .int (s_kneesOf g f i)), (0, .ref (a 0)), (1, .int (nI f))] → W p l e (headSpec wsX4_kneesOf (ly_rm 1)).room s m av below meth c s.heap [] 0 0 (MQ below Qc av s 0 0 (fun _ => False)) (F0 m 4 ls []) := by
    intro k
    induction k with
    | zero =>
      intro i hi_4 ls hl
      obtain rfl : g 0 0 = i := by omega
      refine lv_iload_n hx hb dX4_kneesOf_4 rfl (lv_at hl 0 rfl) ?_
      refine lv_aload_n hx hb dX4_kneesOf_5 rfl (lv_at hl 2 rfl) ?_
      refine va_get (D := D) (ci := 4) (v := .int (nI (g 0 0))) (C := RX4) (T := TX4) (N := 12) hx hb hts hiX4 hown hK hP 0 rfl rfl 0 (by decide) f9 (fun _ h9 => h9) rfl dX4_kneesOf_6 ?_
      refine lv_icmp_ge (tgt := 34) hx hb dX4_kneesOf_9 (by decide) (fun _ => ?_) (fun h_9 => absurd (nI_le (Nat.le_refl _) (by omega)) h_9)
      refine lv_iload_n hx hb dX4_kneesOf_34 rfl (lv_at hl 1 rfl) ?_
      exact W.iret (v := (s_kneesOf g f (g 0 0))) hx hb hr (fun t_9 ht_9 _ => by rw [hQc]; exact ⟨rfl, ht_9⟩) t_nil dX4_kneesOf_35
    | succ k ih_4 =>
      intro i hi_4 ls hl
      refine lv_iload_n hx hb dX4_kneesOf_4 rfl (lv_at hl 0 rfl) ?_
      refine lv_aload_n hx hb dX4_kneesOf_5 rfl (lv_at hl 2 rfl) ?_
      refine va_get (D := D) (ci := 4) (v := .int (nI (g 0 0))) (C := RX4) (T := TX4) (N := 12) hx hb hts hiX4 hown hK hP 0 rfl rfl 0 (by decide) f9 (fun _ h9 => h9) rfl dX4_kneesOf_6 ?_
      refine lv_icmp_ge (tgt := 34) hx hb dX4_kneesOf_9 (by decide) (fun h_9 => absurd h_9 (nI_ge (by omega) (by omega))) (fun _ => ?_)
      refine lv_aload_n hx hb dX4_kneesOf_12 rfl (lv_at hl 2 rfl) ?_
      refine va_get (D := D) (ci := 4) (v := .ref (a 2)) (C := RX4) (T := TX4) (N := 12) hx hb hts hiX4 hown hK hP 0 rfl rfl 2 (by decide) f19 (fun _ h9 => h9) rfl dX4_kneesOf_13 ?_
      refine lv_iload_n hx hb dX4_kneesOf_16 rfl (lv_at hl 0 rfl) ?_
      refine ly_iald hx hb hK hP 2 0 rfl rfl (k := i) (by decide) rfl (by omega) dX4_kneesOf_17 ?_
      refine lv_iload_n hx hb dX4_kneesOf_18 rfl (lv_at hl 3 rfl) ?_
      refine lv_icmp_ne (tgt := 28) hx hb dX4_kneesOf_19 (by decide) (fun c_1 => ?_) (fun c_1 => ?_)
      · refine lv_iinc (v := (nI (i + 1))) (lv' := [(3, .int (nI (i + 1))), (2, .int (s_kneesOf g f i)), (0, .ref (a 0)), (1, .int (nI f))]) hx hb dX4_kneesOf_28 hl (k := 0) rfl (ly_add rfl rfl) (by decide) rfl (fun ls hl => ?_)
        refine lv_goto (tgt := 4) hx hb dX4_kneesOf_31 (by decide) ?_
        have e_2 : s_kneesOf g f (i + 1) = (s_kneesOf g f i) := by show s_kneesOfB g f i (s_kneesOf g f i) = _; unfold s_kneesOfB; rw [if_neg c_1]
        exact ih_4 (i + 1) (by omega) ls (by rw [e_2]; exact lv_sub hl [0, 1, 2, 3] rfl)
      · refine lv_iload_n hx hb dX4_kneesOf_22 rfl (lv_at hl 1 rfl) ?_
        refine lv_iconst (v := 1) hx hb dX4_kneesOf_23 (by decide) ?_
        refine lv_iload_n hx hb dX4_kneesOf_24 rfl (lv_at hl 0 rfl) ?_
        refine lv_ishl hx hb dX4_kneesOf_25 ?_
        refine lv_ior hx hb dX4_kneesOf_26 ?_
        refine lv_istore_n (lv' := [(2, .int ((s_kneesOf g f i) ||| (1 <<< ((nI i) &&& 31)))), (3, .int (nI i)), (0, .ref (a 0)), (1, .int (nI f))]) hx hb dX4_kneesOf_27 rfl hl (by decide) rfl (fun ls hl => ?_)
        refine lv_iinc (v := (nI (i + 1))) (lv' := [(3, .int (nI (i + 1))), (2, .int ((s_kneesOf g f i) ||| (1 <<< ((nI i) &&& 31)))), (0, .ref (a 0)), (1, .int (nI f))]) hx hb dX4_kneesOf_28 hl (k := 1) rfl (ly_add rfl rfl) (by decide) rfl (fun ls hl => ?_)
        refine lv_goto (tgt := 4) hx hb dX4_kneesOf_31 (by decide) ?_
        have e_3 : s_kneesOf g f (i + 1) = ((s_kneesOf g f i) ||| (1 <<< ((nI i) &&& 31))) := by show s_kneesOfB g f i (s_kneesOf g f i) = _; unfold s_kneesOfB; rw [if_pos c_1]
        exact ih_4 (i + 1) (by omega) ls (by rw [e_3]; exact lv_sub hl [0, 1, 2, 3] rfl)
  exact hloop_4 (g 0 0) 0 (by omega) ls (lv_sub hl [0, 1, 2, 3] rfl)

def s_peace (g : Nat → Nat → Nat) (q f : Nat) : Nat → Nat → Int32
  | 0, _ => 1
  | k + 1, i => (if (ly_h ((g 9) i)) = (nI q) then (if (jbit (nI ((g 7) f)) (nI i)) = 1 then 0 else s_peace g q f k (i + 1)) else s_peace g q f k (i + 1))
theorem s_peace_z (g : Nat → Nat → Nat) (q f : Nat) (i : Nat) : s_peace g q f 0 i = 1 := rfl
theorem s_peace_s (g : Nat → Nat → Nat) (q f : Nat) (k i : Nat) : s_peace g q f (k + 1) i = (if (ly_h ((g 9) i)) = (nI q) then (if (jbit (nI ((g 7) f)) (nI i)) = 1 then 0 else s_peace g q f k (i + 1)) else s_peace g q f k (i + 1)) := rfl
set_option maxHeartbeats 4000000 in
set_option maxRecDepth 100000 in
theorem c_X4_hasPeaceAt (l : Launch) (D : va_G) (cI cC cZ cN : ClassId) (a : Nat → Nat) (g : Nat → Nat → Nat) (q f : Nat) (h1 : f < 5) : Met l yX4_hasPeaceAt wsX4_hasPeaceAt (ly_rm 2) (ly_Pre D (ly_tys cI cC cZ cN) [((a 0), .inr (4, [.int (nI (g 0 0)), .ref (a 1), .ref (a 2), .ref (a 3), .int (nI (g 0 1)), .ref (a 4), .ref (a 5), .ref (a 6), .ref (a 7), .ref (a 8), .ref (a 9), .int (nI (g 0 2))])), ((a 1), .inl (cI, 9, .inl (fun j => nI ((g 1) j)))), ((a 2), .inl (cI, 9, .inl (fun j => nI ((g 2) j)))), ((a 3), .inl (cI, 9, .inl (fun j => nI ((g 3) j)))), ((a 4), .inl (cI, 6, .inl (fun j => nI ((g 4) j)))), ((a 5), .inl (cI, 6, .inl (fun j => nI ((g 5) j)))), ((a 6), .inl (cI, 6, .inl (fun j => nI ((g 6) j)))), ((a 7), .inl (cI, 5, .inl (fun j => nI ((g 7) j)))), ((a 8), .inl (cI, 5, .inl (fun j => nI ((g 8) j)))), ((a 9), .inl (cI, 5, .inl (fun j => ly_h ((g 9) j))))] [.ref (a 0), .int (nI q), .int (nI f)]) (QcRead (s_peace g q f f 0)) 0 0 (fun _ => False) := by
  refine Met.ofW (cc := cX4_hasPeaceAt) (maxL := 4) (ret := (some .boolean)) (by decide) rfl ?_
  intro p e s m args below meth c s₁ B hml hv
  obtain ⟨rfl, hP, hK, hN⟩ := hv
  have hx := B.exec
  have hb := B.bytes
  have hr := B.returns
  have hts := atoms_spec (ws := wsX4_hasPeaceAt) B.pre
  have hown : s.vm.findClass RX4 = some m.cls := findClass_of_methodNamed B.named
  have hlocks := B.notSynchronized
  have hl := lv_entry ([.ref (a 0), .int (nI q), .int (nI f)]) (n := 4) (Nat.le_of_ble_eq_true rfl)
  rw [lg_entry_eq]
  generalize (lg_sl ([.ref (a 0), .int (nI q), .int (nI f)]) ++ List.replicate (4 - (lg_sl ([.ref (a 0), .int (nI q), .int (nI f)])).length) Slot.unset).toArray = ls at hl ⊢
  have hl : lv_has ls 4 [(0, .ref (a 0)), (1, .int (nI q)), (2, .int (nI f))] := hl
  generalize ([.ref (a 0), .int (nI q), .int (nI f)] : List Value).toArray = av at hts ⊢
  obtain ⟨Qc, hQc⟩ : ∃ Qc, Qc = (QcRead (s_peace g q f f 0)) := ⟨_, rfl⟩
  rw [← hQc]
  have f43 := hts (.fieldLink RX4 43 "KneesLent$Parish" "table" "[I") (by decide +kernel)
  have f37 := hts (.fieldLink RX4 37 "KneesLent$Parish" "feuds" "[I") (by decide +kernel)
  have hiX4 : ∀ w ∈ u_ws RX4 TX4 12, w ∈ wsX4_hasPeaceAt := by decide +kernel
  refine lv_iconst (v := 0) hx hb dX4_hasPeaceAt_0 (by decide) ?_
  refine lv_istore_n (lv' := [(3, .int 0), (0, .ref (a 0)), (1, .int (nI q)), (2, .int (nI f))]) hx hb dX4_hasPeaceAt_1 rfl hl (by decide) rfl (fun ls hl => ?_)
  have hloop_2 : ∀ (k i : Nat), i + k = f → s_peace g q f k i = (s_peace g q f f 0) → ∀ ls : Array Slot, lv_has ls 4 [(3, .int (nI i)), (0, .ref (a 0)), (1, .int (nI q)), (2, .int (nI f))] → W p l e (headSpec wsX4_hasPeaceAt (ly_rm 2)).room s m av below meth c s.heap [] 0 0 (MQ below Qc av s 0 0 (fun _ => False)) (F0 m 2 ls []) := by
    intro k
    induction k with
    | zero =>
      intro i hi_2 hF_2 ls hl
      obtain rfl : f = i := by omega
      refine lv_iload_n hx hb dX4_hasPeaceAt_2 rfl (lv_at hl 0 rfl) ?_
      refine lv_iload_n hx hb dX4_hasPeaceAt_3 rfl (lv_at hl 3 rfl) ?_
      refine lv_icmp_ge (tgt := 39) hx hb dX4_hasPeaceAt_4 (by decide) (fun _ => ?_) (fun h_9 => absurd (nI_le (Nat.le_refl _) (by omega)) h_9)
      refine lv_iconst (v := 1) hx hb dX4_hasPeaceAt_39 (by decide) ?_
      exact W.zret (v := 1) hx hb hr rfl (fun t_9 ht_9 _ => by rw [hQc]; exact ⟨(by rw [← hF_2, s_peace_z]), ht_9⟩) t_nil dX4_hasPeaceAt_40
    | succ k ih_2 =>
      intro i hi_2 hF_2 ls hl
      refine lv_iload_n hx hb dX4_hasPeaceAt_2 rfl (lv_at hl 0 rfl) ?_
      refine lv_iload_n hx hb dX4_hasPeaceAt_3 rfl (lv_at hl 3 rfl) ?_
      refine lv_icmp_ge (tgt := 39) hx hb dX4_hasPeaceAt_4 (by decide) (fun h_9 => absurd h_9 (nI_ge (by omega) (by omega))) (fun _ => ?_)
      refine lv_aload_n hx hb dX4_hasPeaceAt_7 rfl (lv_at hl 1 rfl) ?_
      refine va_get (D := D) (ci := 4) (v := .ref (a 9)) (C := RX4) (T := TX4) (N := 12) hx hb hts hiX4 hown hK hP 0 rfl rfl 10 (by decide) f43 (fun _ h9 => h9) rfl dX4_hasPeaceAt_8 ?_
      refine lv_iload_n hx hb dX4_hasPeaceAt_11 rfl (lv_at hl 0 rfl) ?_
      refine ly_iald hx hb hK hP 9 0 rfl rfl (k := i) (by decide) rfl (by omega) dX4_hasPeaceAt_12 ?_
      refine lv_iload_n hx hb dX4_hasPeaceAt_13 rfl (lv_at hl 2 rfl) ?_
      refine lv_icmp_ne (tgt := 33) hx hb dX4_hasPeaceAt_14 (by decide) (fun c_1 => ?_) (fun c_1 => ?_)
      · refine lv_iinc (v := (nI (i + 1))) (lv' := [(3, .int (nI (i + 1))), (0, .ref (a 0)), (1, .int (nI q)), (2, .int (nI f))]) hx hb dX4_hasPeaceAt_33 hl (k := 0) rfl (ly_add rfl rfl) (by decide) rfl (fun ls hl => ?_)
        refine lv_goto (tgt := 2) hx hb dX4_hasPeaceAt_36 (by decide) ?_
        exact ih_2 (i + 1) (by omega) (by rw [← hF_2, s_peace_s, if_neg c_1]) ls (lv_sub hl [0, 1, 2, 3] rfl)
      · refine lv_aload_n hx hb dX4_hasPeaceAt_17 rfl (lv_at hl 1 rfl) ?_
        refine va_get (D := D) (ci := 4) (v := .ref (a 7)) (C := RX4) (T := TX4) (N := 12) hx hb hts hiX4 hown hK hP 0 rfl rfl 8 (by decide) f37 (fun _ h9 => h9) rfl dX4_hasPeaceAt_18 ?_
        refine lv_iload_n hx hb dX4_hasPeaceAt_21 rfl (lv_at hl 3 rfl) ?_
        refine ly_iald hx hb hK hP 7 0 rfl rfl (k := f) (by decide) rfl (by omega) dX4_hasPeaceAt_22 ?_
        refine lv_iload_n hx hb dX4_hasPeaceAt_23 rfl (lv_at hl 0 rfl) ?_
        have hPc_24 := hP.sub (ws' := []) [] rfl
        refine ly_r (va_runSN (As := [.int (nI ((g 7) f)), .int (nI i)]) (rest := []) ⟨hx, hb, hml, hown, hts⟩ (c_X6_bit l D cI cC cZ cN (nI ((g 7) f)) (nI i)) ⟨va_cnB 2 hts gX4_hasPeaceAt_X6_bit_n62 rfl rfl rfl hN.2.2.2.2.2.2.1 (hts (.initialized RX6) (by decide +kernel)) (by decide +kernel) ⟨Nat.le_of_ble_eq_true rfl, Nat.le_of_ble_eq_true rfl⟩, hts (.static yX6_bit) (by decide +kernel), trivial⟩ (ly_ps hK hN hPc_24) rfl rfl hl.1 rfl (lv_room (Nat.le_of_ble_eq_true rfl)) dX4_hasPeaceAt_24 ⟨Nat.zero_le _, Nat.zero_le _⟩) ?_
        refine lv_iconst (v := 1) hx hb dX4_hasPeaceAt_27 (by decide) ?_
        refine lv_icmp_ne (tgt := 33) hx hb dX4_hasPeaceAt_28 (by decide) (fun c_2 => ?_) (fun c_2 => ?_)
        · refine lv_iinc (v := (nI (i + 1))) (lv' := [(3, .int (nI (i + 1))), (0, .ref (a 0)), (1, .int (nI q)), (2, .int (nI f))]) hx hb dX4_hasPeaceAt_33 hl (k := 0) rfl (ly_add rfl rfl) (by decide) rfl (fun ls hl => ?_)
          refine lv_goto (tgt := 2) hx hb dX4_hasPeaceAt_36 (by decide) ?_
          exact ih_2 (i + 1) (by omega) (by rw [← hF_2, s_peace_s, if_pos c_1, if_neg c_2]) ls (lv_sub hl [0, 1, 2, 3] rfl)
        · refine lv_iconst (v := 0) hx hb dX4_hasPeaceAt_31 (by decide) ?_
          exact W.zret (v := 0) hx hb hr rfl (fun t_9 ht_9 _ => by rw [hQc]; exact ⟨(by rw [← hF_2, s_peace_s, if_pos c_1, if_pos c_2]), ht_9⟩) t_nil dX4_hasPeaceAt_32
  exact hloop_2 f 0 (by omega) rfl ls (lv_sub hl [0, 1, 2, 3] rfl)

def s_free (d ho : Nat → Nat) (k : Nat) : Int32 := (if (ly_h (ho k)) = (-9) then (if (jbit (nI (d 4)) (nI k)) = 0 then 1 else 0) else 0)
set_option maxHeartbeats 4000000 in
set_option maxRecDepth 100000 in
theorem c_X3_isFree (l : Launch) (D : va_G) (cI cC cZ cN : ClassId) (b : Nat → Nat) (d ho le : Nat → Nat) (k : Nat) (h1 : k < 9) : Met l yX3_isFree wsX3_isFree (ly_rm 2) (ly_Pre D (ly_tys cI cC cZ cN) [((b 0), .inr (3, [.int (nI (d 0)), .int (nI (d 1)), .int (nI (d 2)), .int (nI (d 3)), .int (nI (d 4)), .ref (b 1), .ref (b 2)])), ((b 1), .inl (cI, 9, .inl (fun j => ly_h (ho j)))), ((b 2), .inl (cI, 9, .inl (fun j => nI (le j))))] [.ref (b 0), .int (nI k)]) (QcRead (s_free d ho k)) 0 0 (fun _ => False) := by
  refine Met.ofW (cc := cX3_isFree) (maxL := 2) (ret := (some .boolean)) (by decide) rfl ?_
  intro p e s m args below meth c s₁ B hml hv
  obtain ⟨rfl, hP, hK, hN⟩ := hv
  have hx := B.exec
  have hb := B.bytes
  have hr := B.returns
  have hts := atoms_spec (ws := wsX3_isFree) B.pre
  have hown : s.vm.findClass RX3 = some m.cls := findClass_of_methodNamed B.named
  have hlocks := B.notSynchronized
  have hl := lv_entry ([.ref (b 0), .int (nI k)]) (n := 2) (Nat.le_of_ble_eq_true rfl)
  rw [lg_entry_eq]
  generalize (lg_sl ([.ref (b 0), .int (nI k)]) ++ List.replicate (2 - (lg_sl ([.ref (b 0), .int (nI k)])).length) Slot.unset).toArray = ls at hl ⊢
  have hl : lv_has ls 2 [(0, .ref (b 0)), (1, .int (nI k))] := hl
  generalize ([.ref (b 0), .int (nI k)] : List Value).toArray = av at hts ⊢
  obtain ⟨Qc, hQc⟩ : ∃ Qc, Qc = (QcRead (s_free d ho k)) := ⟨_, rfl⟩
  rw [← hQc]
  have f27 := hts (.fieldLink RX3 27 "KneesLent$Now" "holder" "[I") (by decide +kernel)
  have f24 := hts (.fieldLink RX3 24 "KneesLent$Now" "pledged" "I") (by decide +kernel)
  have hiX3 : ∀ w ∈ u_ws RX3 TX3 7, w ∈ wsX3_isFree := by decide +kernel
  refine lv_aload_n hx hb dX3_isFree_0 rfl (lv_at hl 0 rfl) ?_
  refine va_get (D := D) (ci := 3) (v := .ref (b 1)) (C := RX3) (T := TX3) (N := 7) hx hb hts hiX3 hown hK hP 0 rfl rfl 5 (by decide) f27 (fun _ h9 => h9) rfl dX3_isFree_1 ?_
  refine lv_iload_n hx hb dX3_isFree_4 rfl (lv_at hl 1 rfl) ?_
  refine ly_iald hx hb hK hP 1 0 rfl rfl (k := k) (by decide) rfl (by omega) dX3_isFree_5 ?_
  refine lv_bipush (v := (-9)) hx hb dX3_isFree_6 (by decide) ?_
  refine lv_icmp_ne (tgt := 26) hx hb dX3_isFree_8 (by decide) (fun c_1 => ?_) (fun c_1 => ?_)
  · refine lv_iconst (v := 0) hx hb dX3_isFree_26 (by decide) ?_
    exact W.zret (v := 0) hx hb hr rfl (fun t_9 ht_9 _ => by rw [hQc]; exact ⟨(by unfold s_free; rw [if_neg c_1]), ht_9⟩) t_nil dX3_isFree_27
  · refine lv_aload_n hx hb dX3_isFree_11 rfl (lv_at hl 0 rfl) ?_
    refine va_get (D := D) (ci := 3) (v := .int (nI (d 4))) (C := RX3) (T := TX3) (N := 7) hx hb hts hiX3 hown hK hP 0 rfl rfl 4 (by decide) f24 (fun _ h9 => h9) rfl dX3_isFree_12 ?_
    refine lv_iload_n hx hb dX3_isFree_15 rfl (lv_at hl 1 rfl) ?_
    have hPc_16 := hP.sub (ws' := []) [] rfl
    refine ly_r (va_runSN (As := [.int (nI (d 4)), .int (nI k)]) (rest := []) ⟨hx, hb, hml, hown, hts⟩ (c_X6_bit l D cI cC cZ cN (nI (d 4)) (nI k)) ⟨va_cnB 2 hts gX3_isFree_X6_bit_n51 rfl rfl rfl hN.2.2.2.2.2.2.2.2.1 (hts (.initialized RX6) (by decide +kernel)) (by decide +kernel) ⟨Nat.le_of_ble_eq_true rfl, Nat.le_of_ble_eq_true rfl⟩, hts (.static yX6_bit) (by decide +kernel), trivial⟩ (ly_ps hK hN hPc_16) rfl rfl hl.1 rfl (lv_room (Nat.le_of_ble_eq_true rfl)) dX3_isFree_16 ⟨Nat.zero_le _, Nat.zero_le _⟩) ?_
    refine lv_if_ne (tgt := 26) hx hb dX3_isFree_19 (by decide) (fun c_2 => ?_) (fun c_2 => ?_)
    · refine lv_iconst (v := 0) hx hb dX3_isFree_26 (by decide) ?_
      exact W.zret (v := 0) hx hb hr rfl (fun t_9 ht_9 _ => by rw [hQc]; exact ⟨(by unfold s_free; rw [if_pos c_1, if_neg c_2]), ht_9⟩) t_nil dX3_isFree_27
    · refine lv_iconst (v := 1) hx hb dX3_isFree_22 (by decide) ?_
      refine lv_goto (tgt := 27) hx hb dX3_isFree_23 (by decide) ?_
      exact W.zret (v := 1) hx hb hr rfl (fun t_9 ht_9 _ => by rw [hQc]; exact ⟨(by unfold s_free; rw [if_pos c_1, if_pos c_2]), ht_9⟩) t_nil dX3_isFree_27

def s_offers (g : Nat → Nat → Nat) (d ho le : Nat → Nat) (k q : Nat) : Int32 := (if (s_free d ho k) = 0 then 0 else (if (s_needs g q ((g 1) k)) = 0 then 0 else (if (nI (le k)) < (nI (g 5 q + 2 * g 6 q)) then 0 else 1)))
set_option maxHeartbeats 4000000 in
set_option maxRecDepth 100000 in
theorem c_X3_offers (l : Launch) (D : va_G) (cI cC cZ cN : ClassId) (b : Nat → Nat) (d ho le : Nat → Nat) (a : Nat → Nat) (g : Nat → Nat → Nat) (k q : Nat) (h1 : k < 9) (h2 : q < 6) : Met l yX3_offers wsX3_offers (ly_rm 3) (ly_Pre D (ly_tys cI cC cZ cN) [((b 0), .inr (3, [.int (nI (d 0)), .int (nI (d 1)), .int (nI (d 2)), .int (nI (d 3)), .int (nI (d 4)), .ref (b 1), .ref (b 2)])), ((b 1), .inl (cI, 9, .inl (fun j => ly_h (ho j)))), ((b 2), .inl (cI, 9, .inl (fun j => nI (le j)))), ((a 0), .inr (4, [.int (nI (g 0 0)), .ref (a 1), .ref (a 2), .ref (a 3), .int (nI (g 0 1)), .ref (a 4), .ref (a 5), .ref (a 6), .ref (a 7), .ref (a 8), .ref (a 9), .int (nI (g 0 2))])), ((a 1), .inl (cI, 9, .inl (fun j => nI ((g 1) j)))), ((a 2), .inl (cI, 9, .inl (fun j => nI ((g 2) j)))), ((a 3), .inl (cI, 9, .inl (fun j => nI ((g 3) j)))), ((a 4), .inl (cI, 6, .inl (fun j => nI ((g 4) j)))), ((a 5), .inl (cI, 6, .inl (fun j => nI ((g 5) j)))), ((a 6), .inl (cI, 6, .inl (fun j => nI ((g 6) j)))), ((a 7), .inl (cI, 5, .inl (fun j => nI ((g 7) j)))), ((a 8), .inl (cI, 5, .inl (fun j => nI ((g 8) j)))), ((a 9), .inl (cI, 5, .inl (fun j => ly_h ((g 9) j))))] [.ref (b 0), .ref (a 0), .int (nI k), .int (nI q)]) (QcRead (s_offers g d ho le k q)) 0 0 (fun _ => False) := by
  refine Met.ofW (cc := cX3_offers) (maxL := 4) (ret := (some .boolean)) (by decide) rfl ?_
  intro p e s m args below meth c s₁ B hml hv
  obtain ⟨rfl, hP, hK, hN⟩ := hv
  have hx := B.exec
  have hb := B.bytes
  have hr := B.returns
  have hts := atoms_spec (ws := wsX3_offers) B.pre
  have hown : s.vm.findClass RX3 = some m.cls := findClass_of_methodNamed B.named
  have hlocks := B.notSynchronized
  have hl := lv_entry ([.ref (b 0), .ref (a 0), .int (nI k), .int (nI q)]) (n := 4) (Nat.le_of_ble_eq_true rfl)
  rw [lg_entry_eq]
  generalize (lg_sl ([.ref (b 0), .ref (a 0), .int (nI k), .int (nI q)]) ++ List.replicate (4 - (lg_sl ([.ref (b 0), .ref (a 0), .int (nI k), .int (nI q)])).length) Slot.unset).toArray = ls at hl ⊢
  have hl : lv_has ls 4 [(0, .ref (b 0)), (1, .ref (a 0)), (2, .int (nI k)), (3, .int (nI q))] := hl
  generalize ([.ref (b 0), .ref (a 0), .int (nI k), .int (nI q)] : List Value).toArray = av at hts ⊢
  obtain ⟨Qc, hQc⟩ : ∃ Qc, Qc = (QcRead (s_offers g d ho le k q)) := ⟨_, rfl⟩
  rw [← hQc]
  have f59 := hts (.fieldLink RX3 59 "KneesLent$Parish" "side" "[I") (by decide +kernel)
  have f31 := hts (.fieldLink RX3 31 "KneesLent$Now" "left" "[I") (by decide +kernel)
  have hiX4 : ∀ w ∈ u_ws RX4 TX4 12, w ∈ wsX3_offers := by decide +kernel
  have hiX3 : ∀ w ∈ u_ws RX3 TX3 7, w ∈ wsX3_offers := by decide +kernel
  refine lv_aload_n hx hb dX3_offers_0 rfl (lv_at hl 0 rfl) ?_
  refine lv_iload_n hx hb dX3_offers_1 rfl (lv_at hl 2 rfl) ?_
  have hPc_2 := hP.sub (ws' := [((b 0), .inr (3, [.int (nI (d 0)), .int (nI (d 1)), .int (nI (d 2)), .int (nI (d 3)), .int (nI (d 4)), .ref (b 1), .ref (b 2)])), ((b 1), .inl (cI, 9, .inl (fun j => ly_h (ho j)))), ((b 2), .inl (cI, 9, .inl (fun j => nI (le j))))]) [0, 1, 2] rfl
  refine ly_r (va_runV (As := [.int (nI k)]) (rest := []) ⟨hx, hb, hml, hown, hts⟩ (c_X3_isFree l D cI cC cZ cN b d ho le k (by omega)) (cwV 1 hts gX3_offers_X3_isFree rfl rfl rfl (by decide +kernel) ⟨Nat.le_of_ble_eq_true rfl, Nat.le_of_ble_eq_true rfl⟩) (ly_pv hK hN hPc_2 0 3 rfl rfl rfl) rfl rfl hl.1 rfl (lv_room (Nat.le_of_ble_eq_true rfl)) dX3_offers_2 ⟨Nat.zero_le _, Nat.zero_le _⟩) ?_
  refine lv_if_eq (tgt := 40) hx hb dX3_offers_5 (by decide) (fun c_1 => ?_) (fun c_1 => ?_)
  · refine lv_iconst (v := 0) hx hb dX3_offers_40 (by decide) ?_
    exact W.zret (v := 0) hx hb hr rfl (fun t_9 ht_9 _ => by rw [hQc]; exact ⟨(by unfold s_offers; rw [if_pos c_1]), ht_9⟩) t_nil dX3_offers_41
  · refine lv_aload_n hx hb dX3_offers_8 rfl (lv_at hl 1 rfl) ?_
    refine lv_iload_n hx hb dX3_offers_9 rfl (lv_at hl 3 rfl) ?_
    refine lv_aload_n hx hb dX3_offers_10 rfl (lv_at hl 1 rfl) ?_
    refine va_get (D := D) (ci := 4) (v := .ref (a 1)) (C := RX4) (T := TX4) (N := 12) hx hb hts hiX4 hown hK hP 3 rfl rfl 1 (by decide) f59 (fun _ h9 => h9) rfl dX3_offers_11 ?_
    refine lv_iload_n hx hb dX3_offers_14 rfl (lv_at hl 2 rfl) ?_
    refine ly_iald hx hb hK hP 4 0 rfl rfl (k := k) (by decide) rfl (by omega) dX3_offers_15 ?_
    have hPc_16 := hP.sub (ws' := [((a 0), .inr (4, [.int (nI (g 0 0)), .ref (a 1), .ref (a 2), .ref (a 3), .int (nI (g 0 1)), .ref (a 4), .ref (a 5), .ref (a 6), .ref (a 7), .ref (a 8), .ref (a 9), .int (nI (g 0 2))])), ((a 1), .inl (cI, 9, .inl (fun j => nI ((g 1) j)))), ((a 2), .inl (cI, 9, .inl (fun j => nI ((g 2) j)))), ((a 3), .inl (cI, 9, .inl (fun j => nI ((g 3) j)))), ((a 4), .inl (cI, 6, .inl (fun j => nI ((g 4) j)))), ((a 5), .inl (cI, 6, .inl (fun j => nI ((g 5) j)))), ((a 6), .inl (cI, 6, .inl (fun j => nI ((g 6) j)))), ((a 7), .inl (cI, 5, .inl (fun j => nI ((g 7) j)))), ((a 8), .inl (cI, 5, .inl (fun j => nI ((g 8) j)))), ((a 9), .inl (cI, 5, .inl (fun j => ly_h ((g 9) j))))]) [3, 4, 5, 6, 7, 8, 9, 10, 11, 12] rfl
    refine ly_r (va_runV (As := [.int (nI q), .int (nI ((g 1) k))]) (rest := []) ⟨hx, hb, hml, hown, hts⟩ (c_X4_needsSide l D cI cC cZ cN a g q ((g 1) k) (by omega)) (cwV 2 hts gX3_offers_X4_needsSide rfl rfl rfl (by decide +kernel) ⟨Nat.le_of_ble_eq_true rfl, Nat.le_of_ble_eq_true rfl⟩) (ly_pv hK hN hPc_16 0 4 rfl rfl rfl) rfl rfl hl.1 rfl (lv_room (Nat.le_of_ble_eq_true rfl)) dX3_offers_16 ⟨Nat.zero_le _, Nat.zero_le _⟩) ?_
    refine lv_if_eq (tgt := 40) hx hb dX3_offers_19 (by decide) (fun c_2 => ?_) (fun c_2 => ?_)
    · refine lv_iconst (v := 0) hx hb dX3_offers_40 (by decide) ?_
      exact W.zret (v := 0) hx hb hr rfl (fun t_9 ht_9 _ => by rw [hQc]; exact ⟨(by unfold s_offers; rw [if_neg c_1, if_pos c_2]), ht_9⟩) t_nil dX3_offers_41
    · refine lv_aload_n hx hb dX3_offers_22 rfl (lv_at hl 0 rfl) ?_
      refine va_get (D := D) (ci := 3) (v := .ref (b 2)) (C := RX3) (T := TX3) (N := 7) hx hb hts hiX3 hown hK hP 0 rfl rfl 6 (by decide) f31 (fun _ h9 => h9) rfl dX3_offers_23 ?_
      refine lv_iload_n hx hb dX3_offers_26 rfl (lv_at hl 2 rfl) ?_
      refine ly_iald hx hb hK hP 2 0 rfl rfl (k := k) (by decide) rfl (by omega) dX3_offers_27 ?_
      refine lv_aload_n hx hb dX3_offers_28 rfl (lv_at hl 1 rfl) ?_
      refine lv_iload_n hx hb dX3_offers_29 rfl (lv_at hl 3 rfl) ?_
      have hPc_30 := hP.sub (ws' := [((a 0), .inr (4, [.int (nI (g 0 0)), .ref (a 1), .ref (a 2), .ref (a 3), .int (nI (g 0 1)), .ref (a 4), .ref (a 5), .ref (a 6), .ref (a 7), .ref (a 8), .ref (a 9), .int (nI (g 0 2))])), ((a 1), .inl (cI, 9, .inl (fun j => nI ((g 1) j)))), ((a 2), .inl (cI, 9, .inl (fun j => nI ((g 2) j)))), ((a 3), .inl (cI, 9, .inl (fun j => nI ((g 3) j)))), ((a 4), .inl (cI, 6, .inl (fun j => nI ((g 4) j)))), ((a 5), .inl (cI, 6, .inl (fun j => nI ((g 5) j)))), ((a 6), .inl (cI, 6, .inl (fun j => nI ((g 6) j)))), ((a 7), .inl (cI, 5, .inl (fun j => nI ((g 7) j)))), ((a 8), .inl (cI, 5, .inl (fun j => nI ((g 8) j)))), ((a 9), .inl (cI, 5, .inl (fun j => ly_h ((g 9) j))))]) [3, 4, 5, 6, 7, 8, 9, 10, 11, 12] rfl
      refine ly_r (va_runV (As := [.int (nI q)]) (rest := [.int (nI (le k))]) ⟨hx, hb, hml, hown, hts⟩ (c_X4_wearOf l D cI cC cZ cN a g q (by omega)) (cwV 1 hts gX3_offers_X4_wearOf rfl rfl rfl (by decide +kernel) ⟨Nat.le_of_ble_eq_true rfl, Nat.le_of_ble_eq_true rfl⟩) (ly_pv hK hN hPc_30 0 4 rfl rfl rfl) rfl rfl hl.1 rfl (lv_room (Nat.le_of_ble_eq_true rfl)) dX3_offers_30 ⟨Nat.zero_le _, Nat.zero_le _⟩) ?_
      refine lv_icmp_lt (tgt := 40) hx hb dX3_offers_33 (by decide) (fun c_3 => ?_) (fun c_3 => ?_)
      · refine lv_iconst (v := 0) hx hb dX3_offers_40 (by decide) ?_
        exact W.zret (v := 0) hx hb hr rfl (fun t_9 ht_9 _ => by rw [hQc]; exact ⟨(by unfold s_offers; rw [if_neg c_1, if_neg c_2, if_pos c_3]), ht_9⟩) t_nil dX3_offers_41
      · refine lv_iconst (v := 1) hx hb dX3_offers_36 (by decide) ?_
        refine lv_goto (tgt := 41) hx hb dX3_offers_37 (by decide) ?_
        exact W.zret (v := 1) hx hb hr rfl (fun t_9 ht_9 _ => by rw [hQc]; exact ⟨(by unfold s_offers; rw [if_neg c_1, if_neg c_2, if_neg c_3]), ht_9⟩) t_nil dX3_offers_41

def s_held (g : Nat → Nat → Nat) (ho : Nat → Nat) (q o : Nat) : Nat → Nat → Int32
  | 0, _ => (-9)
  | k + 1, i => (if (ly_h (ho i)) = (nI q) then (if (nI ((g 1) i)) = (nI o) then (nI i) else s_held g ho q o k (i + 1)) else s_held g ho q o k (i + 1))
theorem s_held_z (g : Nat → Nat → Nat) (ho : Nat → Nat) (q o : Nat) (i : Nat) : s_held g ho q o 0 i = (-9) := rfl
theorem s_held_s (g : Nat → Nat → Nat) (ho : Nat → Nat) (q o : Nat) (k i : Nat) : s_held g ho q o (k + 1) i = (if (ly_h (ho i)) = (nI q) then (if (nI ((g 1) i)) = (nI o) then (nI i) else s_held g ho q o k (i + 1)) else s_held g ho q o k (i + 1)) := rfl
set_option maxHeartbeats 4000000 in
set_option maxRecDepth 100000 in
theorem c_X6_kneeHeld (l : Launch) (D : va_G) (cI cC cZ cN : ClassId) (t a2 : Nat → Nat) (lt : Nat) (tr : Int64) (a : Nat → Nat) (g : Nat → Nat → Nat) (b : Nat → Nat) (d ho le : Nat → Nat) (q o : Nat) (hn : g 0 0 ≤ 9) : Met l yX6_kneeHeld wsX6_kneeHeld (ly_rm 1) (ly_Pre D (ly_tys cI cC cZ cN) [((t 0), .inr (6, [.ref (t 1), .int (nI lt), .ref (t 2), .ref (a 0), .ref (a2 0), .ref (b 0), .ref (t 4), .ref (t 5), .ref (t 6), .ref (t 7), .ref (t 8), .long tr])), ((a 0), .inr (4, [.int (nI (g 0 0)), .ref (a 1), .ref (a 2), .ref (a 3), .int (nI (g 0 1)), .ref (a 4), .ref (a 5), .ref (a 6), .ref (a 7), .ref (a 8), .ref (a 9), .int (nI (g 0 2))])), ((a 1), .inl (cI, 9, .inl (fun j => nI ((g 1) j)))), ((a 2), .inl (cI, 9, .inl (fun j => nI ((g 2) j)))), ((a 3), .inl (cI, 9, .inl (fun j => nI ((g 3) j)))), ((a 4), .inl (cI, 6, .inl (fun j => nI ((g 4) j)))), ((a 5), .inl (cI, 6, .inl (fun j => nI ((g 5) j)))), ((a 6), .inl (cI, 6, .inl (fun j => nI ((g 6) j)))), ((a 7), .inl (cI, 5, .inl (fun j => nI ((g 7) j)))), ((a 8), .inl (cI, 5, .inl (fun j => nI ((g 8) j)))), ((a 9), .inl (cI, 5, .inl (fun j => ly_h ((g 9) j)))), ((b 0), .inr (3, [.int (nI (d 0)), .int (nI (d 1)), .int (nI (d 2)), .int (nI (d 3)), .int (nI (d 4)), .ref (b 1), .ref (b 2)])), ((b 1), .inl (cI, 9, .inl (fun j => ly_h (ho j)))), ((b 2), .inl (cI, 9, .inl (fun j => nI (le j))))] [.ref (t 0), .int (nI q), .int (nI o)]) (QcRead (s_held g ho q o (g 0 0) 0)) 0 0 (fun _ => False) := by
  refine Met.ofW (cc := cX6_kneeHeld) (maxL := 4) (ret := (some .int)) (by decide) rfl ?_
  intro p e s m args below meth c s₁ B hml hv
  obtain ⟨rfl, hP, hK, hN⟩ := hv
  have hx := B.exec
  have hb := B.bytes
  have hr := B.returns
  have hts := atoms_spec (ws := wsX6_kneeHeld) B.pre
  have hown : s.vm.findClass RX6 = some m.cls := findClass_of_methodNamed B.named
  have hlocks := B.notSynchronized
  have hl := lv_entry ([.ref (t 0), .int (nI q), .int (nI o)]) (n := 4) (Nat.le_of_ble_eq_true rfl)
  rw [lg_entry_eq]
  generalize (lg_sl ([.ref (t 0), .int (nI q), .int (nI o)]) ++ List.replicate (4 - (lg_sl ([.ref (t 0), .int (nI q), .int (nI o)])).length) Slot.unset).toArray = ls at hl ⊢
  have hl : lv_has ls 4 [(0, .ref (t 0)), (1, .int (nI q)), (2, .int (nI o))] := hl
  generalize ([.ref (t 0), .int (nI q), .int (nI o)] : List Value).toArray = av at hts ⊢
  obtain ⟨Qc, hQc⟩ : ∃ Qc, Qc = (QcRead (s_held g ho q o (g 0 0) 0)) := ⟨_, rfl⟩
  rw [← hQc]
  have f27 := hts (.fieldLink RX6 27 "KneesLent" "parish" "LKneesLent$Parish;") (by decide +kernel)
  have f191 := hts (.fieldLink RX6 191 "KneesLent$Parish" "knees" "I") (by decide +kernel)
  have f37 := hts (.fieldLink RX6 37 "KneesLent" "now" "LKneesLent$Now;") (by decide +kernel)
  have f115 := hts (.fieldLink RX6 115 "KneesLent$Now" "holder" "[I") (by decide +kernel)
  have f105 := hts (.fieldLink RX6 105 "KneesLent$Parish" "side" "[I") (by decide +kernel)
  have hiX6 : ∀ w ∈ u_ws RX6 TX6 12, w ∈ wsX6_kneeHeld := by decide +kernel
  have hiX4 : ∀ w ∈ u_ws RX4 TX4 12, w ∈ wsX6_kneeHeld := by decide +kernel
  have hiX3 : ∀ w ∈ u_ws RX3 TX3 7, w ∈ wsX6_kneeHeld := by decide +kernel
  refine lv_iconst (v := 0) hx hb dX6_kneeHeld_0 (by decide) ?_
  refine lv_istore_n (lv' := [(3, .int 0), (0, .ref (t 0)), (1, .int (nI q)), (2, .int (nI o))]) hx hb dX6_kneeHeld_1 rfl hl (by decide) rfl (fun ls hl => ?_)
  have hloop_2 : ∀ (k i : Nat), i + k = g 0 0 → s_held g ho q o k i = (s_held g ho q o (g 0 0) 0) → ∀ ls : Array Slot, lv_has ls 4 [(3, .int (nI i)), (0, .ref (t 0)), (1, .int (nI q)), (2, .int (nI o))] → W p l e (headSpec wsX6_kneeHeld (ly_rm 1)).room s m av below meth c s.heap [] 0 0 (MQ below Qc av s 0 0 (fun _ => False)) (F0 m 2 ls []) := by
    intro k
    induction k with
    | zero =>
      intro i hi_2 hF_2 ls hl
      obtain rfl : g 0 0 = i := by omega
      refine lv_iload_n hx hb dX6_kneeHeld_2 rfl (lv_at hl 0 rfl) ?_
      refine lv_aload_n hx hb dX6_kneeHeld_3 rfl (lv_at hl 1 rfl) ?_
      refine va_get (D := D) (ci := 6) (v := .ref (a 0)) (C := RX6) (T := TX6) (N := 12) hx hb hts hiX6 hown hK hP 0 rfl rfl 3 (by decide) f27 (fun _ h9 => h9) rfl dX6_kneeHeld_4 ?_
      refine va_get (D := D) (ci := 4) (v := .int (nI (g 0 0))) (C := RX4) (T := TX4) (N := 12) hx hb hts hiX4 hown hK hP 1 rfl rfl 0 (by decide) f191 (fun _ h9 => h9) rfl dX6_kneeHeld_7 ?_
      refine lv_icmp_ge (tgt := 47) hx hb dX6_kneeHeld_10 (by decide) (fun _ => ?_) (fun h_9 => absurd (nI_le (Nat.le_refl _) (by omega)) h_9)
      refine lv_bipush (v := (-9)) hx hb dX6_kneeHeld_47 (by decide) ?_
      exact W.iret (v := (-9)) hx hb hr (fun t_9 ht_9 _ => by rw [hQc]; exact ⟨(by rw [← hF_2, s_held_z]), ht_9⟩) t_nil dX6_kneeHeld_49
    | succ k ih_2 =>
      intro i hi_2 hF_2 ls hl
      refine lv_iload_n hx hb dX6_kneeHeld_2 rfl (lv_at hl 0 rfl) ?_
      refine lv_aload_n hx hb dX6_kneeHeld_3 rfl (lv_at hl 1 rfl) ?_
      refine va_get (D := D) (ci := 6) (v := .ref (a 0)) (C := RX6) (T := TX6) (N := 12) hx hb hts hiX6 hown hK hP 0 rfl rfl 3 (by decide) f27 (fun _ h9 => h9) rfl dX6_kneeHeld_4 ?_
      refine va_get (D := D) (ci := 4) (v := .int (nI (g 0 0))) (C := RX4) (T := TX4) (N := 12) hx hb hts hiX4 hown hK hP 1 rfl rfl 0 (by decide) f191 (fun _ h9 => h9) rfl dX6_kneeHeld_7 ?_
      refine lv_icmp_ge (tgt := 47) hx hb dX6_kneeHeld_10 (by decide) (fun h_9 => absurd h_9 (nI_ge (by omega) (by omega))) (fun _ => ?_)
      refine lv_aload_n hx hb dX6_kneeHeld_13 rfl (lv_at hl 1 rfl) ?_
      refine va_get (D := D) (ci := 6) (v := .ref (b 0)) (C := RX6) (T := TX6) (N := 12) hx hb hts hiX6 hown hK hP 0 rfl rfl 5 (by decide) f37 (fun _ h9 => h9) rfl dX6_kneeHeld_14 ?_
      refine va_get (D := D) (ci := 3) (v := .ref (b 1)) (C := RX3) (T := TX3) (N := 7) hx hb hts hiX3 hown hK hP 11 rfl rfl 5 (by decide) f115 (fun _ h9 => h9) rfl dX6_kneeHeld_17 ?_
      refine lv_iload_n hx hb dX6_kneeHeld_20 rfl (lv_at hl 0 rfl) ?_
      refine ly_iald hx hb hK hP 12 0 rfl rfl (k := i) (by decide) rfl (by omega) dX6_kneeHeld_21 ?_
      refine lv_iload_n hx hb dX6_kneeHeld_22 rfl (lv_at hl 2 rfl) ?_
      refine lv_icmp_ne (tgt := 41) hx hb dX6_kneeHeld_23 (by decide) (fun c_1 => ?_) (fun c_1 => ?_)
      · refine lv_iinc (v := (nI (i + 1))) (lv' := [(3, .int (nI (i + 1))), (0, .ref (t 0)), (1, .int (nI q)), (2, .int (nI o))]) hx hb dX6_kneeHeld_41 hl (k := 0) rfl (ly_add rfl rfl) (by decide) rfl (fun ls hl => ?_)
        refine lv_goto (tgt := 2) hx hb dX6_kneeHeld_44 (by decide) ?_
        exact ih_2 (i + 1) (by omega) (by rw [← hF_2, s_held_s, if_neg c_1]) ls (lv_sub hl [0, 1, 2, 3] rfl)
      · refine lv_aload_n hx hb dX6_kneeHeld_26 rfl (lv_at hl 1 rfl) ?_
        refine va_get (D := D) (ci := 6) (v := .ref (a 0)) (C := RX6) (T := TX6) (N := 12) hx hb hts hiX6 hown hK hP 0 rfl rfl 3 (by decide) f27 (fun _ h9 => h9) rfl dX6_kneeHeld_27 ?_
        refine va_get (D := D) (ci := 4) (v := .ref (a 1)) (C := RX4) (T := TX4) (N := 12) hx hb hts hiX4 hown hK hP 1 rfl rfl 1 (by decide) f105 (fun _ h9 => h9) rfl dX6_kneeHeld_30 ?_
        refine lv_iload_n hx hb dX6_kneeHeld_33 rfl (lv_at hl 0 rfl) ?_
        refine ly_iald hx hb hK hP 2 0 rfl rfl (k := i) (by decide) rfl (by omega) dX6_kneeHeld_34 ?_
        refine lv_iload_n hx hb dX6_kneeHeld_35 rfl (lv_at hl 3 rfl) ?_
        refine lv_icmp_ne (tgt := 41) hx hb dX6_kneeHeld_36 (by decide) (fun c_2 => ?_) (fun c_2 => ?_)
        · refine lv_iinc (v := (nI (i + 1))) (lv' := [(3, .int (nI (i + 1))), (0, .ref (t 0)), (1, .int (nI q)), (2, .int (nI o))]) hx hb dX6_kneeHeld_41 hl (k := 0) rfl (ly_add rfl rfl) (by decide) rfl (fun ls hl => ?_)
          refine lv_goto (tgt := 2) hx hb dX6_kneeHeld_44 (by decide) ?_
          exact ih_2 (i + 1) (by omega) (by rw [← hF_2, s_held_s, if_pos c_1, if_neg c_2]) ls (lv_sub hl [0, 1, 2, 3] rfl)
        · refine lv_iload_n hx hb dX6_kneeHeld_39 rfl (lv_at hl 0 rfl) ?_
          exact W.iret (v := (nI i)) hx hb hr (fun t_9 ht_9 _ => by rw [hQc]; exact ⟨(by rw [← hF_2, s_held_s, if_pos c_1, if_pos c_2]), ht_9⟩) t_nil dX6_kneeHeld_40
  exact hloop_2 (g 0 0) 0 (by omega) rfl ls (lv_sub hl [0, 1, 2, 3] rfl)

def s_ready (g : Nat → Nat → Nat) (ho : Nat → Nat) (q : Nat) : Int32 := (if (s_needs g q 0) = 0 then (if (s_needs g q 1) = 0 then 1 else (if (s_held g ho q 1 (g 0 0) 0) = (-9) then 0 else 1)) else (if (s_held g ho q 0 (g 0 0) 0) = (-9) then 0 else (if (s_needs g q 1) = 0 then 1 else (if (s_held g ho q 1 (g 0 0) 0) = (-9) then 0 else 1))))
set_option maxHeartbeats 4000000 in
set_option maxRecDepth 100000 in
theorem c_X6_isReady (l : Launch) (D : va_G) (cI cC cZ cN : ClassId) (t a2 : Nat → Nat) (lt : Nat) (tr : Int64) (a : Nat → Nat) (g : Nat → Nat → Nat) (b : Nat → Nat) (d ho le : Nat → Nat) (q : Nat) (h1 : q < 6) (hn : g 0 0 ≤ 9) : Met l yX6_isReady wsX6_isReady (ly_rm 3) (ly_Pre D (ly_tys cI cC cZ cN) [((t 0), .inr (6, [.ref (t 1), .int (nI lt), .ref (t 2), .ref (a 0), .ref (a2 0), .ref (b 0), .ref (t 4), .ref (t 5), .ref (t 6), .ref (t 7), .ref (t 8), .long tr])), ((a 0), .inr (4, [.int (nI (g 0 0)), .ref (a 1), .ref (a 2), .ref (a 3), .int (nI (g 0 1)), .ref (a 4), .ref (a 5), .ref (a 6), .ref (a 7), .ref (a 8), .ref (a 9), .int (nI (g 0 2))])), ((a 1), .inl (cI, 9, .inl (fun j => nI ((g 1) j)))), ((a 2), .inl (cI, 9, .inl (fun j => nI ((g 2) j)))), ((a 3), .inl (cI, 9, .inl (fun j => nI ((g 3) j)))), ((a 4), .inl (cI, 6, .inl (fun j => nI ((g 4) j)))), ((a 5), .inl (cI, 6, .inl (fun j => nI ((g 5) j)))), ((a 6), .inl (cI, 6, .inl (fun j => nI ((g 6) j)))), ((a 7), .inl (cI, 5, .inl (fun j => nI ((g 7) j)))), ((a 8), .inl (cI, 5, .inl (fun j => nI ((g 8) j)))), ((a 9), .inl (cI, 5, .inl (fun j => ly_h ((g 9) j)))), ((b 0), .inr (3, [.int (nI (d 0)), .int (nI (d 1)), .int (nI (d 2)), .int (nI (d 3)), .int (nI (d 4)), .ref (b 1), .ref (b 2)])), ((b 1), .inl (cI, 9, .inl (fun j => ly_h (ho j)))), ((b 2), .inl (cI, 9, .inl (fun j => nI (le j))))] [.ref (t 0), .int (nI q)]) (QcRead (s_ready g ho q)) 0 0 (fun _ => False) := by
  refine Met.ofW (cc := cX6_isReady) (maxL := 3) (ret := (some .boolean)) (by decide) rfl ?_
  intro p e s m args below meth c s₁ B hml hv
  obtain ⟨rfl, hP, hK, hN⟩ := hv
  have hx := B.exec
  have hb := B.bytes
  have hr := B.returns
  have hts := atoms_spec (ws := wsX6_isReady) B.pre
  have hown : s.vm.findClass RX6 = some m.cls := findClass_of_methodNamed B.named
  have hlocks := B.notSynchronized
  have hl := lv_entry ([.ref (t 0), .int (nI q)]) (n := 3) (Nat.le_of_ble_eq_true rfl)
  rw [lg_entry_eq]
  generalize (lg_sl ([.ref (t 0), .int (nI q)]) ++ List.replicate (3 - (lg_sl ([.ref (t 0), .int (nI q)])).length) Slot.unset).toArray = ls at hl ⊢
  have hl : lv_has ls 3 [(0, .ref (t 0)), (1, .int (nI q))] := hl
  generalize ([.ref (t 0), .int (nI q)] : List Value).toArray = av at hts ⊢
  obtain ⟨Qc, hQc⟩ : ∃ Qc, Qc = (QcRead (s_ready g ho q)) := ⟨_, rfl⟩
  rw [← hQc]
  have f27 := hts (.fieldLink RX6 27 "KneesLent" "parish" "LKneesLent$Parish;") (by decide +kernel)
  have hiX6 : ∀ w ∈ u_ws RX6 TX6 12, w ∈ wsX6_isReady := by decide +kernel
  refine lv_iconst (v := 0) hx hb dX6_isReady_0 (by decide) ?_
  refine lv_istore_n (lv' := [(2, .int 0), (0, .ref (t 0)), (1, .int (nI q))]) hx hb dX6_isReady_1 rfl hl (by decide) rfl (fun ls hl => ?_)
  refine lv_iload_n hx hb dX6_isReady_2 rfl (lv_at hl 0 rfl) ?_
  refine lv_iconst (v := 2) hx hb dX6_isReady_3 (by decide) ?_
  refine lv_icmp_ge (tgt := 38) hx hb dX6_isReady_4 (by decide) (fun h_9 => absurd h_9 (by decide)) (fun _ => ?_)
  refine lv_aload_n hx hb dX6_isReady_7 rfl (lv_at hl 1 rfl) ?_
  refine va_get (D := D) (ci := 6) (v := .ref (a 0)) (C := RX6) (T := TX6) (N := 12) hx hb hts hiX6 hown hK hP 0 rfl rfl 3 (by decide) f27 (fun _ h9 => h9) rfl dX6_isReady_8 ?_
  refine lv_iload_n hx hb dX6_isReady_11 rfl (lv_at hl 2 rfl) ?_
  refine lv_iload_n hx hb dX6_isReady_12 rfl (lv_at hl 0 rfl) ?_
  have hPc_13 := hP.sub (ws' := [((a 0), .inr (4, [.int (nI (g 0 0)), .ref (a 1), .ref (a 2), .ref (a 3), .int (nI (g 0 1)), .ref (a 4), .ref (a 5), .ref (a 6), .ref (a 7), .ref (a 8), .ref (a 9), .int (nI (g 0 2))])), ((a 1), .inl (cI, 9, .inl (fun j => nI ((g 1) j)))), ((a 2), .inl (cI, 9, .inl (fun j => nI ((g 2) j)))), ((a 3), .inl (cI, 9, .inl (fun j => nI ((g 3) j)))), ((a 4), .inl (cI, 6, .inl (fun j => nI ((g 4) j)))), ((a 5), .inl (cI, 6, .inl (fun j => nI ((g 5) j)))), ((a 6), .inl (cI, 6, .inl (fun j => nI ((g 6) j)))), ((a 7), .inl (cI, 5, .inl (fun j => nI ((g 7) j)))), ((a 8), .inl (cI, 5, .inl (fun j => nI ((g 8) j)))), ((a 9), .inl (cI, 5, .inl (fun j => ly_h ((g 9) j))))]) [1, 2, 3, 4, 5, 6, 7, 8, 9, 10] rfl
  refine ly_r (va_runV (As := [.int (nI q), .int 0]) (rest := []) ⟨hx, hb, hml, hown, hts⟩ (c_X4_needsSide l D cI cC cZ cN a g q 0 (by omega)) (cwV 2 hts gX6_isReady_X4_needsSide rfl rfl rfl (by decide +kernel) ⟨Nat.le_of_ble_eq_true rfl, Nat.le_of_ble_eq_true rfl⟩) (ly_pv hK hN hPc_13 0 4 rfl rfl rfl) rfl rfl hl.1 rfl (lv_room (Nat.le_of_ble_eq_true rfl)) dX6_isReady_13 ⟨Nat.zero_le _, Nat.zero_le _⟩) ?_
  refine lv_if_eq (tgt := 32) hx hb dX6_isReady_16 (by decide) (fun c_1 => ?_) (fun c_1 => ?_)
  · refine lv_iinc (v := 1) (lv' := [(2, .int 1), (0, .ref (t 0)), (1, .int (nI q))]) hx hb dX6_isReady_32 hl (k := 0) rfl (by decide) (by decide) rfl (fun ls hl => ?_)
    refine lv_goto (tgt := 2) hx hb dX6_isReady_35 (by decide) ?_
    refine lv_iload_n hx hb dX6_isReady_2 rfl (lv_at hl 0 rfl) ?_
    refine lv_iconst (v := 2) hx hb dX6_isReady_3 (by decide) ?_
    refine lv_icmp_ge (tgt := 38) hx hb dX6_isReady_4 (by decide) (fun h_9 => absurd h_9 (by decide)) (fun _ => ?_)
    refine lv_aload_n hx hb dX6_isReady_7 rfl (lv_at hl 1 rfl) ?_
    refine va_get (D := D) (ci := 6) (v := .ref (a 0)) (C := RX6) (T := TX6) (N := 12) hx hb hts hiX6 hown hK hP 0 rfl rfl 3 (by decide) f27 (fun _ h9 => h9) rfl dX6_isReady_8 ?_
    refine lv_iload_n hx hb dX6_isReady_11 rfl (lv_at hl 2 rfl) ?_
    refine lv_iload_n hx hb dX6_isReady_12 rfl (lv_at hl 0 rfl) ?_
    have hPc_13 := hP.sub (ws' := [((a 0), .inr (4, [.int (nI (g 0 0)), .ref (a 1), .ref (a 2), .ref (a 3), .int (nI (g 0 1)), .ref (a 4), .ref (a 5), .ref (a 6), .ref (a 7), .ref (a 8), .ref (a 9), .int (nI (g 0 2))])), ((a 1), .inl (cI, 9, .inl (fun j => nI ((g 1) j)))), ((a 2), .inl (cI, 9, .inl (fun j => nI ((g 2) j)))), ((a 3), .inl (cI, 9, .inl (fun j => nI ((g 3) j)))), ((a 4), .inl (cI, 6, .inl (fun j => nI ((g 4) j)))), ((a 5), .inl (cI, 6, .inl (fun j => nI ((g 5) j)))), ((a 6), .inl (cI, 6, .inl (fun j => nI ((g 6) j)))), ((a 7), .inl (cI, 5, .inl (fun j => nI ((g 7) j)))), ((a 8), .inl (cI, 5, .inl (fun j => nI ((g 8) j)))), ((a 9), .inl (cI, 5, .inl (fun j => ly_h ((g 9) j))))]) [1, 2, 3, 4, 5, 6, 7, 8, 9, 10] rfl
    refine ly_r (va_runV (As := [.int (nI q), .int 1]) (rest := []) ⟨hx, hb, hml, hown, hts⟩ (c_X4_needsSide l D cI cC cZ cN a g q 1 (by omega)) (cwV 2 hts gX6_isReady_X4_needsSide rfl rfl rfl (by decide +kernel) ⟨Nat.le_of_ble_eq_true rfl, Nat.le_of_ble_eq_true rfl⟩) (ly_pv hK hN hPc_13 0 4 rfl rfl rfl) rfl rfl hl.1 rfl (lv_room (Nat.le_of_ble_eq_true rfl)) dX6_isReady_13 ⟨Nat.zero_le _, Nat.zero_le _⟩) ?_
    refine lv_if_eq (tgt := 32) hx hb dX6_isReady_16 (by decide) (fun c_2 => ?_) (fun c_2 => ?_)
    · refine lv_iinc (v := 2) (lv' := [(2, .int 2), (0, .ref (t 0)), (1, .int (nI q))]) hx hb dX6_isReady_32 hl (k := 0) rfl (by decide) (by decide) rfl (fun ls hl => ?_)
      refine lv_goto (tgt := 2) hx hb dX6_isReady_35 (by decide) ?_
      refine lv_iload_n hx hb dX6_isReady_2 rfl (lv_at hl 0 rfl) ?_
      refine lv_iconst (v := 2) hx hb dX6_isReady_3 (by decide) ?_
      refine lv_icmp_ge (tgt := 38) hx hb dX6_isReady_4 (by decide) (fun _ => ?_) (fun h_9 => absurd (by decide) h_9)
      refine lv_iconst (v := 1) hx hb dX6_isReady_38 (by decide) ?_
      exact W.zret (v := 1) hx hb hr rfl (fun t_9 ht_9 _ => by rw [hQc]; exact ⟨(by unfold s_ready; rw [if_pos c_1, if_pos c_2]), ht_9⟩) t_nil dX6_isReady_39
    · refine lv_aload_n hx hb dX6_isReady_19 rfl (lv_at hl 1 rfl) ?_
      refine lv_iload_n hx hb dX6_isReady_20 rfl (lv_at hl 2 rfl) ?_
      refine lv_iload_n hx hb dX6_isReady_21 rfl (lv_at hl 0 rfl) ?_
      have hPc_22 := hP.sub (ws' := [((t 0), .inr (6, [.ref (t 1), .int (nI lt), .ref (t 2), .ref (a 0), .ref (a2 0), .ref (b 0), .ref (t 4), .ref (t 5), .ref (t 6), .ref (t 7), .ref (t 8), .long tr])), ((a 0), .inr (4, [.int (nI (g 0 0)), .ref (a 1), .ref (a 2), .ref (a 3), .int (nI (g 0 1)), .ref (a 4), .ref (a 5), .ref (a 6), .ref (a 7), .ref (a 8), .ref (a 9), .int (nI (g 0 2))])), ((a 1), .inl (cI, 9, .inl (fun j => nI ((g 1) j)))), ((a 2), .inl (cI, 9, .inl (fun j => nI ((g 2) j)))), ((a 3), .inl (cI, 9, .inl (fun j => nI ((g 3) j)))), ((a 4), .inl (cI, 6, .inl (fun j => nI ((g 4) j)))), ((a 5), .inl (cI, 6, .inl (fun j => nI ((g 5) j)))), ((a 6), .inl (cI, 6, .inl (fun j => nI ((g 6) j)))), ((a 7), .inl (cI, 5, .inl (fun j => nI ((g 7) j)))), ((a 8), .inl (cI, 5, .inl (fun j => nI ((g 8) j)))), ((a 9), .inl (cI, 5, .inl (fun j => ly_h ((g 9) j)))), ((b 0), .inr (3, [.int (nI (d 0)), .int (nI (d 1)), .int (nI (d 2)), .int (nI (d 3)), .int (nI (d 4)), .ref (b 1), .ref (b 2)])), ((b 1), .inl (cI, 9, .inl (fun j => ly_h (ho j)))), ((b 2), .inl (cI, 9, .inl (fun j => nI (le j))))]) [0, 1, 2, 3, 4, 5, 6, 7, 8, 9, 10, 11, 12, 13] rfl
      refine ly_r (va_runV (As := [.int (nI q), .int 1]) (rest := []) ⟨hx, hb, hml, hown, hts⟩ (c_X6_kneeHeld l D cI cC cZ cN t a2 lt tr a g b d ho le q 1 hn) (cwV 2 hts gX6_isReady_X6_kneeHeld rfl rfl rfl (by decide +kernel) ⟨Nat.le_of_ble_eq_true rfl, Nat.le_of_ble_eq_true rfl⟩) (ly_pv hK hN hPc_22 0 6 rfl rfl rfl) rfl rfl hl.1 rfl (lv_room (Nat.le_of_ble_eq_true rfl)) dX6_isReady_22 ⟨Nat.zero_le _, Nat.zero_le _⟩) ?_
      refine lv_bipush (v := (-9)) hx hb dX6_isReady_25 (by decide) ?_
      refine lv_icmp_ne (tgt := 32) hx hb dX6_isReady_27 (by decide) (fun c_3 => ?_) (fun c_3 => ?_)
      · refine lv_iinc (v := 2) (lv' := [(2, .int 2), (0, .ref (t 0)), (1, .int (nI q))]) hx hb dX6_isReady_32 hl (k := 0) rfl (by decide) (by decide) rfl (fun ls hl => ?_)
        refine lv_goto (tgt := 2) hx hb dX6_isReady_35 (by decide) ?_
        refine lv_iload_n hx hb dX6_isReady_2 rfl (lv_at hl 0 rfl) ?_
        refine lv_iconst (v := 2) hx hb dX6_isReady_3 (by decide) ?_
        refine lv_icmp_ge (tgt := 38) hx hb dX6_isReady_4 (by decide) (fun _ => ?_) (fun h_9 => absurd (by decide) h_9)
        refine lv_iconst (v := 1) hx hb dX6_isReady_38 (by decide) ?_
        exact W.zret (v := 1) hx hb hr rfl (fun t_9 ht_9 _ => by rw [hQc]; exact ⟨(by unfold s_ready; rw [if_pos c_1, if_neg c_2, if_neg c_3]), ht_9⟩) t_nil dX6_isReady_39
      · refine lv_iconst (v := 0) hx hb dX6_isReady_30 (by decide) ?_
        exact W.zret (v := 0) hx hb hr rfl (fun t_9 ht_9 _ => by rw [hQc]; exact ⟨(by unfold s_ready; rw [if_pos c_1, if_neg c_2, if_pos c_3]), ht_9⟩) t_nil dX6_isReady_31
  · refine lv_aload_n hx hb dX6_isReady_19 rfl (lv_at hl 1 rfl) ?_
    refine lv_iload_n hx hb dX6_isReady_20 rfl (lv_at hl 2 rfl) ?_
    refine lv_iload_n hx hb dX6_isReady_21 rfl (lv_at hl 0 rfl) ?_
    have hPc_22 := hP.sub (ws' := [((t 0), .inr (6, [.ref (t 1), .int (nI lt), .ref (t 2), .ref (a 0), .ref (a2 0), .ref (b 0), .ref (t 4), .ref (t 5), .ref (t 6), .ref (t 7), .ref (t 8), .long tr])), ((a 0), .inr (4, [.int (nI (g 0 0)), .ref (a 1), .ref (a 2), .ref (a 3), .int (nI (g 0 1)), .ref (a 4), .ref (a 5), .ref (a 6), .ref (a 7), .ref (a 8), .ref (a 9), .int (nI (g 0 2))])), ((a 1), .inl (cI, 9, .inl (fun j => nI ((g 1) j)))), ((a 2), .inl (cI, 9, .inl (fun j => nI ((g 2) j)))), ((a 3), .inl (cI, 9, .inl (fun j => nI ((g 3) j)))), ((a 4), .inl (cI, 6, .inl (fun j => nI ((g 4) j)))), ((a 5), .inl (cI, 6, .inl (fun j => nI ((g 5) j)))), ((a 6), .inl (cI, 6, .inl (fun j => nI ((g 6) j)))), ((a 7), .inl (cI, 5, .inl (fun j => nI ((g 7) j)))), ((a 8), .inl (cI, 5, .inl (fun j => nI ((g 8) j)))), ((a 9), .inl (cI, 5, .inl (fun j => ly_h ((g 9) j)))), ((b 0), .inr (3, [.int (nI (d 0)), .int (nI (d 1)), .int (nI (d 2)), .int (nI (d 3)), .int (nI (d 4)), .ref (b 1), .ref (b 2)])), ((b 1), .inl (cI, 9, .inl (fun j => ly_h (ho j)))), ((b 2), .inl (cI, 9, .inl (fun j => nI (le j))))]) [0, 1, 2, 3, 4, 5, 6, 7, 8, 9, 10, 11, 12, 13] rfl
    refine ly_r (va_runV (As := [.int (nI q), .int 0]) (rest := []) ⟨hx, hb, hml, hown, hts⟩ (c_X6_kneeHeld l D cI cC cZ cN t a2 lt tr a g b d ho le q 0 hn) (cwV 2 hts gX6_isReady_X6_kneeHeld rfl rfl rfl (by decide +kernel) ⟨Nat.le_of_ble_eq_true rfl, Nat.le_of_ble_eq_true rfl⟩) (ly_pv hK hN hPc_22 0 6 rfl rfl rfl) rfl rfl hl.1 rfl (lv_room (Nat.le_of_ble_eq_true rfl)) dX6_isReady_22 ⟨Nat.zero_le _, Nat.zero_le _⟩) ?_
    refine lv_bipush (v := (-9)) hx hb dX6_isReady_25 (by decide) ?_
    refine lv_icmp_ne (tgt := 32) hx hb dX6_isReady_27 (by decide) (fun c_4 => ?_) (fun c_4 => ?_)
    · refine lv_iinc (v := 1) (lv' := [(2, .int 1), (0, .ref (t 0)), (1, .int (nI q))]) hx hb dX6_isReady_32 hl (k := 0) rfl (by decide) (by decide) rfl (fun ls hl => ?_)
      refine lv_goto (tgt := 2) hx hb dX6_isReady_35 (by decide) ?_
      refine lv_iload_n hx hb dX6_isReady_2 rfl (lv_at hl 0 rfl) ?_
      refine lv_iconst (v := 2) hx hb dX6_isReady_3 (by decide) ?_
      refine lv_icmp_ge (tgt := 38) hx hb dX6_isReady_4 (by decide) (fun h_9 => absurd h_9 (by decide)) (fun _ => ?_)
      refine lv_aload_n hx hb dX6_isReady_7 rfl (lv_at hl 1 rfl) ?_
      refine va_get (D := D) (ci := 6) (v := .ref (a 0)) (C := RX6) (T := TX6) (N := 12) hx hb hts hiX6 hown hK hP 0 rfl rfl 3 (by decide) f27 (fun _ h9 => h9) rfl dX6_isReady_8 ?_
      refine lv_iload_n hx hb dX6_isReady_11 rfl (lv_at hl 2 rfl) ?_
      refine lv_iload_n hx hb dX6_isReady_12 rfl (lv_at hl 0 rfl) ?_
      have hPc_13 := hP.sub (ws' := [((a 0), .inr (4, [.int (nI (g 0 0)), .ref (a 1), .ref (a 2), .ref (a 3), .int (nI (g 0 1)), .ref (a 4), .ref (a 5), .ref (a 6), .ref (a 7), .ref (a 8), .ref (a 9), .int (nI (g 0 2))])), ((a 1), .inl (cI, 9, .inl (fun j => nI ((g 1) j)))), ((a 2), .inl (cI, 9, .inl (fun j => nI ((g 2) j)))), ((a 3), .inl (cI, 9, .inl (fun j => nI ((g 3) j)))), ((a 4), .inl (cI, 6, .inl (fun j => nI ((g 4) j)))), ((a 5), .inl (cI, 6, .inl (fun j => nI ((g 5) j)))), ((a 6), .inl (cI, 6, .inl (fun j => nI ((g 6) j)))), ((a 7), .inl (cI, 5, .inl (fun j => nI ((g 7) j)))), ((a 8), .inl (cI, 5, .inl (fun j => nI ((g 8) j)))), ((a 9), .inl (cI, 5, .inl (fun j => ly_h ((g 9) j))))]) [1, 2, 3, 4, 5, 6, 7, 8, 9, 10] rfl
      refine ly_r (va_runV (As := [.int (nI q), .int 1]) (rest := []) ⟨hx, hb, hml, hown, hts⟩ (c_X4_needsSide l D cI cC cZ cN a g q 1 (by omega)) (cwV 2 hts gX6_isReady_X4_needsSide rfl rfl rfl (by decide +kernel) ⟨Nat.le_of_ble_eq_true rfl, Nat.le_of_ble_eq_true rfl⟩) (ly_pv hK hN hPc_13 0 4 rfl rfl rfl) rfl rfl hl.1 rfl (lv_room (Nat.le_of_ble_eq_true rfl)) dX6_isReady_13 ⟨Nat.zero_le _, Nat.zero_le _⟩) ?_
      refine lv_if_eq (tgt := 32) hx hb dX6_isReady_16 (by decide) (fun c_5 => ?_) (fun c_5 => ?_)
      · refine lv_iinc (v := 2) (lv' := [(2, .int 2), (0, .ref (t 0)), (1, .int (nI q))]) hx hb dX6_isReady_32 hl (k := 0) rfl (by decide) (by decide) rfl (fun ls hl => ?_)
        refine lv_goto (tgt := 2) hx hb dX6_isReady_35 (by decide) ?_
        refine lv_iload_n hx hb dX6_isReady_2 rfl (lv_at hl 0 rfl) ?_
        refine lv_iconst (v := 2) hx hb dX6_isReady_3 (by decide) ?_
        refine lv_icmp_ge (tgt := 38) hx hb dX6_isReady_4 (by decide) (fun _ => ?_) (fun h_9 => absurd (by decide) h_9)
        refine lv_iconst (v := 1) hx hb dX6_isReady_38 (by decide) ?_
        exact W.zret (v := 1) hx hb hr rfl (fun t_9 ht_9 _ => by rw [hQc]; exact ⟨(by unfold s_ready; rw [if_neg c_1, if_neg c_4, if_pos c_5]), ht_9⟩) t_nil dX6_isReady_39
      · refine lv_aload_n hx hb dX6_isReady_19 rfl (lv_at hl 1 rfl) ?_
        refine lv_iload_n hx hb dX6_isReady_20 rfl (lv_at hl 2 rfl) ?_
        refine lv_iload_n hx hb dX6_isReady_21 rfl (lv_at hl 0 rfl) ?_
        have hPc_22 := hP.sub (ws' := [((t 0), .inr (6, [.ref (t 1), .int (nI lt), .ref (t 2), .ref (a 0), .ref (a2 0), .ref (b 0), .ref (t 4), .ref (t 5), .ref (t 6), .ref (t 7), .ref (t 8), .long tr])), ((a 0), .inr (4, [.int (nI (g 0 0)), .ref (a 1), .ref (a 2), .ref (a 3), .int (nI (g 0 1)), .ref (a 4), .ref (a 5), .ref (a 6), .ref (a 7), .ref (a 8), .ref (a 9), .int (nI (g 0 2))])), ((a 1), .inl (cI, 9, .inl (fun j => nI ((g 1) j)))), ((a 2), .inl (cI, 9, .inl (fun j => nI ((g 2) j)))), ((a 3), .inl (cI, 9, .inl (fun j => nI ((g 3) j)))), ((a 4), .inl (cI, 6, .inl (fun j => nI ((g 4) j)))), ((a 5), .inl (cI, 6, .inl (fun j => nI ((g 5) j)))), ((a 6), .inl (cI, 6, .inl (fun j => nI ((g 6) j)))), ((a 7), .inl (cI, 5, .inl (fun j => nI ((g 7) j)))), ((a 8), .inl (cI, 5, .inl (fun j => nI ((g 8) j)))), ((a 9), .inl (cI, 5, .inl (fun j => ly_h ((g 9) j)))), ((b 0), .inr (3, [.int (nI (d 0)), .int (nI (d 1)), .int (nI (d 2)), .int (nI (d 3)), .int (nI (d 4)), .ref (b 1), .ref (b 2)])), ((b 1), .inl (cI, 9, .inl (fun j => ly_h (ho j)))), ((b 2), .inl (cI, 9, .inl (fun j => nI (le j))))]) [0, 1, 2, 3, 4, 5, 6, 7, 8, 9, 10, 11, 12, 13] rfl
        refine ly_r (va_runV (As := [.int (nI q), .int 1]) (rest := []) ⟨hx, hb, hml, hown, hts⟩ (c_X6_kneeHeld l D cI cC cZ cN t a2 lt tr a g b d ho le q 1 hn) (cwV 2 hts gX6_isReady_X6_kneeHeld rfl rfl rfl (by decide +kernel) ⟨Nat.le_of_ble_eq_true rfl, Nat.le_of_ble_eq_true rfl⟩) (ly_pv hK hN hPc_22 0 6 rfl rfl rfl) rfl rfl hl.1 rfl (lv_room (Nat.le_of_ble_eq_true rfl)) dX6_isReady_22 ⟨Nat.zero_le _, Nat.zero_le _⟩) ?_
        refine lv_bipush (v := (-9)) hx hb dX6_isReady_25 (by decide) ?_
        refine lv_icmp_ne (tgt := 32) hx hb dX6_isReady_27 (by decide) (fun c_6 => ?_) (fun c_6 => ?_)
        · refine lv_iinc (v := 2) (lv' := [(2, .int 2), (0, .ref (t 0)), (1, .int (nI q))]) hx hb dX6_isReady_32 hl (k := 0) rfl (by decide) (by decide) rfl (fun ls hl => ?_)
          refine lv_goto (tgt := 2) hx hb dX6_isReady_35 (by decide) ?_
          refine lv_iload_n hx hb dX6_isReady_2 rfl (lv_at hl 0 rfl) ?_
          refine lv_iconst (v := 2) hx hb dX6_isReady_3 (by decide) ?_
          refine lv_icmp_ge (tgt := 38) hx hb dX6_isReady_4 (by decide) (fun _ => ?_) (fun h_9 => absurd (by decide) h_9)
          refine lv_iconst (v := 1) hx hb dX6_isReady_38 (by decide) ?_
          exact W.zret (v := 1) hx hb hr rfl (fun t_9 ht_9 _ => by rw [hQc]; exact ⟨(by unfold s_ready; rw [if_neg c_1, if_neg c_4, if_neg c_5, if_neg c_6]), ht_9⟩) t_nil dX6_isReady_39
        · refine lv_iconst (v := 0) hx hb dX6_isReady_30 (by decide) ?_
          exact W.zret (v := 0) hx hb hr rfl (fun t_9 ht_9 _ => by rw [hQc]; exact ⟨(by unfold s_ready; rw [if_neg c_1, if_neg c_4, if_neg c_5, if_pos c_6]), ht_9⟩) t_nil dX6_isReady_31
    · refine lv_iconst (v := 0) hx hb dX6_isReady_30 (by decide) ?_
      exact W.zret (v := 0) hx hb hr rfl (fun t_9 ht_9 _ => by rw [hQc]; exact ⟨(by unfold s_ready; rw [if_neg c_1, if_pos c_4]), ht_9⟩) t_nil dX6_isReady_31
