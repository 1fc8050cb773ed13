def jfillB (f : Nat → Int32) (x : Int32) (i : Nat) (v0 : (Nat → Int32)) : (Nat → Int32) := (upd v0 i x)
def jfill (f : Nat → Int32) (x : Int32) : Nat → (Nat → Int32)
  | 0 => f
  | i + 1 => jfillB f x i (jfill f x i)
theorem jfill_at (f : Nat → Int32) (x : Int32) : ∀ k j, j < k → jfill f x k j = x
  | 0, _, h => absurd h (Nat.not_lt_zero _)
  | k + 1, j, h => by
    show jfillB f x k (jfill f x k) j = x
    unfold jfillB upd
    by_cases hj : j = k
    · rw [if_pos hj]
    · rw [if_neg hj]; exact jfill_at f x k j (by omega)
set_option maxHeartbeats 4000000 in
set_option maxRecDepth 100000 in
theorem c_J7_fill_53178 (l : Launch) (D : va_G) (cI cC cZ cN : ClassId) (ad n : Nat) (f : Nat → Int32) (x : Int32) (hz : n < 2 ^ 31) (hD0 : va_D (fun _ => True) [(ad, .inl (cI, n, .inl f))]) : Met l yJ7_fill_53178 wsJ7_fill_53178 (ly_rm 1) (ly_Pre D (ly_tys cI cC cZ cN) [(ad, .inl (cI, n, .inl f))] [.ref ad, .int x]) (ly_Q D [(ad, .inl (cI, n, .inl f))] (fun r_9 w_9 => r_9 = none ∧ w_9 = [(ad, .inl (cI, n, .inl (fun _ => x)))])) 0 0 (ly_in [(ad, .inl (cI, n, .inl f))]) := by
  refine Met.ofW (cc := cJ7_fill_53178) (maxL := 4) (ret := none) (by decide) rfl ?_
  intro p e s m args below meth c s₁ B hml hv
  obtain ⟨rfl, hP, hK, hN⟩ := hv
  have hx := B.exec
  have hb := B.bytes
  have hr := B.returns
  have hts := atoms_spec (ws := wsJ7_fill_53178) B.pre
  have hown : s.vm.findClass RJ7 = some m.cls := findClass_of_methodNamed B.named
  have hlocks := B.notSynchronized
  have hl := lv_entry ([.ref ad, .int x]) (n := 4) (Nat.le_of_ble_eq_true rfl)
  rw [lg_entry_eq]
  generalize (lg_sl ([.ref ad, .int x]) ++ List.replicate (4 - (lg_sl ([.ref ad, .int x])).length) Slot.unset).toArray = ls at hl ⊢
  have hl : lv_has ls 4 [(0, .ref ad), (1, .int x)] := hl
  generalize ([.ref ad, .int x] : List Value).toArray = av at hts ⊢
  obtain ⟨Qc, hQc⟩ : ∃ Qc, Qc = (ly_Q D [(ad, .inl (cI, n, .inl f))] (fun r_9 w_9 => r_9 = none ∧ w_9 = [(ad, .inl (cI, n, .inl (fun _ => x)))])) := ⟨_, rfl⟩
  rw [← hQc]
  obtain ⟨A, hAe⟩ : ∃ A, A = ly_in [(ad, .inl (cI, n, .inl f))] := ⟨_, rfl⟩
  rw [← hAe]
  have hD := ly_self hD0
  rw [← hAe] at hD
  have hmain : ∀ (H : Heap) (locs : List Loc), va_P D vwCl [(ad, .inl (cI, n, .inl f))] H → va_S A s.heap H locs → W p l e (headSpec wsJ7_fill_53178 (ly_rm 1)).room s m av below meth c H locs 0 0 (MQ below Qc av s 0 0 A) (F0 m 0 ls []) := by
    intro H locs hP hS
    refine lv_iconst (v := 0) hx hb dJ7_fill_53178_0 (by decide) ?_
    refine lv_istore_n (lv' := [(2, .int 0), (0, .ref ad), (1, .int x)]) hx hb dJ7_fill_53178_1 rfl hl (by decide) rfl (fun ls hl => ?_)
    refine lv_aload_n hx hb dJ7_fill_53178_2 rfl (lv_at hl 1 rfl) ?_
    refine va_alen (v := (nI n)) hx hb hK hP 0 0 rfl rfl rfl dJ7_fill_53178_3 ?_
    refine lv_istore_n (lv' := [(3, .int (nI n)), (2, .int 0), (0, .ref ad), (1, .int x)]) hx hb dJ7_fill_53178_4 rfl hl (by decide) rfl (fun ls hl => ?_)
    have hloop_5 : ∀ (k i : Nat), i + k = n → ∀ (H : Heap) (locs : List Loc), va_P D vwCl [(ad, .inl (cI, n, .inl (jfill f x i)))] H → va_D A [(ad, .inl (cI, n, .inl (jfill f x i)))] → va_S A s.heap H locs → ∀ ls : Array Slot, lv_has ls 4 [(3, .int (nI n)), (2, .int (nI i)), (0, .ref ad), (1, .int x)] → W p l e (headSpec wsJ7_fill_53178 (ly_rm 1)).room s m av below meth c H locs 0 0 (MQ below Qc av s 0 0 A) (F0 m 5 ls []) := by
      intro k
      induction k with
      | zero =>
        intro i hi_5 H locs hP hD hS ls hl
        obtain rfl : n = i := by omega
        refine lv_iload_n hx hb dJ7_fill_53178_5 rfl (lv_at hl 1 rfl) ?_
        refine lv_iload_n hx hb dJ7_fill_53178_6 rfl (lv_at hl 0 rfl) ?_
        refine lv_icmp_ge (tgt := 20) hx hb dJ7_fill_53178_7 (by decide) (fun _ => ?_) (fun h_9 => absurd (nI_le (Nat.le_refl _) (by omega)) h_9)
        have hP := ly_cong hP 0 rfl (f2 := fun _ => x) (fun j hj => jfill_at f x n j hj)
        have hP : va_P D vwCl [(ad, .inl (cI, n, .inl (fun _ => x)))] H := hP
        have hD : va_D A [(ad, .inl (cI, n, .inl (fun _ => x)))] := ly_addr2 hD rfl
        exact W.vret hx hb hr (fun t_9 ht_9 _ => by rw [hQc]; exact ⟨_, [(ad, .inl (cI, n, .inl (fun _ => x)))], rfl, ⟨rfl, rfl⟩, by simp only [List.map_cons, List.map_nil], by rw [ht_9]; exact hP.sub [0] rfl, by rw [← hAe]; exact hS.F ht_9⟩) hS.2.2 dJ7_fill_53178_20
      | succ k ih_5 =>
        intro i hi_5 H locs hP hD hS ls hl
        refine lv_iload_n hx hb dJ7_fill_53178_5 rfl (lv_at hl 1 rfl) ?_
        refine lv_iload_n hx hb dJ7_fill_53178_6 rfl (lv_at hl 0 rfl) ?_
        refine lv_icmp_ge (tgt := 20) hx hb dJ7_fill_53178_7 (by decide) (fun h_9 => absurd h_9 (nI_ge (by omega) (by omega))) (fun _ => ?_)
        refine lv_aload_n hx hb dJ7_fill_53178_10 rfl (lv_at hl 2 rfl) ?_
        refine lv_iload_n hx hb dJ7_fill_53178_11 rfl (lv_at hl 1 rfl) ?_
        refine lv_iload_n hx hb dJ7_fill_53178_12 rfl (lv_at hl 3 rfl) ?_
        refine ly_iast hx hb hK hP hD hS 0 0 rfl rfl (k := i) hz rfl (by omega) dJ7_fill_53178_13 (fun H locs hP hD hS => ?_)
        have hP : va_P D vwCl [(ad, .inl (cI, n, .inl (upd (jfill f x i) i x)))] H := hP
        have hD : va_D A [(ad, .inl (cI, n, .inl (upd (jfill f x i) i x)))] := hD
        refine lv_iinc (v := (nI (i + 1))) (lv' := [(2, .int (nI (i + 1))), (3, .int (nI n)), (0, .ref ad), (1, .int x)]) hx hb dJ7_fill_53178_14 hl (k := 1) rfl (ly_add rfl rfl) (by decide) rfl (fun ls hl => ?_)
        refine lv_goto (tgt := 5) hx hb dJ7_fill_53178_17 (by decide) ?_
        have e_1 : jfill f x (i + 1) = (upd (jfill f x i) i x) := by show jfillB f x i (jfill f x i) = _; unfold jfillB; rfl
        exact ih_5 (i + 1) (by omega) H locs (by rw [e_1]; exact hP.sub [0] rfl) (by rw [e_1]; exact hD.sub [0] (by decide) rfl) hS ls (by first | exact lv_sub hl [1, 0, 2, 3] rfl | (rw [e_1]; exact lv_sub hl [1, 0, 2, 3] rfl))
    exact hloop_5 n 0 (by omega) H locs (hP.sub [0] rfl) (hD.sub [0] (by decide) rfl) hS ls (lv_sub hl [0, 1, 2, 3] rfl)
  exact hmain _ _ hP va_S.rf

set_option maxHeartbeats 4000000 in
set_option maxRecDepth 100000 in
theorem c_X3_copy (l : Launch) (D : va_G) (cI cC cZ cN : ClassId) (b : Nat → Nat) (d ho le : Nat → Nat) (b2 d2 ho2 le2 : Nat → Nat) (hD0 : va_D (fun _ => True) [((b 0), .inr (3, [.int (nI (d 0)), .int (nI (d 1)), .int (nI (d 2)), .int (nI (d 3)), .int (nI (d 4)), .ref (b 1), .ref (b 2)])), ((b 1), .inl (cI, 9, .inl (fun j => ly_h (ho j)))), ((b 2), .inl (cI, 9, .inl (fun j => nI (le j)))), ((b2 0), .inr (3, [.int (nI (d2 0)), .int (nI (d2 1)), .int (nI (d2 2)), .int (nI (d2 3)), .int (nI (d2 4)), .ref (b2 1), .ref (b2 2)])), ((b2 1), .inl (cI, 9, .inl (fun j => ly_h (ho2 j)))), ((b2 2), .inl (cI, 9, .inl (fun j => nI (le2 j))))]) : Met l yX3_copy wsX3_copy (ly_rm 1) (ly_Pre D (ly_tys cI cC cZ cN) [((b 0), .inr (3, [.int (nI (d 0)), .int (nI (d 1)), .int (nI (d 2)), .int (nI (d 3)), .int (nI (d 4)), .ref (b 1), .ref (b 2)])), ((b 1), .inl (cI, 9, .inl (fun j => ly_h (ho j)))), ((b 2), .inl (cI, 9, .inl (fun j => nI (le j)))), ((b2 0), .inr (3, [.int (nI (d2 0)), .int (nI (d2 1)), .int (nI (d2 2)), .int (nI (d2 3)), .int (nI (d2 4)), .ref (b2 1), .ref (b2 2)])), ((b2 1), .inl (cI, 9, .inl (fun j => ly_h (ho2 j)))), ((b2 2), .inl (cI, 9, .inl (fun j => nI (le2 j))))] [.ref (b 0), .ref (b2 0)]) (ly_Q D [((b 0), .inr (3, [.int (nI (d 0)), .int (nI (d 1)), .int (nI (d 2)), .int (nI (d 3)), .int (nI (d 4)), .ref (b 1), .ref (b 2)])), ((b 1), .inl (cI, 9, .inl (fun j => ly_h (ho j)))), ((b 2), .inl (cI, 9, .inl (fun j => nI (le j)))), ((b2 0), .inr (3, [.int (nI (d2 0)), .int (nI (d2 1)), .int (nI (d2 2)), .int (nI (d2 3)), .int (nI (d2 4)), .ref (b2 1), .ref (b2 2)])), ((b2 1), .inl (cI, 9, .inl (fun j => ly_h (ho2 j)))), ((b2 2), .inl (cI, 9, .inl (fun j => nI (le2 j))))] (fun r_9 w_9 => r_9 = none ∧ w_9 = [((b 0), .inr (3, [.int (nI (d2 0)), .int (nI (d2 1)), .int (nI (d2 2)), .int (nI (d2 3)), .int (nI (d2 4)), .ref (b 1), .ref (b 2)])), ((b 1), .inl (cI, 9, .inl (fun j => ly_h (ho2 j)))), ((b 2), .inl (cI, 9, .inl (fun j => nI (le2 j)))), ((b2 0), .inr (3, [.int (nI (d2 0)), .int (nI (d2 1)), .int (nI (d2 2)), .int (nI (d2 3)), .int (nI (d2 4)), .ref (b2 1), .ref (b2 2)])), ((b2 1), .inl (cI, 9, .inl (fun j => ly_h (ho2 j)))), ((b2 2), .inl (cI, 9, .inl (fun j => nI (le2 j))))])) 0 0 (ly_in [((b 0), .inr (3, [.int (nI (d 0)), .int (nI (d 1)), .int (nI (d 2)), .int (nI (d 3)), .int (nI (d 4)), .ref (b 1), .ref (b 2)])), ((b 1), .inl (cI, 9, .inl (fun j => ly_h (ho j)))), ((b 2), .inl (cI, 9, .inl (fun j => nI (le j)))), ((b2 0), .inr (3, [.int (nI (d2 0)), .int (nI (d2 1)), .int (nI (d2 2)), .int (nI (d2 3)), .int (nI (d2 4)), .ref (b2 1), .ref (b2 2)])), ((b2 1), .inl (cI, 9, .inl (fun j => ly_h (ho2 j)))), ((b2 2), .inl (cI, 9, .inl (fun j => nI (le2 j))))]) := by
  refine Met.ofW (cc := cX3_copy) (maxL := 2) (ret := none) (by decide) rfl ?_
  intro p e s m args below meth c s₁ B hml hv
  obtain ⟨rfl, hP, hK, hN⟩ := hv
  have hx := B.exec
  have hb := B.bytes
  have hr := B.returns
  have hts := atoms_spec (ws := wsX3_copy) B.pre
  have hown : s.vm.findClass RX3 = some m.cls := findClass_of_methodNamed B.named
  have hlocks := B.notSynchronized
  have hl := lv_entry ([.ref (b 0), .ref (b2 0)]) (n := 2) (Nat.le_of_ble_eq_true rfl)
  rw [lg_entry_eq]
  generalize (lg_sl ([.ref (b 0), .ref (b2 0)]) ++ List.replicate (2 - (lg_sl ([.ref (b 0), .ref (b2 0)])).length) Slot.unset).toArray = ls at hl ⊢
  have hl : lv_has ls 2 [(0, .ref (b 0)), (1, .ref (b2 0))] := hl
  generalize ([.ref (b 0), .ref (b2 0)] : List Value).toArray = av at hts ⊢
  obtain ⟨Qc, hQc⟩ : ∃ Qc, Qc = (ly_Q D [((b 0), .inr (3, [.int (nI (d 0)), .int (nI (d 1)), .int (nI (d 2)), .int (nI (d 3)), .int (nI (d 4)), .ref (b 1), .ref (b 2)])), ((b 1), .inl (cI, 9, .inl (fun j => ly_h (ho j)))), ((b 2), .inl (cI, 9, .inl (fun j => nI (le j)))), ((b2 0), .inr (3, [.int (nI (d2 0)), .int (nI (d2 1)), .int (nI (d2 2)), .int (nI (d2 3)), .int (nI (d2 4)), .ref (b2 1), .ref (b2 2)])), ((b2 1), .inl (cI, 9, .inl (fun j => ly_h (ho2 j)))), ((b2 2), .inl (cI, 9, .inl (fun j => nI (le2 j))))] (fun r_9 w_9 => r_9 = none ∧ w_9 = [((b 0), .inr (3, [.int (nI (d2 0)), .int (nI (d2 1)), .int (nI (d2 2)), .int (nI (d2 3)), .int (nI (d2 4)), .ref (b 1), .ref (b 2)])), ((b 1), .inl (cI, 9, .inl (fun j => ly_h (ho2 j)))), ((b 2), .inl (cI, 9, .inl (fun j => nI (le2 j)))), ((b2 0), .inr (3, [.int (nI (d2 0)), .int (nI (d2 1)), .int (nI (d2 2)), .int (nI (d2 3)), .int (nI (d2 4)), .ref (b2 1), .ref (b2 2)])), ((b2 1), .inl (cI, 9, .inl (fun j => ly_h (ho2 j)))), ((b2 2), .inl (cI, 9, .inl (fun j => nI (le2 j))))])) := ⟨_, rfl⟩
  rw [← hQc]
  obtain ⟨A, hAe⟩ : ∃ A, A = ly_in [((b 0), .inr (3, [.int (nI (d 0)), .int (nI (d 1)), .int (nI (d 2)), .int (nI (d 3)), .int (nI (d 4)), .ref (b 1), .ref (b 2)])), ((b 1), .inl (cI, 9, .inl (fun j => ly_h (ho j)))), ((b 2), .inl (cI, 9, .inl (fun j => nI (le j)))), ((b2 0), .inr (3, [.int (nI (d2 0)), .int (nI (d2 1)), .int (nI (d2 2)), .int (nI (d2 3)), .int (nI (d2 4)), .ref (b2 1), .ref (b2 2)])), ((b2 1), .inl (cI, 9, .inl (fun j => ly_h (ho2 j)))), ((b2 2), .inl (cI, 9, .inl (fun j => nI (le2 j))))] := ⟨_, rfl⟩
  rw [← hAe]
  have hD := ly_self hD0
  rw [← hAe] at hD
  have f9 := hts (.fieldLink RX3 9 "KneesLent$Now" "day" "I") (by decide +kernel)
  have f15 := hts (.fieldLink RX3 15 "KneesLent$Now" "oil" "I") (by decide +kernel)
  have f18 := hts (.fieldLink RX3 18 "KneesLent$Now" "fines" "I") (by decide +kernel)
  have f21 := hts (.fieldLink RX3 21 "KneesLent$Now" "gave" "I") (by decide +kernel)
  have f24 := hts (.fieldLink RX3 24 "KneesLent$Now" "pledged" "I") (by decide +kernel)
  have f27 := hts (.fieldLink RX3 27 "KneesLent$Now" "holder" "[I") (by decide +kernel)
  have f31 := hts (.fieldLink RX3 31 "KneesLent$Now" "left" "[I") (by decide +kernel)
  have hiX3 : ∀ w ∈ u_ws RX3 TX3 7, w ∈ wsX3_copy := by decide +kernel
  have hmain : ∀ (H : Heap) (locs : List Loc), va_P D vwCl [((b 0), .inr (3, [.int (nI (d 0)), .int (nI (d 1)), .int (nI (d 2)), .int (nI (d 3)), .int (nI (d 4)), .ref (b 1), .ref (b 2)])), ((b 1), .inl (cI, 9, .inl (fun j => ly_h (ho j)))), ((b 2), .inl (cI, 9, .inl (fun j => nI (le j)))), ((b2 0), .inr (3, [.int (nI (d2 0)), .int (nI (d2 1)), .int (nI (d2 2)), .int (nI (d2 3)), .int (nI (d2 4)), .ref (b2 1), .ref (b2 2)])), ((b2 1), .inl (cI, 9, .inl (fun j => ly_h (ho2 j)))), ((b2 2), .inl (cI, 9, .inl (fun j => nI (le2 j))))] H → va_S A s.heap H locs → W p l e (headSpec wsX3_copy (ly_rm 1)).room s m av below meth c H locs 0 0 (MQ below Qc av s 0 0 A) (F0 m 0 ls []) := by
    intro H locs hP hS
    refine lv_aload_n hx hb dX3_copy_0 rfl (lv_at hl 0 rfl) ?_
    refine lv_aload_n hx hb dX3_copy_1 rfl (lv_at hl 1 rfl) ?_
    refine va_get (D := D) (ci := 3) (v := .int (nI (d2 0))) (C := RX3) (T := TX3) (N := 7) hx hb hts hiX3 hown hK hP 3 rfl rfl 0 (by decide) f9 (fun _ h9 => h9) rfl dX3_copy_2 ?_
    refine va_put (D := D) (ci := 3) (v := .int (nI (d2 0))) (ty := .int) (C := RX3) (T := TX3) (N := 7) hx hb hts hiX3 tyX3 tyX3_ok nmX3 hown hK hP hD hS 0 rfl rfl 0 (by decide) f9 (fun _ h9 => h9) rfl (by decide +kernel) rfl rfl (Nat.le_of_ble_eq_true rfl) dX3_copy_5 (fun H locs hP hD hS => ?_)
    have hP : va_P D vwCl [((b 0), .inr (3, [.int (nI (d2 0)), .int (nI (d 1)), .int (nI (d 2)), .int (nI (d 3)), .int (nI (d 4)), .ref (b 1), .ref (b 2)])), ((b 1), .inl (cI, 9, .inl (fun j => ly_h (ho j)))), ((b 2), .inl (cI, 9, .inl (fun j => nI (le j)))), ((b2 0), .inr (3, [.int (nI (d2 0)), .int (nI (d2 1)), .int (nI (d2 2)), .int (nI (d2 3)), .int (nI (d2 4)), .ref (b2 1), .ref (b2 2)])), ((b2 1), .inl (cI, 9, .inl (fun j => ly_h (ho2 j)))), ((b2 2), .inl (cI, 9, .inl (fun j => nI (le2 j))))] H := hP
    have hD : va_D A [((b 0), .inr (3, [.int (nI (d2 0)), .int (nI (d 1)), .int (nI (d 2)), .int (nI (d 3)), .int (nI (d 4)), .ref (b 1), .ref (b 2)])), ((b 1), .inl (cI, 9, .inl (fun j => ly_h (ho j)))), ((b 2), .inl (cI, 9, .inl (fun j => nI (le j)))), ((b2 0), .inr (3, [.int (nI (d2 0)), .int (nI (d2 1)), .int (nI (d2 2)), .int (nI (d2 3)), .int (nI (d2 4)), .ref (b2 1), .ref (b2 2)])), ((b2 1), .inl (cI, 9, .inl (fun j => ly_h (ho2 j)))), ((b2 2), .inl (cI, 9, .inl (fun j => nI (le2 j))))] := hD
    refine lv_aload_n hx hb dX3_copy_8 rfl (lv_at hl 0 rfl) ?_
    refine lv_aload_n hx hb dX3_copy_9 rfl (lv_at hl 1 rfl) ?_
    refine va_get (D := D) (ci := 3) (v := .int (nI (d2 1))) (C := RX3) (T := TX3) (N := 7) hx hb hts hiX3 hown hK hP 3 rfl rfl 1 (by decide) f15 (fun _ h9 => h9) rfl dX3_copy_10 ?_
    refine va_put (D := D) (ci := 3) (v := .int (nI (d2 1))) (ty := .int) (C := RX3) (T := TX3) (N := 7) hx hb hts hiX3 tyX3 tyX3_ok nmX3 hown hK hP hD hS 0 rfl rfl 1 (by decide) f15 (fun _ h9 => h9) rfl (by decide +kernel) rfl rfl (Nat.le_of_ble_eq_true rfl) dX3_copy_13 (fun H locs hP hD hS => ?_)
    have hP : va_P D vwCl [((b 0), .inr (3, [.int (nI (d2 0)), .int (nI (d2 1)), .int (nI (d 2)), .int (nI (d 3)), .int (nI (d 4)), .ref (b 1), .ref (b 2)])), ((b 1), .inl (cI, 9, .inl (fun j => ly_h (ho j)))), ((b 2), .inl (cI, 9, .inl (fun j => nI (le j)))), ((b2 0), .inr (3, [.int (nI (d2 0)), .int (nI (d2 1)), .int (nI (d2 2)), .int (nI (d2 3)), .int (nI (d2 4)), .ref (b2 1), .ref (b2 2)])), ((b2 1), .inl (cI, 9, .inl (fun j => ly_h (ho2 j)))), ((b2 2), .inl (cI, 9, .inl (fun j => nI (le2 j))))] H := hP
    have hD : va_D A [((b 0), .inr (3, [.int (nI (d2 0)), .int (nI (d2 1)), .int (nI (d 2)), .int (nI (d 3)), .int (nI (d 4)), .ref (b 1), .ref (b 2)])), ((b 1), .inl (cI, 9, .inl (fun j => ly_h (ho j)))), ((b 2), .inl (cI, 9, .inl (fun j => nI (le j)))), ((b2 0), .inr (3, [.int (nI (d2 0)), .int (nI (d2 1)), .int (nI (d2 2)), .int (nI (d2 3)), .int (nI (d2 4)), .ref (b2 1), .ref (b2 2)])), ((b2 1), .inl (cI, 9, .inl (fun j => ly_h (ho2 j)))), ((b2 2), .inl (cI, 9, .inl (fun j => nI (le2 j))))] := hD
    refine lv_aload_n hx hb dX3_copy_16 rfl (lv_at hl 0 rfl) ?_
    refine lv_aload_n hx hb dX3_copy_17 rfl (lv_at hl 1 rfl) ?_
    refine va_get (D := D) (ci := 3) (v := .int (nI (d2 2))) (C := RX3) (T := TX3) (N := 7) hx hb hts hiX3 hown hK hP 3 rfl rfl 2 (by decide) f18 (fun _ h9 => h9) rfl dX3_copy_18 ?_
    refine va_put (D := D) (ci := 3) (v := .int (nI (d2 2))) (ty := .int) (C := RX3) (T := TX3) (N := 7) hx hb hts hiX3 tyX3 tyX3_ok nmX3 hown hK hP hD hS 0 rfl rfl 2 (by decide) f18 (fun _ h9 => h9) rfl (by decide +kernel) rfl rfl (Nat.le_of_ble_eq_true rfl) dX3_copy_21 (fun H locs hP hD hS => ?_)
    have hP : va_P D vwCl [((b 0), .inr (3, [.int (nI (d2 0)), .int (nI (d2 1)), .int (nI (d2 2)), .int (nI (d 3)), .int (nI (d 4)), .ref (b 1), .ref (b 2)])), ((b 1), .inl (cI, 9, .inl (fun j => ly_h (ho j)))), ((b 2), .inl (cI, 9, .inl (fun j => nI (le j)))), ((b2 0), .inr (3, [.int (nI (d2 0)), .int (nI (d2 1)), .int (nI (d2 2)), .int (nI (d2 3)), .int (nI (d2 4)), .ref (b2 1), .ref (b2 2)])), ((b2 1), .inl (cI, 9, .inl (fun j => ly_h (ho2 j)))), ((b2 2), .inl (cI, 9, .inl (fun j => nI (le2 j))))] H := hP
    have hD : va_D A [((b 0), .inr (3, [.int (nI (d2 0)), .int (nI (d2 1)), .int (nI (d2 2)), .int (nI (d 3)), .int (nI (d 4)), .ref (b 1), .ref (b 2)])), ((b 1), .inl (cI, 9, .inl (fun j => ly_h (ho j)))), ((b 2), .inl (cI, 9, .inl (fun j => nI (le j)))), ((b2 0), .inr (3, [.int (nI (d2 0)), .int (nI (d2 1)), .int (nI (d2 2)), .int (nI (d2 3)), .int (nI (d2 4)), .ref (b2 1), .ref (b2 2)])), ((b2 1), .inl (cI, 9, .inl (fun j => ly_h (ho2 j)))), ((b2 2), .inl (cI, 9, .inl (fun j => nI (le2 j))))] := hD
    refine lv_aload_n hx hb dX3_copy_24 rfl (lv_at hl 0 rfl) ?_
    refine lv_aload_n hx hb dX3_copy_25 rfl (lv_at hl 1 rfl) ?_
    refine va_get (D := D) (ci := 3) (v := .int (nI (d2 3))) (C := RX3) (T := TX3) (N := 7) hx hb hts hiX3 hown hK hP 3 rfl rfl 3 (by decide) f21 (fun _ h9 => h9) rfl dX3_copy_26 ?_
    refine va_put (D := D) (ci := 3) (v := .int (nI (d2 3))) (ty := .int) (C := RX3) (T := TX3) (N := 7) hx hb hts hiX3 tyX3 tyX3_ok nmX3 hown hK hP hD hS 0 rfl rfl 3 (by decide) f21 (fun _ h9 => h9) rfl (by decide +kernel) rfl rfl (Nat.le_of_ble_eq_true rfl) dX3_copy_29 (fun H locs hP hD hS => ?_)
    have hP : va_P D vwCl [((b 0), .inr (3, [.int (nI (d2 0)), .int (nI (d2 1)), .int (nI (d2 2)), .int (nI (d2 3)), .int (nI (d 4)), .ref (b 1), .ref (b 2)])), ((b 1), .inl (cI, 9, .inl (fun j => ly_h (ho j)))), ((b 2), .inl (cI, 9, .inl (fun j => nI (le j)))), ((b2 0), .inr (3, [.int (nI (d2 0)), .int (nI (d2 1)), .int (nI (d2 2)), .int (nI (d2 3)), .int (nI (d2 4)), .ref (b2 1), .ref (b2 2)])), ((b2 1), .inl (cI, 9, .inl (fun j => ly_h (ho2 j)))), ((b2 2), .inl (cI, 9, .inl (fun j => nI (le2 j))))] H := hP
    have hD : va_D A [((b 0), .inr (3, [.int (nI (d2 0)), .int (nI (d2 1)), .int (nI (d2 2)), .int (nI (d2 3)), .int (nI (d 4)), .ref (b 1), .ref (b 2)])), ((b 1), .inl (cI, 9, .inl (fun j => ly_h (ho j)))), ((b 2), .inl (cI, 9, .inl (fun j => nI (le j)))), ((b2 0), .inr (3, [.int (nI (d2 0)), .int (nI (d2 1)), .int (nI (d2 2)), .int (nI (d2 3)), .int (nI (d2 4)), .ref (b2 1), .ref (b2 2)])), ((b2 1), .inl (cI, 9, .inl (fun j => ly_h (ho2 j)))), ((b2 2), .inl (cI, 9, .inl (fun j => nI (le2 j))))] := hD
    refine lv_aload_n hx hb dX3_copy_32 rfl (lv_at hl 0 rfl) ?_
    refine lv_aload_n hx hb dX3_copy_33 rfl (lv_at hl 1 rfl) ?_
    refine va_get (D := D) (ci := 3) (v := .int (nI (d2 4))) (C := RX3) (T := TX3) (N := 7) hx hb hts hiX3 hown hK hP 3 rfl rfl 4 (by decide) f24 (fun _ h9 => h9) rfl dX3_copy_34 ?_
    refine va_put (D := D) (ci := 3) (v := .int (nI (d2 4))) (ty := .int) (C := RX3) (T := TX3) (N := 7) hx hb hts hiX3 tyX3 tyX3_ok nmX3 hown hK hP hD hS 0 rfl rfl 4 (by decide) f24 (fun _ h9 => h9) rfl (by decide +kernel) rfl rfl (Nat.le_of_ble_eq_true rfl) dX3_copy_37 (fun H locs hP hD hS => ?_)
    have hP : va_P D vwCl [((b 0), .inr (3, [.int (nI (d2 0)), .int (nI (d2 1)), .int (nI (d2 2)), .int (nI (d2 3)), .int (nI (d2 4)), .ref (b 1), .ref (b 2)])), ((b 1), .inl (cI, 9, .inl (fun j => ly_h (ho j)))), ((b 2), .inl (cI, 9, .inl (fun j => nI (le j)))), ((b2 0), .inr (3, [.int (nI (d2 0)), .int (nI (d2 1)), .int (nI (d2 2)), .int (nI (d2 3)), .int (nI (d2 4)), .ref (b2 1), .ref (b2 2)])), ((b2 1), .inl (cI, 9, .inl (fun j => ly_h (ho2 j)))), ((b2 2), .inl (cI, 9, .inl (fun j => nI (le2 j))))] H := hP
    have hD : va_D A [((b 0), .inr (3, [.int (nI (d2 0)), .int (nI (d2 1)), .int (nI (d2 2)), .int (nI (d2 3)), .int (nI (d2 4)), .ref (b 1), .ref (b 2)])), ((b 1), .inl (cI, 9, .inl (fun j => ly_h (ho j)))), ((b 2), .inl (cI, 9, .inl (fun j => nI (le j)))), ((b2 0), .inr (3, [.int (nI (d2 0)), .int (nI (d2 1)), .int (nI (d2 2)), .int (nI (d2 3)), .int (nI (d2 4)), .ref (b2 1), .ref (b2 2)])), ((b2 1), .inl (cI, 9, .inl (fun j => ly_h (ho2 j)))), ((b2 2), .inl (cI, 9, .inl (fun j => nI (le2 j))))] := hD
    refine lv_aload_n hx hb dX3_copy_40 rfl (lv_at hl 1 rfl) ?_
    refine va_get (D := D) (ci := 3) (v := .ref (b2 1)) (C := RX3) (T := TX3) (N := 7) hx hb hts hiX3 hown hK hP 3 rfl rfl 5 (by decide) f27 (fun _ h9 => h9) rfl dX3_copy_41 ?_
    refine lv_iconst (v := 0) hx hb dX3_copy_44 (by decide) ?_
    refine lv_aload_n hx hb dX3_copy_45 rfl (lv_at hl 0 rfl) ?_
    refine va_get (D := D) (ci := 3) (v := .ref (b 1)) (C := RX3) (T := TX3) (N := 7) hx hb hts hiX3 hown hK hP 0 rfl rfl 5 (by decide) f27 (fun _ h9 => h9) rfl dX3_copy_46 ?_
    refine lv_iconst (v := 0) hx hb dX3_copy_49 (by decide) ?_
    refine lv_bipush (v := 9) hx hb dX3_copy_50 (by decide) ?_
    refine ly_acopy hx hb (by rw [hml]; exact hl.1.symm) hown (hts (.methodLink RX3 45 arraycopyName) (by decide +kernel)) (hts (.native arraycopyName) (by decide +kernel)) (hts (.static arraycopyName) (by decide +kernel)) (hts (.initialized "java/lang/System") (by decide +kernel)) hK hP hD hS 4 1 0 rfl rfl rfl rfl (by decide) (Nat.le_of_ble_eq_true rfl) (Nat.le_of_ble_eq_true rfl) dX3_copy_52 (fun H locs hP hD hS => ?_)
    have hP : va_P D vwCl [((b 0), .inr (3, [.int (nI (d2 0)), .int (nI (d2 1)), .int (nI (d2 2)), .int (nI (d2 3)), .int (nI (d2 4)), .ref (b 1), .ref (b 2)])), ((b 1), .inl (cI, 9, .inl (fun j => ly_h (ho2 j)))), ((b 2), .inl (cI, 9, .inl (fun j => nI (le j)))), ((b2 0), .inr (3, [.int (nI (d2 0)), .int (nI (d2 1)), .int (nI (d2 2)), .int (nI (d2 3)), .int (nI (d2 4)), .ref (b2 1), .ref (b2 2)])), ((b2 1), .inl (cI, 9, .inl (fun j => ly_h (ho2 j)))), ((b2 2), .inl (cI, 9, .inl (fun j => nI (le2 j))))] H := hP
    have hD : va_D A [((b 0), .inr (3, [.int (nI (d2 0)), .int (nI (d2 1)), .int (nI (d2 2)), .int (nI (d2 3)), .int (nI (d2 4)), .ref (b 1), .ref (b 2)])), ((b 1), .inl (cI, 9, .inl (fun j => ly_h (ho2 j)))), ((b 2), .inl (cI, 9, .inl (fun j => nI (le j)))), ((b2 0), .inr (3, [.int (nI (d2 0)), .int (nI (d2 1)), .int (nI (d2 2)), .int (nI (d2 3)), .int (nI (d2 4)), .ref (b2 1), .ref (b2 2)])), ((b2 1), .inl (cI, 9, .inl (fun j => ly_h (ho2 j)))), ((b2 2), .inl (cI, 9, .inl (fun j => nI (le2 j))))] := hD
    refine lv_aload_n hx hb dX3_copy_55 rfl (lv_at hl 1 rfl) ?_
    refine va_get (D := D) (ci := 3) (v := .ref (b2 2)) (C := RX3) (T := TX3) (N := 7) hx hb hts hiX3 hown hK hP 3 rfl rfl 6 (by decide) f31 (fun _ h9 => h9) rfl dX3_copy_56 ?_
    refine lv_iconst (v := 0) hx hb dX3_copy_59 (by decide) ?_
    refine lv_aload_n hx hb dX3_copy_60 rfl (lv_at hl 0 rfl) ?_
    refine va_get (D := D) (ci := 3) (v := .ref (b 2)) (C := RX3) (T := TX3) (N := 7) hx hb hts hiX3 hown hK hP 0 rfl rfl 6 (by decide) f31 (fun _ h9 => h9) rfl dX3_copy_61 ?_
    refine lv_iconst (v := 0) hx hb dX3_copy_64 (by decide) ?_
    refine lv_bipush (v := 9) hx hb dX3_copy_65 (by decide) ?_
    refine ly_acopy hx hb (by rw [hml]; exact hl.1.symm) hown (hts (.methodLink RX3 45 arraycopyName) (by decide +kernel)) (hts (.native arraycopyName) (by decide +kernel)) (hts (.static arraycopyName) (by decide +kernel)) (hts (.initialized "java/lang/System") (by decide +kernel)) hK hP hD hS 5 2 0 rfl rfl rfl rfl (by decide) (Nat.le_of_ble_eq_true rfl) (Nat.le_of_ble_eq_true rfl) dX3_copy_67 (fun H locs hP hD hS => ?_)
    have hP : va_P D vwCl [((b 0), .inr (3, [.int (nI (d2 0)), .int (nI (d2 1)), .int (nI (d2 2)), .int (nI (d2 3)), .int (nI (d2 4)), .ref (b 1), .ref (b 2)])), ((b 1), .inl (cI, 9, .inl (fun j => ly_h (ho2 j)))), ((b 2), .inl (cI, 9, .inl (fun j => nI (le2 j)))), ((b2 0), .inr (3, [.int (nI (d2 0)), .int (nI (d2 1)), .int (nI (d2 2)), .int (nI (d2 3)), .int (nI (d2 4)), .ref (b2 1), .ref (b2 2)])), ((b2 1), .inl (cI, 9, .inl (fun j => ly_h (ho2 j)))), ((b2 2), .inl (cI, 9, .inl (fun j => nI (le2 j))))] H := hP
    have hD : va_D A [((b 0), .inr (3, [.int (nI (d2 0)), .int (nI (d2 1)), .int (nI (d2 2)), .int (nI (d2 3)), .int (nI (d2 4)), .ref (b 1), .ref (b 2)])), ((b 1), .inl (cI, 9, .inl (fun j => ly_h (ho2 j)))), ((b 2), .inl (cI, 9, .inl (fun j => nI (le2 j)))), ((b2 0), .inr (3, [.int (nI (d2 0)), .int (nI (d2 1)), .int (nI (d2 2)), .int (nI (d2 3)), .int (nI (d2 4)), .ref (b2 1), .ref (b2 2)])), ((b2 1), .inl (cI, 9, .inl (fun j => ly_h (ho2 j)))), ((b2 2), .inl (cI, 9, .inl (fun j => nI (le2 j))))] := hD
    exact W.vret hx hb hr (fun t_9 ht_9 _ => by rw [hQc]; exact ⟨_, [((b 0), .inr (3, [.int (nI (d2 0)), .int (nI (d2 1)), .int (nI (d2 2)), .int (nI (d2 3)), .int (nI (d2 4)), .ref (b 1), .ref (b 2)])), ((b 1), .inl (cI, 9, .inl (fun j => ly_h (ho2 j)))), ((b 2), .inl (cI, 9, .inl (fun j => nI (le2 j)))), ((b2 0), .inr (3, [.int (nI (d2 0)), .int (nI (d2 1)), .int (nI (d2 2)), .int (nI (d2 3)), .int (nI (d2 4)), .ref (b2 1), .ref (b2 2)])), ((b2 1), .inl (cI, 9, .inl (fun j => ly_h (ho2 j)))), ((b2 2), .inl (cI, 9, .inl (fun j => nI (le2 j))))], rfl, ⟨rfl, rfl⟩, by simp only [List.map_cons, List.map_nil], by rw [ht_9]; exact hP.sub [0, 1, 2, 3, 4, 5] rfl, by rw [← hAe]; exact hS.F ht_9⟩) hS.2.2 dX3_copy_70
  exact hmain _ _ hP va_S.rf

set_option maxHeartbeats 4000000 in
set_option maxRecDepth 100000 in
theorem c_X3_begin (l : Launch) (D : va_G) (cI cC cZ cN : ClassId) (b : Nat → Nat) (d ho le : Nat → Nat) (a : Nat → Nat) (g : Nat → Nat → Nat) (hD0 : va_D (fun _ => True) [((b 0), .inr (3, [.int (nI (d 0)), .int (nI (d 1)), .int (nI (d 2)), .int (nI (d 3)), .int (nI (d 4)), .ref (b 1), .ref (b 2)])), ((b 1), .inl (cI, 9, .inl (fun j => ly_h (ho j)))), ((b 2), .inl (cI, 9, .inl (fun j => nI (le j)))), ((a 0), .inr (4, [.int (nI (g 0 0)), .ref (a 1), .ref (a 2), .ref (a 3), .int (nI (g 0 1)), .ref (a 4), .ref (a 5), .ref (a 6), .ref (a 7), .ref (a 8), .ref (a 9), .int (nI (g 0 2))])), ((a 1), .inl (cI, 9, .inl (fun j => nI ((g 1) j)))), ((a 2), .inl (cI, 9, .inl (fun j => nI ((g 2) j)))), ((a 3), .inl (cI, 9, .inl (fun j => nI ((g 3) j)))), ((a 4), .inl (cI, 6, .inl (fun j => nI ((g 4) j)))), ((a 5), .inl (cI, 6, .inl (fun j => nI ((g 5) j)))), ((a 6), .inl (cI, 6, .inl (fun j => nI ((g 6) j)))), ((a 7), .inl (cI, 5, .inl (fun j => nI ((g 7) j)))), ((a 8), .inl (cI, 5, .inl (fun j => nI ((g 8) j)))), ((a 9), .inl (cI, 5, .inl (fun j => ly_h ((g 9) j))))]) : Met l yX3_begin wsX3_begin (ly_rm 2) (ly_Pre D (ly_tys cI cC cZ cN) [((b 0), .inr (3, [.int (nI (d 0)), .int (nI (d 1)), .int (nI (d 2)), .int (nI (d 3)), .int (nI (d 4)), .ref (b 1), .ref (b 2)])), ((b 1), .inl (cI, 9, .inl (fun j => ly_h (ho j)))), ((b 2), .inl (cI, 9, .inl (fun j => nI (le j)))), ((a 0), .inr (4, [.int (nI (g 0 0)), .ref (a 1), .ref (a 2), .ref (a 3), .int (nI (g 0 1)), .ref (a 4), .ref (a 5), .ref (a 6), .ref (a 7), .ref (a 8), .ref (a 9), .int (nI (g 0 2))])), ((a 1), .inl (cI, 9, .inl (fun j => nI ((g 1) j)))), ((a 2), .inl (cI, 9, .inl (fun j => nI ((g 2) j)))), ((a 3), .inl (cI, 9, .inl (fun j => nI ((g 3) j)))), ((a 4), .inl (cI, 6, .inl (fun j => nI ((g 4) j)))), ((a 5), .inl (cI, 6, .inl (fun j => nI ((g 5) j)))), ((a 6), .inl (cI, 6, .inl (fun j => nI ((g 6) j)))), ((a 7), .inl (cI, 5, .inl (fun j => nI ((g 7) j)))), ((a 8), .inl (cI, 5, .inl (fun j => nI ((g 8) j)))), ((a 9), .inl (cI, 5, .inl (fun j => ly_h ((g 9) j))))] [.ref (b 0), .ref (a 0)]) (ly_Q D [((b 0), .inr (3, [.int (nI (d 0)), .int (nI (d 1)), .int (nI (d 2)), .int (nI (d 3)), .int (nI (d 4)), .ref (b 1), .ref (b 2)])), ((b 1), .inl (cI, 9, .inl (fun j => ly_h (ho j)))), ((b 2), .inl (cI, 9, .inl (fun j => nI (le j)))), ((a 0), .inr (4, [.int (nI (g 0 0)), .ref (a 1), .ref (a 2), .ref (a 3), .int (nI (g 0 1)), .ref (a 4), .ref (a 5), .ref (a 6), .ref (a 7), .ref (a 8), .ref (a 9), .int (nI (g 0 2))])), ((a 1), .inl (cI, 9, .inl (fun j => nI ((g 1) j)))), ((a 2), .inl (cI, 9, .inl (fun j => nI ((g 2) j)))), ((a 3), .inl (cI, 9, .inl (fun j => nI ((g 3) j)))), ((a 4), .inl (cI, 6, .inl (fun j => nI ((g 4) j)))), ((a 5), .inl (cI, 6, .inl (fun j => nI ((g 5) j)))), ((a 6), .inl (cI, 6, .inl (fun j => nI ((g 6) j)))), ((a 7), .inl (cI, 5, .inl (fun j => nI ((g 7) j)))), ((a 8), .inl (cI, 5, .inl (fun j => nI ((g 8) j)))), ((a 9), .inl (cI, 5, .inl (fun j => ly_h ((g 9) j))))] (fun r_9 w_9 => r_9 = none ∧ w_9 = [((b 0), .inr (3, [.int (nI ((fun _ => 0) 0)), .int (nI ((fun _ => 0) 1)), .int (nI ((fun _ => 0) 2)), .int (nI ((fun _ => 0) 3)), .int (nI ((fun _ => 0) 4)), .ref (b 1), .ref (b 2)])), ((b 1), .inl (cI, 9, .inl (fun j => ly_h ((fun _ => 0) j)))), ((b 2), .inl (cI, 9, .inl (fun j => nI ((g 3) j)))), ((a 0), .inr (4, [.int (nI (g 0 0)), .ref (a 1), .ref (a 2), .ref (a 3), .int (nI (g 0 1)), .ref (a 4), .ref (a 5), .ref (a 6), .ref (a 7), .ref (a 8), .ref (a 9), .int (nI (g 0 2))])), ((a 1), .inl (cI, 9, .inl (fun j => nI ((g 1) j)))), ((a 2), .inl (cI, 9, .inl (fun j => nI ((g 2) j)))), ((a 3), .inl (cI, 9, .inl (fun j => nI ((g 3) j)))), ((a 4), .inl (cI, 6, .inl (fun j => nI ((g 4) j)))), ((a 5), .inl (cI, 6, .inl (fun j => nI ((g 5) j)))), ((a 6), .inl (cI, 6, .inl (fun j => nI ((g 6) j)))), ((a 7), .inl (cI, 5, .inl (fun j => nI ((g 7) j)))), ((a 8), .inl (cI, 5, .inl (fun j => nI ((g 8) j)))), ((a 9), .inl (cI, 5, .inl (fun j => ly_h ((g 9) j))))])) 0 0 (ly_in [((b 0), .inr (3, [.int (nI (d 0)), .int (nI (d 1)), .int (nI (d 2)), .int (nI (d 3)), .int (nI (d 4)), .ref (b 1), .ref (b 2)])), ((b 1), .inl (cI, 9, .inl (fun j => ly_h (ho j)))), ((b 2), .inl (cI, 9, .inl (fun j => nI (le j)))), ((a 0), .inr (4, [.int (nI (g 0 0)), .ref (a 1), .ref (a 2), .ref (a 3), .int (nI (g 0 1)), .ref (a 4), .ref (a 5), .ref (a 6), .ref (a 7), .ref (a 8), .ref (a 9), .int (nI (g 0 2))])), ((a 1), .inl (cI, 9, .inl (fun j => nI ((g 1) j)))), ((a 2), .inl (cI, 9, .inl (fun j => nI ((g 2) j)))), ((a 3), .inl (cI, 9, .inl (fun j => nI ((g 3) j)))), ((a 4), .inl (cI, 6, .inl (fun j => nI ((g 4) j)))), ((a 5), .inl (cI, 6, .inl (fun j => nI ((g 5) j)))), ((a 6), .inl (cI, 6, .inl (fun j => nI ((g 6) j)))), ((a 7), .inl (cI, 5, .inl (fun j => nI ((g 7) j)))), ((a 8), .inl (cI, 5, .inl (fun j => nI ((g 8) j)))), ((a 9), .inl (cI, 5, .inl (fun j => ly_h ((g 9) j))))]) := by
  refine Met.ofW (cc := cX3_begin) (maxL := 2) (ret := none) (by decide) rfl ?_
  intro p e s m args below meth c s₁ B hml hv
  obtain ⟨rfl, hP, hK, hN⟩ := hv
  have hx := B.exec
  have hb := B.bytes
  have hr := B.returns
  have hts := atoms_spec (ws := wsX3_begin) B.pre
  have hown : s.vm.findClass RX3 = some m.cls := findClass_of_methodNamed B.named
  have hlocks := B.notSynchronized
  have hl := lv_entry ([.ref (b 0), .ref (a 0)]) (n := 2) (Nat.le_of_ble_eq_true rfl)
  rw [lg_entry_eq]
  generalize (lg_sl ([.ref (b 0), .ref (a 0)]) ++ List.replicate (2 - (lg_sl ([.ref (b 0), .ref (a 0)])).length) Slot.unset).toArray = ls at hl ⊢
  have hl : lv_has ls 2 [(0, .ref (b 0)), (1, .ref (a 0))] := hl
  generalize ([.ref (b 0), .ref (a 0)] : List Value).toArray = av at hts ⊢
  obtain ⟨Qc, hQc⟩ : ∃ Qc, Qc = (ly_Q D [((b 0), .inr (3, [.int (nI (d 0)), .int (nI (d 1)), .int (nI (d 2)), .int (nI (d 3)), .int (nI (d 4)), .ref (b 1), .ref (b 2)])), ((b 1), .inl (cI, 9, .inl (fun j => ly_h (ho j)))), ((b 2), .inl (cI, 9, .inl (fun j => nI (le j)))), ((a 0), .inr (4, [.int (nI (g 0 0)), .ref (a 1), .ref (a 2), .ref (a 3), .int (nI (g 0 1)), .ref (a 4), .ref (a 5), .ref (a 6), .ref (a 7), .ref (a 8), .ref (a 9), .int (nI (g 0 2))])), ((a 1), .inl (cI, 9, .inl (fun j => nI ((g 1) j)))), ((a 2), .inl (cI, 9, .inl (fun j => nI ((g 2) j)))), ((a 3), .inl (cI, 9, .inl (fun j => nI ((g 3) j)))), ((a 4), .inl (cI, 6, .inl (fun j => nI ((g 4) j)))), ((a 5), .inl (cI, 6, .inl (fun j => nI ((g 5) j)))), ((a 6), .inl (cI, 6, .inl (fun j => nI ((g 6) j)))), ((a 7), .inl (cI, 5, .inl (fun j => nI ((g 7) j)))), ((a 8), .inl (cI, 5, .inl (fun j => nI ((g 8) j)))), ((a 9), .inl (cI, 5, .inl (fun j => ly_h ((g 9) j))))] (fun r_9 w_9 => r_9 = none ∧ w_9 = [((b 0), .inr (3, [.int (nI ((fun _ => 0) 0)), .int (nI ((fun _ => 0) 1)), .int (nI ((fun _ => 0) 2)), .int (nI ((fun _ => 0) 3)), .int (nI ((fun _ => 0) 4)), .ref (b 1), .ref (b 2)])), ((b 1), .inl (cI, 9, .inl (fun j => ly_h ((fun _ => 0) j)))), ((b 2), .inl (cI, 9, .inl (fun j => nI ((g 3) j)))), ((a 0), .inr (4, [.int (nI (g 0 0)), .ref (a 1), .ref (a 2), .ref (a 3), .int (nI (g 0 1)), .ref (a 4), .ref (a 5), .ref (a 6), .ref (a 7), .ref (a 8), .ref (a 9), .int (nI (g 0 2))])), ((a 1), .inl (cI, 9, .inl (fun j => nI ((g 1) j)))), ((a 2), .inl (cI, 9, .inl (fun j => nI ((g 2) j)))), ((a 3), .inl (cI, 9, .inl (fun j => nI ((g 3) j)))), ((a 4), .inl (cI, 6, .inl (fun j => nI ((g 4) j)))), ((a 5), .inl (cI, 6, .inl (fun j => nI ((g 5) j)))), ((a 6), .inl (cI, 6, .inl (fun j => nI ((g 6) j)))), ((a 7), .inl (cI, 5, .inl (fun j => nI ((g 7) j)))), ((a 8), .inl (cI, 5, .inl (fun j => nI ((g 8) j)))), ((a 9), .inl (cI, 5, .inl (fun j => ly_h ((g 9) j))))])) := ⟨_, rfl⟩
  rw [← hQc]
  obtain ⟨A, hAe⟩ : ∃ A, A = ly_in [((b 0), .inr (3, [.int (nI (d 0)), .int (nI (d 1)), .int (nI (d 2)), .int (nI (d 3)), .int (nI (d 4)), .ref (b 1), .ref (b 2)])), ((b 1), .inl (cI, 9, .inl (fun j => ly_h (ho j)))), ((b 2), .inl (cI, 9, .inl (fun j => nI (le j)))), ((a 0), .inr (4, [.int (nI (g 0 0)), .ref (a 1), .ref (a 2), .ref (a 3), .int (nI (g 0 1)), .ref (a 4), .ref (a 5), .ref (a 6), .ref (a 7), .ref (a 8), .ref (a 9), .int (nI (g 0 2))])), ((a 1), .inl (cI, 9, .inl (fun j => nI ((g 1) j)))), ((a 2), .inl (cI, 9, .inl (fun j => nI ((g 2) j)))), ((a 3), .inl (cI, 9, .inl (fun j => nI ((g 3) j)))), ((a 4), .inl (cI, 6, .inl (fun j => nI ((g 4) j)))), ((a 5), .inl (cI, 6, .inl (fun j => nI ((g 5) j)))), ((a 6), .inl (cI, 6, .inl (fun j => nI ((g 6) j)))), ((a 7), .inl (cI, 5, .inl (fun j => nI ((g 7) j)))), ((a 8), .inl (cI, 5, .inl (fun j => nI ((g 8) j)))), ((a 9), .inl (cI, 5, .inl (fun j => ly_h ((g 9) j))))] := ⟨_, rfl⟩
  rw [← hAe]
  have hD := ly_self hD0
  rw [← hAe] at hD
  have f9 := hts (.fieldLink RX3 9 "KneesLent$Now" "day" "I") (by decide +kernel)
  have f15 := hts (.fieldLink RX3 15 "KneesLent$Now" "oil" "I") (by decide +kernel)
  have f18 := hts (.fieldLink RX3 18 "KneesLent$Now" "fines" "I") (by decide +kernel)
  have f21 := hts (.fieldLink RX3 21 "KneesLent$Now" "gave" "I") (by decide +kernel)
  have f24 := hts (.fieldLink RX3 24 "KneesLent$Now" "pledged" "I") (by decide +kernel)
  have f27 := hts (.fieldLink RX3 27 "KneesLent$Now" "holder" "[I") (by decide +kernel)
  have f40 := hts (.fieldLink RX3 40 "KneesLent$Parish" "steps" "[I") (by decide +kernel)
  have f31 := hts (.fieldLink RX3 31 "KneesLent$Now" "left" "[I") (by decide +kernel)
  have hiX3 : ∀ w ∈ u_ws RX3 TX3 7, w ∈ wsX3_begin := by decide +kernel
  have hiX4 : ∀ w ∈ u_ws RX4 TX4 12, w ∈ wsX3_begin := by decide +kernel
  have hmain : ∀ (H : Heap) (locs : List Loc), va_P D vwCl [((b 0), .inr (3, [.int (nI (d 0)), .int (nI (d 1)), .int (nI (d 2)), .int (nI (d 3)), .int (nI (d 4)), .ref (b 1), .ref (b 2)])), ((b 1), .inl (cI, 9, .inl (fun j => ly_h (ho j)))), ((b 2), .inl (cI, 9, .inl (fun j => nI (le j)))), ((a 0), .inr (4, [.int (nI (g 0 0)), .ref (a 1), .ref (a 2), .ref (a 3), .int (nI (g 0 1)), .ref (a 4), .ref (a 5), .ref (a 6), .ref (a 7), .ref (a 8), .ref (a 9), .int (nI (g 0 2))])), ((a 1), .inl (cI, 9, .inl (fun j => nI ((g 1) j)))), ((a 2), .inl (cI, 9, .inl (fun j => nI ((g 2) j)))), ((a 3), .inl (cI, 9, .inl (fun j => nI ((g 3) j)))), ((a 4), .inl (cI, 6, .inl (fun j => nI ((g 4) j)))), ((a 5), .inl (cI, 6, .inl (fun j => nI ((g 5) j)))), ((a 6), .inl (cI, 6, .inl (fun j => nI ((g 6) j)))), ((a 7), .inl (cI, 5, .inl (fun j => nI ((g 7) j)))), ((a 8), .inl (cI, 5, .inl (fun j => nI ((g 8) j)))), ((a 9), .inl (cI, 5, .inl (fun j => ly_h ((g 9) j))))] H → va_S A s.heap H locs → W p l e (headSpec wsX3_begin (ly_rm 2)).room s m av below meth c H locs 0 0 (MQ below Qc av s 0 0 A) (F0 m 0 ls []) := by
    intro H locs hP hS
    refine lv_aload_n hx hb dX3_begin_0 rfl (lv_at hl 0 rfl) ?_
    refine lv_iconst (v := 0) hx hb dX3_begin_1 (by decide) ?_
    refine va_put (D := D) (ci := 3) (v := .int 0) (ty := .int) (C := RX3) (T := TX3) (N := 7) hx hb hts hiX3 tyX3 tyX3_ok nmX3 hown hK hP hD hS 0 rfl rfl 0 (by decide) f9 (fun _ h9 => h9) rfl (by decide +kernel) rfl rfl (Nat.le_of_ble_eq_true rfl) dX3_begin_2 (fun H locs hP hD hS => ?_)
    have hP : va_P D vwCl [((b 0), .inr (3, [.int 0, .int (nI (d 1)), .int (nI (d 2)), .int (nI (d 3)), .int (nI (d 4)), .ref (b 1), .ref (b 2)])), ((b 1), .inl (cI, 9, .inl (fun j => ly_h (ho j)))), ((b 2), .inl (cI, 9, .inl (fun j => nI (le j)))), ((a 0), .inr (4, [.int (nI (g 0 0)), .ref (a 1), .ref (a 2), .ref (a 3), .int (nI (g 0 1)), .ref (a 4), .ref (a 5), .ref (a 6), .ref (a 7), .ref (a 8), .ref (a 9), .int (nI (g 0 2))])), ((a 1), .inl (cI, 9, .inl (fun j => nI ((g 1) j)))), ((a 2), .inl (cI, 9, .inl (fun j => nI ((g 2) j)))), ((a 3), .inl (cI, 9, .inl (fun j => nI ((g 3) j)))), ((a 4), .inl (cI, 6, .inl (fun j => nI ((g 4) j)))), ((a 5), .inl (cI, 6, .inl (fun j => nI ((g 5) j)))), ((a 6), .inl (cI, 6, .inl (fun j => nI ((g 6) j)))), ((a 7), .inl (cI, 5, .inl (fun j => nI ((g 7) j)))), ((a 8), .inl (cI, 5, .inl (fun j => nI ((g 8) j)))), ((a 9), .inl (cI, 5, .inl (fun j => ly_h ((g 9) j))))] H := hP
    have hD : va_D A [((b 0), .inr (3, [.int 0, .int (nI (d 1)), .int (nI (d 2)), .int (nI (d 3)), .int (nI (d 4)), .ref (b 1), .ref (b 2)])), ((b 1), .inl (cI, 9, .inl (fun j => ly_h (ho j)))), ((b 2), .inl (cI, 9, .inl (fun j => nI (le j)))), ((a 0), .inr (4, [.int (nI (g 0 0)), .ref (a 1), .ref (a 2), .ref (a 3), .int (nI (g 0 1)), .ref (a 4), .ref (a 5), .ref (a 6), .ref (a 7), .ref (a 8), .ref (a 9), .int (nI (g 0 2))])), ((a 1), .inl (cI, 9, .inl (fun j => nI ((g 1) j)))), ((a 2), .inl (cI, 9, .inl (fun j => nI ((g 2) j)))), ((a 3), .inl (cI, 9, .inl (fun j => nI ((g 3) j)))), ((a 4), .inl (cI, 6, .inl (fun j => nI ((g 4) j)))), ((a 5), .inl (cI, 6, .inl (fun j => nI ((g 5) j)))), ((a 6), .inl (cI, 6, .inl (fun j => nI ((g 6) j)))), ((a 7), .inl (cI, 5, .inl (fun j => nI ((g 7) j)))), ((a 8), .inl (cI, 5, .inl (fun j => nI ((g 8) j)))), ((a 9), .inl (cI, 5, .inl (fun j => ly_h ((g 9) j))))] := hD
    refine lv_aload_n hx hb dX3_begin_5 rfl (lv_at hl 0 rfl) ?_
    refine lv_iconst (v := 0) hx hb dX3_begin_6 (by decide) ?_
    refine va_put (D := D) (ci := 3) (v := .int 0) (ty := .int) (C := RX3) (T := TX3) (N := 7) hx hb hts hiX3 tyX3 tyX3_ok nmX3 hown hK hP hD hS 0 rfl rfl 1 (by decide) f15 (fun _ h9 => h9) rfl (by decide +kernel) rfl rfl (Nat.le_of_ble_eq_true rfl) dX3_begin_7 (fun H locs hP hD hS => ?_)
    have hP : va_P D vwCl [((b 0), .inr (3, [.int 0, .int 0, .int (nI (d 2)), .int (nI (d 3)), .int (nI (d 4)), .ref (b 1), .ref (b 2)])), ((b 1), .inl (cI, 9, .inl (fun j => ly_h (ho j)))), ((b 2), .inl (cI, 9, .inl (fun j => nI (le j)))), ((a 0), .inr (4, [.int (nI (g 0 0)), .ref (a 1), .ref (a 2), .ref (a 3), .int (nI (g 0 1)), .ref (a 4), .ref (a 5), .ref (a 6), .ref (a 7), .ref (a 8), .ref (a 9), .int (nI (g 0 2))])), ((a 1), .inl (cI, 9, .inl (fun j => nI ((g 1) j)))), ((a 2), .inl (cI, 9, .inl (fun j => nI ((g 2) j)))), ((a 3), .inl (cI, 9, .inl (fun j => nI ((g 3) j)))), ((a 4), .inl (cI, 6, .inl (fun j => nI ((g 4) j)))), ((a 5), .inl (cI, 6, .inl (fun j => nI ((g 5) j)))), ((a 6), .inl (cI, 6, .inl (fun j => nI ((g 6) j)))), ((a 7), .inl (cI, 5, .inl (fun j => nI ((g 7) j)))), ((a 8), .inl (cI, 5, .inl (fun j => nI ((g 8) j)))), ((a 9), .inl (cI, 5, .inl (fun j => ly_h ((g 9) j))))] H := hP
    have hD : va_D A [((b 0), .inr (3, [.int 0, .int 0, .int (nI (d 2)), .int (nI (d 3)), .int (nI (d 4)), .ref (b 1), .ref (b 2)])), ((b 1), .inl (cI, 9, .inl (fun j => ly_h (ho j)))), ((b 2), .inl (cI, 9, .inl (fun j => nI (le j)))), ((a 0), .inr (4, [.int (nI (g 0 0)), .ref (a 1), .ref (a 2), .ref (a 3), .int (nI (g 0 1)), .ref (a 4), .ref (a 5), .ref (a 6), .ref (a 7), .ref (a 8), .ref (a 9), .int (nI (g 0 2))])), ((a 1), .inl (cI, 9, .inl (fun j => nI ((g 1) j)))), ((a 2), .inl (cI, 9, .inl (fun j => nI ((g 2) j)))), ((a 3), .inl (cI, 9, .inl (fun j => nI ((g 3) j)))), ((a 4), .inl (cI, 6, .inl (fun j => nI ((g 4) j)))), ((a 5), .inl (cI, 6, .inl (fun j => nI ((g 5) j)))), ((a 6), .inl (cI, 6, .inl (fun j => nI ((g 6) j)))), ((a 7), .inl (cI, 5, .inl (fun j => nI ((g 7) j)))), ((a 8), .inl (cI, 5, .inl (fun j => nI ((g 8) j)))), ((a 9), .inl (cI, 5, .inl (fun j => ly_h ((g 9) j))))] := hD
    refine lv_aload_n hx hb dX3_begin_10 rfl (lv_at hl 0 rfl) ?_
    refine lv_iconst (v := 0) hx hb dX3_begin_11 (by decide) ?_
    refine va_put (D := D) (ci := 3) (v := .int 0) (ty := .int) (C := RX3) (T := TX3) (N := 7) hx hb hts hiX3 tyX3 tyX3_ok nmX3 hown hK hP hD hS 0 rfl rfl 2 (by decide) f18 (fun _ h9 => h9) rfl (by decide +kernel) rfl rfl (Nat.le_of_ble_eq_true rfl) dX3_begin_12 (fun H locs hP hD hS => ?_)
    have hP : va_P D vwCl [((b 0), .inr (3, [.int 0, .int 0, .int 0, .int (nI (d 3)), .int (nI (d 4)), .ref (b 1), .ref (b 2)])), ((b 1), .inl (cI, 9, .inl (fun j => ly_h (ho j)))), ((b 2), .inl (cI, 9, .inl (fun j => nI (le j)))), ((a 0), .inr (4, [.int (nI (g 0 0)), .ref (a 1), .ref (a 2), .ref (a 3), .int (nI (g 0 1)), .ref (a 4), .ref (a 5), .ref (a 6), .ref (a 7), .ref (a 8), .ref (a 9), .int (nI (g 0 2))])), ((a 1), .inl (cI, 9, .inl (fun j => nI ((g 1) j)))), ((a 2), .inl (cI, 9, .inl (fun j => nI ((g 2) j)))), ((a 3), .inl (cI, 9, .inl (fun j => nI ((g 3) j)))), ((a 4), .inl (cI, 6, .inl (fun j => nI ((g 4) j)))), ((a 5), .inl (cI, 6, .inl (fun j => nI ((g 5) j)))), ((a 6), .inl (cI, 6, .inl (fun j => nI ((g 6) j)))), ((a 7), .inl (cI, 5, .inl (fun j => nI ((g 7) j)))), ((a 8), .inl (cI, 5, .inl (fun j => nI ((g 8) j)))), ((a 9), .inl (cI, 5, .inl (fun j => ly_h ((g 9) j))))] H := hP
    have hD : va_D A [((b 0), .inr (3, [.int 0, .int 0, .int 0, .int (nI (d 3)), .int (nI (d 4)), .ref (b 1), .ref (b 2)])), ((b 1), .inl (cI, 9, .inl (fun j => ly_h (ho j)))), ((b 2), .inl (cI, 9, .inl (fun j => nI (le j)))), ((a 0), .inr (4, [.int (nI (g 0 0)), .ref (a 1), .ref (a 2), .ref (a 3), .int (nI (g 0 1)), .ref (a 4), .ref (a 5), .ref (a 6), .ref (a 7), .ref (a 8), .ref (a 9), .int (nI (g 0 2))])), ((a 1), .inl (cI, 9, .inl (fun j => nI ((g 1) j)))), ((a 2), .inl (cI, 9, .inl (fun j => nI ((g 2) j)))), ((a 3), .inl (cI, 9, .inl (fun j => nI ((g 3) j)))), ((a 4), .inl (cI, 6, .inl (fun j => nI ((g 4) j)))), ((a 5), .inl (cI, 6, .inl (fun j => nI ((g 5) j)))), ((a 6), .inl (cI, 6, .inl (fun j => nI ((g 6) j)))), ((a 7), .inl (cI, 5, .inl (fun j => nI ((g 7) j)))), ((a 8), .inl (cI, 5, .inl (fun j => nI ((g 8) j)))), ((a 9), .inl (cI, 5, .inl (fun j => ly_h ((g 9) j))))] := hD
    refine lv_aload_n hx hb dX3_begin_15 rfl (lv_at hl 0 rfl) ?_
    refine lv_iconst (v := 0) hx hb dX3_begin_16 (by decide) ?_
    refine va_put (D := D) (ci := 3) (v := .int 0) (ty := .int) (C := RX3) (T := TX3) (N := 7) hx hb hts hiX3 tyX3 tyX3_ok nmX3 hown hK hP hD hS 0 rfl rfl 3 (by decide) f21 (fun _ h9 => h9) rfl (by decide +kernel) rfl rfl (Nat.le_of_ble_eq_true rfl) dX3_begin_17 (fun H locs hP hD hS => ?_)
    have hP : va_P D vwCl [((b 0), .inr (3, [.int 0, .int 0, .int 0, .int 0, .int (nI (d 4)), .ref (b 1), .ref (b 2)])), ((b 1), .inl (cI, 9, .inl (fun j => ly_h (ho j)))), ((b 2), .inl (cI, 9, .inl (fun j => nI (le j)))), ((a 0), .inr (4, [.int (nI (g 0 0)), .ref (a 1), .ref (a 2), .ref (a 3), .int (nI (g 0 1)), .ref (a 4), .ref (a 5), .ref (a 6), .ref (a 7), .ref (a 8), .ref (a 9), .int (nI (g 0 2))])), ((a 1), .inl (cI, 9, .inl (fun j => nI ((g 1) j)))), ((a 2), .inl (cI, 9, .inl (fun j => nI ((g 2) j)))), ((a 3), .inl (cI, 9, .inl (fun j => nI ((g 3) j)))), ((a 4), .inl (cI, 6, .inl (fun j => nI ((g 4) j)))), ((a 5), .inl (cI, 6, .inl (fun j => nI ((g 5) j)))), ((a 6), .inl (cI, 6, .inl (fun j => nI ((g 6) j)))), ((a 7), .inl (cI, 5, .inl (fun j => nI ((g 7) j)))), ((a 8), .inl (cI, 5, .inl (fun j => nI ((g 8) j)))), ((a 9), .inl (cI, 5, .inl (fun j => ly_h ((g 9) j))))] H := hP
    have hD : va_D A [((b 0), .inr (3, [.int 0, .int 0, .int 0, .int 0, .int (nI (d 4)), .ref (b 1), .ref (b 2)])), ((b 1), .inl (cI, 9, .inl (fun j => ly_h (ho j)))), ((b 2), .inl (cI, 9, .inl (fun j => nI (le j)))), ((a 0), .inr (4, [.int (nI (g 0 0)), .ref (a 1), .ref (a 2), .ref (a 3), .int (nI (g 0 1)), .ref (a 4), .ref (a 5), .ref (a 6), .ref (a 7), .ref (a 8), .ref (a 9), .int (nI (g 0 2))])), ((a 1), .inl (cI, 9, .inl (fun j => nI ((g 1) j)))), ((a 2), .inl (cI, 9, .inl (fun j => nI ((g 2) j)))), ((a 3), .inl (cI, 9, .inl (fun j => nI ((g 3) j)))), ((a 4), .inl (cI, 6, .inl (fun j => nI ((g 4) j)))), ((a 5), .inl (cI, 6, .inl (fun j => nI ((g 5) j)))), ((a 6), .inl (cI, 6, .inl (fun j => nI ((g 6) j)))), ((a 7), .inl (cI, 5, .inl (fun j => nI ((g 7) j)))), ((a 8), .inl (cI, 5, .inl (fun j => nI ((g 8) j)))), ((a 9), .inl (cI, 5, .inl (fun j => ly_h ((g 9) j))))] := hD
    refine lv_aload_n hx hb dX3_begin_20 rfl (lv_at hl 0 rfl) ?_
    refine lv_iconst (v := 0) hx hb dX3_begin_21 (by decide) ?_
    refine va_put (D := D) (ci := 3) (v := .int 0) (ty := .int) (C := RX3) (T := TX3) (N := 7) hx hb hts hiX3 tyX3 tyX3_ok nmX3 hown hK hP hD hS 0 rfl rfl 4 (by decide) f24 (fun _ h9 => h9) rfl (by decide +kernel) rfl rfl (Nat.le_of_ble_eq_true rfl) dX3_begin_22 (fun H locs hP hD hS => ?_)
    have hP : va_P D vwCl [((b 0), .inr (3, [.int 0, .int 0, .int 0, .int 0, .int 0, .ref (b 1), .ref (b 2)])), ((b 1), .inl (cI, 9, .inl (fun j => ly_h (ho j)))), ((b 2), .inl (cI, 9, .inl (fun j => nI (le j)))), ((a 0), .inr (4, [.int (nI (g 0 0)), .ref (a 1), .ref (a 2), .ref (a 3), .int (nI (g 0 1)), .ref (a 4), .ref (a 5), .ref (a 6), .ref (a 7), .ref (a 8), .ref (a 9), .int (nI (g 0 2))])), ((a 1), .inl (cI, 9, .inl (fun j => nI ((g 1) j)))), ((a 2), .inl (cI, 9, .inl (fun j => nI ((g 2) j)))), ((a 3), .inl (cI, 9, .inl (fun j => nI ((g 3) j)))), ((a 4), .inl (cI, 6, .inl (fun j => nI ((g 4) j)))), ((a 5), .inl (cI, 6, .inl (fun j => nI ((g 5) j)))), ((a 6), .inl (cI, 6, .inl (fun j => nI ((g 6) j)))), ((a 7), .inl (cI, 5, .inl (fun j => nI ((g 7) j)))), ((a 8), .inl (cI, 5, .inl (fun j => nI ((g 8) j)))), ((a 9), .inl (cI, 5, .inl (fun j => ly_h ((g 9) j))))] H := hP
    have hD : va_D A [((b 0), .inr (3, [.int 0, .int 0, .int 0, .int 0, .int 0, .ref (b 1), .ref (b 2)])), ((b 1), .inl (cI, 9, .inl (fun j => ly_h (ho j)))), ((b 2), .inl (cI, 9, .inl (fun j => nI (le j)))), ((a 0), .inr (4, [.int (nI (g 0 0)), .ref (a 1), .ref (a 2), .ref (a 3), .int (nI (g 0 1)), .ref (a 4), .ref (a 5), .ref (a 6), .ref (a 7), .ref (a 8), .ref (a 9), .int (nI (g 0 2))])), ((a 1), .inl (cI, 9, .inl (fun j => nI ((g 1) j)))), ((a 2), .inl (cI, 9, .inl (fun j => nI ((g 2) j)))), ((a 3), .inl (cI, 9, .inl (fun j => nI ((g 3) j)))), ((a 4), .inl (cI, 6, .inl (fun j => nI ((g 4) j)))), ((a 5), .inl (cI, 6, .inl (fun j => nI ((g 5) j)))), ((a 6), .inl (cI, 6, .inl (fun j => nI ((g 6) j)))), ((a 7), .inl (cI, 5, .inl (fun j => nI ((g 7) j)))), ((a 8), .inl (cI, 5, .inl (fun j => nI ((g 8) j)))), ((a 9), .inl (cI, 5, .inl (fun j => ly_h ((g 9) j))))] := hD
    refine lv_aload_n hx hb dX3_begin_25 rfl (lv_at hl 0 rfl) ?_
    refine va_get (D := D) (ci := 3) (v := .ref (b 1)) (C := RX3) (T := TX3) (N := 7) hx hb hts hiX3 hown hK hP 0 rfl rfl 5 (by decide) f27 (fun _ h9 => h9) rfl dX3_begin_26 ?_
    refine lv_bipush (v := (-9)) hx hb dX3_begin_29 (by decide) ?_
    have hPc_31 := hP.sub (ws' := [((b 1), .inl (cI, 9, .inl (fun j => ly_h (ho j))))]) [1] rfl
    refine ly_m (wr := [((b 0), .inr (3, [.int 0, .int 0, .int 0, .int 0, .int 0, .ref (b 1), .ref (b 2)])), ((b 2), .inl (cI, 9, .inl (fun j => nI (le j)))), ((a 0), .inr (4, [.int (nI (g 0 0)), .ref (a 1), .ref (a 2), .ref (a 3), .int (nI (g 0 1)), .ref (a 4), .ref (a 5), .ref (a 6), .ref (a 7), .ref (a 8), .ref (a 9), .int (nI (g 0 2))])), ((a 1), .inl (cI, 9, .inl (fun j => nI ((g 1) j)))), ((a 2), .inl (cI, 9, .inl (fun j => nI ((g 2) j)))), ((a 3), .inl (cI, 9, .inl (fun j => nI ((g 3) j)))), ((a 4), .inl (cI, 6, .inl (fun j => nI ((g 4) j)))), ((a 5), .inl (cI, 6, .inl (fun j => nI ((g 5) j)))), ((a 6), .inl (cI, 6, .inl (fun j => nI ((g 6) j)))), ((a 7), .inl (cI, 5, .inl (fun j => nI ((g 7) j)))), ((a 8), .inl (cI, 5, .inl (fun j => nI ((g 8) j)))), ((a 9), .inl (cI, 5, .inl (fun j => ly_h ((g 9) j))))]) (va_runS (As := [.ref (b 1), .int (-9)]) (rest := []) ⟨hx, hb, hml, hown, hts⟩ (c_J7_fill_53178 l D cI cC cZ cN (b 1) 9 (fun j => ly_h (ho j)) (-9) (by decide) ((hD.sub [1] (by decide) rfl).weaken (fun _ _ _ _ => trivial))) (va_cwS 2 hts gX3_begin_J7_fill_53178 rfl rfl rfl (by decide +kernel) ⟨Nat.le_of_ble_eq_true rfl, Nat.le_of_ble_eq_true rfl⟩) (ly_ps hK hN hPc_31) rfl rfl hl.1 rfl (lv_room (Nat.le_of_ble_eq_true rfl)) dX3_begin_31 ⟨Nat.zero_le _, Nat.zero_le _⟩) hP hD hS [1] [0, 2, 3, 4, 5, 6, 7, 8, 9, 10, 11, 12] rfl rfl (by decide) ?_
    rintro _ _ H locs ⟨rfl, rfl⟩ - hP hD hS
    have hP : va_P D vwCl [((b 0), .inr (3, [.int 0, .int 0, .int 0, .int 0, .int 0, .ref (b 1), .ref (b 2)])), ((b 2), .inl (cI, 9, .inl (fun j => nI (le j)))), ((a 0), .inr (4, [.int (nI (g 0 0)), .ref (a 1), .ref (a 2), .ref (a 3), .int (nI (g 0 1)), .ref (a 4), .ref (a 5), .ref (a 6), .ref (a 7), .ref (a 8), .ref (a 9), .int (nI (g 0 2))])), ((a 1), .inl (cI, 9, .inl (fun j => nI ((g 1) j)))), ((a 2), .inl (cI, 9, .inl (fun j => nI ((g 2) j)))), ((a 3), .inl (cI, 9, .inl (fun j => nI ((g 3) j)))), ((a 4), .inl (cI, 6, .inl (fun j => nI ((g 4) j)))), ((a 5), .inl (cI, 6, .inl (fun j => nI ((g 5) j)))), ((a 6), .inl (cI, 6, .inl (fun j => nI ((g 6) j)))), ((a 7), .inl (cI, 5, .inl (fun j => nI ((g 7) j)))), ((a 8), .inl (cI, 5, .inl (fun j => nI ((g 8) j)))), ((a 9), .inl (cI, 5, .inl (fun j => ly_h ((g 9) j)))), ((b 1), .inl (cI, 9, .inl (fun j => ly_h ((fun _ => 0) j))))] H := hP
    have hD : va_D A [((b 0), .inr (3, [.int 0, .int 0, .int 0, .int 0, .int 0, .ref (b 1), .ref (b 2)])), ((b 2), .inl (cI, 9, .inl (fun j => nI (le j)))), ((a 0), .inr (4, [.int (nI (g 0 0)), .ref (a 1), .ref (a 2), .ref (a 3), .int (nI (g 0 1)), .ref (a 4), .ref (a 5), .ref (a 6), .ref (a 7), .ref (a 8), .ref (a 9), .int (nI (g 0 2))])), ((a 1), .inl (cI, 9, .inl (fun j => nI ((g 1) j)))), ((a 2), .inl (cI, 9, .inl (fun j => nI ((g 2) j)))), ((a 3), .inl (cI, 9, .inl (fun j => nI ((g 3) j)))), ((a 4), .inl (cI, 6, .inl (fun j => nI ((g 4) j)))), ((a 5), .inl (cI, 6, .inl (fun j => nI ((g 5) j)))), ((a 6), .inl (cI, 6, .inl (fun j => nI ((g 6) j)))), ((a 7), .inl (cI, 5, .inl (fun j => nI ((g 7) j)))), ((a 8), .inl (cI, 5, .inl (fun j => nI ((g 8) j)))), ((a 9), .inl (cI, 5, .inl (fun j => ly_h ((g 9) j)))), ((b 1), .inl (cI, 9, .inl (fun j => ly_h ((fun _ => 0) j))))] := hD
    refine W.eq (g2 := F0 m 34 ls []) rfl ?_
    refine lv_aload_n hx hb dX3_begin_34 rfl (lv_at hl 1 rfl) ?_
    refine va_get (D := D) (ci := 4) (v := .ref (a 3)) (C := RX4) (T := TX4) (N := 12) hx hb hts hiX4 hown hK hP 2 rfl rfl 3 (by decide) f40 (fun _ h9 => h9) rfl dX3_begin_35 ?_
    refine lv_iconst (v := 0) hx hb dX3_begin_38 (by decide) ?_
    refine lv_aload_n hx hb dX3_begin_39 rfl (lv_at hl 0 rfl) ?_
    refine va_get (D := D) (ci := 3) (v := .ref (b 2)) (C := RX3) (T := TX3) (N := 7) hx hb hts hiX3 hown hK hP 0 rfl rfl 6 (by decide) f31 (fun _ h9 => h9) rfl dX3_begin_40 ?_
    refine lv_iconst (v := 0) hx hb dX3_begin_43 (by decide) ?_
    refine lv_bipush (v := 9) hx hb dX3_begin_44 (by decide) ?_
    refine ly_acopy hx hb (by rw [hml]; exact hl.1.symm) hown (hts (.methodLink RX3 45 arraycopyName) (by decide +kernel)) (hts (.native arraycopyName) (by decide +kernel)) (hts (.static arraycopyName) (by decide +kernel)) (hts (.initialized "java/lang/System") (by decide +kernel)) hK hP hD hS 5 1 0 rfl rfl rfl rfl (by decide) (Nat.le_of_ble_eq_true rfl) (Nat.le_of_ble_eq_true rfl) dX3_begin_46 (fun H locs hP hD hS => ?_)
    have hP : va_P D vwCl [((b 0), .inr (3, [.int 0, .int 0, .int 0, .int 0, .int 0, .ref (b 1), .ref (b 2)])), ((b 2), .inl (cI, 9, .inl (fun j => nI ((g 3) j)))), ((a 0), .inr (4, [.int (nI (g 0 0)), .ref (a 1), .ref (a 2), .ref (a 3), .int (nI (g 0 1)), .ref (a 4), .ref (a 5), .ref (a 6), .ref (a 7), .ref (a 8), .ref (a 9), .int (nI (g 0 2))])), ((a 1), .inl (cI, 9, .inl (fun j => nI ((g 1) j)))), ((a 2), .inl (cI, 9, .inl (fun j => nI ((g 2) j)))), ((a 3), .inl (cI, 9, .inl (fun j => nI ((g 3) j)))), ((a 4), .inl (cI, 6, .inl (fun j => nI ((g 4) j)))), ((a 5), .inl (cI, 6, .inl (fun j => nI ((g 5) j)))), ((a 6), .inl (cI, 6, .inl (fun j => nI ((g 6) j)))), ((a 7), .inl (cI, 5, .inl (fun j => nI ((g 7) j)))), ((a 8), .inl (cI, 5, .inl (fun j => nI ((g 8) j)))), ((a 9), .inl (cI, 5, .inl (fun j => ly_h ((g 9) j)))), ((b 1), .inl (cI, 9, .inl (fun j => ly_h ((fun _ => 0) j))))] H := hP
    have hD : va_D A [((b 0), .inr (3, [.int 0, .int 0, .int 0, .int 0, .int 0, .ref (b 1), .ref (b 2)])), ((b 2), .inl (cI, 9, .inl (fun j => nI ((g 3) j)))), ((a 0), .inr (4, [.int (nI (g 0 0)), .ref (a 1), .ref (a 2), .ref (a 3), .int (nI (g 0 1)), .ref (a 4), .ref (a 5), .ref (a 6), .ref (a 7), .ref (a 8), .ref (a 9), .int (nI (g 0 2))])), ((a 1), .inl (cI, 9, .inl (fun j => nI ((g 1) j)))), ((a 2), .inl (cI, 9, .inl (fun j => nI ((g 2) j)))), ((a 3), .inl (cI, 9, .inl (fun j => nI ((g 3) j)))), ((a 4), .inl (cI, 6, .inl (fun j => nI ((g 4) j)))), ((a 5), .inl (cI, 6, .inl (fun j => nI ((g 5) j)))), ((a 6), .inl (cI, 6, .inl (fun j => nI ((g 6) j)))), ((a 7), .inl (cI, 5, .inl (fun j => nI ((g 7) j)))), ((a 8), .inl (cI, 5, .inl (fun j => nI ((g 8) j)))), ((a 9), .inl (cI, 5, .inl (fun j => ly_h ((g 9) j)))), ((b 1), .inl (cI, 9, .inl (fun j => ly_h ((fun _ => 0) j))))] := hD
    exact W.vret hx hb hr (fun t_9 ht_9 _ => by rw [hQc]; exact ⟨_, [((b 0), .inr (3, [.int 0, .int 0, .int 0, .int 0, .int 0, .ref (b 1), .ref (b 2)])), ((b 1), .inl (cI, 9, .inl (fun j => ly_h ((fun _ => 0) j)))), ((b 2), .inl (cI, 9, .inl (fun j => nI ((g 3) j)))), ((a 0), .inr (4, [.int (nI (g 0 0)), .ref (a 1), .ref (a 2), .ref (a 3), .int (nI (g 0 1)), .ref (a 4), .ref (a 5), .ref (a 6), .ref (a 7), .ref (a 8), .ref (a 9), .int (nI (g 0 2))])), ((a 1), .inl (cI, 9, .inl (fun j => nI ((g 1) j)))), ((a 2), .inl (cI, 9, .inl (fun j => nI ((g 2) j)))), ((a 3), .inl (cI, 9, .inl (fun j => nI ((g 3) j)))), ((a 4), .inl (cI, 6, .inl (fun j => nI ((g 4) j)))), ((a 5), .inl (cI, 6, .inl (fun j => nI ((g 5) j)))), ((a 6), .inl (cI, 6, .inl (fun j => nI ((g 6) j)))), ((a 7), .inl (cI, 5, .inl (fun j => nI ((g 7) j)))), ((a 8), .inl (cI, 5, .inl (fun j => nI ((g 8) j)))), ((a 9), .inl (cI, 5, .inl (fun j => ly_h ((g 9) j))))], rfl, ⟨rfl, rfl⟩, by simp only [List.map_cons, List.map_nil], by rw [ht_9]; exact hP.sub [0, 12, 1, 2, 3, 4, 5, 6, 7, 8, 9, 10, 11] rfl, by rw [← hAe]; exact hS.F ht_9⟩) hS.2.2 dX3_begin_49
  exact hmain _ _ hP va_S.rf

set_option maxHeartbeats 4000000 in
set_option maxRecDepth 100000 in
theorem c_X3_bears (l : Launch) (D : va_G) (cI cC cZ cN : ClassId) (b : Nat → Nat) (d ho le : Nat → Nat) (k w : Nat) (h1 : k < 9) (hl9 : le k < 2 ^ 31) (hw9 : w < 2 ^ 31) (hD0 : va_D (fun _ => True) [((b 0), .inr (3, [.int (nI (d 0)), .int (nI (d 1)), .int (nI (d 2)), .int (nI (d 3)), .int (nI (d 4)), .ref (b 1), .ref (b 2)])), ((b 1), .inl (cI, 9, .inl (fun j => ly_h (ho j)))), ((b 2), .inl (cI, 9, .inl (fun j => nI (le j))))]) : Met l yX3_bears wsX3_bears (ly_rm 1) (ly_Pre D (ly_tys cI cC cZ cN) [((b 0), .inr (3, [.int (nI (d 0)), .int (nI (d 1)), .int (nI (d 2)), .int (nI (d 3)), .int (nI (d 4)), .ref (b 1), .ref (b 2)])), ((b 1), .inl (cI, 9, .inl (fun j => ly_h (ho j)))), ((b 2), .inl (cI, 9, .inl (fun j => nI (le j))))] [.ref (b 0), .int (nI k), .int (nI w)]) (ly_Q D [((b 0), .inr (3, [.int (nI (d 0)), .int (nI (d 1)), .int (nI (d 2)), .int (nI (d 3)), .int (nI (d 4)), .ref (b 1), .ref (b 2)])), ((b 1), .inl (cI, 9, .inl (fun j => ly_h (ho j)))), ((b 2), .inl (cI, 9, .inl (fun j => nI (le j))))] (fun r_9 w_9 => r_9 = some (.int (if nI (le k) < nI w then 0 else 1)) ∧ w_9 = [((b 0), .inr (3, [.int (nI (d 0)), .int (nI (d 1)), .int (nI (d 2)), .int (nI (d 3)), .int (nI (d 4)), .ref (b 1), .ref (b 2)])), ((b 1), .inl (cI, 9, .inl (fun j => ly_h (ho j)))), ((b 2), .inl (cI, 9, .inl (fun j => nI ((va_up le k (if nI (le k) < nI w then 0 else le k - w)) j))))])) 0 0 (ly_in [((b 0), .inr (3, [.int (nI (d 0)), .int (nI (d 1)), .int (nI (d 2)), .int (nI (d 3)), .int (nI (d 4)), .ref (b 1), .ref (b 2)])), ((b 1), .inl (cI, 9, .inl (fun j => ly_h (ho j)))), ((b 2), .inl (cI, 9, .inl (fun j => nI (le j))))]) := by
  refine Met.ofW (cc := cX3_bears) (maxL := 4) (ret := (some .boolean)) (by decide) rfl ?_
  intro p e s m args below meth c s₁ B hml hv
  obtain ⟨rfl, hP, hK, hN⟩ := hv
  have hx := B.exec
  have hb := B.bytes
  have hr := B.returns
  have hts := atoms_spec (ws := wsX3_bears) B.pre
  have hown : s.vm.findClass RX3 = some m.cls := findClass_of_methodNamed B.named
  have hlocks := B.notSynchronized
  have hl := lv_entry ([.ref (b 0), .int (nI k), .int (nI w)]) (n := 4) (Nat.le_of_ble_eq_true rfl)
  rw [lg_entry_eq]
  generalize (lg_sl ([.ref (b 0), .int (nI k), .int (nI w)]) ++ List.replicate (4 - (lg_sl ([.ref (b 0), .int (nI k), .int (nI w)])).length) Slot.unset).toArray = ls at hl ⊢
  have hl : lv_has ls 4 [(0, .ref (b 0)), (1, .int (nI k)), (2, .int (nI w))] := hl
  generalize ([.ref (b 0), .int (nI k), .int (nI w)] : List Value).toArray = av at hts ⊢
  obtain ⟨Qc, hQc⟩ : ∃ Qc, Qc = (ly_Q D [((b 0), .inr (3, [.int (nI (d 0)), .int (nI (d 1)), .int (nI (d 2)), .int (nI (d 3)), .int (nI (d 4)), .ref (b 1), .ref (b 2)])), ((b 1), .inl (cI, 9, .inl (fun j => ly_h (ho j)))), ((b 2), .inl (cI, 9, .inl (fun j => nI (le j))))] (fun r_9 w_9 => r_9 = some (.int (if nI (le k) < nI w then 0 else 1)) ∧ w_9 = [((b 0), .inr (3, [.int (nI (d 0)), .int (nI (d 1)), .int (nI (d 2)), .int (nI (d 3)), .int (nI (d 4)), .ref (b 1), .ref (b 2)])), ((b 1), .inl (cI, 9, .inl (fun j => ly_h (ho j)))), ((b 2), .inl (cI, 9, .inl (fun j => nI ((va_up le k (if nI (le k) < nI w then 0 else le k - w)) j))))])) := ⟨_, rfl⟩
  rw [← hQc]
  obtain ⟨A, hAe⟩ : ∃ A, A = ly_in [((b 0), .inr (3, [.int (nI (d 0)), .int (nI (d 1)), .int (nI (d 2)), .int (nI (d 3)), .int (nI (d 4)), .ref (b 1), .ref (b 2)])), ((b 1), .inl (cI, 9, .inl (fun j => ly_h (ho j)))), ((b 2), .inl (cI, 9, .inl (fun j => nI (le j))))] := ⟨_, rfl⟩
  rw [← hAe]
  have hD := ly_self hD0
  rw [← hAe] at hD
  have f31 := hts (.fieldLink RX3 31 "KneesLent$Now" "left" "[I") (by decide +kernel)
  have hiX3 : ∀ w ∈ u_ws RX3 TX3 7, w ∈ wsX3_bears := by decide +kernel
  have hmain : ∀ (H : Heap) (locs : List Loc), va_P D vwCl [((b 0), .inr (3, [.int (nI (d 0)), .int (nI (d 1)), .int (nI (d 2)), .int (nI (d 3)), .int (nI (d 4)), .ref (b 1), .ref (b 2)])), ((b 1), .inl (cI, 9, .inl (fun j => ly_h (ho j)))), ((b 2), .inl (cI, 9, .inl (fun j => nI (le j))))] H → va_S A s.heap H locs → W p l e (headSpec wsX3_bears (ly_rm 1)).room s m av below meth c H locs 0 0 (MQ below Qc av s 0 0 A) (F0 m 0 ls []) := by
    intro H locs hP hS
    refine lv_aload_n hx hb dX3_bears_0 rfl (lv_at hl 0 rfl) ?_
    refine va_get (D := D) (ci := 3) (v := .ref (b 2)) (C := RX3) (T := TX3) (N := 7) hx hb hts hiX3 hown hK hP 0 rfl rfl 6 (by decide) f31 (fun _ h9 => h9) rfl dX3_bears_1 ?_
    refine lv_iload_n hx hb dX3_bears_4 rfl (lv_at hl 1 rfl) ?_
    refine ly_iald hx hb hK hP 2 0 rfl rfl (k := k) (by decide) rfl (by omega) dX3_bears_5 ?_
    refine lv_iload_n hx hb dX3_bears_6 rfl (lv_at hl 2 rfl) ?_
    refine lv_icmp_lt (tgt := 14) hx hb dX3_bears_7 (by decide) (fun c_1 => ?_) (fun c_1 => ?_)
    · refine lv_iconst (v := 0) hx hb dX3_bears_14 (by decide) ?_
      refine lv_istore_n (lv' := [(3, .int 0), (0, .ref (b 0)), (1, .int (nI k)), (2, .int (nI w))]) hx hb dX3_bears_15 rfl hl (by decide) rfl (fun ls hl => ?_)
      refine lv_aload_n hx hb dX3_bears_16 rfl (lv_at hl 1 rfl) ?_
      refine va_get (D := D) (ci := 3) (v := .ref (b 2)) (C := RX3) (T := TX3) (N := 7) hx hb hts hiX3 hown hK hP 0 rfl rfl 6 (by decide) f31 (fun _ h9 => h9) rfl dX3_bears_17 ?_
      refine lv_iload_n hx hb dX3_bears_20 rfl (lv_at hl 2 rfl) ?_
      refine lv_iload_n hx hb dX3_bears_21 rfl (lv_at hl 0 rfl) ?_
      refine lv_if_eq (tgt := 36) hx hb dX3_bears_22 (by decide) (fun _ => ?_) (fun h_9 => absurd (by decide) h_9)
      refine lv_iconst (v := 0) hx hb dX3_bears_36 (by decide) ?_
      refine ly_iastN hx hb hK hP hD hS 2 0 rfl rfl (k := k) (v := 0) (by decide) rfl (by omega) rfl dX3_bears_37 (fun H locs hP hD hS => ?_)
      have hP : va_P D vwCl [((b 0), .inr (3, [.int (nI (d 0)), .int (nI (d 1)), .int (nI (d 2)), .int (nI (d 3)), .int (nI (d 4)), .ref (b 1), .ref (b 2)])), ((b 1), .inl (cI, 9, .inl (fun j => ly_h (ho j)))), ((b 2), .inl (cI, 9, .inl (fun j => nI ((va_up le k 0) j))))] H := hP
      have hD : va_D A [((b 0), .inr (3, [.int (nI (d 0)), .int (nI (d 1)), .int (nI (d 2)), .int (nI (d 3)), .int (nI (d 4)), .ref (b 1), .ref (b 2)])), ((b 1), .inl (cI, 9, .inl (fun j => ly_h (ho j)))), ((b 2), .inl (cI, 9, .inl (fun j => nI ((va_up le k 0) j))))] := hD
      refine lv_iload_n hx hb dX3_bears_38 rfl (lv_at hl 0 rfl) ?_
      exact W.zret (v := 0) hx hb hr rfl (fun t_9 ht_9 _ => by rw [hQc]; exact ⟨_, [((b 0), .inr (3, [.int (nI (d 0)), .int (nI (d 1)), .int (nI (d 2)), .int (nI (d 3)), .int (nI (d 4)), .ref (b 1), .ref (b 2)])), ((b 1), .inl (cI, 9, .inl (fun j => ly_h (ho j)))), ((b 2), .inl (cI, 9, .inl (fun j => nI ((va_up le k 0) j))))], rfl, ⟨(by first | rfl | (rw [if_pos c_1]; done) | (rw [if_pos c_1]; rfl) | (simp only [if_pos c_1]; done) | (simp only [if_pos c_1]; rfl)), (by first | rfl | (rw [if_pos c_1]; done) | (rw [if_pos c_1]; rfl) | (simp only [if_pos c_1]; done) | (simp only [if_pos c_1]; rfl))⟩, by simp only [List.map_cons, List.map_nil], by rw [ht_9]; exact hP.sub [0, 1, 2] rfl, by rw [← hAe]; exact hS.F ht_9⟩) hS.2.2 dX3_bears_39
    · refine lv_iconst (v := 1) hx hb dX3_bears_10 (by decide) ?_
      refine lv_goto (tgt := 15) hx hb dX3_bears_11 (by decide) ?_
      refine lv_istore_n (lv' := [(3, .int 1), (0, .ref (b 0)), (1, .int (nI k)), (2, .int (nI w))]) hx hb dX3_bears_15 rfl hl (by decide) rfl (fun ls hl => ?_)
      refine lv_aload_n hx hb dX3_bears_16 rfl (lv_at hl 1 rfl) ?_
      refine va_get (D := D) (ci := 3) (v := .ref (b 2)) (C := RX3) (T := TX3) (N := 7) hx hb hts hiX3 hown hK hP 0 rfl rfl 6 (by decide) f31 (fun _ h9 => h9) rfl dX3_bears_17 ?_
      refine lv_iload_n hx hb dX3_bears_20 rfl (lv_at hl 2 rfl) ?_
      refine lv_iload_n hx hb dX3_bears_21 rfl (lv_at hl 0 rfl) ?_
      refine lv_if_eq (tgt := 36) hx hb dX3_bears_22 (by decide) (fun h_9 => absurd h_9 (by decide)) (fun _ => ?_)
      have hw := Nat.not_lt.mp (fun z => c_1 ((nI_ltI hl9 hw9).mpr z))
      refine lv_aload_n hx hb dX3_bears_25 rfl (lv_at hl 1 rfl) ?_
      refine va_get (D := D) (ci := 3) (v := .ref (b 2)) (C := RX3) (T := TX3) (N := 7) hx hb hts hiX3 hown hK hP 0 rfl rfl 6 (by decide) f31 (fun _ h9 => h9) rfl dX3_bears_26 ?_
      refine lv_iload_n hx hb dX3_bears_29 rfl (lv_at hl 2 rfl) ?_
      refine ly_iald hx hb hK hP 2 0 rfl rfl (k := k) (by decide) rfl (by omega) dX3_bears_30 ?_
      refine lv_iload_n hx hb dX3_bears_31 rfl (lv_at hl 3 rfl) ?_
      refine lv_isub hx hb dX3_bears_32 ?_
      refine ly_eqi (show ((nI (le k)) - (nI w)) = (nI (le k - w)) from ly_sub rfl rfl (by omega)) ?_
      refine lv_goto (tgt := 37) hx hb dX3_bears_33 (by decide) ?_
      refine ly_iastN hx hb hK hP hD hS 2 0 rfl rfl (k := k) (v := (le k - w)) (by decide) rfl (by omega) rfl dX3_bears_37 (fun H locs hP hD hS => ?_)
      have hP : va_P D vwCl [((b 0), .inr (3, [.int (nI (d 0)), .int (nI (d 1)), .int (nI (d 2)), .int (nI (d 3)), .int (nI (d 4)), .ref (b 1), .ref (b 2)])), ((b 1), .inl (cI, 9, .inl (fun j => ly_h (ho j)))), ((b 2), .inl (cI, 9, .inl (fun j => nI ((va_up le k (le k - w)) j))))] H := hP
      have hD : va_D A [((b 0), .inr (3, [.int (nI (d 0)), .int (nI (d 1)), .int (nI (d 2)), .int (nI (d 3)), .int (nI (d 4)), .ref (b 1), .ref (b 2)])), ((b 1), .inl (cI, 9, .inl (fun j => ly_h (ho j)))), ((b 2), .inl (cI, 9, .inl (fun j => nI ((va_up le k (le k - w)) j))))] := hD
      refine lv_iload_n hx hb dX3_bears_38 rfl (lv_at hl 0 rfl) ?_
      exact W.zret (v := 1) hx hb hr rfl (fun t_9 ht_9 _ => by rw [hQc]; exact ⟨_, [((b 0), .inr (3, [.int (nI (d 0)), .int (nI (d 1)), .int (nI (d 2)), .int (nI (d 3)), .int (nI (d 4)), .ref (b 1), .ref (b 2)])), ((b 1), .inl (cI, 9, .inl (fun j => ly_h (ho j)))), ((b 2), .inl (cI, 9, .inl (fun j => nI ((va_up le k (le k - w)) j))))], rfl, ⟨(by first | rfl | (rw [if_neg c_1]; done) | (rw [if_neg c_1]; rfl) | (simp only [if_neg c_1]; done) | (simp only [if_neg c_1]; rfl)), (by first | rfl | (rw [if_neg c_1]; done) | (rw [if_neg c_1]; rfl) | (simp only [if_neg c_1]; done) | (simp only [if_neg c_1]; rfl))⟩, by simp only [List.map_cons, List.map_nil], by rw [ht_9]; exact hP.sub [0, 1, 2] rfl, by rw [← hAe]; exact hS.F ht_9⟩) hS.2.2 dX3_bears_39
  exact hmain _ _ hP va_S.rf

set_option maxHeartbeats 4000000 in
set_option maxRecDepth 100000 in
theorem c_X0_remember (l : Launch) (D : va_G) (cI cC cZ cN : ClassId) (t : Nat → Nat) (ba : Nat → Nat → Nat) (nx kn : Nat) (sd sh sl : Nat → Nat) (b : Nat → Nat) (d ho le : Nat → Nat) (hx9 : nx < 10) (hk9 : kn ≤ 10) (hD0 : va_D (fun _ => True) [((t 4), .inr (0, [.ref (t 9), .int (nI nx), .int (nI kn)])), ((t 9), .inl (cN, 10, .inr (.inr (.inr (.inr (fun j => some (ba j 0))))))), ((ba nx 0), .inr (3, [.int (nI (sd 0)), .int (nI (sd 1)), .int (nI (sd 2)), .int (nI (sd 3)), .int (nI (sd 4)), .ref (ba nx 1), .ref (ba nx 2)])), ((ba nx 1), .inl (cI, 9, .inl (fun j => ly_h (sh j)))), ((ba nx 2), .inl (cI, 9, .inl (fun j => nI (sl j)))), ((b 0), .inr (3, [.int (nI (d 0)), .int (nI (d 1)), .int (nI (d 2)), .int (nI (d 3)), .int (nI (d 4)), .ref (b 1), .ref (b 2)])), ((b 1), .inl (cI, 9, .inl (fun j => ly_h (ho j)))), ((b 2), .inl (cI, 9, .inl (fun j => nI (le j))))]) : Met l yX0_remember wsX0_remember (ly_rm 2) (ly_Pre D (ly_tys cI cC cZ cN) [((t 4), .inr (0, [.ref (t 9), .int (nI nx), .int (nI kn)])), ((t 9), .inl (cN, 10, .inr (.inr (.inr (.inr (fun j => some (ba j 0))))))), ((ba nx 0), .inr (3, [.int (nI (sd 0)), .int (nI (sd 1)), .int (nI (sd 2)), .int (nI (sd 3)), .int (nI (sd 4)), .ref (ba nx 1), .ref (ba nx 2)])), ((ba nx 1), .inl (cI, 9, .inl (fun j => ly_h (sh j)))), ((ba nx 2), .inl (cI, 9, .inl (fun j => nI (sl j)))), ((b 0), .inr (3, [.int (nI (d 0)), .int (nI (d 1)), .int (nI (d 2)), .int (nI (d 3)), .int (nI (d 4)), .ref (b 1), .ref (b 2)])), ((b 1), .inl (cI, 9, .inl (fun j => ly_h (ho j)))), ((b 2), .inl (cI, 9, .inl (fun j => nI (le j))))] [.ref (t 4), .ref (b 0)]) (ly_Q D [((t 4), .inr (0, [.ref (t 9), .int (nI nx), .int (nI kn)])), ((t 9), .inl (cN, 10, .inr (.inr (.inr (.inr (fun j => some (ba j 0))))))), ((ba nx 0), .inr (3, [.int (nI (sd 0)), .int (nI (sd 1)), .int (nI (sd 2)), .int (nI (sd 3)), .int (nI (sd 4)), .ref (ba nx 1), .ref (ba nx 2)])), ((ba nx 1), .inl (cI, 9, .inl (fun j => ly_h (sh j)))), ((ba nx 2), .inl (cI, 9, .inl (fun j => nI (sl j)))), ((b 0), .inr (3, [.int (nI (d 0)), .int (nI (d 1)), .int (nI (d 2)), .int (nI (d 3)), .int (nI (d 4)), .ref (b 1), .ref (b 2)])), ((b 1), .inl (cI, 9, .inl (fun j => ly_h (ho j)))), ((b 2), .inl (cI, 9, .inl (fun j => nI (le j))))] (fun r_9 w_9 => r_9 = none ∧ w_9 = [((t 4), .inr (0, [.ref (t 9), .int (nI (if 10 ≤ nI (nx + 1) then 0 else nx + 1)), .int (nI (min 10 (kn + 1)))])), ((t 9), .inl (cN, 10, .inr (.inr (.inr (.inr (fun j => some (ba j 0))))))), ((ba nx 0), .inr (3, [.int (nI (d 0)), .int (nI (d 1)), .int (nI (d 2)), .int (nI (d 3)), .int (nI (d 4)), .ref (ba nx 1), .ref (ba nx 2)])), ((ba nx 1), .inl (cI, 9, .inl (fun j => ly_h (ho j)))), ((ba nx 2), .inl (cI, 9, .inl (fun j => nI (le j)))), ((b 0), .inr (3, [.int (nI (d 0)), .int (nI (d 1)), .int (nI (d 2)), .int (nI (d 3)), .int (nI (d 4)), .ref (b 1), .ref (b 2)])), ((b 1), .inl (cI, 9, .inl (fun j => ly_h (ho j)))), ((b 2), .inl (cI, 9, .inl (fun j => nI (le j))))])) 0 0 (ly_in [((t 4), .inr (0, [.ref (t 9), .int (nI nx), .int (nI kn)])), ((t 9), .inl (cN, 10, .inr (.inr (.inr (.inr (fun j => some (ba j 0))))))), ((ba nx 0), .inr (3, [.int (nI (sd 0)), .int (nI (sd 1)), .int (nI (sd 2)), .int (nI (sd 3)), .int (nI (sd 4)), .ref (ba nx 1), .ref (ba nx 2)])), ((ba nx 1), .inl (cI, 9, .inl (fun j => ly_h (sh j)))), ((ba nx 2), .inl (cI, 9, .inl (fun j => nI (sl j)))), ((b 0), .inr (3, [.int (nI (d 0)), .int (nI (d 1)), .int (nI (d 2)), .int (nI (d 3)), .int (nI (d 4)), .ref (b 1), .ref (b 2)])), ((b 1), .inl (cI, 9, .inl (fun j => ly_h (ho j)))), ((b 2), .inl (cI, 9, .inl (fun j => nI (le j))))]) := by
  refine Met.ofW (cc := cX0_remember) (maxL := 2) (ret := none) (by decide) rfl ?_
  intro p e s m args below meth c s₁ B hml hv
  obtain ⟨rfl, hP, hK, hN⟩ := hv
  have hx := B.exec
  have hb := B.bytes
  have hr := B.returns
  have hts := atoms_spec (ws := wsX0_remember) B.pre
  have hown : s.vm.findClass RX0 = some m.cls := findClass_of_methodNamed B.named
  have hlocks := B.notSynchronized
  have hl := lv_entry ([.ref (t 4), .ref (b 0)]) (n := 2) (Nat.le_of_ble_eq_true rfl)
  rw [lg_entry_eq]
  generalize (lg_sl ([.ref (t 4), .ref (b 0)]) ++ List.replicate (2 - (lg_sl ([.ref (t 4), .ref (b 0)])).length) Slot.unset).toArray = ls at hl ⊢
  have hl : lv_has ls 2 [(0, .ref (t 4)), (1, .ref (b 0))] := hl
  generalize ([.ref (t 4), .ref (b 0)] : List Value).toArray = av at hts ⊢
  obtain ⟨Qc, hQc⟩ : ∃ Qc, Qc = (ly_Q D [((t 4), .inr (0, [.ref (t 9), .int (nI nx), .int (nI kn)])), ((t 9), .inl (cN, 10, .inr (.inr (.inr (.inr (fun j => some (ba j 0))))))), ((ba nx 0), .inr (3, [.int (nI (sd 0)), .int (nI (sd 1)), .int (nI (sd 2)), .int (nI (sd 3)), .int (nI (sd 4)), .ref (ba nx 1), .ref (ba nx 2)])), ((ba nx 1), .inl (cI, 9, .inl (fun j => ly_h (sh j)))), ((ba nx 2), .inl (cI, 9, .inl (fun j => nI (sl j)))), ((b 0), .inr (3, [.int (nI (d 0)), .int (nI (d 1)), .int (nI (d 2)), .int (nI (d 3)), .int (nI (d 4)), .ref (b 1), .ref (b 2)])), ((b 1), .inl (cI, 9, .inl (fun j => ly_h (ho j)))), ((b 2), .inl (cI, 9, .inl (fun j => nI (le j))))] (fun r_9 w_9 => r_9 = none ∧ w_9 = [((t 4), .inr (0, [.ref (t 9), .int (nI (if 10 ≤ nI (nx + 1) then 0 else nx + 1)), .int (nI (min 10 (kn + 1)))])), ((t 9), .inl (cN, 10, .inr (.inr (.inr (.inr (fun j => some (ba j 0))))))), ((ba nx 0), .inr (3, [.int (nI (d 0)), .int (nI (d 1)), .int (nI (d 2)), .int (nI (d 3)), .int (nI (d 4)), .ref (ba nx 1), .ref (ba nx 2)])), ((ba nx 1), .inl (cI, 9, .inl (fun j => ly_h (ho j)))), ((ba nx 2), .inl (cI, 9, .inl (fun j => nI (le j)))), ((b 0), .inr (3, [.int (nI (d 0)), .int (nI (d 1)), .int (nI (d 2)), .int (nI (d 3)), .int (nI (d 4)), .ref (b 1), .ref (b 2)])), ((b 1), .inl (cI, 9, .inl (fun j => ly_h (ho j)))), ((b 2), .inl (cI, 9, .inl (fun j => nI (le j))))])) := ⟨_, rfl⟩
  rw [← hQc]
  obtain ⟨A, hAe⟩ : ∃ A, A = ly_in [((t 4), .inr (0, [.ref (t 9), .int (nI nx), .int (nI kn)])), ((t 9), .inl (cN, 10, .inr (.inr (.inr (.inr (fun j => some (ba j 0))))))), ((ba nx 0), .inr (3, [.int (nI (sd 0)), .int (nI (sd 1)), .int (nI (sd 2)), .int (nI (sd 3)), .int (nI (sd 4)), .ref (ba nx 1), .ref (ba nx 2)])), ((ba nx 1), .inl (cI, 9, .inl (fun j => ly_h (sh j)))), ((ba nx 2), .inl (cI, 9, .inl (fun j => nI (sl j)))), ((b 0), .inr (3, [.int (nI (d 0)), .int (nI (d 1)), .int (nI (d 2)), .int (nI (d 3)), .int (nI (d 4)), .ref (b 1), .ref (b 2)])), ((b 1), .inl (cI, 9, .inl (fun j => ly_h (ho j)))), ((b 2), .inl (cI, 9, .inl (fun j => nI (le j))))] := ⟨_, rfl⟩
  rw [← hAe]
  have hD := ly_self hD0
  rw [← hAe] at hD
  have f11 := hts (.fieldLink RX0 11 "KneesLent$Deeds" "before" "[LKneesLent$Now;") (by decide +kernel)
  have f15 := hts (.fieldLink RX0 15 "KneesLent$Deeds" "next" "I") (by decide +kernel)
  have f19 := hts (.fieldLink RX0 19 "KneesLent$Deeds" "known" "I") (by decide +kernel)
  have hiX0 : ∀ w ∈ u_ws RX0 TX0 3, w ∈ wsX0_remember := by decide +kernel
  have hmain : ∀ (H : Heap) (locs : List Loc), va_P D vwCl [((t 4), .inr (0, [.ref (t 9), .int (nI nx), .int (nI kn)])), ((t 9), .inl (cN, 10, .inr (.inr (.inr (.inr (fun j => some (ba j 0))))))), ((ba nx 0), .inr (3, [.int (nI (sd 0)), .int (nI (sd 1)), .int (nI (sd 2)), .int (nI (sd 3)), .int (nI (sd 4)), .ref (ba nx 1), .ref (ba nx 2)])), ((ba nx 1), .inl (cI, 9, .inl (fun j => ly_h (sh j)))), ((ba nx 2), .inl (cI, 9, .inl (fun j => nI (sl j)))), ((b 0), .inr (3, [.int (nI (d 0)), .int (nI (d 1)), .int (nI (d 2)), .int (nI (d 3)), .int (nI (d 4)), .ref (b 1), .ref (b 2)])), ((b 1), .inl (cI, 9, .inl (fun j => ly_h (ho j)))), ((b 2), .inl (cI, 9, .inl (fun j => nI (le j))))] H → va_S A s.heap H locs → W p l e (headSpec wsX0_remember (ly_rm 2)).room s m av below meth c H locs 0 0 (MQ below Qc av s 0 0 A) (F0 m 0 ls []) := by
    intro H locs hP hS
    refine lv_aload_n hx hb dX0_remember_0 rfl (lv_at hl 0 rfl) ?_
    refine va_get (D := D) (ci := 0) (v := .ref (t 9)) (C := RX0) (T := TX0) (N := 3) hx hb hts hiX0 hown hK hP 0 rfl rfl 0 (by decide) f11 (fun _ h9 => h9) rfl dX0_remember_1 ?_
    refine lv_aload_n hx hb dX0_remember_4 rfl (lv_at hl 0 rfl) ?_
    refine va_get (D := D) (ci := 0) (v := .int (nI nx)) (C := RX0) (T := TX0) (N := 3) hx hb hts hiX0 hown hK hP 0 rfl rfl 1 (by decide) f15 (fun _ h9 => h9) rfl dX0_remember_5 ?_
    refine ly_aldq (r1 := fun j => ba j 0) hx hb hK hP 1 3 rfl rfl (k := nx) (by decide) rfl (by omega) dX0_remember_8 ?_
    refine W.eq (g2 := F0 m 9 ls [.ref (ba nx 0)]) rfl ?_
    refine lv_aload_n hx hb dX0_remember_9 rfl (lv_at hl 1 rfl) ?_
    have hPc_10 := hP.sub (ws' := [((ba nx 0), .inr (3, [.int (nI (sd 0)), .int (nI (sd 1)), .int (nI (sd 2)), .int (nI (sd 3)), .int (nI (sd 4)), .ref (ba nx 1), .ref (ba nx 2)])), ((ba nx 1), .inl (cI, 9, .inl (fun j => ly_h (sh j)))), ((ba nx 2), .inl (cI, 9, .inl (fun j => nI (sl j)))), ((b 0), .inr (3, [.int (nI (d 0)), .int (nI (d 1)), .int (nI (d 2)), .int (nI (d 3)), .int (nI (d 4)), .ref (b 1), .ref (b 2)])), ((b 1), .inl (cI, 9, .inl (fun j => ly_h (ho j)))), ((b 2), .inl (cI, 9, .inl (fun j => nI (le j))))]) [2, 3, 4, 5, 6, 7] rfl
    refine ly_m (wr := [((t 4), .inr (0, [.ref (t 9), .int (nI nx), .int (nI kn)])), ((t 9), .inl (cN, 10, .inr (.inr (.inr (.inr (fun j => some (ba j 0)))))))]) (va_runV (As := [.ref (b 0)]) (rest := []) ⟨hx, hb, hml, hown, hts⟩ (c_X3_copy l D cI cC cZ cN (ba nx) sd sh sl b d ho le ((hD.sub [2, 3, 4, 5, 6, 7] (by decide) rfl).weaken (fun _ _ _ _ => trivial))) (cwV 1 hts gX0_remember_X3_copy rfl rfl rfl (by decide +kernel) ⟨Nat.le_of_ble_eq_true rfl, Nat.le_of_ble_eq_true rfl⟩) (ly_pv hK hN hPc_10 0 3 rfl rfl rfl) rfl rfl hl.1 rfl (lv_room (Nat.le_of_ble_eq_true rfl)) dX0_remember_10 ⟨Nat.zero_le _, Nat.zero_le _⟩) hP hD hS [2, 3, 4, 5, 6, 7] [0, 1] rfl rfl (by decide) ?_
    rintro _ _ H locs ⟨rfl, rfl⟩ - hP hD hS
    have hP : va_P D vwCl [((t 4), .inr (0, [.ref (t 9), .int (nI nx), .int (nI kn)])), ((t 9), .inl (cN, 10, .inr (.inr (.inr (.inr (fun j => some (ba j 0))))))), ((ba nx 0), .inr (3, [.int (nI (d 0)), .int (nI (d 1)), .int (nI (d 2)), .int (nI (d 3)), .int (nI (d 4)), .ref (ba nx 1), .ref (ba nx 2)])), ((ba nx 1), .inl (cI, 9, .inl (fun j => ly_h (ho j)))), ((ba nx 2), .inl (cI, 9, .inl (fun j => nI (le j)))), ((b 0), .inr (3, [.int (nI (d 0)), .int (nI (d 1)), .int (nI (d 2)), .int (nI (d 3)), .int (nI (d 4)), .ref (b 1), .ref (b 2)])), ((b 1), .inl (cI, 9, .inl (fun j => ly_h (ho j)))), ((b 2), .inl (cI, 9, .inl (fun j => nI (le j))))] H := hP
    have hD : va_D A [((t 4), .inr (0, [.ref (t 9), .int (nI nx), .int (nI kn)])), ((t 9), .inl (cN, 10, .inr (.inr (.inr (.inr (fun j => some (ba j 0))))))), ((ba nx 0), .inr (3, [.int (nI (d 0)), .int (nI (d 1)), .int (nI (d 2)), .int (nI (d 3)), .int (nI (d 4)), .ref (ba nx 1), .ref (ba nx 2)])), ((ba nx 1), .inl (cI, 9, .inl (fun j => ly_h (ho j)))), ((ba nx 2), .inl (cI, 9, .inl (fun j => nI (le j)))), ((b 0), .inr (3, [.int (nI (d 0)), .int (nI (d 1)), .int (nI (d 2)), .int (nI (d 3)), .int (nI (d 4)), .ref (b 1), .ref (b 2)])), ((b 1), .inl (cI, 9, .inl (fun j => ly_h (ho j)))), ((b 2), .inl (cI, 9, .inl (fun j => nI (le j))))] := hD
    refine W.eq (g2 := F0 m 13 ls []) rfl ?_
    refine lv_aload_n hx hb dX0_remember_13 rfl (lv_at hl 0 rfl) ?_
    refine lv_aload_n hx hb dX0_remember_14 rfl (lv_at hl 0 rfl) ?_
    refine va_get (D := D) (ci := 0) (v := .int (nI nx)) (C := RX0) (T := TX0) (N := 3) hx hb hts hiX0 hown hK hP 0 rfl rfl 1 (by decide) f15 (fun _ h9 => h9) rfl dX0_remember_15 ?_
    refine lv_iconst (v := 1) hx hb dX0_remember_18 (by decide) ?_
    refine lv_iadd hx hb dX0_remember_19 ?_
    refine ly_eqi (show ((nI nx) + 1) = (nI (nx + 1)) from ly_add rfl rfl) ?_
    refine lv_bipush (v := 10) hx hb dX0_remember_20 (by decide) ?_
    refine lv_icmp_ge (tgt := 34) hx hb dX0_remember_22 (by decide) (fun c_1 => ?_) (fun c_1 => ?_)
    · refine lv_iconst (v := 0) hx hb dX0_remember_34 (by decide) ?_
      refine va_put (D := D) (ci := 0) (v := .int 0) (ty := .int) (C := RX0) (T := TX0) (N := 3) hx hb hts hiX0 tyX0 tyX0_ok nmX0 hown hK hP hD hS 0 rfl rfl 1 (by decide) f15 (fun _ h9 => h9) rfl (by decide +kernel) rfl rfl (Nat.le_of_ble_eq_true rfl) dX0_remember_35 (fun H locs hP hD hS => ?_)
      have hP : va_P D vwCl [((t 4), .inr (0, [.ref (t 9), .int 0, .int (nI kn)])), ((t 9), .inl (cN, 10, .inr (.inr (.inr (.inr (fun j => some (ba j 0))))))), ((ba nx 0), .inr (3, [.int (nI (d 0)), .int (nI (d 1)), .int (nI (d 2)), .int (nI (d 3)), .int (nI (d 4)), .ref (ba nx 1), .ref (ba nx 2)])), ((ba nx 1), .inl (cI, 9, .inl (fun j => ly_h (ho j)))), ((ba nx 2), .inl (cI, 9, .inl (fun j => nI (le j)))), ((b 0), .inr (3, [.int (nI (d 0)), .int (nI (d 1)), .int (nI (d 2)), .int (nI (d 3)), .int (nI (d 4)), .ref (b 1), .ref (b 2)])), ((b 1), .inl (cI, 9, .inl (fun j => ly_h (ho j)))), ((b 2), .inl (cI, 9, .inl (fun j => nI (le j))))] H := hP
      have hD : va_D A [((t 4), .inr (0, [.ref (t 9), .int 0, .int (nI kn)])), ((t 9), .inl (cN, 10, .inr (.inr (.inr (.inr (fun j => some (ba j 0))))))), ((ba nx 0), .inr (3, [.int (nI (d 0)), .int (nI (d 1)), .int (nI (d 2)), .int (nI (d 3)), .int (nI (d 4)), .ref (ba nx 1), .ref (ba nx 2)])), ((ba nx 1), .inl (cI, 9, .inl (fun j => ly_h (ho j)))), ((ba nx 2), .inl (cI, 9, .inl (fun j => nI (le j)))), ((b 0), .inr (3, [.int (nI (d 0)), .int (nI (d 1)), .int (nI (d 2)), .int (nI (d 3)), .int (nI (d 4)), .ref (b 1), .ref (b 2)])), ((b 1), .inl (cI, 9, .inl (fun j => ly_h (ho j)))), ((b 2), .inl (cI, 9, .inl (fun j => nI (le j))))] := hD
      refine lv_aload_n hx hb dX0_remember_38 rfl (lv_at hl 0 rfl) ?_
      refine lv_bipush (v := 10) hx hb dX0_remember_39 (by decide) ?_
      refine lv_aload_n hx hb dX0_remember_41 rfl (lv_at hl 0 rfl) ?_
      refine va_get (D := D) (ci := 0) (v := .int (nI kn)) (C := RX0) (T := TX0) (N := 3) hx hb hts hiX0 hown hK hP 0 rfl rfl 2 (by decide) f19 (fun _ h9 => h9) rfl dX0_remember_42 ?_
      refine lv_iconst (v := 1) hx hb dX0_remember_45 (by decide) ?_
      refine lv_iadd hx hb dX0_remember_46 ?_
      refine ly_eqi (show ((nI kn) + 1) = (nI (kn + 1)) from ly_add rfl rfl) ?_
      refine va_mmin hx hb (by rw [hml]; exact hl.1.symm) hown (hts (.methodLink RX0 27 Lib.Math.min.name) (by decide +kernel)) (hts (.static Lib.Math.min.name) (by decide +kernel)) (hts (.initialized "java/lang/Math") (by decide +kernel)) (hts (.code Lib.Math.min.name Lib.Math.min.code 2 (some .int)) (by decide +kernel)) (Nat.le_of_ble_eq_true rfl) (Nat.le_of_ble_eq_true rfl) (Nat.zero_le _) (Nat.zero_le _) dX0_remember_47 ?_
      refine ly_eqi (show (if (nI (kn + 1)) < 10 then (nI (kn + 1)) else 10) = (nI (min 10 (kn + 1))) from (ly_min (a1 := 10) (b1 := kn + 1) rfl rfl (by omega) (by omega))) ?_
      refine va_put (D := D) (ci := 0) (v := .int (nI (min 10 (kn + 1)))) (ty := .int) (C := RX0) (T := TX0) (N := 3) hx hb hts hiX0 tyX0 tyX0_ok nmX0 hown hK hP hD hS 0 rfl rfl 2 (by decide) f19 (fun _ h9 => h9) rfl (by decide +kernel) rfl rfl (Nat.le_of_ble_eq_true rfl) dX0_remember_50 (fun H locs hP hD hS => ?_)
      have hP : va_P D vwCl [((t 4), .inr (0, [.ref (t 9), .int 0, .int (nI (min 10 (kn + 1)))])), ((t 9), .inl (cN, 10, .inr (.inr (.inr (.inr (fun j => some (ba j 0))))))), ((ba nx 0), .inr (3, [.int (nI (d 0)), .int (nI (d 1)), .int (nI (d 2)), .int (nI (d 3)), .int (nI (d 4)), .ref (ba nx 1), .ref (ba nx 2)])), ((ba nx 1), .inl (cI, 9, .inl (fun j => ly_h (ho j)))), ((ba nx 2), .inl (cI, 9, .inl (fun j => nI (le j)))), ((b 0), .inr (3, [.int (nI (d 0)), .int (nI (d 1)), .int (nI (d 2)), .int (nI (d 3)), .int (nI (d 4)), .ref (b 1), .ref (b 2)])), ((b 1), .inl (cI, 9, .inl (fun j => ly_h (ho j)))), ((b 2), .inl (cI, 9, .inl (fun j => nI (le j))))] H := hP
      have hD : va_D A [((t 4), .inr (0, [.ref (t 9), .int 0, .int (nI (min 10 (kn + 1)))])), ((t 9), .inl (cN, 10, .inr (.inr (.inr (.inr (fun j => some (ba j 0))))))), ((ba nx 0), .inr (3, [.int (nI (d 0)), .int (nI (d 1)), .int (nI (d 2)), .int (nI (d 3)), .int (nI (d 4)), .ref (ba nx 1), .ref (ba nx 2)])), ((ba nx 1), .inl (cI, 9, .inl (fun j => ly_h (ho j)))), ((ba nx 2), .inl (cI, 9, .inl (fun j => nI (le j)))), ((b 0), .inr (3, [.int (nI (d 0)), .int (nI (d 1)), .int (nI (d 2)), .int (nI (d 3)), .int (nI (d 4)), .ref (b 1), .ref (b 2)])), ((b 1), .inl (cI, 9, .inl (fun j => ly_h (ho j)))), ((b 2), .inl (cI, 9, .inl (fun j => nI (le j))))] := hD
      exact W.vret hx hb hr (fun t_9 ht_9 _ => by rw [hQc]; exact ⟨_, [((t 4), .inr (0, [.ref (t 9), .int 0, .int (nI (min 10 (kn + 1)))])), ((t 9), .inl (cN, 10, .inr (.inr (.inr (.inr (fun j => some (ba j 0))))))), ((ba nx 0), .inr (3, [.int (nI (d 0)), .int (nI (d 1)), .int (nI (d 2)), .int (nI (d 3)), .int (nI (d 4)), .ref (ba nx 1), .ref (ba nx 2)])), ((ba nx 1), .inl (cI, 9, .inl (fun j => ly_h (ho j)))), ((ba nx 2), .inl (cI, 9, .inl (fun j => nI (le j)))), ((b 0), .inr (3, [.int (nI (d 0)), .int (nI (d 1)), .int (nI (d 2)), .int (nI (d 3)), .int (nI (d 4)), .ref (b 1), .ref (b 2)])), ((b 1), .inl (cI, 9, .inl (fun j => ly_h (ho j)))), ((b 2), .inl (cI, 9, .inl (fun j => nI (le j))))], rfl, ⟨(by first | rfl | (rw [if_pos c_1]; done) | (rw [if_pos c_1]; rfl) | (simp only [if_pos c_1]; done) | (simp only [if_pos c_1]; rfl)), (by first | rfl | (rw [if_pos c_1]; done) | (rw [if_pos c_1]; rfl) | (simp only [if_pos c_1]; done) | (simp only [if_pos c_1]; rfl))⟩, by simp only [List.map_cons, List.map_nil], by rw [ht_9]; exact hP.sub [0, 1, 2, 3, 4, 5, 6, 7] rfl, by rw [← hAe]; exact hS.F ht_9⟩) hS.2.2 dX0_remember_53
    · refine lv_aload_n hx hb dX0_remember_25 rfl (lv_at hl 0 rfl) ?_
      refine va_get (D := D) (ci := 0) (v := .int (nI nx)) (C := RX0) (T := TX0) (N := 3) hx hb hts hiX0 hown hK hP 0 rfl rfl 1 (by decide) f15 (fun _ h9 => h9) rfl dX0_remember_26 ?_
      refine lv_iconst (v := 1) hx hb dX0_remember_29 (by decide) ?_
      refine lv_iadd hx hb dX0_remember_30 ?_
      refine ly_eqi (show ((nI nx) + 1) = (nI (nx + 1)) from ly_add rfl rfl) ?_
      refine lv_goto (tgt := 35) hx hb dX0_remember_31 (by decide) ?_
      refine va_put (D := D) (ci := 0) (v := .int (nI (nx + 1))) (ty := .int) (C := RX0) (T := TX0) (N := 3) hx hb hts hiX0 tyX0 tyX0_ok nmX0 hown hK hP hD hS 0 rfl rfl 1 (by decide) f15 (fun _ h9 => h9) rfl (by decide +kernel) rfl rfl (Nat.le_of_ble_eq_true rfl) dX0_remember_35 (fun H locs hP hD hS => ?_)
      have hP : va_P D vwCl [((t 4), .inr (0, [.ref (t 9), .int (nI (nx + 1)), .int (nI kn)])), ((t 9), .inl (cN, 10, .inr (.inr (.inr (.inr (fun j => some (ba j 0))))))), ((ba nx 0), .inr (3, [.int (nI (d 0)), .int (nI (d 1)), .int (nI (d 2)), .int (nI (d 3)), .int (nI (d 4)), .ref (ba nx 1), .ref (ba nx 2)])), ((ba nx 1), .inl (cI, 9, .inl (fun j => ly_h (ho j)))), ((ba nx 2), .inl (cI, 9, .inl (fun j => nI (le j)))), ((b 0), .inr (3, [.int (nI (d 0)), .int (nI (d 1)), .int (nI (d 2)), .int (nI (d 3)), .int (nI (d 4)), .ref (b 1), .ref (b 2)])), ((b 1), .inl (cI, 9, .inl (fun j => ly_h (ho j)))), ((b 2), .inl (cI, 9, .inl (fun j => nI (le j))))] H := hP
      have hD : va_D A [((t 4), .inr (0, [.ref (t 9), .int (nI (nx + 1)), .int (nI kn)])), ((t 9), .inl (cN, 10, .inr (.inr (.inr (.inr (fun j => some (ba j 0))))))), ((ba nx 0), .inr (3, [.int (nI (d 0)), .int (nI (d 1)), .int (nI (d 2)), .int (nI (d 3)), .int (nI (d 4)), .ref (ba nx 1), .ref (ba nx 2)])), ((ba nx 1), .inl (cI, 9, .inl (fun j => ly_h (ho j)))), ((ba nx 2), .inl (cI, 9, .inl (fun j => nI (le j)))), ((b 0), .inr (3, [.int (nI (d 0)), .int (nI (d 1)), .int (nI (d 2)), .int (nI (d 3)), .int (nI (d 4)), .ref (b 1), .ref (b 2)])), ((b 1), .inl (cI, 9, .inl (fun j => ly_h (ho j)))), ((b 2), .inl (cI, 9, .inl (fun j => nI (le j))))] := hD
      refine lv_aload_n hx hb dX0_remember_38 rfl (lv_at hl 0 rfl) ?_
      refine lv_bipush (v := 10) hx hb dX0_remember_39 (by decide) ?_
      refine lv_aload_n hx hb dX0_remember_41 rfl (lv_at hl 0 rfl) ?_
      refine va_get (D := D) (ci := 0) (v := .int (nI kn)) (C := RX0) (T := TX0) (N := 3) hx hb hts hiX0 hown hK hP 0 rfl rfl 2 (by decide) f19 (fun _ h9 => h9) rfl dX0_remember_42 ?_
      refine lv_iconst (v := 1) hx hb dX0_remember_45 (by decide) ?_
      refine lv_iadd hx hb dX0_remember_46 ?_
      refine ly_eqi (show ((nI kn) + 1) = (nI (kn + 1)) from ly_add rfl rfl) ?_
      refine va_mmin hx hb (by rw [hml]; exact hl.1.symm) hown (hts (.methodLink RX0 27 Lib.Math.min.name) (by decide +kernel)) (hts (.static Lib.Math.min.name) (by decide +kernel)) (hts (.initialized "java/lang/Math") (by decide +kernel)) (hts (.code Lib.Math.min.name Lib.Math.min.code 2 (some .int)) (by decide +kernel)) (Nat.le_of_ble_eq_true rfl) (Nat.le_of_ble_eq_true rfl) (Nat.zero_le _) (Nat.zero_le _) dX0_remember_47 ?_
      refine ly_eqi (show (if (nI (kn + 1)) < 10 then (nI (kn + 1)) else 10) = (nI (min 10 (kn + 1))) from (ly_min (a1 := 10) (b1 := kn + 1) rfl rfl (by omega) (by omega))) ?_
      refine va_put (D := D) (ci := 0) (v := .int (nI (min 10 (kn + 1)))) (ty := .int) (C := RX0) (T := TX0) (N := 3) hx hb hts hiX0 tyX0 tyX0_ok nmX0 hown hK hP hD hS 0 rfl rfl 2 (by decide) f19 (fun _ h9 => h9) rfl (by decide +kernel) rfl rfl (Nat.le_of_ble_eq_true rfl) dX0_remember_50 (fun H locs hP hD hS => ?_)
      have hP : va_P D vwCl [((t 4), .inr (0, [.ref (t 9), .int (nI (nx + 1)), .int (nI (min 10 (kn + 1)))])), ((t 9), .inl (cN, 10, .inr (.inr (.inr (.inr (fun j => some (ba j 0))))))), ((ba nx 0), .inr (3, [.int (nI (d 0)), .int (nI (d 1)), .int (nI (d 2)), .int (nI (d 3)), .int (nI (d 4)), .ref (ba nx 1), .ref (ba nx 2)])), ((ba nx 1), .inl (cI, 9, .inl (fun j => ly_h (ho j)))), ((ba nx 2), .inl (cI, 9, .inl (fun j => nI (le j)))), ((b 0), .inr (3, [.int (nI (d 0)), .int (nI (d 1)), .int (nI (d 2)), .int (nI (d 3)), .int (nI (d 4)), .ref (b 1), .ref (b 2)])), ((b 1), .inl (cI, 9, .inl (fun j => ly_h (ho j)))), ((b 2), .inl (cI, 9, .inl (fun j => nI (le j))))] H := hP
      have hD : va_D A [((t 4), .inr (0, [.ref (t 9), .int (nI (nx + 1)), .int (nI (min 10 (kn + 1)))])), ((t 9), .inl (cN, 10, .inr (.inr (.inr (.inr (fun j => some (ba j 0))))))), ((ba nx 0), .inr (3, [.int (nI (d 0)), .int (nI (d 1)), .int (nI (d 2)), .int (nI (d 3)), .int (nI (d 4)), .ref (ba nx 1), .ref (ba nx 2)])), ((ba nx 1), .inl (cI, 9, .inl (fun j => ly_h (ho j)))), ((ba nx 2), .inl (cI, 9, .inl (fun j => nI (le j)))), ((b 0), .inr (3, [.int (nI (d 0)), .int (nI (d 1)), .int (nI (d 2)), .int (nI (d 3)), .int (nI (d 4)), .ref (b 1), .ref (b 2)])), ((b 1), .inl (cI, 9, .inl (fun j => ly_h (ho j)))), ((b 2), .inl (cI, 9, .inl (fun j => nI (le j))))] := hD
      exact W.vret hx hb hr (fun t_9 ht_9 _ => by rw [hQc]; exact ⟨_, [((t 4), .inr (0, [.ref (t 9), .int (nI (nx + 1)), .int (nI (min 10 (kn + 1)))])), ((t 9), .inl (cN, 10, .inr (.inr (.inr (.inr (fun j => some (ba j 0))))))), ((ba nx 0), .inr (3, [.int (nI (d 0)), .int (nI (d 1)), .int (nI (d 2)), .int (nI (d 3)), .int (nI (d 4)), .ref (ba nx 1), .ref (ba nx 2)])), ((ba nx 1), .inl (cI, 9, .inl (fun j => ly_h (ho j)))), ((ba nx 2), .inl (cI, 9, .inl (fun j => nI (le j)))), ((b 0), .inr (3, [.int (nI (d 0)), .int (nI (d 1)), .int (nI (d 2)), .int (nI (d 3)), .int (nI (d 4)), .ref (b 1), .ref (b 2)])), ((b 1), .inl (cI, 9, .inl (fun j => ly_h (ho j)))), ((b 2), .inl (cI, 9, .inl (fun j => nI (le j))))], rfl, ⟨(by first | rfl | (rw [if_neg c_1]; done) | (rw [if_neg c_1]; rfl) | (simp only [if_neg c_1]; done) | (simp only [if_neg c_1]; rfl)), (by first | rfl | (rw [if_neg c_1]; done) | (rw [if_neg c_1]; rfl) | (simp only [if_neg c_1]; done) | (simp only [if_neg c_1]; rfl))⟩, by simp only [List.map_cons, List.map_nil], by rw [ht_9]; exact hP.sub [0, 1, 2, 3, 4, 5, 6, 7] rfl, by rw [← hAe]; exact hS.F ht_9⟩) hS.2.2 dX0_remember_53
  exact hmain _ _ hP va_S.rf

set_option maxHeartbeats 4000000 in
set_option maxRecDepth 100000 in
theorem c_X0_takeBack_s (l : Launch) (D : va_G) (cI cC cZ cN : ClassId) (t : Nat → Nat) (ba : Nat → Nat → Nat) (j kn : Nat) (sd sh sl : Nat → Nat) (b : Nat → Nat) (d ho le : Nat → Nat) (hx9 : j < 9) (hk9 : 1 ≤ kn) (hD0 : va_D (fun _ => True) [((t 4), .inr (0, [.ref (t 9), .int (nI (j + 1)), .int (nI kn)])), ((t 9), .inl (cN, 10, .inr (.inr (.inr (.inr (fun j => some (ba j 0))))))), ((ba j 0), .inr (3, [.int (nI (sd 0)), .int (nI (sd 1)), .int (nI (sd 2)), .int (nI (sd 3)), .int (nI (sd 4)), .ref (ba j 1), .ref (ba j 2)])), ((ba j 1), .inl (cI, 9, .inl (fun j => ly_h (sh j)))), ((ba j 2), .inl (cI, 9, .inl (fun j => nI (sl j)))), ((b 0), .inr (3, [.int (nI (d 0)), .int (nI (d 1)), .int (nI (d 2)), .int (nI (d 3)), .int (nI (d 4)), .ref (b 1), .ref (b 2)])), ((b 1), .inl (cI, 9, .inl (fun j => ly_h (ho j)))), ((b 2), .inl (cI, 9, .inl (fun j => nI (le j))))]) : Met l yX0_takeBack wsX0_takeBack (ly_rm 2) (ly_Pre D (ly_tys cI cC cZ cN) [((t 4), .inr (0, [.ref (t 9), .int (nI (j + 1)), .int (nI kn)])), ((t 9), .inl (cN, 10, .inr (.inr (.inr (.inr (fun j => some (ba j 0))))))), ((ba j 0), .inr (3, [.int (nI (sd 0)), .int (nI (sd 1)), .int (nI (sd 2)), .int (nI (sd 3)), .int (nI (sd 4)), .ref (ba j 1), .ref (ba j 2)])), ((ba j 1), .inl (cI, 9, .inl (fun j => ly_h (sh j)))), ((ba j 2), .inl (cI, 9, .inl (fun j => nI (sl j)))), ((b 0), .inr (3, [.int (nI (d 0)), .int (nI (d 1)), .int (nI (d 2)), .int (nI (d 3)), .int (nI (d 4)), .ref (b 1), .ref (b 2)])), ((b 1), .inl (cI, 9, .inl (fun j => ly_h (ho j)))), ((b 2), .inl (cI, 9, .inl (fun j => nI (le j))))] [.ref (t 4), .ref (b 0)]) (ly_Q D [((t 4), .inr (0, [.ref (t 9), .int (nI (j + 1)), .int (nI kn)])), ((t 9), .inl (cN, 10, .inr (.inr (.inr (.inr (fun j => some (ba j 0))))))), ((ba j 0), .inr (3, [.int (nI (sd 0)), .int (nI (sd 1)), .int (nI (sd 2)), .int (nI (sd 3)), .int (nI (sd 4)), .ref (ba j 1), .ref (ba j 2)])), ((ba j 1), .inl (cI, 9, .inl (fun j => ly_h (sh j)))), ((ba j 2), .inl (cI, 9, .inl (fun j => nI (sl j)))), ((b 0), .inr (3, [.int (nI (d 0)), .int (nI (d 1)), .int (nI (d 2)), .int (nI (d 3)), .int (nI (d 4)), .ref (b 1), .ref (b 2)])), ((b 1), .inl (cI, 9, .inl (fun j => ly_h (ho j)))), ((b 2), .inl (cI, 9, .inl (fun j => nI (le j))))] (fun r_9 w_9 => r_9 = none ∧ w_9 = [((t 4), .inr (0, [.ref (t 9), .int (nI j), .int (nI (kn - 1))])), ((t 9), .inl (cN, 10, .inr (.inr (.inr (.inr (fun j => some (ba j 0))))))), ((ba j 0), .inr (3, [.int (nI (sd 0)), .int (nI (sd 1)), .int (nI (sd 2)), .int (nI (sd 3)), .int (nI (sd 4)), .ref (ba j 1), .ref (ba j 2)])), ((ba j 1), .inl (cI, 9, .inl (fun j => ly_h (sh j)))), ((ba j 2), .inl (cI, 9, .inl (fun j => nI (sl j)))), ((b 0), .inr (3, [.int (nI (sd 0)), .int (nI (sd 1)), .int (nI (sd 2)), .int (nI (sd 3)), .int (nI (sd 4)), .ref (b 1), .ref (b 2)])), ((b 1), .inl (cI, 9, .inl (fun j => ly_h (sh j)))), ((b 2), .inl (cI, 9, .inl (fun j => nI (sl j))))])) 0 0 (ly_in [((t 4), .inr (0, [.ref (t 9), .int (nI (j + 1)), .int (nI kn)])), ((t 9), .inl (cN, 10, .inr (.inr (.inr (.inr (fun j => some (ba j 0))))))), ((ba j 0), .inr (3, [.int (nI (sd 0)), .int (nI (sd 1)), .int (nI (sd 2)), .int (nI (sd 3)), .int (nI (sd 4)), .ref (ba j 1), .ref (ba j 2)])), ((ba j 1), .inl (cI, 9, .inl (fun j => ly_h (sh j)))), ((ba j 2), .inl (cI, 9, .inl (fun j => nI (sl j)))), ((b 0), .inr (3, [.int (nI (d 0)), .int (nI (d 1)), .int (nI (d 2)), .int (nI (d 3)), .int (nI (d 4)), .ref (b 1), .ref (b 2)])), ((b 1), .inl (cI, 9, .inl (fun j => ly_h (ho j)))), ((b 2), .inl (cI, 9, .inl (fun j => nI (le j))))]) := by
  refine Met.ofW (cc := cX0_takeBack) (maxL := 2) (ret := none) (by decide) rfl ?_
  intro p e s m args below meth c s₁ B hml hv
  obtain ⟨rfl, hP, hK, hN⟩ := hv
  have hx := B.exec
  have hb := B.bytes
  have hr := B.returns
  have hts := atoms_spec (ws := wsX0_takeBack) B.pre
  have hown : s.vm.findClass RX0 = some m.cls := findClass_of_methodNamed B.named
  have hlocks := B.notSynchronized
  have hl := lv_entry ([.ref (t 4), .ref (b 0)]) (n := 2) (Nat.le_of_ble_eq_true rfl)
  rw [lg_entry_eq]
  generalize (lg_sl ([.ref (t 4), .ref (b 0)]) ++ List.replicate (2 - (lg_sl ([.ref (t 4), .ref (b 0)])).length) Slot.unset).toArray = ls at hl ⊢
  have hl : lv_has ls 2 [(0, .ref (t 4)), (1, .ref (b 0))] := hl
  generalize ([.ref (t 4), .ref (b 0)] : List Value).toArray = av at hts ⊢
  obtain ⟨Qc, hQc⟩ : ∃ Qc, Qc = (ly_Q D [((t 4), .inr (0, [.ref (t 9), .int (nI (j + 1)), .int (nI kn)])), ((t 9), .inl (cN, 10, .inr (.inr (.inr (.inr (fun j => some (ba j 0))))))), ((ba j 0), .inr (3, [.int (nI (sd 0)), .int (nI (sd 1)), .int (nI (sd 2)), .int (nI (sd 3)), .int (nI (sd 4)), .ref (ba j 1), .ref (ba j 2)])), ((ba j 1), .inl (cI, 9, .inl (fun j => ly_h (sh j)))), ((ba j 2), .inl (cI, 9, .inl (fun j => nI (sl j)))), ((b 0), .inr (3, [.int (nI (d 0)), .int (nI (d 1)), .int (nI (d 2)), .int (nI (d 3)), .int (nI (d 4)), .ref (b 1), .ref (b 2)])), ((b 1), .inl (cI, 9, .inl (fun j => ly_h (ho j)))), ((b 2), .inl (cI, 9, .inl (fun j => nI (le j))))] (fun r_9 w_9 => r_9 = none ∧ w_9 = [((t 4), .inr (0, [.ref (t 9), .int (nI j), .int (nI (kn - 1))])), ((t 9), .inl (cN, 10, .inr (.inr (.inr (.inr (fun j => some (ba j 0))))))), ((ba j 0), .inr (3, [.int (nI (sd 0)), .int (nI (sd 1)), .int (nI (sd 2)), .int (nI (sd 3)), .int (nI (sd 4)), .ref (ba j 1), .ref (ba j 2)])), ((ba j 1), .inl (cI, 9, .inl (fun j => ly_h (sh j)))), ((ba j 2), .inl (cI, 9, .inl (fun j => nI (sl j)))), ((b 0), .inr (3, [.int (nI (sd 0)), .int (nI (sd 1)), .int (nI (sd 2)), .int (nI (sd 3)), .int (nI (sd 4)), .ref (b 1), .ref (b 2)])), ((b 1), .inl (cI, 9, .inl (fun j => ly_h (sh j)))), ((b 2), .inl (cI, 9, .inl (fun j => nI (sl j))))])) := ⟨_, rfl⟩
  rw [← hQc]
  obtain ⟨A, hAe⟩ : ∃ A, A = ly_in [((t 4), .inr (0, [.ref (t 9), .int (nI (j + 1)), .int (nI kn)])), ((t 9), .inl (cN, 10, .inr (.inr (.inr (.inr (fun j => some (ba j 0))))))), ((ba j 0), .inr (3, [.int (nI (sd 0)), .int (nI (sd 1)), .int (nI (sd 2)), .int (nI (sd 3)), .int (nI (sd 4)), .ref (ba j 1), .ref (ba j 2)])), ((ba j 1), .inl (cI, 9, .inl (fun j => ly_h (sh j)))), ((ba j 2), .inl (cI, 9, .inl (fun j => nI (sl j)))), ((b 0), .inr (3, [.int (nI (d 0)), .int (nI (d 1)), .int (nI (d 2)), .int (nI (d 3)), .int (nI (d 4)), .ref (b 1), .ref (b 2)])), ((b 1), .inl (cI, 9, .inl (fun j => ly_h (ho j)))), ((b 2), .inl (cI, 9, .inl (fun j => nI (le j))))] := ⟨_, rfl⟩
  rw [← hAe]
  have hD := ly_self hD0
  rw [← hAe] at hD
  have f15 := hts (.fieldLink RX0 15 "KneesLent$Deeds" "next" "I") (by decide +kernel)
  have f11 := hts (.fieldLink RX0 11 "KneesLent$Deeds" "before" "[LKneesLent$Now;") (by decide +kernel)
  have f19 := hts (.fieldLink RX0 19 "KneesLent$Deeds" "known" "I") (by decide +kernel)
  have hiX0 : ∀ w ∈ u_ws RX0 TX0 3, w ∈ wsX0_takeBack := by decide +kernel
  have hmain : ∀ (H : Heap) (locs : List Loc), va_P D vwCl [((t 4), .inr (0, [.ref (t 9), .int (nI (j + 1)), .int (nI kn)])), ((t 9), .inl (cN, 10, .inr (.inr (.inr (.inr (fun j => some (ba j 0))))))), ((ba j 0), .inr (3, [.int (nI (sd 0)), .int (nI (sd 1)), .int (nI (sd 2)), .int (nI (sd 3)), .int (nI (sd 4)), .ref (ba j 1), .ref (ba j 2)])), ((ba j 1), .inl (cI, 9, .inl (fun j => ly_h (sh j)))), ((ba j 2), .inl (cI, 9, .inl (fun j => nI (sl j)))), ((b 0), .inr (3, [.int (nI (d 0)), .int (nI (d 1)), .int (nI (d 2)), .int (nI (d 3)), .int (nI (d 4)), .ref (b 1), .ref (b 2)])), ((b 1), .inl (cI, 9, .inl (fun j => ly_h (ho j)))), ((b 2), .inl (cI, 9, .inl (fun j => nI (le j))))] H → va_S A s.heap H locs → W p l e (headSpec wsX0_takeBack (ly_rm 2)).room s m av below meth c H locs 0 0 (MQ below Qc av s 0 0 A) (F0 m 0 ls []) := by
    intro H locs hP hS
    refine lv_aload_n hx hb dX0_takeBack_0 rfl (lv_at hl 0 rfl) ?_
    refine lv_aload_n hx hb dX0_takeBack_1 rfl (lv_at hl 0 rfl) ?_
    refine va_get (D := D) (ci := 0) (v := .int (nI (j + 1))) (C := RX0) (T := TX0) (N := 3) hx hb hts hiX0 hown hK hP 0 rfl rfl 1 (by decide) f15 (fun _ h9 => h9) rfl dX0_takeBack_2 ?_
    refine lv_if_le (tgt := 17) hx hb dX0_takeBack_5 (by decide) (fun h_9 => absurd h_9 (nI_nle (by omega) (by omega))) (fun _ => ?_)
    refine lv_aload_n hx hb dX0_takeBack_8 rfl (lv_at hl 0 rfl) ?_
    refine va_get (D := D) (ci := 0) (v := .int (nI (j + 1))) (C := RX0) (T := TX0) (N := 3) hx hb hts hiX0 hown hK hP 0 rfl rfl 1 (by decide) f15 (fun _ h9 => h9) rfl dX0_takeBack_9 ?_
    refine lv_iconst (v := 1) hx hb dX0_takeBack_12 (by decide) ?_
    refine lv_isub hx hb dX0_takeBack_13 ?_
    refine ly_eqi (show ((nI (j + 1)) - 1) = (nI j) from ly_pred rfl) ?_
    refine lv_goto (tgt := 19) hx hb dX0_takeBack_14 (by decide) ?_
    refine va_put (D := D) (ci := 0) (v := .int (nI j)) (ty := .int) (C := RX0) (T := TX0) (N := 3) hx hb hts hiX0 tyX0 tyX0_ok nmX0 hown hK hP hD hS 0 rfl rfl 1 (by decide) f15 (fun _ h9 => h9) rfl (by decide +kernel) rfl rfl (Nat.le_of_ble_eq_true rfl) dX0_takeBack_19 (fun H locs hP hD hS => ?_)
    have hP : va_P D vwCl [((t 4), .inr (0, [.ref (t 9), .int (nI j), .int (nI kn)])), ((t 9), .inl (cN, 10, .inr (.inr (.inr (.inr (fun j => some (ba j 0))))))), ((ba j 0), .inr (3, [.int (nI (sd 0)), .int (nI (sd 1)), .int (nI (sd 2)), .int (nI (sd 3)), .int (nI (sd 4)), .ref (ba j 1), .ref (ba j 2)])), ((ba j 1), .inl (cI, 9, .inl (fun j => ly_h (sh j)))), ((ba j 2), .inl (cI, 9, .inl (fun j => nI (sl j)))), ((b 0), .inr (3, [.int (nI (d 0)), .int (nI (d 1)), .int (nI (d 2)), .int (nI (d 3)), .int (nI (d 4)), .ref (b 1), .ref (b 2)])), ((b 1), .inl (cI, 9, .inl (fun j => ly_h (ho j)))), ((b 2), .inl (cI, 9, .inl (fun j => nI (le j))))] H := hP
    have hD : va_D A [((t 4), .inr (0, [.ref (t 9), .int (nI j), .int (nI kn)])), ((t 9), .inl (cN, 10, .inr (.inr (.inr (.inr (fun j => some (ba j 0))))))), ((ba j 0), .inr (3, [.int (nI (sd 0)), .int (nI (sd 1)), .int (nI (sd 2)), .int (nI (sd 3)), .int (nI (sd 4)), .ref (ba j 1), .ref (ba j 2)])), ((ba j 1), .inl (cI, 9, .inl (fun j => ly_h (sh j)))), ((ba j 2), .inl (cI, 9, .inl (fun j => nI (sl j)))), ((b 0), .inr (3, [.int (nI (d 0)), .int (nI (d 1)), .int (nI (d 2)), .int (nI (d 3)), .int (nI (d 4)), .ref (b 1), .ref (b 2)])), ((b 1), .inl (cI, 9, .inl (fun j => ly_h (ho j)))), ((b 2), .inl (cI, 9, .inl (fun j => nI (le j))))] := hD
    refine lv_aload_n hx hb dX0_takeBack_22 rfl (lv_at hl 1 rfl) ?_
    refine lv_aload_n hx hb dX0_takeBack_23 rfl (lv_at hl 0 rfl) ?_
    refine va_get (D := D) (ci := 0) (v := .ref (t 9)) (C := RX0) (T := TX0) (N := 3) hx hb hts hiX0 hown hK hP 0 rfl rfl 0 (by decide) f11 (fun _ h9 => h9) rfl dX0_takeBack_24 ?_
    refine lv_aload_n hx hb dX0_takeBack_27 rfl (lv_at hl 0 rfl) ?_
    refine va_get (D := D) (ci := 0) (v := .int (nI j)) (C := RX0) (T := TX0) (N := 3) hx hb hts hiX0 hown hK hP 0 rfl rfl 1 (by decide) f15 (fun _ h9 => h9) rfl dX0_takeBack_28 ?_
    refine ly_aldq (r1 := fun j => ba j 0) hx hb hK hP 1 3 rfl rfl (k := j) (by decide) rfl (by omega) dX0_takeBack_31 ?_
    refine W.eq (g2 := F0 m 32 ls [.ref (ba j 0), .ref (b 0)]) rfl ?_
    have hPc_32 := hP.sub (ws' := [((b 0), .inr (3, [.int (nI (d 0)), .int (nI (d 1)), .int (nI (d 2)), .int (nI (d 3)), .int (nI (d 4)), .ref (b 1), .ref (b 2)])), ((b 1), .inl (cI, 9, .inl (fun j => ly_h (ho j)))), ((b 2), .inl (cI, 9, .inl (fun j => nI (le j)))), ((ba j 0), .inr (3, [.int (nI (sd 0)), .int (nI (sd 1)), .int (nI (sd 2)), .int (nI (sd 3)), .int (nI (sd 4)), .ref (ba j 1), .ref (ba j 2)])), ((ba j 1), .inl (cI, 9, .inl (fun j => ly_h (sh j)))), ((ba j 2), .inl (cI, 9, .inl (fun j => nI (sl j))))]) [5, 6, 7, 2, 3, 4] rfl
    refine ly_m (wr := [((t 4), .inr (0, [.ref (t 9), .int (nI j), .int (nI kn)])), ((t 9), .inl (cN, 10, .inr (.inr (.inr (.inr (fun j => some (ba j 0)))))))]) (va_runV (As := [.ref (ba j 0)]) (rest := []) ⟨hx, hb, hml, hown, hts⟩ (c_X3_copy l D cI cC cZ cN b d ho le (ba j) sd sh sl ((hD.sub [5, 6, 7, 2, 3, 4] (by decide) rfl).weaken (fun _ _ _ _ => trivial))) (cwV 1 hts gX0_takeBack_X3_copy rfl rfl rfl (by decide +kernel) ⟨Nat.le_of_ble_eq_true rfl, Nat.le_of_ble_eq_true rfl⟩) (ly_pv hK hN hPc_32 0 3 rfl rfl rfl) rfl rfl hl.1 rfl (lv_room (Nat.le_of_ble_eq_true rfl)) dX0_takeBack_32 ⟨Nat.zero_le _, Nat.zero_le _⟩) hP hD hS [5, 6, 7, 2, 3, 4] [0, 1] rfl rfl (by decide) ?_
    rintro _ _ H locs ⟨rfl, rfl⟩ - hP hD hS
    have hP : va_P D vwCl [((t 4), .inr (0, [.ref (t 9), .int (nI j), .int (nI kn)])), ((t 9), .inl (cN, 10, .inr (.inr (.inr (.inr (fun j => some (ba j 0))))))), ((b 0), .inr (3, [.int (nI (sd 0)), .int (nI (sd 1)), .int (nI (sd 2)), .int (nI (sd 3)), .int (nI (sd 4)), .ref (b 1), .ref (b 2)])), ((b 1), .inl (cI, 9, .inl (fun j => ly_h (sh j)))), ((b 2), .inl (cI, 9, .inl (fun j => nI (sl j)))), ((ba j 0), .inr (3, [.int (nI (sd 0)), .int (nI (sd 1)), .int (nI (sd 2)), .int (nI (sd 3)), .int (nI (sd 4)), .ref (ba j 1), .ref (ba j 2)])), ((ba j 1), .inl (cI, 9, .inl (fun j => ly_h (sh j)))), ((ba j 2), .inl (cI, 9, .inl (fun j => nI (sl j))))] H := hP
    have hD : va_D A [((t 4), .inr (0, [.ref (t 9), .int (nI j), .int (nI kn)])), ((t 9), .inl (cN, 10, .inr (.inr (.inr (.inr (fun j => some (ba j 0))))))), ((b 0), .inr (3, [.int (nI (sd 0)), .int (nI (sd 1)), .int (nI (sd 2)), .int (nI (sd 3)), .int (nI (sd 4)), .ref (b 1), .ref (b 2)])), ((b 1), .inl (cI, 9, .inl (fun j => ly_h (sh j)))), ((b 2), .inl (cI, 9, .inl (fun j => nI (sl j)))), ((ba j 0), .inr (3, [.int (nI (sd 0)), .int (nI (sd 1)), .int (nI (sd 2)), .int (nI (sd 3)), .int (nI (sd 4)), .ref (ba j 1), .ref (ba j 2)])), ((ba j 1), .inl (cI, 9, .inl (fun j => ly_h (sh j)))), ((ba j 2), .inl (cI, 9, .inl (fun j => nI (sl j))))] := hD
    refine W.eq (g2 := F0 m 35 ls []) rfl ?_
    refine lv_aload_n hx hb dX0_takeBack_35 rfl (lv_at hl 0 rfl) ?_
    refine lv_dup hx hb dX0_takeBack_36 rfl ?_
    refine va_get (D := D) (ci := 0) (v := .int (nI kn)) (C := RX0) (T := TX0) (N := 3) hx hb hts hiX0 hown hK hP 0 rfl rfl 2 (by decide) f19 (fun _ h9 => h9) rfl dX0_takeBack_37 ?_
    refine lv_iconst (v := 1) hx hb dX0_takeBack_40 (by decide) ?_
    refine lv_isub hx hb dX0_takeBack_41 ?_
    refine ly_eqi (show ((nI kn) - 1) = (nI (kn - 1)) from ly_sub rfl rfl (by omega)) ?_
    refine va_put (D := D) (ci := 0) (v := .int (nI (kn - 1))) (ty := .int) (C := RX0) (T := TX0) (N := 3) hx hb hts hiX0 tyX0 tyX0_ok nmX0 hown hK hP hD hS 0 rfl rfl 2 (by decide) f19 (fun _ h9 => h9) rfl (by decide +kernel) rfl rfl (Nat.le_of_ble_eq_true rfl) dX0_takeBack_42 (fun H locs hP hD hS => ?_)
    have hP : va_P D vwCl [((t 4), .inr (0, [.ref (t 9), .int (nI j), .int (nI (kn - 1))])), ((t 9), .inl (cN, 10, .inr (.inr (.inr (.inr (fun j => some (ba j 0))))))), ((b 0), .inr (3, [.int (nI (sd 0)), .int (nI (sd 1)), .int (nI (sd 2)), .int (nI (sd 3)), .int (nI (sd 4)), .ref (b 1), .ref (b 2)])), ((b 1), .inl (cI, 9, .inl (fun j => ly_h (sh j)))), ((b 2), .inl (cI, 9, .inl (fun j => nI (sl j)))), ((ba j 0), .inr (3, [.int (nI (sd 0)), .int (nI (sd 1)), .int (nI (sd 2)), .int (nI (sd 3)), .int (nI (sd 4)), .ref (ba j 1), .ref (ba j 2)])), ((ba j 1), .inl (cI, 9, .inl (fun j => ly_h (sh j)))), ((ba j 2), .inl (cI, 9, .inl (fun j => nI (sl j))))] H := hP
    have hD : va_D A [((t 4), .inr (0, [.ref (t 9), .int (nI j), .int (nI (kn - 1))])), ((t 9), .inl (cN, 10, .inr (.inr (.inr (.inr (fun j => some (ba j 0))))))), ((b 0), .inr (3, [.int (nI (sd 0)), .int (nI (sd 1)), .int (nI (sd 2)), .int (nI (sd 3)), .int (nI (sd 4)), .ref (b 1), .ref (b 2)])), ((b 1), .inl (cI, 9, .inl (fun j => ly_h (sh j)))), ((b 2), .inl (cI, 9, .inl (fun j => nI (sl j)))), ((ba j 0), .inr (3, [.int (nI (sd 0)), .int (nI (sd 1)), .int (nI (sd 2)), .int (nI (sd 3)), .int (nI (sd 4)), .ref (ba j 1), .ref (ba j 2)])), ((ba j 1), .inl (cI, 9, .inl (fun j => ly_h (sh j)))), ((ba j 2), .inl (cI, 9, .inl (fun j => nI (sl j))))] := hD
    exact W.vret hx hb hr (fun t_9 ht_9 _ => by rw [hQc]; exact ⟨_, [((t 4), .inr (0, [.ref (t 9), .int (nI j), .int (nI (kn - 1))])), ((t 9), .inl (cN, 10, .inr (.inr (.inr (.inr (fun j => some (ba j 0))))))), ((ba j 0), .inr (3, [.int (nI (sd 0)), .int (nI (sd 1)), .int (nI (sd 2)), .int (nI (sd 3)), .int (nI (sd 4)), .ref (ba j 1), .ref (ba j 2)])), ((ba j 1), .inl (cI, 9, .inl (fun j => ly_h (sh j)))), ((ba j 2), .inl (cI, 9, .inl (fun j => nI (sl j)))), ((b 0), .inr (3, [.int (nI (sd 0)), .int (nI (sd 1)), .int (nI (sd 2)), .int (nI (sd 3)), .int (nI (sd 4)), .ref (b 1), .ref (b 2)])), ((b 1), .inl (cI, 9, .inl (fun j => ly_h (sh j)))), ((b 2), .inl (cI, 9, .inl (fun j => nI (sl j))))], rfl, ⟨rfl, rfl⟩, by simp only [List.map_cons, List.map_nil], by rw [ht_9]; exact hP.sub [0, 1, 5, 6, 7, 2, 3, 4] rfl, by rw [← hAe]; exact hS.F ht_9⟩) hS.2.2 dX0_takeBack_45
  exact hmain _ _ hP va_S.rf

set_option maxHeartbeats 4000000 in
set_option maxRecDepth 100000 in
theorem c_X0_takeBack_0 (l : Launch) (D : va_G) (cI cC cZ cN : ClassId) (t : Nat → Nat) (ba : Nat → Nat → Nat) (kn : Nat) (sd sh sl : Nat → Nat) (b : Nat → Nat) (d ho le : Nat → Nat) (hk9 : 1 ≤ kn) (hD0 : va_D (fun _ => True) [((t 4), .inr (0, [.ref (t 9), .int (nI 0), .int (nI kn)])), ((t 9), .inl (cN, 10, .inr (.inr (.inr (.inr (fun j => some (ba j 0))))))), ((ba 9 0), .inr (3, [.int (nI (sd 0)), .int (nI (sd 1)), .int (nI (sd 2)), .int (nI (sd 3)), .int (nI (sd 4)), .ref (ba 9 1), .ref (ba 9 2)])), ((ba 9 1), .inl (cI, 9, .inl (fun j => ly_h (sh j)))), ((ba 9 2), .inl (cI, 9, .inl (fun j => nI (sl j)))), ((b 0), .inr (3, [.int (nI (d 0)), .int (nI (d 1)), .int (nI (d 2)), .int (nI (d 3)), .int (nI (d 4)), .ref (b 1), .ref (b 2)])), ((b 1), .inl (cI, 9, .inl (fun j => ly_h (ho j)))), ((b 2), .inl (cI, 9, .inl (fun j => nI (le j))))]) : Met l yX0_takeBack wsX0_takeBack (ly_rm 2) (ly_Pre D (ly_tys cI cC cZ cN) [((t 4), .inr (0, [.ref (t 9), .int (nI 0), .int (nI kn)])), ((t 9), .inl (cN, 10, .inr (.inr (.inr (.inr (fun j => some (ba j 0))))))), ((ba 9 0), .inr (3, [.int (nI (sd 0)), .int (nI (sd 1)), .int (nI (sd 2)), .int (nI (sd 3)), .int (nI (sd 4)), .ref (ba 9 1), .ref (ba 9 2)])), ((ba 9 1), .inl (cI, 9, .inl (fun j => ly_h (sh j)))), ((ba 9 2), .inl (cI, 9, .inl (fun j => nI (sl j)))), ((b 0), .inr (3, [.int (nI (d 0)), .int (nI (d 1)), .int (nI (d 2)), .int (nI (d 3)), .int (nI (d 4)), .ref (b 1), .ref (b 2)])), ((b 1), .inl (cI, 9, .inl (fun j => ly_h (ho j)))), ((b 2), .inl (cI, 9, .inl (fun j => nI (le j))))] [.ref (t 4), .ref (b 0)]) (ly_Q D [((t 4), .inr (0, [.ref (t 9), .int (nI 0), .int (nI kn)])), ((t 9), .inl (cN, 10, .inr (.inr (.inr (.inr (fun j => some (ba j 0))))))), ((ba 9 0), .inr (3, [.int (nI (sd 0)), .int (nI (sd 1)), .int (nI (sd 2)), .int (nI (sd 3)), .int (nI (sd 4)), .ref (ba 9 1), .ref (ba 9 2)])), ((ba 9 1), .inl (cI, 9, .inl (fun j => ly_h (sh j)))), ((ba 9 2), .inl (cI, 9, .inl (fun j => nI (sl j)))), ((b 0), .inr (3, [.int (nI (d 0)), .int (nI (d 1)), .int (nI (d 2)), .int (nI (d 3)), .int (nI (d 4)), .ref (b 1), .ref (b 2)])), ((b 1), .inl (cI, 9, .inl (fun j => ly_h (ho j)))), ((b 2), .inl (cI, 9, .inl (fun j => nI (le j))))] (fun r_9 w_9 => r_9 = none ∧ w_9 = [((t 4), .inr (0, [.ref (t 9), .int (nI 9), .int (nI (kn - 1))])), ((t 9), .inl (cN, 10, .inr (.inr (.inr (.inr (fun j => some (ba j 0))))))), ((ba 9 0), .inr (3, [.int (nI (sd 0)), .int (nI (sd 1)), .int (nI (sd 2)), .int (nI (sd 3)), .int (nI (sd 4)), .ref (ba 9 1), .ref (ba 9 2)])), ((ba 9 1), .inl (cI, 9, .inl (fun j => ly_h (sh j)))), ((ba 9 2), .inl (cI, 9, .inl (fun j => nI (sl j)))), ((b 0), .inr (3, [.int (nI (sd 0)), .int (nI (sd 1)), .int (nI (sd 2)), .int (nI (sd 3)), .int (nI (sd 4)), .ref (b 1), .ref (b 2)])), ((b 1), .inl (cI, 9, .inl (fun j => ly_h (sh j)))), ((b 2), .inl (cI, 9, .inl (fun j => nI (sl j))))])) 0 0 (ly_in [((t 4), .inr (0, [.ref (t 9), .int (nI 0), .int (nI kn)])), ((t 9), .inl (cN, 10, .inr (.inr (.inr (.inr (fun j => some (ba j 0))))))), ((ba 9 0), .inr (3, [.int (nI (sd 0)), .int (nI (sd 1)), .int (nI (sd 2)), .int (nI (sd 3)), .int (nI (sd 4)), .ref (ba 9 1), .ref (ba 9 2)])), ((ba 9 1), .inl (cI, 9, .inl (fun j => ly_h (sh j)))), ((ba 9 2), .inl (cI, 9, .inl (fun j => nI (sl j)))), ((b 0), .inr (3, [.int (nI (d 0)), .int (nI (d 1)), .int (nI (d 2)), .int (nI (d 3)), .int (nI (d 4)), .ref (b 1), .ref (b 2)])), ((b 1), .inl (cI, 9, .inl (fun j => ly_h (ho j)))), ((b 2), .inl (cI, 9, .inl (fun j => nI (le j))))]) := by
  refine Met.ofW (cc := cX0_takeBack) (maxL := 2) (ret := none) (by decide) rfl ?_
  intro p e s m args below meth c s₁ B hml hv
  obtain ⟨rfl, hP, hK, hN⟩ := hv
  have hx := B.exec
  have hb := B.bytes
  have hr := B.returns
  have hts := atoms_spec (ws := wsX0_takeBack) B.pre
  have hown : s.vm.findClass RX0 = some m.cls := findClass_of_methodNamed B.named
  have hlocks := B.notSynchronized
  have hl := lv_entry ([.ref (t 4), .ref (b 0)]) (n := 2) (Nat.le_of_ble_eq_true rfl)
  rw [lg_entry_eq]
  generalize (lg_sl ([.ref (t 4), .ref (b 0)]) ++ List.replicate (2 - (lg_sl ([.ref (t 4), .ref (b 0)])).length) Slot.unset).toArray = ls at hl ⊢
  have hl : lv_has ls 2 [(0, .ref (t 4)), (1, .ref (b 0))] := hl
  generalize ([.ref (t 4), .ref (b 0)] : List Value).toArray = av at hts ⊢
  obtain ⟨Qc, hQc⟩ : ∃ Qc, Qc = (ly_Q D [((t 4), .inr (0, [.ref (t 9), .int (nI 0), .int (nI kn)])), ((t 9), .inl (cN, 10, .inr (.inr (.inr (.inr (fun j => some (ba j 0))))))), ((ba 9 0), .inr (3, [.int (nI (sd 0)), .int (nI (sd 1)), .int (nI (sd 2)), .int (nI (sd 3)), .int (nI (sd 4)), .ref (ba 9 1), .ref (ba 9 2)])), ((ba 9 1), .inl (cI, 9, .inl (fun j => ly_h (sh j)))), ((ba 9 2), .inl (cI, 9, .inl (fun j => nI (sl j)))), ((b 0), .inr (3, [.int (nI (d 0)), .int (nI (d 1)), .int (nI (d 2)), .int (nI (d 3)), .int (nI (d 4)), .ref (b 1), .ref (b 2)])), ((b 1), .inl (cI, 9, .inl (fun j => ly_h (ho j)))), ((b 2), .inl (cI, 9, .inl (fun j => nI (le j))))] (fun r_9 w_9 => r_9 = none ∧ w_9 = [((t 4), .inr (0, [.ref (t 9), .int (nI 9), .int (nI (kn - 1))])), ((t 9), .inl (cN, 10, .inr (.inr (.inr (.inr (fun j => some (ba j 0))))))), ((ba 9 0), .inr (3, [.int (nI (sd 0)), .int (nI (sd 1)), .int (nI (sd 2)), .int (nI (sd 3)), .int (nI (sd 4)), .ref (ba 9 1), .ref (ba 9 2)])), ((ba 9 1), .inl (cI, 9, .inl (fun j => ly_h (sh j)))), ((ba 9 2), .inl (cI, 9, .inl (fun j => nI (sl j)))), ((b 0), .inr (3, [.int (nI (sd 0)), .int (nI (sd 1)), .int (nI (sd 2)), .int (nI (sd 3)), .int (nI (sd 4)), .ref (b 1), .ref (b 2)])), ((b 1), .inl (cI, 9, .inl (fun j => ly_h (sh j)))), ((b 2), .inl (cI, 9, .inl (fun j => nI (sl j))))])) := ⟨_, rfl⟩
  rw [← hQc]
  obtain ⟨A, hAe⟩ : ∃ A, A = ly_in [((t 4), .inr (0, [.ref (t 9), .int (nI 0), .int (nI kn)])), ((t 9), .inl (cN, 10, .inr (.inr (.inr (.inr (fun j => some (ba j 0))))))), ((ba 9 0), .inr (3, [.int (nI (sd 0)), .int (nI (sd 1)), .int (nI (sd 2)), .int (nI (sd 3)), .int (nI (sd 4)), .ref (ba 9 1), .ref (ba 9 2)])), ((ba 9 1), .inl (cI, 9, .inl (fun j => ly_h (sh j)))), ((ba 9 2), .inl (cI, 9, .inl (fun j => nI (sl j)))), ((b 0), .inr (3, [.int (nI (d 0)), .int (nI (d 1)), .int (nI (d 2)), .int (nI (d 3)), .int (nI (d 4)), .ref (b 1), .ref (b 2)])), ((b 1), .inl (cI, 9, .inl (fun j => ly_h (ho j)))), ((b 2), .inl (cI, 9, .inl (fun j => nI (le j))))] := ⟨_, rfl⟩
  rw [← hAe]
  have hD := ly_self hD0
  rw [← hAe] at hD
  have f15 := hts (.fieldLink RX0 15 "KneesLent$Deeds" "next" "I") (by decide +kernel)
  have f11 := hts (.fieldLink RX0 11 "KneesLent$Deeds" "before" "[LKneesLent$Now;") (by decide +kernel)
  have f19 := hts (.fieldLink RX0 19 "KneesLent$Deeds" "known" "I") (by decide +kernel)
  have hiX0 : ∀ w ∈ u_ws RX0 TX0 3, w ∈ wsX0_takeBack := by decide +kernel
  have hmain : ∀ (H : Heap) (locs : List Loc), va_P D vwCl [((t 4), .inr (0, [.ref (t 9), .int (nI 0), .int (nI kn)])), ((t 9), .inl (cN, 10, .inr (.inr (.inr (.inr (fun j => some (ba j 0))))))), ((ba 9 0), .inr (3, [.int (nI (sd 0)), .int (nI (sd 1)), .int (nI (sd 2)), .int (nI (sd 3)), .int (nI (sd 4)), .ref (ba 9 1), .ref (ba 9 2)])), ((ba 9 1), .inl (cI, 9, .inl (fun j => ly_h (sh j)))), ((ba 9 2), .inl (cI, 9, .inl (fun j => nI (sl j)))), ((b 0), .inr (3, [.int (nI (d 0)), .int (nI (d 1)), .int (nI (d 2)), .int (nI (d 3)), .int (nI (d 4)), .ref (b 1), .ref (b 2)])), ((b 1), .inl (cI, 9, .inl (fun j => ly_h (ho j)))), ((b 2), .inl (cI, 9, .inl (fun j => nI (le j))))] H → va_S A s.heap H locs → W p l e (headSpec wsX0_takeBack (ly_rm 2)).room s m av below meth c H locs 0 0 (MQ below Qc av s 0 0 A) (F0 m 0 ls []) := by
    intro H locs hP hS
    refine lv_aload_n hx hb dX0_takeBack_0 rfl (lv_at hl 0 rfl) ?_
    refine lv_aload_n hx hb dX0_takeBack_1 rfl (lv_at hl 0 rfl) ?_
    refine va_get (D := D) (ci := 0) (v := .int (nI 0)) (C := RX0) (T := TX0) (N := 3) hx hb hts hiX0 hown hK hP 0 rfl rfl 1 (by decide) f15 (fun _ h9 => h9) rfl dX0_takeBack_2 ?_
    refine lv_if_le (tgt := 17) hx hb dX0_takeBack_5 (by decide) (fun _ => ?_) (fun h_9 => absurd (by decide) h_9)
    refine lv_bipush (v := 9) hx hb dX0_takeBack_17 (by decide) ?_
    refine va_put (D := D) (ci := 0) (v := .int 9) (ty := .int) (C := RX0) (T := TX0) (N := 3) hx hb hts hiX0 tyX0 tyX0_ok nmX0 hown hK hP hD hS 0 rfl rfl 1 (by decide) f15 (fun _ h9 => h9) rfl (by decide +kernel) rfl rfl (Nat.le_of_ble_eq_true rfl) dX0_takeBack_19 (fun H locs hP hD hS => ?_)
    have hP : va_P D vwCl [((t 4), .inr (0, [.ref (t 9), .int 9, .int (nI kn)])), ((t 9), .inl (cN, 10, .inr (.inr (.inr (.inr (fun j => some (ba j 0))))))), ((ba 9 0), .inr (3, [.int (nI (sd 0)), .int (nI (sd 1)), .int (nI (sd 2)), .int (nI (sd 3)), .int (nI (sd 4)), .ref (ba 9 1), .ref (ba 9 2)])), ((ba 9 1), .inl (cI, 9, .inl (fun j => ly_h (sh j)))), ((ba 9 2), .inl (cI, 9, .inl (fun j => nI (sl j)))), ((b 0), .inr (3, [.int (nI (d 0)), .int (nI (d 1)), .int (nI (d 2)), .int (nI (d 3)), .int (nI (d 4)), .ref (b 1), .ref (b 2)])), ((b 1), .inl (cI, 9, .inl (fun j => ly_h (ho j)))), ((b 2), .inl (cI, 9, .inl (fun j => nI (le j))))] H := hP
    have hD : va_D A [((t 4), .inr (0, [.ref (t 9), .int 9, .int (nI kn)])), ((t 9), .inl (cN, 10, .inr (.inr (.inr (.inr (fun j => some (ba j 0))))))), ((ba 9 0), .inr (3, [.int (nI (sd 0)), .int (nI (sd 1)), .int (nI (sd 2)), .int (nI (sd 3)), .int (nI (sd 4)), .ref (ba 9 1), .ref (ba 9 2)])), ((ba 9 1), .inl (cI, 9, .inl (fun j => ly_h (sh j)))), ((ba 9 2), .inl (cI, 9, .inl (fun j => nI (sl j)))), ((b 0), .inr (3, [.int (nI (d 0)), .int (nI (d 1)), .int (nI (d 2)), .int (nI (d 3)), .int (nI (d 4)), .ref (b 1), .ref (b 2)])), ((b 1), .inl (cI, 9, .inl (fun j => ly_h (ho j)))), ((b 2), .inl (cI, 9, .inl (fun j => nI (le j))))] := hD
    refine lv_aload_n hx hb dX0_takeBack_22 rfl (lv_at hl 1 rfl) ?_
    refine lv_aload_n hx hb dX0_takeBack_23 rfl (lv_at hl 0 rfl) ?_
    refine va_get (D := D) (ci := 0) (v := .ref (t 9)) (C := RX0) (T := TX0) (N := 3) hx hb hts hiX0 hown hK hP 0 rfl rfl 0 (by decide) f11 (fun _ h9 => h9) rfl dX0_takeBack_24 ?_
    refine lv_aload_n hx hb dX0_takeBack_27 rfl (lv_at hl 0 rfl) ?_
    refine va_get (D := D) (ci := 0) (v := .int 9) (C := RX0) (T := TX0) (N := 3) hx hb hts hiX0 hown hK hP 0 rfl rfl 1 (by decide) f15 (fun _ h9 => h9) rfl dX0_takeBack_28 ?_
    refine ly_aldq (r1 := fun j => ba j 0) hx hb hK hP 1 3 rfl rfl (k := 9) (by decide) rfl (by omega) dX0_takeBack_31 ?_
    refine W.eq (g2 := F0 m 32 ls [.ref (ba 9 0), .ref (b 0)]) rfl ?_
    have hPc_32 := hP.sub (ws' := [((b 0), .inr (3, [.int (nI (d 0)), .int (nI (d 1)), .int (nI (d 2)), .int (nI (d 3)), .int (nI (d 4)), .ref (b 1), .ref (b 2)])), ((b 1), .inl (cI, 9, .inl (fun j => ly_h (ho j)))), ((b 2), .inl (cI, 9, .inl (fun j => nI (le j)))), ((ba 9 0), .inr (3, [.int (nI (sd 0)), .int (nI (sd 1)), .int (nI (sd 2)), .int (nI (sd 3)), .int (nI (sd 4)), .ref (ba 9 1), .ref (ba 9 2)])), ((ba 9 1), .inl (cI, 9, .inl (fun j => ly_h (sh j)))), ((ba 9 2), .inl (cI, 9, .inl (fun j => nI (sl j))))]) [5, 6, 7, 2, 3, 4] rfl
    refine ly_m (wr := [((t 4), .inr (0, [.ref (t 9), .int 9, .int (nI kn)])), ((t 9), .inl (cN, 10, .inr (.inr (.inr (.inr (fun j => some (ba j 0)))))))]) (va_runV (As := [.ref (ba 9 0)]) (rest := []) ⟨hx, hb, hml, hown, hts⟩ (c_X3_copy l D cI cC cZ cN b d ho le (ba 9) sd sh sl ((hD.sub [5, 6, 7, 2, 3, 4] (by decide) rfl).weaken (fun _ _ _ _ => trivial))) (cwV 1 hts gX0_takeBack_X3_copy rfl rfl rfl (by decide +kernel) ⟨Nat.le_of_ble_eq_true rfl, Nat.le_of_ble_eq_true rfl⟩) (ly_pv hK hN hPc_32 0 3 rfl rfl rfl) rfl rfl hl.1 rfl (lv_room (Nat.le_of_ble_eq_true rfl)) dX0_takeBack_32 ⟨Nat.zero_le _, Nat.zero_le _⟩) hP hD hS [5, 6, 7, 2, 3, 4] [0, 1] rfl rfl (by decide) ?_
    rintro _ _ H locs ⟨rfl, rfl⟩ - hP hD hS
    have hP : va_P D vwCl [((t 4), .inr (0, [.ref (t 9), .int 9, .int (nI kn)])), ((t 9), .inl (cN, 10, .inr (.inr (.inr (.inr (fun j => some (ba j 0))))))), ((b 0), .inr (3, [.int (nI (sd 0)), .int (nI (sd 1)), .int (nI (sd 2)), .int (nI (sd 3)), .int (nI (sd 4)), .ref (b 1), .ref (b 2)])), ((b 1), .inl (cI, 9, .inl (fun j => ly_h (sh j)))), ((b 2), .inl (cI, 9, .inl (fun j => nI (sl j)))), ((ba 9 0), .inr (3, [.int (nI (sd 0)), .int (nI (sd 1)), .int (nI (sd 2)), .int (nI (sd 3)), .int (nI (sd 4)), .ref (ba 9 1), .ref (ba 9 2)])), ((ba 9 1), .inl (cI, 9, .inl (fun j => ly_h (sh j)))), ((ba 9 2), .inl (cI, 9, .inl (fun j => nI (sl j))))] H := hP
    have hD : va_D A [((t 4), .inr (0, [.ref (t 9), .int 9, .int (nI kn)])), ((t 9), .inl (cN, 10, .inr (.inr (.inr (.inr (fun j => some (ba j 0))))))), ((b 0), .inr (3, [.int (nI (sd 0)), .int (nI (sd 1)), .int (nI (sd 2)), .int (nI (sd 3)), .int (nI (sd 4)), .ref (b 1), .ref (b 2)])), ((b 1), .inl (cI, 9, .inl (fun j => ly_h (sh j)))), ((b 2), .inl (cI, 9, .inl (fun j => nI (sl j)))), ((ba 9 0), .inr (3, [.int (nI (sd 0)), .int (nI (sd 1)), .int (nI (sd 2)), .int (nI (sd 3)), .int (nI (sd 4)), .ref (ba 9 1), .ref (ba 9 2)])), ((ba 9 1), .inl (cI, 9, .inl (fun j => ly_h (sh j)))), ((ba 9 2), .inl (cI, 9, .inl (fun j => nI (sl j))))] := hD
    refine W.eq (g2 := F0 m 35 ls []) rfl ?_
    refine lv_aload_n hx hb dX0_takeBack_35 rfl (lv_at hl 0 rfl) ?_
    refine lv_dup hx hb dX0_takeBack_36 rfl ?_
    refine va_get (D := D) (ci := 0) (v := .int (nI kn)) (C := RX0) (T := TX0) (N := 3) hx hb hts hiX0 hown hK hP 0 rfl rfl 2 (by decide) f19 (fun _ h9 => h9) rfl dX0_takeBack_37 ?_
    refine lv_iconst (v := 1) hx hb dX0_takeBack_40 (by decide) ?_
    refine lv_isub hx hb dX0_takeBack_41 ?_
    refine ly_eqi (show ((nI kn) - 1) = (nI (kn - 1)) from ly_sub rfl rfl (by omega)) ?_
    refine va_put (D := D) (ci := 0) (v := .int (nI (kn - 1))) (ty := .int) (C := RX0) (T := TX0) (N := 3) hx hb hts hiX0 tyX0 tyX0_ok nmX0 hown hK hP hD hS 0 rfl rfl 2 (by decide) f19 (fun _ h9 => h9) rfl (by decide +kernel) rfl rfl (Nat.le_of_ble_eq_true rfl) dX0_takeBack_42 (fun H locs hP hD hS => ?_)
    have hP : va_P D vwCl [((t 4), .inr (0, [.ref (t 9), .int 9, .int (nI (kn - 1))])), ((t 9), .inl (cN, 10, .inr (.inr (.inr (.inr (fun j => some (ba j 0))))))), ((b 0), .inr (3, [.int (nI (sd 0)), .int (nI (sd 1)), .int (nI (sd 2)), .int (nI (sd 3)), .int (nI (sd 4)), .ref (b 1), .ref (b 2)])), ((b 1), .inl (cI, 9, .inl (fun j => ly_h (sh j)))), ((b 2), .inl (cI, 9, .inl (fun j => nI (sl j)))), ((ba 9 0), .inr (3, [.int (nI (sd 0)), .int (nI (sd 1)), .int (nI (sd 2)), .int (nI (sd 3)), .int (nI (sd 4)), .ref (ba 9 1), .ref (ba 9 2)])), ((ba 9 1), .inl (cI, 9, .inl (fun j => ly_h (sh j)))), ((ba 9 2), .inl (cI, 9, .inl (fun j => nI (sl j))))] H := hP
    have hD : va_D A [((t 4), .inr (0, [.ref (t 9), .int 9, .int (nI (kn - 1))])), ((t 9), .inl (cN, 10, .inr (.inr (.inr (.inr (fun j => some (ba j 0))))))), ((b 0), .inr (3, [.int (nI (sd 0)), .int (nI (sd 1)), .int (nI (sd 2)), .int (nI (sd 3)), .int (nI (sd 4)), .ref (b 1), .ref (b 2)])), ((b 1), .inl (cI, 9, .inl (fun j => ly_h (sh j)))), ((b 2), .inl (cI, 9, .inl (fun j => nI (sl j)))), ((ba 9 0), .inr (3, [.int (nI (sd 0)), .int (nI (sd 1)), .int (nI (sd 2)), .int (nI (sd 3)), .int (nI (sd 4)), .ref (ba 9 1), .ref (ba 9 2)])), ((ba 9 1), .inl (cI, 9, .inl (fun j => ly_h (sh j)))), ((ba 9 2), .inl (cI, 9, .inl (fun j => nI (sl j))))] := hD
    exact W.vret hx hb hr (fun t_9 ht_9 _ => by rw [hQc]; exact ⟨_, [((t 4), .inr (0, [.ref (t 9), .int 9, .int (nI (kn - 1))])), ((t 9), .inl (cN, 10, .inr (.inr (.inr (.inr (fun j => some (ba j 0))))))), ((ba 9 0), .inr (3, [.int (nI (sd 0)), .int (nI (sd 1)), .int (nI (sd 2)), .int (nI (sd 3)), .int (nI (sd 4)), .ref (ba 9 1), .ref (ba 9 2)])), ((ba 9 1), .inl (cI, 9, .inl (fun j => ly_h (sh j)))), ((ba 9 2), .inl (cI, 9, .inl (fun j => nI (sl j)))), ((b 0), .inr (3, [.int (nI (sd 0)), .int (nI (sd 1)), .int (nI (sd 2)), .int (nI (sd 3)), .int (nI (sd 4)), .ref (b 1), .ref (b 2)])), ((b 1), .inl (cI, 9, .inl (fun j => ly_h (sh j)))), ((b 2), .inl (cI, 9, .inl (fun j => nI (sl j))))], rfl, ⟨rfl, rfl⟩, by simp only [List.map_cons, List.map_nil], by rw [ht_9]; exact hP.sub [0, 1, 5, 6, 7, 2, 3, 4] rfl, by rw [← hAe]; exact hS.F ht_9⟩) hS.2.2 dX0_takeBack_45
  exact hmain _ _ hP va_S.rf

set_option maxHeartbeats 4000000 in
set_option maxRecDepth 100000 in
theorem c_X1_silence (l : Launch) (D : va_G) (cI cC cZ cN : ClassId) (t : Nat → Nat) (hv : Nat → Nat) (hD0 : va_D (fun _ => True) [((t 5), .inr (1, [.int (nI (hv 0)), .int (nI (hv 1)), .int (nI (hv 2)), .int (nI (hv 3)), .int (nI (hv 4)), .int (nI (hv 5))]))]) : Met l yX1_silence wsX1_silence (ly_rm 1) (ly_Pre D (ly_tys cI cC cZ cN) [((t 5), .inr (1, [.int (nI (hv 0)), .int (nI (hv 1)), .int (nI (hv 2)), .int (nI (hv 3)), .int (nI (hv 4)), .int (nI (hv 5))]))] [.ref (t 5)]) (ly_Q D [((t 5), .inr (1, [.int (nI (hv 0)), .int (nI (hv 1)), .int (nI (hv 2)), .int (nI (hv 3)), .int (nI (hv 4)), .int (nI (hv 5))]))] (fun r_9 w_9 => r_9 = none ∧ w_9 = [((t 5), .inr (1, [.int (nI ((fun _ => 0) 0)), .int (nI ((fun _ => 0) 1)), .int (nI ((fun _ => 0) 2)), .int (nI ((fun _ => 0) 3)), .int (nI ((fun _ => 0) 4)), .int (nI ((fun _ => 0) 5))]))])) 0 0 (ly_in [((t 5), .inr (1, [.int (nI (hv 0)), .int (nI (hv 1)), .int (nI (hv 2)), .int (nI (hv 3)), .int (nI (hv 4)), .int (nI (hv 5))]))]) := by
  refine Met.ofW (cc := cX1_silence) (maxL := 1) (ret := none) (by decide) rfl ?_
  intro p e s m args below meth c s₁ B hml hv
  obtain ⟨rfl, hP, hK, hN⟩ := hv
  have hx := B.exec
  have hb := B.bytes
  have hr := B.returns
  have hts := atoms_spec (ws := wsX1_silence) B.pre
  have hown : s.vm.findClass RX1 = some m.cls := findClass_of_methodNamed B.named
  have hlocks := B.notSynchronized
  have hl := lv_entry ([.ref (t 5)]) (n := 1) (Nat.le_of_ble_eq_true rfl)
  rw [lg_entry_eq]
  generalize (lg_sl ([.ref (t 5)]) ++ List.replicate (1 - (lg_sl ([.ref (t 5)])).length) Slot.unset).toArray = ls at hl ⊢
  have hl : lv_has ls 1 [(0, .ref (t 5))] := hl
  generalize ([.ref (t 5)] : List Value).toArray = av at hts ⊢
  obtain ⟨Qc, hQc⟩ : ∃ Qc, Qc = (ly_Q D [((t 5), .inr (1, [.int (nI (hv 0)), .int (nI (hv 1)), .int (nI (hv 2)), .int (nI (hv 3)), .int (nI (hv 4)), .int (nI (hv 5))]))] (fun r_9 w_9 => r_9 = none ∧ w_9 = [((t 5), .inr (1, [.int (nI ((fun _ => 0) 0)), .int (nI ((fun _ => 0) 1)), .int (nI ((fun _ => 0) 2)), .int (nI ((fun _ => 0) 3)), .int (nI ((fun _ => 0) 4)), .int (nI ((fun _ => 0) 5))]))])) := ⟨_, rfl⟩
  rw [← hQc]
  obtain ⟨A, hAe⟩ : ∃ A, A = ly_in [((t 5), .inr (1, [.int (nI (hv 0)), .int (nI (hv 1)), .int (nI (hv 2)), .int (nI (hv 3)), .int (nI (hv 4)), .int (nI (hv 5))]))] := ⟨_, rfl⟩
  rw [← hAe]
  have hD := ly_self hD0
  rw [← hAe] at hD
  have f7 := hts (.fieldLink RX1 7 "KneesLent$Hearsay" "told" "I") (by decide +kernel)
  have f13 := hts (.fieldLink RX1 13 "KneesLent$Hearsay" "downhill" "I") (by decide +kernel)
  have f16 := hts (.fieldLink RX1 16 "KneesLent$Hearsay" "liars" "I") (by decide +kernel)
  have f19 := hts (.fieldLink RX1 19 "KneesLent$Hearsay" "felt" "I") (by decide +kernel)
  have f22 := hts (.fieldLink RX1 22 "KneesLent$Hearsay" "wet" "I") (by decide +kernel)
  have f25 := hts (.fieldLink RX1 25 "KneesLent$Hearsay" "dry" "I") (by decide +kernel)
  have hiX1 : ∀ w ∈ u_ws RX1 TX1 6, w ∈ wsX1_silence := by decide +kernel
  have hmain : ∀ (H : Heap) (locs : List Loc), va_P D vwCl [((t 5), .inr (1, [.int (nI (hv 0)), .int (nI (hv 1)), .int (nI (hv 2)), .int (nI (hv 3)), .int (nI (hv 4)), .int (nI (hv 5))]))] H → va_S A s.heap H locs → W p l e (headSpec wsX1_silence (ly_rm 1)).room s m av below meth c H locs 0 0 (MQ below Qc av s 0 0 A) (F0 m 0 ls []) := by
    intro H locs hP hS
    refine lv_aload_n hx hb dX1_silence_0 rfl (lv_at hl 0 rfl) ?_
    refine lv_iconst (v := 0) hx hb dX1_silence_1 (by decide) ?_
    refine va_put (D := D) (ci := 1) (v := .int 0) (ty := .int) (C := RX1) (T := TX1) (N := 6) hx hb hts hiX1 tyX1 tyX1_ok nmX1 hown hK hP hD hS 0 rfl rfl 0 (by decide) f7 (fun _ h9 => h9) rfl (by decide +kernel) rfl rfl (Nat.le_of_ble_eq_true rfl) dX1_silence_2 (fun H locs hP hD hS => ?_)
    have hP : va_P D vwCl [((t 5), .inr (1, [.int 0, .int (nI (hv 1)), .int (nI (hv 2)), .int (nI (hv 3)), .int (nI (hv 4)), .int (nI (hv 5))]))] H := hP
    have hD : va_D A [((t 5), .inr (1, [.int 0, .int (nI (hv 1)), .int (nI (hv 2)), .int (nI (hv 3)), .int (nI (hv 4)), .int (nI (hv 5))]))] := hD
    refine lv_aload_n hx hb dX1_silence_5 rfl (lv_at hl 0 rfl) ?_
    refine lv_iconst (v := 0) hx hb dX1_silence_6 (by decide) ?_
    refine va_put (D := D) (ci := 1) (v := .int 0) (ty := .int) (C := RX1) (T := TX1) (N := 6) hx hb hts hiX1 tyX1 tyX1_ok nmX1 hown hK hP hD hS 0 rfl rfl 1 (by decide) f13 (fun _ h9 => h9) rfl (by decide +kernel) rfl rfl (Nat.le_of_ble_eq_true rfl) dX1_silence_7 (fun H locs hP hD hS => ?_)
    have hP : va_P D vwCl [((t 5), .inr (1, [.int 0, .int 0, .int (nI (hv 2)), .int (nI (hv 3)), .int (nI (hv 4)), .int (nI (hv 5))]))] H := hP
    have hD : va_D A [((t 5), .inr (1, [.int 0, .int 0, .int (nI (hv 2)), .int (nI (hv 3)), .int (nI (hv 4)), .int (nI (hv 5))]))] := hD
    refine lv_aload_n hx hb dX1_silence_10 rfl (lv_at hl 0 rfl) ?_
    refine lv_iconst (v := 0) hx hb dX1_silence_11 (by decide) ?_
    refine va_put (D := D) (ci := 1) (v := .int 0) (ty := .int) (C := RX1) (T := TX1) (N := 6) hx hb hts hiX1 tyX1 tyX1_ok nmX1 hown hK hP hD hS 0 rfl rfl 2 (by decide) f16 (fun _ h9 => h9) rfl (by decide +kernel) rfl rfl (Nat.le_of_ble_eq_true rfl) dX1_silence_12 (fun H locs hP hD hS => ?_)
    have hP : va_P D vwCl [((t 5), .inr (1, [.int 0, .int 0, .int 0, .int (nI (hv 3)), .int (nI (hv 4)), .int (nI (hv 5))]))] H := hP
    have hD : va_D A [((t 5), .inr (1, [.int 0, .int 0, .int 0, .int (nI (hv 3)), .int (nI (hv 4)), .int (nI (hv 5))]))] := hD
    refine lv_aload_n hx hb dX1_silence_15 rfl (lv_at hl 0 rfl) ?_
    refine lv_iconst (v := 0) hx hb dX1_silence_16 (by decide) ?_
    refine va_put (D := D) (ci := 1) (v := .int 0) (ty := .int) (C := RX1) (T := TX1) (N := 6) hx hb hts hiX1 tyX1 tyX1_ok nmX1 hown hK hP hD hS 0 rfl rfl 3 (by decide) f19 (fun _ h9 => h9) rfl (by decide +kernel) rfl rfl (Nat.le_of_ble_eq_true rfl) dX1_silence_17 (fun H locs hP hD hS => ?_)
    have hP : va_P D vwCl [((t 5), .inr (1, [.int 0, .int 0, .int 0, .int 0, .int (nI (hv 4)), .int (nI (hv 5))]))] H := hP
    have hD : va_D A [((t 5), .inr (1, [.int 0, .int 0, .int 0, .int 0, .int (nI (hv 4)), .int (nI (hv 5))]))] := hD
    refine lv_aload_n hx hb dX1_silence_20 rfl (lv_at hl 0 rfl) ?_
    refine lv_iconst (v := 0) hx hb dX1_silence_21 (by decide) ?_
    refine va_put (D := D) (ci := 1) (v := .int 0) (ty := .int) (C := RX1) (T := TX1) (N := 6) hx hb hts hiX1 tyX1 tyX1_ok nmX1 hown hK hP hD hS 0 rfl rfl 4 (by decide) f22 (fun _ h9 => h9) rfl (by decide +kernel) rfl rfl (Nat.le_of_ble_eq_true rfl) dX1_silence_22 (fun H locs hP hD hS => ?_)
    have hP : va_P D vwCl [((t 5), .inr (1, [.int 0, .int 0, .int 0, .int 0, .int 0, .int (nI (hv 5))]))] H := hP
    have hD : va_D A [((t 5), .inr (1, [.int 0, .int 0, .int 0, .int 0, .int 0, .int (nI (hv 5))]))] := hD
    refine lv_aload_n hx hb dX1_silence_25 rfl (lv_at hl 0 rfl) ?_
    refine lv_iconst (v := 0) hx hb dX1_silence_26 (by decide) ?_
    refine va_put (D := D) (ci := 1) (v := .int 0) (ty := .int) (C := RX1) (T := TX1) (N := 6) hx hb hts hiX1 tyX1 tyX1_ok nmX1 hown hK hP hD hS 0 rfl rfl 5 (by decide) f25 (fun _ h9 => h9) rfl (by decide +kernel) rfl rfl (Nat.le_of_ble_eq_true rfl) dX1_silence_27 (fun H locs hP hD hS => ?_)
    have hP : va_P D vwCl [((t 5), .inr (1, [.int 0, .int 0, .int 0, .int 0, .int 0, .int 0]))] H := hP
    have hD : va_D A [((t 5), .inr (1, [.int 0, .int 0, .int 0, .int 0, .int 0, .int 0]))] := hD
    exact W.vret hx hb hr (fun t_9 ht_9 _ => by rw [hQc]; exact ⟨_, [((t 5), .inr (1, [.int 0, .int 0, .int 0, .int 0, .int 0, .int 0]))], rfl, ⟨rfl, rfl⟩, by simp only [List.map_cons, List.map_nil], by rw [ht_9]; exact hP.sub [0] rfl, by rw [← hAe]; exact hS.F ht_9⟩) hS.2.2 dX1_silence_30
  exact hmain _ _ hP va_S.rf

set_option maxHeartbeats 4000000 in
set_option maxRecDepth 100000 in
theorem c_X1_hearSteps (l : Launch) (D : va_G) (cI cC cZ cN : ClassId) (t : Nat → Nat) (hv : Nat → Nat) (q n w : Nat) (h1 : q < 6) (hD0 : va_D (fun _ => True) [((t 5), .inr (1, [.int (nI (hv 0)), .int (nI (hv 1)), .int (nI (hv 2)), .int (nI (hv 3)), .int (nI (hv 4)), .int (nI (hv 5))]))]) : Met l yX1_hearSteps wsX1_hearSteps (ly_rm 2) (ly_Pre D (ly_tys cI cC cZ cN) [((t 5), .inr (1, [.int (nI (hv 0)), .int (nI (hv 1)), .int (nI (hv 2)), .int (nI (hv 3)), .int (nI (hv 4)), .int (nI (hv 5))]))] [.ref (t 5), .int (nI q), .int (nI n), .int (nI w)]) (ly_Q D [((t 5), .inr (1, [.int (nI (hv 0)), .int (nI (hv 1)), .int (nI (hv 2)), .int (nI (hv 3)), .int (nI (hv 4)), .int (nI (hv 5))]))] (fun r_9 w_9 => r_9 = none ∧ w_9 = [((t 5), .inr (1, [.int (nI (hv 0 + 1)), .int (nI (if jin (nI w - nI n) 0 (nI n) = 0 then hv 1 else (if nI w - nI n ≤ 0 then hv 1 else hv 1 ||| 2 ^ q))), .int (nI (if jin (nI w - nI n) 0 (nI n) = 0 then hv 2 ||| 2 ^ q else hv 2)), .int (nI (hv 3)), .int (nI (hv 4)), .int (nI (hv 5))]))])) 0 0 (ly_in [((t 5), .inr (1, [.int (nI (hv 0)), .int (nI (hv 1)), .int (nI (hv 2)), .int (nI (hv 3)), .int (nI (hv 4)), .int (nI (hv 5))]))]) := by
  refine Met.ofW (cc := cX1_hearSteps) (maxL := 5) (ret := none) (by decide) rfl ?_
  intro p e s m args below meth c s₁ B hml hv
  obtain ⟨rfl, hP, hK, hN⟩ := hv
  have hx := B.exec
  have hb := B.bytes
  have hr := B.returns
  have hts := atoms_spec (ws := wsX1_hearSteps) B.pre
  have hown : s.vm.findClass RX1 = some m.cls := findClass_of_methodNamed B.named
  have hlocks := B.notSynchronized
  have hl := lv_entry ([.ref (t 5), .int (nI q), .int (nI n), .int (nI w)]) (n := 5) (Nat.le_of_ble_eq_true rfl)
  rw [lg_entry_eq]
  generalize (lg_sl ([.ref (t 5), .int (nI q), .int (nI n), .int (nI w)]) ++ List.replicate (5 - (lg_sl ([.ref (t 5), .int (nI q), .int (nI n), .int (nI w)])).length) Slot.unset).toArray = ls at hl ⊢
  have hl : lv_has ls 5 [(0, .ref (t 5)), (1, .int (nI q)), (2, .int (nI n)), (3, .int (nI w))] := hl
  generalize ([.ref (t 5), .int (nI q), .int (nI n), .int (nI w)] : List Value).toArray = av at hts ⊢
  obtain ⟨Qc, hQc⟩ : ∃ Qc, Qc = (ly_Q D [((t 5), .inr (1, [.int (nI (hv 0)), .int (nI (hv 1)), .int (nI (hv 2)), .int (nI (hv 3)), .int (nI (hv 4)), .int (nI (hv 5))]))] (fun r_9 w_9 => r_9 = none ∧ w_9 = [((t 5), .inr (1, [.int (nI (hv 0 + 1)), .int (nI (if jin (nI w - nI n) 0 (nI n) = 0 then hv 1 else (if nI w - nI n ≤ 0 then hv 1 else hv 1 ||| 2 ^ q))), .int (nI (if jin (nI w - nI n) 0 (nI n) = 0 then hv 2 ||| 2 ^ q else hv 2)), .int (nI (hv 3)), .int (nI (hv 4)), .int (nI (hv 5))]))])) := ⟨_, rfl⟩
  rw [← hQc]
  obtain ⟨A, hAe⟩ : ∃ A, A = ly_in [((t 5), .inr (1, [.int (nI (hv 0)), .int (nI (hv 1)), .int (nI (hv 2)), .int (nI (hv 3)), .int (nI (hv 4)), .int (nI (hv 5))]))] := ⟨_, rfl⟩
  rw [← hAe]
  have hD := ly_self hD0
  rw [← hAe] at hD
  have f7 := hts (.fieldLink RX1 7 "KneesLent$Hearsay" "told" "I") (by decide +kernel)
  have f13 := hts (.fieldLink RX1 13 "KneesLent$Hearsay" "downhill" "I") (by decide +kernel)
  have f16 := hts (.fieldLink RX1 16 "KneesLent$Hearsay" "liars" "I") (by decide +kernel)
  have hiX1 : ∀ w ∈ u_ws RX1 TX1 6, w ∈ wsX1_hearSteps := by decide +kernel
  have hmain : ∀ (H : Heap) (locs : List Loc), va_P D vwCl [((t 5), .inr (1, [.int (nI (hv 0)), .int (nI (hv 1)), .int (nI (hv 2)), .int (nI (hv 3)), .int (nI (hv 4)), .int (nI (hv 5))]))] H → va_S A s.heap H locs → W p l e (headSpec wsX1_hearSteps (ly_rm 2)).room s m av below meth c H locs 0 0 (MQ below Qc av s 0 0 A) (F0 m 0 ls []) := by
    intro H locs hP hS
    refine lv_aload_n hx hb dX1_hearSteps_0 rfl (lv_at hl 0 rfl) ?_
    refine lv_dup hx hb dX1_hearSteps_1 rfl ?_
    refine va_get (D := D) (ci := 1) (v := .int (nI (hv 0))) (C := RX1) (T := TX1) (N := 6) hx hb hts hiX1 hown hK hP 0 rfl rfl 0 (by decide) f7 (fun _ h9 => h9) rfl dX1_hearSteps_2 ?_
    refine lv_iconst (v := 1) hx hb dX1_hearSteps_5 (by decide) ?_
    refine lv_iadd hx hb dX1_hearSteps_6 ?_
    refine ly_eqi (show ((nI (hv 0)) + 1) = (nI (hv 0 + 1)) from ly_add rfl rfl) ?_
    refine va_put (D := D) (ci := 1) (v := .int (nI (hv 0 + 1))) (ty := .int) (C := RX1) (T := TX1) (N := 6) hx hb hts hiX1 tyX1 tyX1_ok nmX1 hown hK hP hD hS 0 rfl rfl 0 (by decide) f7 (fun _ h9 => h9) rfl (by decide +kernel) rfl rfl (Nat.le_of_ble_eq_true rfl) dX1_hearSteps_7 (fun H locs hP hD hS => ?_)
    have hP : va_P D vwCl [((t 5), .inr (1, [.int (nI (hv 0 + 1)), .int (nI (hv 1)), .int (nI (hv 2)), .int (nI (hv 3)), .int (nI (hv 4)), .int (nI (hv 5))]))] H := hP
    have hD : va_D A [((t 5), .inr (1, [.int (nI (hv 0 + 1)), .int (nI (hv 1)), .int (nI (hv 2)), .int (nI (hv 3)), .int (nI (hv 4)), .int (nI (hv 5))]))] := hD
    refine lv_iload_n hx hb dX1_hearSteps_10 rfl (lv_at hl 3 rfl) ?_
    refine lv_iload_n hx hb dX1_hearSteps_11 rfl (lv_at hl 2 rfl) ?_
    refine lv_isub hx hb dX1_hearSteps_12 ?_
    refine lv_istore (lv' := [(4, .int ((nI w) - (nI n))), (0, .ref (t 5)), (1, .int (nI q)), (2, .int (nI n)), (3, .int (nI w))]) hx hb dX1_hearSteps_13 hl (by decide) rfl (fun ls hl => ?_)
    refine lv_iload hx hb dX1_hearSteps_15 (lv_at hl 0 rfl) ?_
    refine lv_iconst (v := 0) hx hb dX1_hearSteps_17 (by decide) ?_
    refine lv_iload_n hx hb dX1_hearSteps_18 rfl (lv_at hl 3 rfl) ?_
    have hPc_19 := hP.sub (ws' := []) [] rfl
    refine ly_r (va_runSN (As := [.int ((nI w) - (nI n)), .int 0, .int (nI n)]) (rest := []) ⟨hx, hb, hml, hown, hts⟩ (c_X6_within l D cI cC cZ cN ((nI w) - (nI n)) 0 (nI n)) ⟨va_cnB 3 hts gX1_hearSteps_X6_within_n28 rfl rfl rfl hN.2.2.2.2.2.2.2.2.2.2.2 (hts (.initialized RX6) (by decide +kernel)) (by decide +kernel) ⟨Nat.le_of_ble_eq_true rfl, Nat.le_of_ble_eq_true rfl⟩, hts (.static yX6_within) (by decide +kernel), trivial⟩ (ly_ps hK hN hPc_19) rfl rfl hl.1 rfl (lv_room (Nat.le_of_ble_eq_true rfl)) dX1_hearSteps_19 ⟨Nat.zero_le _, Nat.zero_le _⟩) ?_
    refine lv_if_ne (tgt := 40) hx hb dX1_hearSteps_22 (by decide) (fun c_1 => ?_) (fun c_1 => ?_)
    · refine lv_iload hx hb dX1_hearSteps_40 (lv_at hl 0 rfl) ?_
      refine lv_if_le (tgt := 57) hx hb dX1_hearSteps_42 (by decide) (fun c_2 => ?_) (fun c_2 => ?_)
      · exact W.vret hx hb hr (fun t_9 ht_9 _ => by rw [hQc]; exact ⟨_, [((t 5), .inr (1, [.int (nI (hv 0 + 1)), .int (nI (hv 1)), .int (nI (hv 2)), .int (nI (hv 3)), .int (nI (hv 4)), .int (nI (hv 5))]))], rfl, ⟨(by first | rfl | (rw [if_neg c_1, if_pos c_2]; done) | (rw [if_neg c_1, if_pos c_2]; rfl) | (simp only [if_neg c_1, if_pos c_2]; done) | (simp only [if_neg c_1, if_pos c_2]; rfl)), (by first | rfl | (rw [if_neg c_1, if_pos c_2]; done) | (rw [if_neg c_1, if_pos c_2]; rfl) | (simp only [if_neg c_1, if_pos c_2]; done) | (simp only [if_neg c_1, if_pos c_2]; rfl))⟩, by simp only [List.map_cons, List.map_nil], by rw [ht_9]; exact hP.sub [0] rfl, by rw [← hAe]; exact hS.F ht_9⟩) hS.2.2 dX1_hearSteps_57
      · refine lv_aload_n hx hb dX1_hearSteps_45 rfl (lv_at hl 1 rfl) ?_
        refine lv_dup hx hb dX1_hearSteps_46 rfl ?_
        refine va_get (D := D) (ci := 1) (v := .int (nI (hv 1))) (C := RX1) (T := TX1) (N := 6) hx hb hts hiX1 hown hK hP 0 rfl rfl 1 (by decide) f13 (fun _ h9 => h9) rfl dX1_hearSteps_47 ?_
        refine lv_iconst (v := 1) hx hb dX1_hearSteps_50 (by decide) ?_
        refine lv_iload_n hx hb dX1_hearSteps_51 rfl (lv_at hl 2 rfl) ?_
        refine lv_ishl hx hb dX1_hearSteps_52 ?_
        refine lv_ior hx hb dX1_hearSteps_53 ?_
        refine ly_eqi (show ((nI (hv 1)) ||| (1 <<< ((nI q) &&& 31))) = (nI ((hv 1) ||| 2 ^ q)) from (ly_or1 rfl (by omega))) ?_
        refine va_put (D := D) (ci := 1) (v := .int (nI ((hv 1) ||| 2 ^ q))) (ty := .int) (C := RX1) (T := TX1) (N := 6) hx hb hts hiX1 tyX1 tyX1_ok nmX1 hown hK hP hD hS 0 rfl rfl 1 (by decide) f13 (fun _ h9 => h9) rfl (by decide +kernel) rfl rfl (Nat.le_of_ble_eq_true rfl) dX1_hearSteps_54 (fun H locs hP hD hS => ?_)
        have hP : va_P D vwCl [((t 5), .inr (1, [.int (nI (hv 0 + 1)), .int (nI ((hv 1) ||| 2 ^ q)), .int (nI (hv 2)), .int (nI (hv 3)), .int (nI (hv 4)), .int (nI (hv 5))]))] H := hP
        have hD : va_D A [((t 5), .inr (1, [.int (nI (hv 0 + 1)), .int (nI ((hv 1) ||| 2 ^ q)), .int (nI (hv 2)), .int (nI (hv 3)), .int (nI (hv 4)), .int (nI (hv 5))]))] := hD
        exact W.vret hx hb hr (fun t_9 ht_9 _ => by rw [hQc]; exact ⟨_, [((t 5), .inr (1, [.int (nI (hv 0 + 1)), .int (nI ((hv 1) ||| 2 ^ q)), .int (nI (hv 2)), .int (nI (hv 3)), .int (nI (hv 4)), .int (nI (hv 5))]))], rfl, ⟨(by first | rfl | (rw [if_neg c_1, if_neg c_2]; done) | (rw [if_neg c_1, if_neg c_2]; rfl) | (simp only [if_neg c_1, if_neg c_2]; done) | (simp only [if_neg c_1, if_neg c_2]; rfl)), (by first | rfl | (rw [if_neg c_1, if_neg c_2]; done) | (rw [if_neg c_1, if_neg c_2]; rfl) | (simp only [if_neg c_1, if_neg c_2]; done) | (simp only [if_neg c_1, if_neg c_2]; rfl))⟩, by simp only [List.map_cons, List.map_nil], by rw [ht_9]; exact hP.sub [0] rfl, by rw [← hAe]; exact hS.F ht_9⟩) hS.2.2 dX1_hearSteps_57
    · refine lv_aload_n hx hb dX1_hearSteps_25 rfl (lv_at hl 1 rfl) ?_
      refine lv_dup hx hb dX1_hearSteps_26 rfl ?_
      refine va_get (D := D) (ci := 1) (v := .int (nI (hv 2))) (C := RX1) (T := TX1) (N := 6) hx hb hts hiX1 hown hK hP 0 rfl rfl 2 (by decide) f16 (fun _ h9 => h9) rfl dX1_hearSteps_27 ?_
      refine lv_iconst (v := 1) hx hb dX1_hearSteps_30 (by decide) ?_
      refine lv_iload_n hx hb dX1_hearSteps_31 rfl (lv_at hl 2 rfl) ?_
      refine lv_ishl hx hb dX1_hearSteps_32 ?_
      refine lv_ior hx hb dX1_hearSteps_33 ?_
      refine ly_eqi (show ((nI (hv 2)) ||| (1 <<< ((nI q) &&& 31))) = (nI ((hv 2) ||| 2 ^ q)) from (ly_or1 rfl (by omega))) ?_
      refine va_put (D := D) (ci := 1) (v := .int (nI ((hv 2) ||| 2 ^ q))) (ty := .int) (C := RX1) (T := TX1) (N := 6) hx hb hts hiX1 tyX1 tyX1_ok nmX1 hown hK hP hD hS 0 rfl rfl 2 (by decide) f16 (fun _ h9 => h9) rfl (by decide +kernel) rfl rfl (Nat.le_of_ble_eq_true rfl) dX1_hearSteps_34 (fun H locs hP hD hS => ?_)
      have hP : va_P D vwCl [((t 5), .inr (1, [.int (nI (hv 0 + 1)), .int (nI (hv 1)), .int (nI ((hv 2) ||| 2 ^ q)), .int (nI (hv 3)), .int (nI (hv 4)), .int (nI (hv 5))]))] H := hP
      have hD : va_D A [((t 5), .inr (1, [.int (nI (hv 0 + 1)), .int (nI (hv 1)), .int (nI ((hv 2) ||| 2 ^ q)), .int (nI (hv 3)), .int (nI (hv 4)), .int (nI (hv 5))]))] := hD
      refine lv_goto (tgt := 57) hx hb dX1_hearSteps_37 (by decide) ?_
      exact W.vret hx hb hr (fun t_9 ht_9 _ => by rw [hQc]; exact ⟨_, [((t 5), .inr (1, [.int (nI (hv 0 + 1)), .int (nI (hv 1)), .int (nI ((hv 2) ||| 2 ^ q)), .int (nI (hv 3)), .int (nI (hv 4)), .int (nI (hv 5))]))], rfl, ⟨(by first | rfl | (rw [if_pos c_1]; done) | (rw [if_pos c_1]; rfl) | (simp only [if_pos c_1]; done) | (simp only [if_pos c_1]; rfl)), (by first | rfl | (rw [if_pos c_1]; done) | (rw [if_pos c_1]; rfl) | (simp only [if_pos c_1]; done) | (simp only [if_pos c_1]; rfl))⟩, by simp only [List.map_cons, List.map_nil], by rw [ht_9]; exact hP.sub [0] rfl, by rw [← hAe]; exact hS.F ht_9⟩) hS.2.2 dX1_hearSteps_57
  exact hmain _ _ hP va_S.rf

set_option maxHeartbeats 4000000 in
set_option maxRecDepth 100000 in
theorem c_X1_hearRain_1 (l : Launch) (D : va_G) (cI cC cZ cN : ClassId) (t : Nat → Nat) (hv : Nat → Nat) (f : Nat) (h1 : f < 5) (hD0 : va_D (fun _ => True) [((t 5), .inr (1, [.int (nI (hv 0)), .int (nI (hv 1)), .int (nI (hv 2)), .int (nI (hv 3)), .int (nI (hv 4)), .int (nI (hv 5))]))]) : Met l yX1_hearRain wsX1_hearRain (ly_rm 1) (ly_Pre D (ly_tys cI cC cZ cN) [((t 5), .inr (1, [.int (nI (hv 0)), .int (nI (hv 1)), .int (nI (hv 2)), .int (nI (hv 3)), .int (nI (hv 4)), .int (nI (hv 5))]))] [.ref (t 5), .int (nI f), .int (nI 1)]) (ly_Q D [((t 5), .inr (1, [.int (nI (hv 0)), .int (nI (hv 1)), .int (nI (hv 2)), .int (nI (hv 3)), .int (nI (hv 4)), .int (nI (hv 5))]))] (fun r_9 w_9 => r_9 = none ∧ w_9 = [((t 5), .inr (1, [.int (nI (hv 0)), .int (nI (hv 1)), .int (nI (hv 2)), .int (nI (hv 3 + 1)), .int (nI (hv 4 ||| 2 ^ f)), .int (nI (hv 5))]))])) 0 0 (ly_in [((t 5), .inr (1, [.int (nI (hv 0)), .int (nI (hv 1)), .int (nI (hv 2)), .int (nI (hv 3)), .int (nI (hv 4)), .int (nI (hv 5))]))]) := by
  refine Met.ofW (cc := cX1_hearRain) (maxL := 3) (ret := none) (by decide) rfl ?_
  intro p e s m args below meth c s₁ B hml hv
  obtain ⟨rfl, hP, hK, hN⟩ := hv
  have hx := B.exec
  have hb := B.bytes
  have hr := B.returns
  have hts := atoms_spec (ws := wsX1_hearRain) B.pre
  have hown : s.vm.findClass RX1 = some m.cls := findClass_of_methodNamed B.named
  have hlocks := B.notSynchronized
  have hl := lv_entry ([.ref (t 5), .int (nI f), .int (nI 1)]) (n := 3) (Nat.le_of_ble_eq_true rfl)
  rw [lg_entry_eq]
  generalize (lg_sl ([.ref (t 5), .int (nI f), .int (nI 1)]) ++ List.replicate (3 - (lg_sl ([.ref (t 5), .int (nI f), .int (nI 1)])).length) Slot.unset).toArray = ls at hl ⊢
  have hl : lv_has ls 3 [(0, .ref (t 5)), (1, .int (nI f)), (2, .int (nI 1))] := hl
  generalize ([.ref (t 5), .int (nI f), .int (nI 1)] : List Value).toArray = av at hts ⊢
  obtain ⟨Qc, hQc⟩ : ∃ Qc, Qc = (ly_Q D [((t 5), .inr (1, [.int (nI (hv 0)), .int (nI (hv 1)), .int (nI (hv 2)), .int (nI (hv 3)), .int (nI (hv 4)), .int (nI (hv 5))]))] (fun r_9 w_9 => r_9 = none ∧ w_9 = [((t 5), .inr (1, [.int (nI (hv 0)), .int (nI (hv 1)), .int (nI (hv 2)), .int (nI (hv 3 + 1)), .int (nI (hv 4 ||| 2 ^ f)), .int (nI (hv 5))]))])) := ⟨_, rfl⟩
  rw [← hQc]
  obtain ⟨A, hAe⟩ : ∃ A, A = ly_in [((t 5), .inr (1, [.int (nI (hv 0)), .int (nI (hv 1)), .int (nI (hv 2)), .int (nI (hv 3)), .int (nI (hv 4)), .int (nI (hv 5))]))] := ⟨_, rfl⟩
  rw [← hAe]
  have hD := ly_self hD0
  rw [← hAe] at hD
  have f19 := hts (.fieldLink RX1 19 "KneesLent$Hearsay" "felt" "I") (by decide +kernel)
  have f22 := hts (.fieldLink RX1 22 "KneesLent$Hearsay" "wet" "I") (by decide +kernel)
  have hiX1 : ∀ w ∈ u_ws RX1 TX1 6, w ∈ wsX1_hearRain := by decide +kernel
  have hmain : ∀ (H : Heap) (locs : List Loc), va_P D vwCl [((t 5), .inr (1, [.int (nI (hv 0)), .int (nI (hv 1)), .int (nI (hv 2)), .int (nI (hv 3)), .int (nI (hv 4)), .int (nI (hv 5))]))] H → va_S A s.heap H locs → W p l e (headSpec wsX1_hearRain (ly_rm 1)).room s m av below meth c H locs 0 0 (MQ below Qc av s 0 0 A) (F0 m 0 ls []) := by
    intro H locs hP hS
    refine lv_aload_n hx hb dX1_hearRain_0 rfl (lv_at hl 0 rfl) ?_
    refine lv_dup hx hb dX1_hearRain_1 rfl ?_
    refine va_get (D := D) (ci := 1) (v := .int (nI (hv 3))) (C := RX1) (T := TX1) (N := 6) hx hb hts hiX1 hown hK hP 0 rfl rfl 3 (by decide) f19 (fun _ h9 => h9) rfl dX1_hearRain_2 ?_
    refine lv_iconst (v := 1) hx hb dX1_hearRain_5 (by decide) ?_
    refine lv_iadd hx hb dX1_hearRain_6 ?_
    refine ly_eqi (show ((nI (hv 3)) + 1) = (nI (hv 3 + 1)) from ly_add rfl rfl) ?_
    refine va_put (D := D) (ci := 1) (v := .int (nI (hv 3 + 1))) (ty := .int) (C := RX1) (T := TX1) (N := 6) hx hb hts hiX1 tyX1 tyX1_ok nmX1 hown hK hP hD hS 0 rfl rfl 3 (by decide) f19 (fun _ h9 => h9) rfl (by decide +kernel) rfl rfl (Nat.le_of_ble_eq_true rfl) dX1_hearRain_7 (fun H locs hP hD hS => ?_)
    have hP : va_P D vwCl [((t 5), .inr (1, [.int (nI (hv 0)), .int (nI (hv 1)), .int (nI (hv 2)), .int (nI (hv 3 + 1)), .int (nI (hv 4)), .int (nI (hv 5))]))] H := hP
    have hD : va_D A [((t 5), .inr (1, [.int (nI (hv 0)), .int (nI (hv 1)), .int (nI (hv 2)), .int (nI (hv 3 + 1)), .int (nI (hv 4)), .int (nI (hv 5))]))] := hD
    refine lv_iload_n hx hb dX1_hearRain_10 rfl (lv_at hl 2 rfl) ?_
    refine lv_iconst (v := 1) hx hb dX1_hearRain_11 (by decide) ?_
    refine lv_icmp_ne (tgt := 30) hx hb dX1_hearRain_12 (by decide) (fun h_9 => absurd (by decide) h_9) (fun _ => ?_)
    refine lv_aload_n hx hb dX1_hearRain_15 rfl (lv_at hl 0 rfl) ?_
    refine lv_dup hx hb dX1_hearRain_16 rfl ?_
    refine va_get (D := D) (ci := 1) (v := .int (nI (hv 4))) (C := RX1) (T := TX1) (N := 6) hx hb hts hiX1 hown hK hP 0 rfl rfl 4 (by decide) f22 (fun _ h9 => h9) rfl dX1_hearRain_17 ?_
    refine lv_iconst (v := 1) hx hb dX1_hearRain_20 (by decide) ?_
    refine lv_iload_n hx hb dX1_hearRain_21 rfl (lv_at hl 1 rfl) ?_
    refine lv_ishl hx hb dX1_hearRain_22 ?_
    refine lv_ior hx hb dX1_hearRain_23 ?_
    refine ly_eqi (show ((nI (hv 4)) ||| (1 <<< ((nI f) &&& 31))) = (nI ((hv 4) ||| 2 ^ f)) from (ly_or1 rfl (by omega))) ?_
    refine va_put (D := D) (ci := 1) (v := .int (nI ((hv 4) ||| 2 ^ f))) (ty := .int) (C := RX1) (T := TX1) (N := 6) hx hb hts hiX1 tyX1 tyX1_ok nmX1 hown hK hP hD hS 0 rfl rfl 4 (by decide) f22 (fun _ h9 => h9) rfl (by decide +kernel) rfl rfl (Nat.le_of_ble_eq_true rfl) dX1_hearRain_24 (fun H locs hP hD hS => ?_)
    have hP : va_P D vwCl [((t 5), .inr (1, [.int (nI (hv 0)), .int (nI (hv 1)), .int (nI (hv 2)), .int (nI (hv 3 + 1)), .int (nI ((hv 4) ||| 2 ^ f)), .int (nI (hv 5))]))] H := hP
    have hD : va_D A [((t 5), .inr (1, [.int (nI (hv 0)), .int (nI (hv 1)), .int (nI (hv 2)), .int (nI (hv 3 + 1)), .int (nI ((hv 4) ||| 2 ^ f)), .int (nI (hv 5))]))] := hD
    refine lv_goto (tgt := 42) hx hb dX1_hearRain_27 (by decide) ?_
    exact W.vret hx hb hr (fun t_9 ht_9 _ => by rw [hQc]; exact ⟨_, [((t 5), .inr (1, [.int (nI (hv 0)), .int (nI (hv 1)), .int (nI (hv 2)), .int (nI (hv 3 + 1)), .int (nI ((hv 4) ||| 2 ^ f)), .int (nI (hv 5))]))], rfl, ⟨rfl, rfl⟩, by simp only [List.map_cons, List.map_nil], by rw [ht_9]; exact hP.sub [0] rfl, by rw [← hAe]; exact hS.F ht_9⟩) hS.2.2 dX1_hearRain_42
  exact hmain _ _ hP va_S.rf

set_option maxHeartbeats 4000000 in
set_option maxRecDepth 100000 in
theorem c_X1_hearRain_0 (l : Launch) (D : va_G) (cI cC cZ cN : ClassId) (t : Nat → Nat) (hv : Nat → Nat) (f : Nat) (h1 : f < 5) (hD0 : va_D (fun _ => True) [((t 5), .inr (1, [.int (nI (hv 0)), .int (nI (hv 1)), .int (nI (hv 2)), .int (nI (hv 3)), .int (nI (hv 4)), .int (nI (hv 5))]))]) : Met l yX1_hearRain wsX1_hearRain (ly_rm 1) (ly_Pre D (ly_tys cI cC cZ cN) [((t 5), .inr (1, [.int (nI (hv 0)), .int (nI (hv 1)), .int (nI (hv 2)), .int (nI (hv 3)), .int (nI (hv 4)), .int (nI (hv 5))]))] [.ref (t 5), .int (nI f), .int (nI 0)]) (ly_Q D [((t 5), .inr (1, [.int (nI (hv 0)), .int (nI (hv 1)), .int (nI (hv 2)), .int (nI (hv 3)), .int (nI (hv 4)), .int (nI (hv 5))]))] (fun r_9 w_9 => r_9 = none ∧ w_9 = [((t 5), .inr (1, [.int (nI (hv 0)), .int (nI (hv 1)), .int (nI (hv 2)), .int (nI (hv 3 + 1)), .int (nI (hv 4)), .int (nI (hv 5 ||| 2 ^ f))]))])) 0 0 (ly_in [((t 5), .inr (1, [.int (nI (hv 0)), .int (nI (hv 1)), .int (nI (hv 2)), .int (nI (hv 3)), .int (nI (hv 4)), .int (nI (hv 5))]))]) := by
  refine Met.ofW (cc := cX1_hearRain) (maxL := 3) (ret := none) (by decide) rfl ?_
  intro p e s m args below meth c s₁ B hml hv
  obtain ⟨rfl, hP, hK, hN⟩ := hv
  have hx := B.exec
  have hb := B.bytes
  have hr := B.returns
  have hts := atoms_spec (ws := wsX1_hearRain) B.pre
  have hown : s.vm.findClass RX1 = some m.cls := findClass_of_methodNamed B.named
  have hlocks := B.notSynchronized
  have hl := lv_entry ([.ref (t 5), .int (nI f), .int (nI 0)]) (n := 3) (Nat.le_of_ble_eq_true rfl)
  rw [lg_entry_eq]
  generalize (lg_sl ([.ref (t 5), .int (nI f), .int (nI 0)]) ++ List.replicate (3 - (lg_sl ([.ref (t 5), .int (nI f), .int (nI 0)])).length) Slot.unset).toArray = ls at hl ⊢
  have hl : lv_has ls 3 [(0, .ref (t 5)), (1, .int (nI f)), (2, .int (nI 0))] := hl
  generalize ([.ref (t 5), .int (nI f), .int (nI 0)] : List Value).toArray = av at hts ⊢
  obtain ⟨Qc, hQc⟩ : ∃ Qc, Qc = (ly_Q D [((t 5), .inr (1, [.int (nI (hv 0)), .int (nI (hv 1)), .int (nI (hv 2)), .int (nI (hv 3)), .int (nI (hv 4)), .int (nI (hv 5))]))] (fun r_9 w_9 => r_9 = none ∧ w_9 = [((t 5), .inr (1, [.int (nI (hv 0)), .int (nI (hv 1)), .int (nI (hv 2)), .int (nI (hv 3 + 1)), .int (nI (hv 4)), .int (nI (hv 5 ||| 2 ^ f))]))])) := ⟨_, rfl⟩
  rw [← hQc]
  obtain ⟨A, hAe⟩ : ∃ A, A = ly_in [((t 5), .inr (1, [.int (nI (hv 0)), .int (nI (hv 1)), .int (nI (hv 2)), .int (nI (hv 3)), .int (nI (hv 4)), .int (nI (hv 5))]))] := ⟨_, rfl⟩
  rw [← hAe]
  have hD := ly_self hD0
  rw [← hAe] at hD
  have f19 := hts (.fieldLink RX1 19 "KneesLent$Hearsay" "felt" "I") (by decide +kernel)
  have f25 := hts (.fieldLink RX1 25 "KneesLent$Hearsay" "dry" "I") (by decide +kernel)
  have hiX1 : ∀ w ∈ u_ws RX1 TX1 6, w ∈ wsX1_hearRain := by decide +kernel
  have hmain : ∀ (H : Heap) (locs : List Loc), va_P D vwCl [((t 5), .inr (1, [.int (nI (hv 0)), .int (nI (hv 1)), .int (nI (hv 2)), .int (nI (hv 3)), .int (nI (hv 4)), .int (nI (hv 5))]))] H → va_S A s.heap H locs → W p l e (headSpec wsX1_hearRain (ly_rm 1)).room s m av below meth c H locs 0 0 (MQ below Qc av s 0 0 A) (F0 m 0 ls []) := by
    intro H locs hP hS
    refine lv_aload_n hx hb dX1_hearRain_0 rfl (lv_at hl 0 rfl) ?_
    refine lv_dup hx hb dX1_hearRain_1 rfl ?_
    refine va_get (D := D) (ci := 1) (v := .int (nI (hv 3))) (C := RX1) (T := TX1) (N := 6) hx hb hts hiX1 hown hK hP 0 rfl rfl 3 (by decide) f19 (fun _ h9 => h9) rfl dX1_hearRain_2 ?_
    refine lv_iconst (v := 1) hx hb dX1_hearRain_5 (by decide) ?_
    refine lv_iadd hx hb dX1_hearRain_6 ?_
    refine ly_eqi (show ((nI (hv 3)) + 1) = (nI (hv 3 + 1)) from ly_add rfl rfl) ?_
    refine va_put (D := D) (ci := 1) (v := .int (nI (hv 3 + 1))) (ty := .int) (C := RX1) (T := TX1) (N := 6) hx hb hts hiX1 tyX1 tyX1_ok nmX1 hown hK hP hD hS 0 rfl rfl 3 (by decide) f19 (fun _ h9 => h9) rfl (by decide +kernel) rfl rfl (Nat.le_of_ble_eq_true rfl) dX1_hearRain_7 (fun H locs hP hD hS => ?_)
    have hP : va_P D vwCl [((t 5), .inr (1, [.int (nI (hv 0)), .int (nI (hv 1)), .int (nI (hv 2)), .int (nI (hv 3 + 1)), .int (nI (hv 4)), .int (nI (hv 5))]))] H := hP
    have hD : va_D A [((t 5), .inr (1, [.int (nI (hv 0)), .int (nI (hv 1)), .int (nI (hv 2)), .int (nI (hv 3 + 1)), .int (nI (hv 4)), .int (nI (hv 5))]))] := hD
    refine lv_iload_n hx hb dX1_hearRain_10 rfl (lv_at hl 2 rfl) ?_
    refine lv_iconst (v := 1) hx hb dX1_hearRain_11 (by decide) ?_
    refine lv_icmp_ne (tgt := 30) hx hb dX1_hearRain_12 (by decide) (fun _ => ?_) (fun h_9 => absurd h_9 (by decide))
    refine lv_aload_n hx hb dX1_hearRain_30 rfl (lv_at hl 0 rfl) ?_
    refine lv_dup hx hb dX1_hearRain_31 rfl ?_
    refine va_get (D := D) (ci := 1) (v := .int (nI (hv 5))) (C := RX1) (T := TX1) (N := 6) hx hb hts hiX1 hown hK hP 0 rfl rfl 5 (by decide) f25 (fun _ h9 => h9) rfl dX1_hearRain_32 ?_
    refine lv_iconst (v := 1) hx hb dX1_hearRain_35 (by decide) ?_
    refine lv_iload_n hx hb dX1_hearRain_36 rfl (lv_at hl 1 rfl) ?_
    refine lv_ishl hx hb dX1_hearRain_37 ?_
    refine lv_ior hx hb dX1_hearRain_38 ?_
    refine ly_eqi (show ((nI (hv 5)) ||| (1 <<< ((nI f) &&& 31))) = (nI ((hv 5) ||| 2 ^ f)) from (ly_or1 rfl (by omega))) ?_
    refine va_put (D := D) (ci := 1) (v := .int (nI ((hv 5) ||| 2 ^ f))) (ty := .int) (C := RX1) (T := TX1) (N := 6) hx hb hts hiX1 tyX1 tyX1_ok nmX1 hown hK hP hD hS 0 rfl rfl 5 (by decide) f25 (fun _ h9 => h9) rfl (by decide +kernel) rfl rfl (Nat.le_of_ble_eq_true rfl) dX1_hearRain_39 (fun H locs hP hD hS => ?_)
    have hP : va_P D vwCl [((t 5), .inr (1, [.int (nI (hv 0)), .int (nI (hv 1)), .int (nI (hv 2)), .int (nI (hv 3 + 1)), .int (nI (hv 4)), .int (nI ((hv 5) ||| 2 ^ f))]))] H := hP
    have hD : va_D A [((t 5), .inr (1, [.int (nI (hv 0)), .int (nI (hv 1)), .int (nI (hv 2)), .int (nI (hv 3 + 1)), .int (nI (hv 4)), .int (nI ((hv 5) ||| 2 ^ f))]))] := hD
    exact W.vret hx hb hr (fun t_9 ht_9 _ => by rw [hQc]; exact ⟨_, [((t 5), .inr (1, [.int (nI (hv 0)), .int (nI (hv 1)), .int (nI (hv 2)), .int (nI (hv 3 + 1)), .int (nI (hv 4)), .int (nI ((hv 5) ||| 2 ^ f))]))], rfl, ⟨rfl, rfl⟩, by simp only [List.map_cons, List.map_nil], by rw [ht_9]; exact hP.sub [0] rfl, by rw [← hAe]; exact hS.F ht_9⟩) hS.2.2 dX1_hearRain_42
  exact hmain _ _ hP va_S.rf

def s_canRain (hv : Nat → Nat) (x : Int32) : Int32 := (if (x &&& (nI (hv 4))) = (nI (hv 4)) then (if (x &&& (nI (hv 5))) = 0 then 1 else 0) else 0)
set_option maxHeartbeats 4000000 in
set_option maxRecDepth 100000 in
theorem c_X1_canBeRain (l : Launch) (D : va_G) (cI cC cZ cN : ClassId) (t : Nat → Nat) (hv : Nat → Nat) (x : Int32) : Met l yX1_canBeRain wsX1_canBeRain (ly_rm 1) (ly_Pre D (ly_tys cI cC cZ cN) [((t 5), .inr (1, [.int (nI (hv 0)), .int (nI (hv 1)), .int (nI (hv 2)), .int (nI (hv 3)), .int (nI (hv 4)), .int (nI (hv 5))]))] [.ref (t 5), .int x]) (QcRead (s_canRain hv x)) 0 0 (fun _ => False) := by
  refine Met.ofW (cc := cX1_canBeRain) (maxL := 2) (ret := (some .boolean)) (by decide) rfl ?_
  intro p e s m args below meth c s₁ B hml hv
  obtain ⟨rfl, hP, hK, hN⟩ := hv
  have hx := B.exec
  have hb := B.bytes
  have hr := B.returns
  have hts := atoms_spec (ws := wsX1_canBeRain) B.pre
  have hown : s.vm.findClass RX1 = some m.cls := findClass_of_methodNamed B.named
  have hlocks := B.notSynchronized
  have hl := lv_entry ([.ref (t 5), .int x]) (n := 2) (Nat.le_of_ble_eq_true rfl)
  rw [lg_entry_eq]
  generalize (lg_sl ([.ref (t 5), .int x]) ++ List.replicate (2 - (lg_sl ([.ref (t 5), .int x])).length) Slot.unset).toArray = ls at hl ⊢
  have hl : lv_has ls 2 [(0, .ref (t 5)), (1, .int x)] := hl
  generalize ([.ref (t 5), .int x] : List Value).toArray = av at hts ⊢
  obtain ⟨Qc, hQc⟩ : ∃ Qc, Qc = (QcRead (s_canRain hv x)) := ⟨_, rfl⟩
  rw [← hQc]
  have f22 := hts (.fieldLink RX1 22 "KneesLent$Hearsay" "wet" "I") (by decide +kernel)
  have f25 := hts (.fieldLink RX1 25 "KneesLent$Hearsay" "dry" "I") (by decide +kernel)
  have hiX1 : ∀ w ∈ u_ws RX1 TX1 6, w ∈ wsX1_canBeRain := by decide +kernel
  refine lv_iload_n hx hb dX1_canBeRain_0 rfl (lv_at hl 1 rfl) ?_
  refine lv_aload_n hx hb dX1_canBeRain_1 rfl (lv_at hl 0 rfl) ?_
  refine va_get (D := D) (ci := 1) (v := .int (nI (hv 4))) (C := RX1) (T := TX1) (N := 6) hx hb hts hiX1 hown hK hP 0 rfl rfl 4 (by decide) f22 (fun _ h9 => h9) rfl dX1_canBeRain_2 ?_
  refine lv_iand hx hb dX1_canBeRain_5 ?_
  refine lv_aload_n hx hb dX1_canBeRain_6 rfl (lv_at hl 0 rfl) ?_
  refine va_get (D := D) (ci := 1) (v := .int (nI (hv 4))) (C := RX1) (T := TX1) (N := 6) hx hb hts hiX1 hown hK hP 0 rfl rfl 4 (by decide) f22 (fun _ h9 => h9) rfl dX1_canBeRain_7 ?_
  refine lv_icmp_ne (tgt := 26) hx hb dX1_canBeRain_10 (by decide) (fun c_1 => ?_) (fun c_1 => ?_)
  · refine lv_iconst (v := 0) hx hb dX1_canBeRain_26 (by decide) ?_
    exact W.zret (v := 0) hx hb hr rfl (fun t_9 ht_9 _ => by rw [hQc]; exact ⟨(by unfold s_canRain; rw [if_neg c_1]), ht_9⟩) t_nil dX1_canBeRain_27
  · refine lv_iload_n hx hb dX1_canBeRain_13 rfl (lv_at hl 1 rfl) ?_
    refine lv_aload_n hx hb dX1_canBeRain_14 rfl (lv_at hl 0 rfl) ?_
    refine va_get (D := D) (ci := 1) (v := .int (nI (hv 5))) (C := RX1) (T := TX1) (N := 6) hx hb hts hiX1 hown hK hP 0 rfl rfl 5 (by decide) f25 (fun _ h9 => h9) rfl dX1_canBeRain_15 ?_
    refine lv_iand hx hb dX1_canBeRain_18 ?_
    refine lv_if_ne (tgt := 26) hx hb dX1_canBeRain_19 (by decide) (fun c_2 => ?_) (fun c_2 => ?_)
    · refine lv_iconst (v := 0) hx hb dX1_canBeRain_26 (by decide) ?_
      exact W.zret (v := 0) hx hb hr rfl (fun t_9 ht_9 _ => by rw [hQc]; exact ⟨(by unfold s_canRain; rw [if_pos c_1, if_neg c_2]), ht_9⟩) t_nil dX1_canBeRain_27
    · refine lv_iconst (v := 1) hx hb dX1_canBeRain_22 (by decide) ?_
      refine lv_goto (tgt := 27) hx hb dX1_canBeRain_23 (by decide) ?_
      exact W.zret (v := 1) hx hb hr rfl (fun t_9 ht_9 _ => by rw [hQc]; exact ⟨(by unfold s_canRain; rw [if_pos c_1, if_pos c_2]), ht_9⟩) t_nil dX1_canBeRain_27
