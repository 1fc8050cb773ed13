/-! constructors of the inner classes -/
/-- the parish of a new object -/
def g_00 : Nat → Nat → Nat := fun i _ => if i = 9 then 1 else 0
def g_0 : Nat → Nat → Nat := fun i _ => if i = 8 then 1 else 0
set_option maxHeartbeats 4000000 in
set_option maxRecDepth 100000 in
theorem c_X3_init (l : Launch) (D : va_G) (cI cC cZ cN : ClassId) (h0 sz : Nat) : Met l yX3_init wsX3_init (ly_rc 1 2 18) (ly_PreC D (ly_tys cI cC cZ cN) [(h0, .inr (3, [.int 0, .int 0, .int 0, .int 0, .int 0, .null, .null]))] [.ref h0] sz) (ly_QC D [(h0, .inr (3, [.int 0, .int 0, .int 0, .int 0, .int 0, .null, .null]))] sz (fun w_9 : va_W => ∃ (b : Nat → Nat), (b 0) = h0 ∧ w_9 = [((b 0), .inr (3, [.int (nI ((fun _ => 0) 0)), .int (nI ((fun _ => 0) 1)), .int (nI ((fun _ => 0) 2)), .int (nI ((fun _ => 0) 3)), .int (nI ((fun _ => 0) 4)), .ref (b 1), .ref (b 2)])), ((b 1), .inl (cI, 9, .inl (fun j => ly_h ((fun _ => 1) j)))), ((b 2), .inl (cI, 9, .inl (fun j => nI ((fun _ => 0) j))))])) 2 18 (va_A [(h0, .inr (3, [.int 0, .int 0, .int 0, .int 0, .int 0, .null, .null]))] sz) := by
  refine Met.ofW (cc := cX3_init) (maxL := 1) (ret := none) (by decide) rfl ?_
  intro p e s m args below meth c s₁ B hml hv
  obtain ⟨⟨rfl, hP, hK, hN⟩, hO, rfl⟩ := hv
  have hx := B.exec
  have hb := B.bytes
  have hr := B.returns
  have hts := atoms_spec (ws := wsX3_init) B.pre
  have hown : s.vm.findClass RX3 = some m.cls := findClass_of_methodNamed B.named
  have hlocks := B.notSynchronized
  have hl := lv_entry ([.ref h0]) (n := 1) (Nat.le_of_ble_eq_true rfl)
  rw [lg_entry_eq]
  generalize (lg_sl ([.ref h0]) ++ List.replicate (1 - (lg_sl ([.ref h0])).length) Slot.unset).toArray = ls at hl ⊢
  have hl : lv_has ls 1 [(0, .ref h0)] := hl
  generalize ([.ref h0] : List Value).toArray = av at hts ⊢
  obtain ⟨Qc, hQc⟩ : ∃ Qc, Qc = (ly_QC D [(h0, .inr (3, [.int 0, .int 0, .int 0, .int 0, .int 0, .null, .null]))] s.heap.size (fun w_9 : va_W => ∃ (b : Nat → Nat), (b 0) = h0 ∧ w_9 = [((b 0), .inr (3, [.int (nI ((fun _ => 0) 0)), .int (nI ((fun _ => 0) 1)), .int (nI ((fun _ => 0) 2)), .int (nI ((fun _ => 0) 3)), .int (nI ((fun _ => 0) 4)), .ref (b 1), .ref (b 2)])), ((b 1), .inl (cI, 9, .inl (fun j => ly_h ((fun _ => 1) j)))), ((b 2), .inl (cI, 9, .inl (fun j => nI ((fun _ => 0) j))))])) := ⟨_, rfl⟩
  rw [← hQc]
  have hin : meth.name = "<init>" := (name_of_methodNamed B.named B.method).1
  obtain ⟨A, hAe⟩ : ∃ A, A = va_A [(h0, .inr (3, [.int 0, .int 0, .int 0, .int 0, .int 0, .null, .null]))] s.heap.size := ⟨_, rfl⟩
  rw [← hAe]
  have hD : va_D A [(h0, .inr (3, [.int 0, .int 0, .int 0, .int 0, .int 0, .null, .null]))] := by rw [hAe]; exact ly_D1.self
  have hA : ∀ q : Nat, s.heap.size ≤ q → A q := fun q h => by rw [hAe]; exact Or.inr h
  have f9 := hts (.fieldLink RX3 9 "KneesLent$Now" "day" "I") (by decide +kernel)
  have f15 := hts (.fieldLink RX3 15 "KneesLent$Now" "oil" "I") (by decide +kernel)
  have f18 := hts (.fieldLink RX3 18 "KneesLent$Now" "fines" "I") (by decide +kernel)
  have f21 := hts (.fieldLink RX3 21 "KneesLent$Now" "gave" "I") (by decide +kernel)
  have f24 := hts (.fieldLink RX3 24 "KneesLent$Now" "pledged" "I") (by decide +kernel)
  have f27 := hts (.fieldLink RX3 27 "KneesLent$Now" "holder" "[I") (by decide +kernel)
  have f31 := hts (.fieldLink RX3 31 "KneesLent$Now" "left" "[I") (by decide +kernel)
  have hiX3 : ∀ w ∈ u_ws RX3 TX3 7, w ∈ wsX3_init := by decide +kernel
  have hmain : ∀ (H : Heap) (locs : List Loc), va_P D vwCl [(h0, .inr (3, [.int 0, .int 0, .int 0, .int 0, .int 0, .null, .null]))] H → va_S A s.heap H locs → W p l e (headSpec wsX3_init (ly_rc 1 2 18)).room s m av below meth c H locs 0 0 (MQ below Qc av s 2 18 A) (F0 m 0 ls []) := by
    intro H locs hP hS
    refine lv_aload_n hx hb dX3_init_0 rfl (lv_at hl 0 rfl) ?_
    refine W.objInit hx hb hown (hts (.methodLink RX3 3 objectInit) (by decide +kernel)) (hts (.instanceMethod objectInit) (by decide +kernel)) (hts _ (List.mem_of_getElem? (i := 3) rfl)) rfl (by rw [hml]; exact hl.1) rfl dX3_init_1 (Nat.le_of_ble_eq_true rfl) (Nat.le_of_ble_eq_true rfl) ?_
    refine W.eq (g2 := F0 m 4 ls []) rfl ?_
    refine lv_aload_n hx hb dX3_init_4 rfl (lv_at hl 0 rfl) ?_
    refine lv_iconst (v := 0) hx hb dX3_init_5 (by decide) ?_
    refine va_put (D := D) (ci := 3) (v := .int 0) (ty := .int) (C := RX3) (T := TX3) (N := 7) hx hb hts hiX3 tyX3 tyX3_ok nmX3 hown hK hP hD hS 0 rfl rfl 0 (by decide) f9 (fun _ h9 => h9) rfl (by decide +kernel) rfl rfl (Nat.le_of_ble_eq_true rfl) dX3_init_6 (fun H locs hP hD hS => ?_)
    have hP : va_P D vwCl [(h0, .inr (3, [.int 0, .int 0, .int 0, .int 0, .int 0, .null, .null]))] H := hP
    have hD : va_D A [(h0, .inr (3, [.int 0, .int 0, .int 0, .int 0, .int 0, .null, .null]))] := hD
    refine lv_aload_n hx hb dX3_init_9 rfl (lv_at hl 0 rfl) ?_
    refine lv_iconst (v := 0) hx hb dX3_init_10 (by decide) ?_
    refine va_put (D := D) (ci := 3) (v := .int 0) (ty := .int) (C := RX3) (T := TX3) (N := 7) hx hb hts hiX3 tyX3 tyX3_ok nmX3 hown hK hP hD hS 0 rfl rfl 1 (by decide) f15 (fun _ h9 => h9) rfl (by decide +kernel) rfl rfl (Nat.le_of_ble_eq_true rfl) dX3_init_11 (fun H locs hP hD hS => ?_)
    have hP : va_P D vwCl [(h0, .inr (3, [.int 0, .int 0, .int 0, .int 0, .int 0, .null, .null]))] H := hP
    have hD : va_D A [(h0, .inr (3, [.int 0, .int 0, .int 0, .int 0, .int 0, .null, .null]))] := hD
    refine lv_aload_n hx hb dX3_init_14 rfl (lv_at hl 0 rfl) ?_
    refine lv_iconst (v := 0) hx hb dX3_init_15 (by decide) ?_
    refine va_put (D := D) (ci := 3) (v := .int 0) (ty := .int) (C := RX3) (T := TX3) (N := 7) hx hb hts hiX3 tyX3 tyX3_ok nmX3 hown hK hP hD hS 0 rfl rfl 2 (by decide) f18 (fun _ h9 => h9) rfl (by decide +kernel) rfl rfl (Nat.le_of_ble_eq_true rfl) dX3_init_16 (fun H locs hP hD hS => ?_)
    have hP : va_P D vwCl [(h0, .inr (3, [.int 0, .int 0, .int 0, .int 0, .int 0, .null, .null]))] H := hP
    have hD : va_D A [(h0, .inr (3, [.int 0, .int 0, .int 0, .int 0, .int 0, .null, .null]))] := hD
    refine lv_aload_n hx hb dX3_init_19 rfl (lv_at hl 0 rfl) ?_
    refine lv_iconst (v := 0) hx hb dX3_init_20 (by decide) ?_
    refine va_put (D := D) (ci := 3) (v := .int 0) (ty := .int) (C := RX3) (T := TX3) (N := 7) hx hb hts hiX3 tyX3 tyX3_ok nmX3 hown hK hP hD hS 0 rfl rfl 3 (by decide) f21 (fun _ h9 => h9) rfl (by decide +kernel) rfl rfl (Nat.le_of_ble_eq_true rfl) dX3_init_21 (fun H locs hP hD hS => ?_)
    have hP : va_P D vwCl [(h0, .inr (3, [.int 0, .int 0, .int 0, .int 0, .int 0, .null, .null]))] H := hP
    have hD : va_D A [(h0, .inr (3, [.int 0, .int 0, .int 0, .int 0, .int 0, .null, .null]))] := hD
    refine lv_aload_n hx hb dX3_init_24 rfl (lv_at hl 0 rfl) ?_
    refine lv_iconst (v := 0) hx hb dX3_init_25 (by decide) ?_
    refine va_put (D := D) (ci := 3) (v := .int 0) (ty := .int) (C := RX3) (T := TX3) (N := 7) hx hb hts hiX3 tyX3 tyX3_ok nmX3 hown hK hP hD hS 0 rfl rfl 4 (by decide) f24 (fun _ h9 => h9) rfl (by decide +kernel) rfl rfl (Nat.le_of_ble_eq_true rfl) dX3_init_26 (fun H locs hP hD hS => ?_)
    have hP : va_P D vwCl [(h0, .inr (3, [.int 0, .int 0, .int 0, .int 0, .int 0, .null, .null]))] H := hP
    have hD : va_D A [(h0, .inr (3, [.int 0, .int 0, .int 0, .int 0, .int 0, .null, .null]))] := hD
    refine lv_aload_n hx hb dX3_init_29 rfl (lv_at hl 0 rfl) ?_
    refine lv_bipush (v := 9) hx hb dX3_init_30 (by decide) ?_
    refine ly_newI hx hb (hts (.arrayClass .int) (by decide +kernel)) hK hP hD hS hA 9 rfl (by decide) (Nat.le_of_ble_eq_true rfl) (Nat.le_of_ble_eq_true rfl) dX3_init_32 (fun q32 H hP hD hS => ?_)
    have hP : va_P D vwCl [(h0, .inr (3, [.int 0, .int 0, .int 0, .int 0, .int 0, .null, .null])), (q32, .inl (cI, 9, .inl (fun j => nI ((fun _ => 0) j))))] H := hP
    have hD : va_D A [(h0, .inr (3, [.int 0, .int 0, .int 0, .int 0, .int 0, .null, .null])), (q32, .inl (cI, 9, .inl (fun j => nI ((fun _ => 0) j))))] := hD
    refine W.widen (k := 1) (n := 9) (by omega) (by omega) ?_
    refine va_putF (D := D) (ci := 3) (v := .ref q32) (ty := .array .int) (C := RX3) (T := TX3) (N := 7) hx hb hts hiX3 tyX3 tyX3_ok nmX3 hown hK hP hD hS 0 rfl rfl 5 (by decide) f27 (fun _ h9 => h9) rfl hin rfl (by decide +kernel) rfl rfl (Nat.le_of_ble_eq_true rfl) dX3_init_34 (fun H locs hP hD hS => ?_)
    have hP : va_P D vwCl [(h0, .inr (3, [.int 0, .int 0, .int 0, .int 0, .int 0, .ref q32, .null])), (q32, .inl (cI, 9, .inl (fun j => nI ((fun _ => 0) j))))] H := hP
    have hD : va_D A [(h0, .inr (3, [.int 0, .int 0, .int 0, .int 0, .int 0, .ref q32, .null])), (q32, .inl (cI, 9, .inl (fun j => nI ((fun _ => 0) j))))] := hD
    refine lv_aload_n hx hb dX3_init_37 rfl (lv_at hl 0 rfl) ?_
    refine lv_bipush (v := 9) hx hb dX3_init_38 (by decide) ?_
    refine ly_newI hx hb (hts (.arrayClass .int) (by decide +kernel)) hK hP hD hS hA 9 rfl (by decide) (Nat.le_of_ble_eq_true rfl) (Nat.le_of_ble_eq_true rfl) dX3_init_40 (fun q40 H hP hD hS => ?_)
    have hP : va_P D vwCl [(h0, .inr (3, [.int 0, .int 0, .int 0, .int 0, .int 0, .ref q32, .null])), (q32, .inl (cI, 9, .inl (fun j => nI ((fun _ => 0) j)))), (q40, .inl (cI, 9, .inl (fun j => nI ((fun _ => 0) j))))] H := hP
    have hD : va_D A [(h0, .inr (3, [.int 0, .int 0, .int 0, .int 0, .int 0, .ref q32, .null])), (q32, .inl (cI, 9, .inl (fun j => nI ((fun _ => 0) j)))), (q40, .inl (cI, 9, .inl (fun j => nI ((fun _ => 0) j))))] := hD
    refine W.widen (k := 2) (n := 18) (by omega) (by omega) ?_
    refine va_putF (D := D) (ci := 3) (v := .ref q40) (ty := .array .int) (C := RX3) (T := TX3) (N := 7) hx hb hts hiX3 tyX3 tyX3_ok nmX3 hown hK hP hD hS 0 rfl rfl 6 (by decide) f31 (fun _ h9 => h9) rfl hin rfl (by decide +kernel) rfl rfl (Nat.le_of_ble_eq_true rfl) dX3_init_42 (fun H locs hP hD hS => ?_)
    have hP : va_P D vwCl [(h0, .inr (3, [.int 0, .int 0, .int 0, .int 0, .int 0, .ref q32, .ref q40])), (q32, .inl (cI, 9, .inl (fun j => nI ((fun _ => 0) j)))), (q40, .inl (cI, 9, .inl (fun j => nI ((fun _ => 0) j))))] H := hP
    have hD : va_D A [(h0, .inr (3, [.int 0, .int 0, .int 0, .int 0, .int 0, .ref q32, .ref q40])), (q32, .inl (cI, 9, .inl (fun j => nI ((fun _ => 0) j)))), (q40, .inl (cI, 9, .inl (fun j => nI ((fun _ => 0) j))))] := hD
    exact W.vret hx hb hr (fun t_9 ht_9 _ => by rw [hQc]; exact ⟨⟨[(h0, .inr (3, [.int 0, .int 0, .int 0, .int 0, .int 0, .ref q32, .ref q40])), (q32, .inl (cI, 9, .inl (fun j => nI ((fun _ => 0) j)))), (q40, .inl (cI, 9, .inl (fun j => nI ((fun _ => 0) j))))], rfl, ⟨(fun j => [h0, q32, q40].getD j 0), rfl, rfl⟩, by rw [ht_9]; exact hP.sub [0, 1, 2] rfl, by rw [← hAe]; exact hD.sub [0, 1, 2] (by decide) rfl⟩, by rw [← hAe]; exact hS.F ht_9⟩) hS.2.2 dX3_init_45
  exact hmain _ _ hP va_S.rf
set_option maxHeartbeats 4000000 in
set_option maxRecDepth 100000 in
theorem c_X1_init (l : Launch) (D : va_G) (cI cC cZ cN : ClassId) (h0 sz : Nat) : Met l yX1_init wsX1_init (ly_rc 1 0 0) (ly_PreC D (ly_tys cI cC cZ cN) [(h0, .inr (1, [.int 0, .int 0, .int 0, .int 0, .int 0, .int 0]))] [.ref h0] sz) (ly_QC D [(h0, .inr (1, [.int 0, .int 0, .int 0, .int 0, .int 0, .int 0]))] sz (fun w_9 : va_W => ∃ (b : Nat → Nat), (b 0) = h0 ∧ w_9 = [((b 0), .inr (1, [.int (nI ((fun _ => 0) 0)), .int (nI ((fun _ => 0) 1)), .int (nI ((fun _ => 0) 2)), .int (nI ((fun _ => 0) 3)), .int (nI ((fun _ => 0) 4)), .int (nI ((fun _ => 0) 5))]))])) 0 0 (va_A [(h0, .inr (1, [.int 0, .int 0, .int 0, .int 0, .int 0, .int 0]))] sz) := by
  refine Met.ofW (cc := cX1_init) (maxL := 1) (ret := none) (by decide) rfl ?_
  intro p e s m args below meth c s₁ B hml hv
  obtain ⟨⟨rfl, hP, hK, hN⟩, hO, rfl⟩ := hv
  have hx := B.exec
  have hb := B.bytes
  have hr := B.returns
  have hts := atoms_spec (ws := wsX1_init) B.pre
  have hown : s.vm.findClass RX1 = some m.cls := findClass_of_methodNamed B.named
  have hlocks := B.notSynchronized
  have hl := lv_entry ([.ref h0]) (n := 1) (Nat.le_of_ble_eq_true rfl)
  rw [lg_entry_eq]
  generalize (lg_sl ([.ref h0]) ++ List.replicate (1 - (lg_sl ([.ref h0])).length) Slot.unset).toArray = ls at hl ⊢
  have hl : lv_has ls 1 [(0, .ref h0)] := hl
  generalize ([.ref h0] : List Value).toArray = av at hts ⊢
  obtain ⟨Qc, hQc⟩ : ∃ Qc, Qc = (ly_QC D [(h0, .inr (1, [.int 0, .int 0, .int 0, .int 0, .int 0, .int 0]))] s.heap.size (fun w_9 : va_W => ∃ (b : Nat → Nat), (b 0) = h0 ∧ w_9 = [((b 0), .inr (1, [.int (nI ((fun _ => 0) 0)), .int (nI ((fun _ => 0) 1)), .int (nI ((fun _ => 0) 2)), .int (nI ((fun _ => 0) 3)), .int (nI ((fun _ => 0) 4)), .int (nI ((fun _ => 0) 5))]))])) := ⟨_, rfl⟩
  rw [← hQc]
  have hin : meth.name = "<init>" := (name_of_methodNamed B.named B.method).1
  obtain ⟨A, hAe⟩ : ∃ A, A = va_A [(h0, .inr (1, [.int 0, .int 0, .int 0, .int 0, .int 0, .int 0]))] s.heap.size := ⟨_, rfl⟩
  rw [← hAe]
  have hD : va_D A [(h0, .inr (1, [.int 0, .int 0, .int 0, .int 0, .int 0, .int 0]))] := by rw [hAe]; exact ly_D1.self
  have hA : ∀ q : Nat, s.heap.size ≤ q → A q := fun q h => by rw [hAe]; exact Or.inr h
  have f7 := hts (.fieldLink RX1 7 "KneesLent$Hearsay" "told" "I") (by decide +kernel)
  have f13 := hts (.fieldLink RX1 13 "KneesLent$Hearsay" "downhill" "I") (by decide +kernel)
  have f16 := hts (.fieldLink RX1 16 "KneesLent$Hearsay" "liars" "I") (by decide +kernel)
  have f19 := hts (.fieldLink RX1 19 "KneesLent$Hearsay" "felt" "I") (by decide +kernel)
  have f22 := hts (.fieldLink RX1 22 "KneesLent$Hearsay" "wet" "I") (by decide +kernel)
  have f25 := hts (.fieldLink RX1 25 "KneesLent$Hearsay" "dry" "I") (by decide +kernel)
  have hiX1 : ∀ w ∈ u_ws RX1 TX1 6, w ∈ wsX1_init := by decide +kernel
  have hmain : ∀ (H : Heap) (locs : List Loc), va_P D vwCl [(h0, .inr (1, [.int 0, .int 0, .int 0, .int 0, .int 0, .int 0]))] H → va_S A s.heap H locs → W p l e (headSpec wsX1_init (ly_rc 1 0 0)).room s m av below meth c H locs 0 0 (MQ below Qc av s 0 0 A) (F0 m 0 ls []) := by
    intro H locs hP hS
    refine lv_aload_n hx hb dX1_init_0 rfl (lv_at hl 0 rfl) ?_
    refine W.objInit hx hb hown (hts (.methodLink RX1 1 objectInit) (by decide +kernel)) (hts (.instanceMethod objectInit) (by decide +kernel)) (hts _ (List.mem_of_getElem? (i := 3) rfl)) rfl (by rw [hml]; exact hl.1) rfl dX1_init_1 (Nat.le_of_ble_eq_true rfl) (Nat.le_of_ble_eq_true rfl) ?_
    refine W.eq (g2 := F0 m 4 ls []) rfl ?_
    refine lv_aload_n hx hb dX1_init_4 rfl (lv_at hl 0 rfl) ?_
    refine lv_iconst (v := 0) hx hb dX1_init_5 (by decide) ?_
    refine va_put (D := D) (ci := 1) (v := .int 0) (ty := .int) (C := RX1) (T := TX1) (N := 6) hx hb hts hiX1 tyX1 tyX1_ok nmX1 hown hK hP hD hS 0 rfl rfl 0 (by decide) f7 (fun _ h9 => h9) rfl (by decide +kernel) rfl rfl (Nat.le_of_ble_eq_true rfl) dX1_init_6 (fun H locs hP hD hS => ?_)
    have hP : va_P D vwCl [(h0, .inr (1, [.int 0, .int 0, .int 0, .int 0, .int 0, .int 0]))] H := hP
    have hD : va_D A [(h0, .inr (1, [.int 0, .int 0, .int 0, .int 0, .int 0, .int 0]))] := hD
    refine lv_aload_n hx hb dX1_init_9 rfl (lv_at hl 0 rfl) ?_
    refine lv_iconst (v := 0) hx hb dX1_init_10 (by decide) ?_
    refine va_put (D := D) (ci := 1) (v := .int 0) (ty := .int) (C := RX1) (T := TX1) (N := 6) hx hb hts hiX1 tyX1 tyX1_ok nmX1 hown hK hP hD hS 0 rfl rfl 1 (by decide) f13 (fun _ h9 => h9) rfl (by decide +kernel) rfl rfl (Nat.le_of_ble_eq_true rfl) dX1_init_11 (fun H locs hP hD hS => ?_)
    have hP : va_P D vwCl [(h0, .inr (1, [.int 0, .int 0, .int 0, .int 0, .int 0, .int 0]))] H := hP
    have hD : va_D A [(h0, .inr (1, [.int 0, .int 0, .int 0, .int 0, .int 0, .int 0]))] := hD
    refine lv_aload_n hx hb dX1_init_14 rfl (lv_at hl 0 rfl) ?_
    refine lv_iconst (v := 0) hx hb dX1_init_15 (by decide) ?_
    refine va_put (D := D) (ci := 1) (v := .int 0) (ty := .int) (C := RX1) (T := TX1) (N := 6) hx hb hts hiX1 tyX1 tyX1_ok nmX1 hown hK hP hD hS 0 rfl rfl 2 (by decide) f16 (fun _ h9 => h9) rfl (by decide +kernel) rfl rfl (Nat.le_of_ble_eq_true rfl) dX1_init_16 (fun H locs hP hD hS => ?_)
    have hP : va_P D vwCl [(h0, .inr (1, [.int 0, .int 0, .int 0, .int 0, .int 0, .int 0]))] H := hP
    have hD : va_D A [(h0, .inr (1, [.int 0, .int 0, .int 0, .int 0, .int 0, .int 0]))] := hD
    refine lv_aload_n hx hb dX1_init_19 rfl (lv_at hl 0 rfl) ?_
    refine lv_iconst (v := 0) hx hb dX1_init_20 (by decide) ?_
    refine va_put (D := D) (ci := 1) (v := .int 0) (ty := .int) (C := RX1) (T := TX1) (N := 6) hx hb hts hiX1 tyX1 tyX1_ok nmX1 hown hK hP hD hS 0 rfl rfl 3 (by decide) f19 (fun _ h9 => h9) rfl (by decide +kernel) rfl rfl (Nat.le_of_ble_eq_true rfl) dX1_init_21 (fun H locs hP hD hS => ?_)
    have hP : va_P D vwCl [(h0, .inr (1, [.int 0, .int 0, .int 0, .int 0, .int 0, .int 0]))] H := hP
    have hD : va_D A [(h0, .inr (1, [.int 0, .int 0, .int 0, .int 0, .int 0, .int 0]))] := hD
    refine lv_aload_n hx hb dX1_init_24 rfl (lv_at hl 0 rfl) ?_
    refine lv_iconst (v := 0) hx hb dX1_init_25 (by decide) ?_
    refine va_put (D := D) (ci := 1) (v := .int 0) (ty := .int) (C := RX1) (T := TX1) (N := 6) hx hb hts hiX1 tyX1 tyX1_ok nmX1 hown hK hP hD hS 0 rfl rfl 4 (by decide) f22 (fun _ h9 => h9) rfl (by decide +kernel) rfl rfl (Nat.le_of_ble_eq_true rfl) dX1_init_26 (fun H locs hP hD hS => ?_)
    have hP : va_P D vwCl [(h0, .inr (1, [.int 0, .int 0, .int 0, .int 0, .int 0, .int 0]))] H := hP
    have hD : va_D A [(h0, .inr (1, [.int 0, .int 0, .int 0, .int 0, .int 0, .int 0]))] := hD
    refine lv_aload_n hx hb dX1_init_29 rfl (lv_at hl 0 rfl) ?_
    refine lv_iconst (v := 0) hx hb dX1_init_30 (by decide) ?_
    refine va_put (D := D) (ci := 1) (v := .int 0) (ty := .int) (C := RX1) (T := TX1) (N := 6) hx hb hts hiX1 tyX1 tyX1_ok nmX1 hown hK hP hD hS 0 rfl rfl 5 (by decide) f25 (fun _ h9 => h9) rfl (by decide +kernel) rfl rfl (Nat.le_of_ble_eq_true rfl) dX1_init_31 (fun H locs hP hD hS => ?_)
    have hP : va_P D vwCl [(h0, .inr (1, [.int 0, .int 0, .int 0, .int 0, .int 0, .int 0]))] H := hP
    have hD : va_D A [(h0, .inr (1, [.int 0, .int 0, .int 0, .int 0, .int 0, .int 0]))] := hD
    exact W.vret hx hb hr (fun t_9 ht_9 _ => by rw [hQc]; exact ⟨⟨[(h0, .inr (1, [.int 0, .int 0, .int 0, .int 0, .int 0, .int 0]))], rfl, ⟨(fun j => [h0].getD j 0), rfl, rfl⟩, by rw [ht_9]; exact hP.sub [0] rfl, by rw [← hAe]; exact hD.sub [0] (by decide) rfl⟩, by rw [← hAe]; exact hS.F ht_9⟩) hS.2.2 dX1_init_34
  exact hmain _ _ hP va_S.rf
set_option maxHeartbeats 4000000 in
set_option maxRecDepth 100000 in
theorem c_X2_init (l : Launch) (D : va_G) (cI cC cZ cN : ClassId) (h0 sz : Nat) : Met l yX2_init wsX2_init (ly_rc 1 3 3084) (ly_PreC D (ly_tys cI cC cZ cN) [(h0, .inr (2, [.null, .null, .null, .null, .int 0, .int 0]))] [.ref h0] sz) (ly_QC D [(h0, .inr (2, [.null, .null, .null, .null, .int 0, .int 0]))] sz (fun w_9 : va_W => ∃ (b : Nat → Nat), (b 0) = h0 ∧ w_9 = [((b 0), .inr (2, [.ref (b 1), .ref (b 2), .ref (b 3), .null, .int (nI 0), .int 0])), ((b 1), .inl (cI, 3072, .inl (fun _ => nI 0))), ((b 2), .inl (cI, 6, .inl (fun _ => nI 0))), ((b 3), .inl (cI, 6, .inl (fun _ => nI 0)))])) 3 3084 (va_A [(h0, .inr (2, [.null, .null, .null, .null, .int 0, .int 0]))] sz) := by
  refine Met.ofW (cc := cX2_init) (maxL := 1) (ret := none) (by decide) rfl ?_
  intro p e s m args below meth c s₁ B hml hv
  obtain ⟨⟨rfl, hP, hK, hN⟩, hO, rfl⟩ := hv
  have hx := B.exec
  have hb := B.bytes
  have hr := B.returns
  have hts := atoms_spec (ws := wsX2_init) B.pre
  have hown : s.vm.findClass RX2 = some m.cls := findClass_of_methodNamed B.named
  have hlocks := B.notSynchronized
  have hl := lv_entry ([.ref h0]) (n := 1) (Nat.le_of_ble_eq_true rfl)
  rw [lg_entry_eq]
  generalize (lg_sl ([.ref h0]) ++ List.replicate (1 - (lg_sl ([.ref h0])).length) Slot.unset).toArray = ls at hl ⊢
  have hl : lv_has ls 1 [(0, .ref h0)] := hl
  generalize ([.ref h0] : List Value).toArray = av at hts ⊢
  obtain ⟨Qc, hQc⟩ : ∃ Qc, Qc = (ly_QC D [(h0, .inr (2, [.null, .null, .null, .null, .int 0, .int 0]))] s.heap.size (fun w_9 : va_W => ∃ (b : Nat → Nat), (b 0) = h0 ∧ w_9 = [((b 0), .inr (2, [.ref (b 1), .ref (b 2), .ref (b 3), .null, .int (nI 0), .int 0])), ((b 1), .inl (cI, 3072, .inl (fun _ => nI 0))), ((b 2), .inl (cI, 6, .inl (fun _ => nI 0))), ((b 3), .inl (cI, 6, .inl (fun _ => nI 0)))])) := ⟨_, rfl⟩
  rw [← hQc]
  have hin : meth.name = "<init>" := (name_of_methodNamed B.named B.method).1
  obtain ⟨A, hAe⟩ : ∃ A, A = va_A [(h0, .inr (2, [.null, .null, .null, .null, .int 0, .int 0]))] s.heap.size := ⟨_, rfl⟩
  rw [← hAe]
  have hD : va_D A [(h0, .inr (2, [.null, .null, .null, .null, .int 0, .int 0]))] := by rw [hAe]; exact ly_D1.self
  have hA : ∀ q : Nat, s.heap.size ≤ q → A q := fun q h => by rw [hAe]; exact Or.inr h
  have f11 := hts (.fieldLink RX2 11 "KneesLent$Lender" "worth" "[I") (by decide +kernel)
  have f15 := hts (.fieldLink RX2 15 "KneesLent$Lender" "lefts" "[I") (by decide +kernel)
  have f18 := hts (.fieldLink RX2 18 "KneesLent$Lender" "rights" "[I") (by decide +kernel)
  have f21 := hts (.fieldLink RX2 21 "KneesLent$Lender" "parish" "LKneesLent$Parish;") (by decide +kernel)
  have f25 := hts (.fieldLink RX2 25 "KneesLent$Lender" "set" "I") (by decide +kernel)
  have f29 := hts (.fieldLink RX2 29 "KneesLent$Lender" "answer" "I") (by decide +kernel)
  have hiX2 : ∀ w ∈ u_ws RX2 TX2 6, w ∈ wsX2_init := by decide +kernel
  have hmain : ∀ (H : Heap) (locs : List Loc), va_P D vwCl [(h0, .inr (2, [.null, .null, .null, .null, .int 0, .int 0]))] H → va_S A s.heap H locs → W p l e (headSpec wsX2_init (ly_rc 1 3 3084)).room s m av below meth c H locs 0 0 (MQ below Qc av s 3 3084 A) (F0 m 0 ls []) := by
    intro H locs hP hS
    refine lv_aload_n hx hb dX2_init_0 rfl (lv_at hl 0 rfl) ?_
    refine W.objInit hx hb hown (hts (.methodLink RX2 3 objectInit) (by decide +kernel)) (hts (.instanceMethod objectInit) (by decide +kernel)) (hts _ (List.mem_of_getElem? (i := 3) rfl)) rfl (by rw [hml]; exact hl.1) rfl dX2_init_1 (Nat.le_of_ble_eq_true rfl) (Nat.le_of_ble_eq_true rfl) ?_
    refine W.eq (g2 := F0 m 4 ls []) rfl ?_
    refine lv_aload_n hx hb dX2_init_4 rfl (lv_at hl 0 rfl) ?_
    refine lv_sipush (v := 3072) hx hb dX2_init_5 (by decide) ?_
    refine ly_newI hx hb (hts (.arrayClass .int) (by decide +kernel)) hK hP hD hS hA 3072 rfl (by decide) (Nat.le_of_ble_eq_true rfl) (Nat.le_of_ble_eq_true rfl) dX2_init_8 (fun q8 H hP hD hS => ?_)
    have hP : va_P D vwCl [(h0, .inr (2, [.null, .null, .null, .null, .int 0, .int 0])), (q8, .inl (cI, 3072, .inl (fun j => nI ((fun _ => 0) j))))] H := hP
    have hD : va_D A [(h0, .inr (2, [.null, .null, .null, .null, .int 0, .int 0])), (q8, .inl (cI, 3072, .inl (fun j => nI ((fun _ => 0) j))))] := hD
    refine W.widen (k := 1) (n := 3072) (by omega) (by omega) ?_
    refine va_putF (D := D) (ci := 2) (v := .ref q8) (ty := .array .int) (C := RX2) (T := TX2) (N := 6) hx hb hts hiX2 tyX2 tyX2_ok nmX2 hown hK hP hD hS 0 rfl rfl 0 (by decide) f11 (fun _ h9 => h9) rfl hin rfl (by decide +kernel) rfl rfl (Nat.le_of_ble_eq_true rfl) dX2_init_10 (fun H locs hP hD hS => ?_)
    have hP : va_P D vwCl [(h0, .inr (2, [.ref q8, .null, .null, .null, .int 0, .int 0])), (q8, .inl (cI, 3072, .inl (fun j => nI ((fun _ => 0) j))))] H := hP
    have hD : va_D A [(h0, .inr (2, [.ref q8, .null, .null, .null, .int 0, .int 0])), (q8, .inl (cI, 3072, .inl (fun j => nI ((fun _ => 0) j))))] := hD
    refine lv_aload_n hx hb dX2_init_13 rfl (lv_at hl 0 rfl) ?_
    refine lv_bipush (v := 6) hx hb dX2_init_14 (by decide) ?_
    refine ly_newI hx hb (hts (.arrayClass .int) (by decide +kernel)) hK hP hD hS hA 6 rfl (by decide) (Nat.le_of_ble_eq_true rfl) (Nat.le_of_ble_eq_true rfl) dX2_init_16 (fun q16 H hP hD hS => ?_)
    have hP : va_P D vwCl [(h0, .inr (2, [.ref q8, .null, .null, .null, .int 0, .int 0])), (q8, .inl (cI, 3072, .inl (fun j => nI ((fun _ => 0) j)))), (q16, .inl (cI, 6, .inl (fun j => nI ((fun _ => 0) j))))] H := hP
    have hD : va_D A [(h0, .inr (2, [.ref q8, .null, .null, .null, .int 0, .int 0])), (q8, .inl (cI, 3072, .inl (fun j => nI ((fun _ => 0) j)))), (q16, .inl (cI, 6, .inl (fun j => nI ((fun _ => 0) j))))] := hD
    refine W.widen (k := 2) (n := 3078) (by omega) (by omega) ?_
    refine va_putF (D := D) (ci := 2) (v := .ref q16) (ty := .array .int) (C := RX2) (T := TX2) (N := 6) hx hb hts hiX2 tyX2 tyX2_ok nmX2 hown hK hP hD hS 0 rfl rfl 1 (by decide) f15 (fun _ h9 => h9) rfl hin rfl (by decide +kernel) rfl rfl (Nat.le_of_ble_eq_true rfl) dX2_init_18 (fun H locs hP hD hS => ?_)
    have hP : va_P D vwCl [(h0, .inr (2, [.ref q8, .ref q16, .null, .null, .int 0, .int 0])), (q8, .inl (cI, 3072, .inl (fun j => nI ((fun _ => 0) j)))), (q16, .inl (cI, 6, .inl (fun j => nI ((fun _ => 0) j))))] H := hP
    have hD : va_D A [(h0, .inr (2, [.ref q8, .ref q16, .null, .null, .int 0, .int 0])), (q8, .inl (cI, 3072, .inl (fun j => nI ((fun _ => 0) j)))), (q16, .inl (cI, 6, .inl (fun j => nI ((fun _ => 0) j))))] := hD
    refine lv_aload_n hx hb dX2_init_21 rfl (lv_at hl 0 rfl) ?_
    refine lv_bipush (v := 6) hx hb dX2_init_22 (by decide) ?_
    refine ly_newI hx hb (hts (.arrayClass .int) (by decide +kernel)) hK hP hD hS hA 6 rfl (by decide) (Nat.le_of_ble_eq_true rfl) (Nat.le_of_ble_eq_true rfl) dX2_init_24 (fun q24 H hP hD hS => ?_)
    have hP : va_P D vwCl [(h0, .inr (2, [.ref q8, .ref q16, .null, .null, .int 0, .int 0])), (q8, .inl (cI, 3072, .inl (fun j => nI ((fun _ => 0) j)))), (q16, .inl (cI, 6, .inl (fun j => nI ((fun _ => 0) j)))), (q24, .inl (cI, 6, .inl (fun j => nI ((fun _ => 0) j))))] H := hP
    have hD : va_D A [(h0, .inr (2, [.ref q8, .ref q16, .null, .null, .int 0, .int 0])), (q8, .inl (cI, 3072, .inl (fun j => nI ((fun _ => 0) j)))), (q16, .inl (cI, 6, .inl (fun j => nI ((fun _ => 0) j)))), (q24, .inl (cI, 6, .inl (fun j => nI ((fun _ => 0) j))))] := hD
    refine W.widen (k := 3) (n := 3084) (by omega) (by omega) ?_
    refine va_putF (D := D) (ci := 2) (v := .ref q24) (ty := .array .int) (C := RX2) (T := TX2) (N := 6) hx hb hts hiX2 tyX2 tyX2_ok nmX2 hown hK hP hD hS 0 rfl rfl 2 (by decide) f18 (fun _ h9 => h9) rfl hin rfl (by decide +kernel) rfl rfl (Nat.le_of_ble_eq_true rfl) dX2_init_26 (fun H locs hP hD hS => ?_)
    have hP : va_P D vwCl [(h0, .inr (2, [.ref q8, .ref q16, .ref q24, .null, .int 0, .int 0])), (q8, .inl (cI, 3072, .inl (fun j => nI ((fun _ => 0) j)))), (q16, .inl (cI, 6, .inl (fun j => nI ((fun _ => 0) j)))), (q24, .inl (cI, 6, .inl (fun j => nI ((fun _ => 0) j))))] H := hP
    have hD : va_D A [(h0, .inr (2, [.ref q8, .ref q16, .ref q24, .null, .int 0, .int 0])), (q8, .inl (cI, 3072, .inl (fun j => nI ((fun _ => 0) j)))), (q16, .inl (cI, 6, .inl (fun j => nI ((fun _ => 0) j)))), (q24, .inl (cI, 6, .inl (fun j => nI ((fun _ => 0) j))))] := hD
    refine lv_aload_n hx hb dX2_init_29 rfl (lv_at hl 0 rfl) ?_
    refine lv_null hx hb dX2_init_30 ?_
    refine va_put (D := D) (ci := 2) (v := .null) (ty := .object "KneesLent$Parish") (C := RX2) (T := TX2) (N := 6) hx hb hts hiX2 tyX2 tyX2_ok nmX2 hown hK hP hD hS 0 rfl rfl 3 (by decide) f21 (fun _ h9 => h9) rfl (by decide +kernel) rfl rfl (Nat.le_of_ble_eq_true rfl) dX2_init_31 (fun H locs hP hD hS => ?_)
    have hP : va_P D vwCl [(h0, .inr (2, [.ref q8, .ref q16, .ref q24, .null, .int 0, .int 0])), (q8, .inl (cI, 3072, .inl (fun j => nI ((fun _ => 0) j)))), (q16, .inl (cI, 6, .inl (fun j => nI ((fun _ => 0) j)))), (q24, .inl (cI, 6, .inl (fun j => nI ((fun _ => 0) j))))] H := hP
    have hD : va_D A [(h0, .inr (2, [.ref q8, .ref q16, .ref q24, .null, .int 0, .int 0])), (q8, .inl (cI, 3072, .inl (fun j => nI ((fun _ => 0) j)))), (q16, .inl (cI, 6, .inl (fun j => nI ((fun _ => 0) j)))), (q24, .inl (cI, 6, .inl (fun j => nI ((fun _ => 0) j))))] := hD
    refine lv_aload_n hx hb dX2_init_34 rfl (lv_at hl 0 rfl) ?_
    refine lv_iconst (v := 0) hx hb dX2_init_35 (by decide) ?_
    refine va_put (D := D) (ci := 2) (v := .int 0) (ty := .int) (C := RX2) (T := TX2) (N := 6) hx hb hts hiX2 tyX2 tyX2_ok nmX2 hown hK hP hD hS 0 rfl rfl 4 (by decide) f25 (fun _ h9 => h9) rfl (by decide +kernel) rfl rfl (Nat.le_of_ble_eq_true rfl) dX2_init_36 (fun H locs hP hD hS => ?_)
    have hP : va_P D vwCl [(h0, .inr (2, [.ref q8, .ref q16, .ref q24, .null, .int 0, .int 0])), (q8, .inl (cI, 3072, .inl (fun j => nI ((fun _ => 0) j)))), (q16, .inl (cI, 6, .inl (fun j => nI ((fun _ => 0) j)))), (q24, .inl (cI, 6, .inl (fun j => nI ((fun _ => 0) j))))] H := hP
    have hD : va_D A [(h0, .inr (2, [.ref q8, .ref q16, .ref q24, .null, .int 0, .int 0])), (q8, .inl (cI, 3072, .inl (fun j => nI ((fun _ => 0) j)))), (q16, .inl (cI, 6, .inl (fun j => nI ((fun _ => 0) j)))), (q24, .inl (cI, 6, .inl (fun j => nI ((fun _ => 0) j))))] := hD
    refine lv_aload_n hx hb dX2_init_39 rfl (lv_at hl 0 rfl) ?_
    refine lv_iconst (v := 0) hx hb dX2_init_40 (by decide) ?_
    refine va_put (D := D) (ci := 2) (v := .int 0) (ty := .int) (C := RX2) (T := TX2) (N := 6) hx hb hts hiX2 tyX2 tyX2_ok nmX2 hown hK hP hD hS 0 rfl rfl 5 (by decide) f29 (fun _ h9 => h9) rfl (by decide +kernel) rfl rfl (Nat.le_of_ble_eq_true rfl) dX2_init_41 (fun H locs hP hD hS => ?_)
    have hP : va_P D vwCl [(h0, .inr (2, [.ref q8, .ref q16, .ref q24, .null, .int 0, .int 0])), (q8, .inl (cI, 3072, .inl (fun j => nI ((fun _ => 0) j)))), (q16, .inl (cI, 6, .inl (fun j => nI ((fun _ => 0) j)))), (q24, .inl (cI, 6, .inl (fun j => nI ((fun _ => 0) j))))] H := hP
    have hD : va_D A [(h0, .inr (2, [.ref q8, .ref q16, .ref q24, .null, .int 0, .int 0])), (q8, .inl (cI, 3072, .inl (fun j => nI ((fun _ => 0) j)))), (q16, .inl (cI, 6, .inl (fun j => nI ((fun _ => 0) j)))), (q24, .inl (cI, 6, .inl (fun j => nI ((fun _ => 0) j))))] := hD
    exact W.vret hx hb hr (fun t_9 ht_9 _ => by rw [hQc]; exact ⟨⟨[(h0, .inr (2, [.ref q8, .ref q16, .ref q24, .null, .int 0, .int 0])), (q8, .inl (cI, 3072, .inl (fun j => nI ((fun _ => 0) j)))), (q16, .inl (cI, 6, .inl (fun j => nI ((fun _ => 0) j)))), (q24, .inl (cI, 6, .inl (fun j => nI ((fun _ => 0) j))))], rfl, ⟨(fun j => [h0, q8, q16, q24].getD j 0), rfl, rfl⟩, by rw [ht_9]; exact hP.sub [0, 1, 2, 3] rfl, by rw [← hAe]; exact hD.sub [0, 1, 2, 3] (by decide) rfl⟩, by rw [← hAe]; exact hS.F ht_9⟩) hS.2.2 dX2_init_44
  exact hmain _ _ hP va_S.rf
set_option maxHeartbeats 4000000 in
set_option maxRecDepth 100000 in
theorem c_X5_init (l : Launch) (D : va_G) (cI cC cZ cN : ClassId) (h0 sz : Nat) : Met l yX5_init wsX5_init (ly_rc 1 1 3) (ly_PreC D (ly_tys cI cC cZ cN) [(h0, .inr (5, [.null, .int 0, .int 0, .null, .null, .int 0, .int 0, .int 0, .int 0]))] [.ref h0] sz) (ly_QC D [(h0, .inr (5, [.null, .int 0, .int 0, .null, .null, .int 0, .int 0, .int 0, .int 0]))] sz (fun w_9 : va_W => ∃ (b : Nat → Nat), (b 0) = h0 ∧ w_9 = [((b 0), .inr (5, [.null, .int (nI ((fun j => [0, 0, 256, 0, 0, 0].getD j 0) 0)), .int (nI ((fun j => [0, 0, 256, 0, 0, 0].getD j 0) 1)), .null, .ref (b 1), .int (nI ((fun j => [0, 0, 256, 0, 0, 0].getD j 0) 2)), .int (nI ((fun j => [0, 0, 256, 0, 0, 0].getD j 0) 3)), .int (nI ((fun j => [0, 0, 256, 0, 0, 0].getD j 0) 4)), .int (nI ((fun j => [0, 0, 256, 0, 0, 0].getD j 0) 5))])), ((b 1), .inl (cI, 3, .inl (fun j => nI ((fun _ => 0) j))))])) 1 3 (va_A [(h0, .inr (5, [.null, .int 0, .int 0, .null, .null, .int 0, .int 0, .int 0, .int 0]))] sz) := by
  refine Met.ofW (cc := cX5_init) (maxL := 1) (ret := none) (by decide) rfl ?_
  intro p e s m args below meth c s₁ B hml hv
  obtain ⟨⟨rfl, hP, hK, hN⟩, hO, rfl⟩ := hv
  have hx := B.exec
  have hb := B.bytes
  have hr := B.returns
  have hts := atoms_spec (ws := wsX5_init) B.pre
  have hown : s.vm.findClass RX5 = some m.cls := findClass_of_methodNamed B.named
  have hlocks := B.notSynchronized
  have hl := lv_entry ([.ref h0]) (n := 1) (Nat.le_of_ble_eq_true rfl)
  rw [lg_entry_eq]
  generalize (lg_sl ([.ref h0]) ++ List.replicate (1 - (lg_sl ([.ref h0])).length) Slot.unset).toArray = ls at hl ⊢
  have hl : lv_has ls 1 [(0, .ref h0)] := hl
  generalize ([.ref h0] : List Value).toArray = av at hts ⊢
  obtain ⟨Qc, hQc⟩ : ∃ Qc, Qc = (ly_QC D [(h0, .inr (5, [.null, .int 0, .int 0, .null, .null, .int 0, .int 0, .int 0, .int 0]))] s.heap.size (fun w_9 : va_W => ∃ (b : Nat → Nat), (b 0) = h0 ∧ w_9 = [((b 0), .inr (5, [.null, .int (nI ((fun j => [0, 0, 256, 0, 0, 0].getD j 0) 0)), .int (nI ((fun j => [0, 0, 256, 0, 0, 0].getD j 0) 1)), .null, .ref (b 1), .int (nI ((fun j => [0, 0, 256, 0, 0, 0].getD j 0) 2)), .int (nI ((fun j => [0, 0, 256, 0, 0, 0].getD j 0) 3)), .int (nI ((fun j => [0, 0, 256, 0, 0, 0].getD j 0) 4)), .int (nI ((fun j => [0, 0, 256, 0, 0, 0].getD j 0) 5))])), ((b 1), .inl (cI, 3, .inl (fun j => nI ((fun _ => 0) j))))])) := ⟨_, rfl⟩
  rw [← hQc]
  have hin : meth.name = "<init>" := (name_of_methodNamed B.named B.method).1
  obtain ⟨A, hAe⟩ : ∃ A, A = va_A [(h0, .inr (5, [.null, .int 0, .int 0, .null, .null, .int 0, .int 0, .int 0, .int 0]))] s.heap.size := ⟨_, rfl⟩
  rw [← hAe]
  have hD : va_D A [(h0, .inr (5, [.null, .int 0, .int 0, .null, .null, .int 0, .int 0, .int 0, .int 0]))] := by rw [hAe]; exact ly_D1.self
  have hA : ∀ q : Nat, s.heap.size ≤ q → A q := fun q h => by rw [hAe]; exact Or.inr h
  have f9 := hts (.fieldLink RX5 9 "KneesLent$Reader" "text" "[C") (by decide +kernel)
  have f15 := hts (.fieldLink RX5 15 "KneesLent$Reader" "length" "I") (by decide +kernel)
  have f19 := hts (.fieldLink RX5 19 "KneesLent$Reader" "place" "I") (by decide +kernel)
  have f22 := hts (.fieldLink RX5 22 "KneesLent$Reader" "into" "LKneesLent$Parish;") (by decide +kernel)
  have f26 := hts (.fieldLink RX5 26 "KneesLent$Reader" "numbers" "[I") (by decide +kernel)
  have f30 := hts (.fieldLink RX5 30 "KneesLent$Reader" "token" "I") (by decide +kernel)
  have f33 := hts (.fieldLink RX5 33 "KneesLent$Reader" "value" "I") (by decide +kernel)
  have f36 := hts (.fieldLink RX5 36 "KneesLent$Reader" "start" "I") (by decide +kernel)
  have f39 := hts (.fieldLink RX5 39 "KneesLent$Reader" "items" "I") (by decide +kernel)
  have hiX5 : ∀ w ∈ u_ws RX5 TX5 9, w ∈ wsX5_init := by decide +kernel
  have hmain : ∀ (H : Heap) (locs : List Loc), va_P D vwCl [(h0, .inr (5, [.null, .int 0, .int 0, .null, .null, .int 0, .int 0, .int 0, .int 0]))] H → va_S A s.heap H locs → W p l e (headSpec wsX5_init (ly_rc 1 1 3)).room s m av below meth c H locs 0 0 (MQ below Qc av s 1 3 A) (F0 m 0 ls []) := by
    intro H locs hP hS
    refine lv_aload_n hx hb dX5_init_0 rfl (lv_at hl 0 rfl) ?_
    refine W.objInit hx hb hown (hts (.methodLink RX5 3 objectInit) (by decide +kernel)) (hts (.instanceMethod objectInit) (by decide +kernel)) (hts _ (List.mem_of_getElem? (i := 3) rfl)) rfl (by rw [hml]; exact hl.1) rfl dX5_init_1 (Nat.le_of_ble_eq_true rfl) (Nat.le_of_ble_eq_true rfl) ?_
    refine W.eq (g2 := F0 m 4 ls []) rfl ?_
    refine lv_aload_n hx hb dX5_init_4 rfl (lv_at hl 0 rfl) ?_
    refine lv_null hx hb dX5_init_5 ?_
    refine va_put (D := D) (ci := 5) (v := .null) (ty := .array .char) (C := RX5) (T := TX5) (N := 9) hx hb hts hiX5 tyX5 tyX5_ok nmX5 hown hK hP hD hS 0 rfl rfl 0 (by decide) f9 (fun _ h9 => h9) rfl (by decide +kernel) rfl rfl (Nat.le_of_ble_eq_true rfl) dX5_init_6 (fun H locs hP hD hS => ?_)
    have hP : va_P D vwCl [(h0, .inr (5, [.null, .int 0, .int 0, .null, .null, .int 0, .int 0, .int 0, .int 0]))] H := hP
    have hD : va_D A [(h0, .inr (5, [.null, .int 0, .int 0, .null, .null, .int 0, .int 0, .int 0, .int 0]))] := hD
    refine lv_aload_n hx hb dX5_init_9 rfl (lv_at hl 0 rfl) ?_
    refine lv_iconst (v := 0) hx hb dX5_init_10 (by decide) ?_
    refine va_put (D := D) (ci := 5) (v := .int 0) (ty := .int) (C := RX5) (T := TX5) (N := 9) hx hb hts hiX5 tyX5 tyX5_ok nmX5 hown hK hP hD hS 0 rfl rfl 1 (by decide) f15 (fun _ h9 => h9) rfl (by decide +kernel) rfl rfl (Nat.le_of_ble_eq_true rfl) dX5_init_11 (fun H locs hP hD hS => ?_)
    have hP : va_P D vwCl [(h0, .inr (5, [.null, .int 0, .int 0, .null, .null, .int 0, .int 0, .int 0, .int 0]))] H := hP
    have hD : va_D A [(h0, .inr (5, [.null, .int 0, .int 0, .null, .null, .int 0, .int 0, .int 0, .int 0]))] := hD
    refine lv_aload_n hx hb dX5_init_14 rfl (lv_at hl 0 rfl) ?_
    refine lv_iconst (v := 0) hx hb dX5_init_15 (by decide) ?_
    refine va_put (D := D) (ci := 5) (v := .int 0) (ty := .int) (C := RX5) (T := TX5) (N := 9) hx hb hts hiX5 tyX5 tyX5_ok nmX5 hown hK hP hD hS 0 rfl rfl 2 (by decide) f19 (fun _ h9 => h9) rfl (by decide +kernel) rfl rfl (Nat.le_of_ble_eq_true rfl) dX5_init_16 (fun H locs hP hD hS => ?_)
    have hP : va_P D vwCl [(h0, .inr (5, [.null, .int 0, .int 0, .null, .null, .int 0, .int 0, .int 0, .int 0]))] H := hP
    have hD : va_D A [(h0, .inr (5, [.null, .int 0, .int 0, .null, .null, .int 0, .int 0, .int 0, .int 0]))] := hD
    refine lv_aload_n hx hb dX5_init_19 rfl (lv_at hl 0 rfl) ?_
    refine lv_null hx hb dX5_init_20 ?_
    refine va_put (D := D) (ci := 5) (v := .null) (ty := .object "KneesLent$Parish") (C := RX5) (T := TX5) (N := 9) hx hb hts hiX5 tyX5 tyX5_ok nmX5 hown hK hP hD hS 0 rfl rfl 3 (by decide) f22 (fun _ h9 => h9) rfl (by decide +kernel) rfl rfl (Nat.le_of_ble_eq_true rfl) dX5_init_21 (fun H locs hP hD hS => ?_)
    have hP : va_P D vwCl [(h0, .inr (5, [.null, .int 0, .int 0, .null, .null, .int 0, .int 0, .int 0, .int 0]))] H := hP
    have hD : va_D A [(h0, .inr (5, [.null, .int 0, .int 0, .null, .null, .int 0, .int 0, .int 0, .int 0]))] := hD
    refine lv_aload_n hx hb dX5_init_24 rfl (lv_at hl 0 rfl) ?_
    refine lv_iconst (v := 3) hx hb dX5_init_25 (by decide) ?_
    refine ly_newI hx hb (hts (.arrayClass .int) (by decide +kernel)) hK hP hD hS hA 3 rfl (by decide) (Nat.le_of_ble_eq_true rfl) (Nat.le_of_ble_eq_true rfl) dX5_init_26 (fun q26 H hP hD hS => ?_)
    have hP : va_P D vwCl [(h0, .inr (5, [.null, .int 0, .int 0, .null, .null, .int 0, .int 0, .int 0, .int 0])), (q26, .inl (cI, 3, .inl (fun j => nI ((fun _ => 0) j))))] H := hP
    have hD : va_D A [(h0, .inr (5, [.null, .int 0, .int 0, .null, .null, .int 0, .int 0, .int 0, .int 0])), (q26, .inl (cI, 3, .inl (fun j => nI ((fun _ => 0) j))))] := hD
    refine W.widen (k := 1) (n := 3) (by omega) (by omega) ?_
    refine va_putF (D := D) (ci := 5) (v := .ref q26) (ty := .array .int) (C := RX5) (T := TX5) (N := 9) hx hb hts hiX5 tyX5 tyX5_ok nmX5 hown hK hP hD hS 0 rfl rfl 4 (by decide) f26 (fun _ h9 => h9) rfl hin rfl (by decide +kernel) rfl rfl (Nat.le_of_ble_eq_true rfl) dX5_init_28 (fun H locs hP hD hS => ?_)
    have hP : va_P D vwCl [(h0, .inr (5, [.null, .int 0, .int 0, .null, .ref q26, .int 0, .int 0, .int 0, .int 0])), (q26, .inl (cI, 3, .inl (fun j => nI ((fun _ => 0) j))))] H := hP
    have hD : va_D A [(h0, .inr (5, [.null, .int 0, .int 0, .null, .ref q26, .int 0, .int 0, .int 0, .int 0])), (q26, .inl (cI, 3, .inl (fun j => nI ((fun _ => 0) j))))] := hD
    refine lv_aload_n hx hb dX5_init_31 rfl (lv_at hl 0 rfl) ?_
    refine lv_sipush (v := 256) hx hb dX5_init_32 (by decide) ?_
    refine va_put (D := D) (ci := 5) (v := .int 256) (ty := .int) (C := RX5) (T := TX5) (N := 9) hx hb hts hiX5 tyX5 tyX5_ok nmX5 hown hK hP hD hS 0 rfl rfl 5 (by decide) f30 (fun _ h9 => h9) rfl (by decide +kernel) rfl rfl (Nat.le_of_ble_eq_true rfl) dX5_init_35 (fun H locs hP hD hS => ?_)
    have hP : va_P D vwCl [(h0, .inr (5, [.null, .int 0, .int 0, .null, .ref q26, .int 256, .int 0, .int 0, .int 0])), (q26, .inl (cI, 3, .inl (fun j => nI ((fun _ => 0) j))))] H := hP
    have hD : va_D A [(h0, .inr (5, [.null, .int 0, .int 0, .null, .ref q26, .int 256, .int 0, .int 0, .int 0])), (q26, .inl (cI, 3, .inl (fun j => nI ((fun _ => 0) j))))] := hD
    refine lv_aload_n hx hb dX5_init_38 rfl (lv_at hl 0 rfl) ?_
    refine lv_iconst (v := 0) hx hb dX5_init_39 (by decide) ?_
    refine va_put (D := D) (ci := 5) (v := .int 0) (ty := .int) (C := RX5) (T := TX5) (N := 9) hx hb hts hiX5 tyX5 tyX5_ok nmX5 hown hK hP hD hS 0 rfl rfl 6 (by decide) f33 (fun _ h9 => h9) rfl (by decide +kernel) rfl rfl (Nat.le_of_ble_eq_true rfl) dX5_init_40 (fun H locs hP hD hS => ?_)
    have hP : va_P D vwCl [(h0, .inr (5, [.null, .int 0, .int 0, .null, .ref q26, .int 256, .int 0, .int 0, .int 0])), (q26, .inl (cI, 3, .inl (fun j => nI ((fun _ => 0) j))))] H := hP
    have hD : va_D A [(h0, .inr (5, [.null, .int 0, .int 0, .null, .ref q26, .int 256, .int 0, .int 0, .int 0])), (q26, .inl (cI, 3, .inl (fun j => nI ((fun _ => 0) j))))] := hD
    refine lv_aload_n hx hb dX5_init_43 rfl (lv_at hl 0 rfl) ?_
    refine lv_iconst (v := 0) hx hb dX5_init_44 (by decide) ?_
    refine va_put (D := D) (ci := 5) (v := .int 0) (ty := .int) (C := RX5) (T := TX5) (N := 9) hx hb hts hiX5 tyX5 tyX5_ok nmX5 hown hK hP hD hS 0 rfl rfl 7 (by decide) f36 (fun _ h9 => h9) rfl (by decide +kernel) rfl rfl (Nat.le_of_ble_eq_true rfl) dX5_init_45 (fun H locs hP hD hS => ?_)
    have hP : va_P D vwCl [(h0, .inr (5, [.null, .int 0, .int 0, .null, .ref q26, .int 256, .int 0, .int 0, .int 0])), (q26, .inl (cI, 3, .inl (fun j => nI ((fun _ => 0) j))))] H := hP
    have hD : va_D A [(h0, .inr (5, [.null, .int 0, .int 0, .null, .ref q26, .int 256, .int 0, .int 0, .int 0])), (q26, .inl (cI, 3, .inl (fun j => nI ((fun _ => 0) j))))] := hD
    refine lv_aload_n hx hb dX5_init_48 rfl (lv_at hl 0 rfl) ?_
    refine lv_iconst (v := 0) hx hb dX5_init_49 (by decide) ?_
    refine va_put (D := D) (ci := 5) (v := .int 0) (ty := .int) (C := RX5) (T := TX5) (N := 9) hx hb hts hiX5 tyX5 tyX5_ok nmX5 hown hK hP hD hS 0 rfl rfl 8 (by decide) f39 (fun _ h9 => h9) rfl (by decide +kernel) rfl rfl (Nat.le_of_ble_eq_true rfl) dX5_init_50 (fun H locs hP hD hS => ?_)
    have hP : va_P D vwCl [(h0, .inr (5, [.null, .int 0, .int 0, .null, .ref q26, .int 256, .int 0, .int 0, .int 0])), (q26, .inl (cI, 3, .inl (fun j => nI ((fun _ => 0) j))))] H := hP
    have hD : va_D A [(h0, .inr (5, [.null, .int 0, .int 0, .null, .ref q26, .int 256, .int 0, .int 0, .int 0])), (q26, .inl (cI, 3, .inl (fun j => nI ((fun _ => 0) j))))] := hD
    exact W.vret hx hb hr (fun t_9 ht_9 _ => by rw [hQc]; exact ⟨⟨[(h0, .inr (5, [.null, .int 0, .int 0, .null, .ref q26, .int 256, .int 0, .int 0, .int 0])), (q26, .inl (cI, 3, .inl (fun j => nI ((fun _ => 0) j))))], rfl, ⟨(fun j => [h0, q26].getD j 0), rfl, rfl⟩, by rw [ht_9]; exact hP.sub [0, 1] rfl, by rw [← hAe]; exact hD.sub [0, 1] (by decide) rfl⟩, by rw [← hAe]; exact hS.F ht_9⟩) hS.2.2 dX5_init_53
  exact hmain _ _ hP va_S.rf
set_option maxHeartbeats 4000000 in
set_option maxRecDepth 100000 in
theorem c_X4_init (l : Launch) (D : va_G) (cI cC cZ cN : ClassId) (h0 sz : Nat) : Met l yX4_init wsX4_init (ly_rc 3 9 60) (ly_PreC D (ly_tys cI cC cZ cN) [(h0, .inr (4, [.int 0, .null, .null, .null, .int 0, .null, .null, .null, .null, .null, .null, .int 0]))] [.ref h0] sz) (ly_QC D [(h0, .inr (4, [.int 0, .null, .null, .null, .int 0, .null, .null, .null, .null, .null, .null, .int 0]))] sz (fun w_9 : va_W => ∃ (b : Nat → Nat), (b 0) = h0 ∧ w_9 = [((b 0), .inr (4, [.int (nI (g_0 0 0)), .ref (b 1), .ref (b 2), .ref (b 3), .int (nI (g_0 0 1)), .ref (b 4), .ref (b 5), .ref (b 6), .ref (b 7), .ref (b 8), .ref (b 9), .int (nI (g_0 0 2))])), ((b 1), .inl (cI, 9, .inl (fun j => nI ((g_0 1) j)))), ((b 2), .inl (cI, 9, .inl (fun j => nI ((g_0 2) j)))), ((b 3), .inl (cI, 9, .inl (fun j => nI ((g_0 3) j)))), ((b 4), .inl (cI, 6, .inl (fun j => nI ((g_0 4) j)))), ((b 5), .inl (cI, 6, .inl (fun j => nI ((g_0 5) j)))), ((b 6), .inl (cI, 6, .inl (fun j => nI ((g_0 6) j)))), ((b 7), .inl (cI, 5, .inl (fun j => nI ((g_0 7) j)))), ((b 8), .inl (cI, 5, .inl (fun j => nI ((g_0 8) j)))), ((b 9), .inl (cI, 5, .inl (fun j => ly_h ((g_0 9) j))))])) 9 60 (va_A [(h0, .inr (4, [.int 0, .null, .null, .null, .int 0, .null, .null, .null, .null, .null, .null, .int 0]))] sz) := by
  refine Met.ofW (cc := cX4_init) (maxL := 1) (ret := none) (by decide) rfl ?_
  intro p e s m args below meth c s₁ B hml hv
  obtain ⟨⟨rfl, hP, hK, hN⟩, hO, rfl⟩ := hv
  have hx := B.exec
  have hb := B.bytes
  have hr := B.returns
  have hts := atoms_spec (ws := wsX4_init) B.pre
  have hown : s.vm.findClass RX4 = some m.cls := findClass_of_methodNamed B.named
  have hlocks := B.notSynchronized
  have hl := lv_entry ([.ref h0]) (n := 1) (Nat.le_of_ble_eq_true rfl)
  rw [lg_entry_eq]
  generalize (lg_sl ([.ref h0]) ++ List.replicate (1 - (lg_sl ([.ref h0])).length) Slot.unset).toArray = ls at hl ⊢
  have hl : lv_has ls 1 [(0, .ref h0)] := hl
  generalize ([.ref h0] : List Value).toArray = av at hts ⊢
  obtain ⟨Qc, hQc⟩ : ∃ Qc, Qc = (ly_QC D [(h0, .inr (4, [.int 0, .null, .null, .null, .int 0, .null, .null, .null, .null, .null, .null, .int 0]))] s.heap.size (fun w_9 : va_W => ∃ (b : Nat → Nat), (b 0) = h0 ∧ w_9 = [((b 0), .inr (4, [.int (nI (g_0 0 0)), .ref (b 1), .ref (b 2), .ref (b 3), .int (nI (g_0 0 1)), .ref (b 4), .ref (b 5), .ref (b 6), .ref (b 7), .ref (b 8), .ref (b 9), .int (nI (g_0 0 2))])), ((b 1), .inl (cI, 9, .inl (fun j => nI ((g_0 1) j)))), ((b 2), .inl (cI, 9, .inl (fun j => nI ((g_0 2) j)))), ((b 3), .inl (cI, 9, .inl (fun j => nI ((g_0 3) j)))), ((b 4), .inl (cI, 6, .inl (fun j => nI ((g_0 4) j)))), ((b 5), .inl (cI, 6, .inl (fun j => nI ((g_0 5) j)))), ((b 6), .inl (cI, 6, .inl (fun j => nI ((g_0 6) j)))), ((b 7), .inl (cI, 5, .inl (fun j => nI ((g_0 7) j)))), ((b 8), .inl (cI, 5, .inl (fun j => nI ((g_0 8) j)))), ((b 9), .inl (cI, 5, .inl (fun j => ly_h ((g_0 9) j))))])) := ⟨_, rfl⟩
  rw [← hQc]
  have hin : meth.name = "<init>" := (name_of_methodNamed B.named B.method).1
  obtain ⟨A, hAe⟩ : ∃ A, A = va_A [(h0, .inr (4, [.int 0, .null, .null, .null, .int 0, .null, .null, .null, .null, .null, .null, .int 0]))] s.heap.size := ⟨_, rfl⟩
  rw [← hAe]
  have hD : va_D A [(h0, .inr (4, [.int 0, .null, .null, .null, .int 0, .null, .null, .null, .null, .null, .null, .int 0]))] := by rw [hAe]; exact ly_D1.self
  have hA : ∀ q : Nat, s.heap.size ≤ q → A q := fun q h => by rw [hAe]; exact Or.inr h
  have f9 := hts (.fieldLink RX4 9 "KneesLent$Parish" "knees" "I") (by decide +kernel)
  have f15 := hts (.fieldLink RX4 15 "KneesLent$Parish" "side" "[I") (by decide +kernel)
  have f19 := hts (.fieldLink RX4 19 "KneesLent$Parish" "farm" "[I") (by decide +kernel)
  have f22 := hts (.fieldLink RX4 22 "KneesLent$Parish" "steps" "[I") (by decide +kernel)
  have f25 := hts (.fieldLink RX4 25 "KneesLent$Parish" "people" "I") (by decide +kernel)
  have f28 := hts (.fieldLink RX4 28 "KneesLent$Parish" "needs" "[I") (by decide +kernel)
  have f31 := hts (.fieldLink RX4 31 "KneesLent$Parish" "up" "[I") (by decide +kernel)
  have f34 := hts (.fieldLink RX4 34 "KneesLent$Parish" "down" "[I") (by decide +kernel)
  have f37 := hts (.fieldLink RX4 37 "KneesLent$Parish" "feuds" "[I") (by decide +kernel)
  have f40 := hts (.fieldLink RX4 40 "KneesLent$Parish" "oil" "[I") (by decide +kernel)
  have f43 := hts (.fieldLink RX4 43 "KneesLent$Parish" "table" "[I") (by decide +kernel)
  have f46 := hts (.fieldLink RX4 46 "KneesLent$Parish" "tables" "I") (by decide +kernel)
  have hiX4 : ∀ w ∈ u_ws RX4 TX4 12, w ∈ wsX4_init := by decide +kernel
  have hmain : ∀ (H : Heap) (locs : List Loc), va_P D vwCl [(h0, .inr (4, [.int 0, .null, .null, .null, .int 0, .null, .null, .null, .null, .null, .null, .int 0]))] H → va_S A s.heap H locs → W p l e (headSpec wsX4_init (ly_rc 3 9 60)).room s m av below meth c H locs 0 0 (MQ below Qc av s 9 60 A) (F0 m 0 ls []) := by
    intro H locs hP hS
    refine lv_aload_n hx hb dX4_init_0 rfl (lv_at hl 0 rfl) ?_
    refine W.objInit hx hb hown (hts (.methodLink RX4 3 objectInit) (by decide +kernel)) (hts (.instanceMethod objectInit) (by decide +kernel)) (hts _ (List.mem_of_getElem? (i := 3) rfl)) rfl (by rw [hml]; exact hl.1) rfl dX4_init_1 (Nat.le_of_ble_eq_true rfl) (Nat.le_of_ble_eq_true rfl) ?_
    refine W.eq (g2 := F0 m 4 ls []) rfl ?_
    refine lv_aload_n hx hb dX4_init_4 rfl (lv_at hl 0 rfl) ?_
    refine lv_iconst (v := 0) hx hb dX4_init_5 (by decide) ?_
    refine va_put (D := D) (ci := 4) (v := .int 0) (ty := .int) (C := RX4) (T := TX4) (N := 12) hx hb hts hiX4 tyX4 tyX4_ok nmX4 hown hK hP hD hS 0 rfl rfl 0 (by decide) f9 (fun _ h9 => h9) rfl (by decide +kernel) rfl rfl (Nat.le_of_ble_eq_true rfl) dX4_init_6 (fun H locs hP hD hS => ?_)
    have hP : va_P D vwCl [(h0, .inr (4, [.int 0, .null, .null, .null, .int 0, .null, .null, .null, .null, .null, .null, .int 0]))] H := hP
    have hD : va_D A [(h0, .inr (4, [.int 0, .null, .null, .null, .int 0, .null, .null, .null, .null, .null, .null, .int 0]))] := hD
    refine lv_aload_n hx hb dX4_init_9 rfl (lv_at hl 0 rfl) ?_
    refine lv_bipush (v := 9) hx hb dX4_init_10 (by decide) ?_
    refine ly_newI hx hb (hts (.arrayClass .int) (by decide +kernel)) hK hP hD hS hA 9 rfl (by decide) (Nat.le_of_ble_eq_true rfl) (Nat.le_of_ble_eq_true rfl) dX4_init_12 (fun q12 H hP hD hS => ?_)
    have hP : va_P D vwCl [(h0, .inr (4, [.int 0, .null, .null, .null, .int 0, .null, .null, .null, .null, .null, .null, .int 0])), (q12, .inl (cI, 9, .inl (fun j => nI ((fun _ => 0) j))))] H := hP
    have hD : va_D A [(h0, .inr (4, [.int 0, .null, .null, .null, .int 0, .null, .null, .null, .null, .null, .null, .int 0])), (q12, .inl (cI, 9, .inl (fun j => nI ((fun _ => 0) j))))] := hD
    refine W.widen (k := 1) (n := 9) (by omega) (by omega) ?_
    refine va_putF (D := D) (ci := 4) (v := .ref q12) (ty := .array .int) (C := RX4) (T := TX4) (N := 12) hx hb hts hiX4 tyX4 tyX4_ok nmX4 hown hK hP hD hS 0 rfl rfl 1 (by decide) f15 (fun _ h9 => h9) rfl hin rfl (by decide +kernel) rfl rfl (Nat.le_of_ble_eq_true rfl) dX4_init_14 (fun H locs hP hD hS => ?_)
    have hP : va_P D vwCl [(h0, .inr (4, [.int 0, .ref q12, .null, .null, .int 0, .null, .null, .null, .null, .null, .null, .int 0])), (q12, .inl (cI, 9, .inl (fun j => nI ((fun _ => 0) j))))] H := hP
    have hD : va_D A [(h0, .inr (4, [.int 0, .ref q12, .null, .null, .int 0, .null, .null, .null, .null, .null, .null, .int 0])), (q12, .inl (cI, 9, .inl (fun j => nI ((fun _ => 0) j))))] := hD
    refine lv_aload_n hx hb dX4_init_17 rfl (lv_at hl 0 rfl) ?_
    refine lv_bipush (v := 9) hx hb dX4_init_18 (by decide) ?_
    refine ly_newI hx hb (hts (.arrayClass .int) (by decide +kernel)) hK hP hD hS hA 9 rfl (by decide) (Nat.le_of_ble_eq_true rfl) (Nat.le_of_ble_eq_true rfl) dX4_init_20 (fun q20 H hP hD hS => ?_)
    have hP : va_P D vwCl [(h0, .inr (4, [.int 0, .ref q12, .null, .null, .int 0, .null, .null, .null, .null, .null, .null, .int 0])), (q12, .inl (cI, 9, .inl (fun j => nI ((fun _ => 0) j)))), (q20, .inl (cI, 9, .inl (fun j => nI ((fun _ => 0) j))))] H := hP
    have hD : va_D A [(h0, .inr (4, [.int 0, .ref q12, .null, .null, .int 0, .null, .null, .null, .null, .null, .null, .int 0])), (q12, .inl (cI, 9, .inl (fun j => nI ((fun _ => 0) j)))), (q20, .inl (cI, 9, .inl (fun j => nI ((fun _ => 0) j))))] := hD
    refine W.widen (k := 2) (n := 18) (by omega) (by omega) ?_
    refine va_putF (D := D) (ci := 4) (v := .ref q20) (ty := .array .int) (C := RX4) (T := TX4) (N := 12) hx hb hts hiX4 tyX4 tyX4_ok nmX4 hown hK hP hD hS 0 rfl rfl 2 (by decide) f19 (fun _ h9 => h9) rfl hin rfl (by decide +kernel) rfl rfl (Nat.le_of_ble_eq_true rfl) dX4_init_22 (fun H locs hP hD hS => ?_)
    have hP : va_P D vwCl [(h0, .inr (4, [.int 0, .ref q12, .ref q20, .null, .int 0, .null, .null, .null, .null, .null, .null, .int 0])), (q12, .inl (cI, 9, .inl (fun j => nI ((fun _ => 0) j)))), (q20, .inl (cI, 9, .inl (fun j => nI ((fun _ => 0) j))))] H := hP
    have hD : va_D A [(h0, .inr (4, [.int 0, .ref q12, .ref q20, .null, .int 0, .null, .null, .null, .null, .null, .null, .int 0])), (q12, .inl (cI, 9, .inl (fun j => nI ((fun _ => 0) j)))), (q20, .inl (cI, 9, .inl (fun j => nI ((fun _ => 0) j))))] := hD
    refine lv_aload_n hx hb dX4_init_25 rfl (lv_at hl 0 rfl) ?_
    refine lv_bipush (v := 9) hx hb dX4_init_26 (by decide) ?_
    refine ly_newI hx hb (hts (.arrayClass .int) (by decide +kernel)) hK hP hD hS hA 9 rfl (by decide) (Nat.le_of_ble_eq_true rfl) (Nat.le_of_ble_eq_true rfl) dX4_init_28 (fun q28 H hP hD hS => ?_)
    have hP : va_P D vwCl [(h0, .inr (4, [.int 0, .ref q12, .ref q20, .null, .int 0, .null, .null, .null, .null, .null, .null, .int 0])), (q12, .inl (cI, 9, .inl (fun j => nI ((fun _ => 0) j)))), (q20, .inl (cI, 9, .inl (fun j => nI ((fun _ => 0) j)))), (q28, .inl (cI, 9, .inl (fun j => nI ((fun _ => 0) j))))] H := hP
    have hD : va_D A [(h0, .inr (4, [.int 0, .ref q12, .ref q20, .null, .int 0, .null, .null, .null, .null, .null, .null, .int 0])), (q12, .inl (cI, 9, .inl (fun j => nI ((fun _ => 0) j)))), (q20, .inl (cI, 9, .inl (fun j => nI ((fun _ => 0) j)))), (q28, .inl (cI, 9, .inl (fun j => nI ((fun _ => 0) j))))] := hD
    refine W.widen (k := 3) (n := 27) (by omega) (by omega) ?_
    refine va_putF (D := D) (ci := 4) (v := .ref q28) (ty := .array .int) (C := RX4) (T := TX4) (N := 12) hx hb hts hiX4 tyX4 tyX4_ok nmX4 hown hK hP hD hS 0 rfl rfl 3 (by decide) f22 (fun _ h9 => h9) rfl hin rfl (by decide +kernel) rfl rfl (Nat.le_of_ble_eq_true rfl) dX4_init_30 (fun H locs hP hD hS => ?_)
    have hP : va_P D vwCl [(h0, .inr (4, [.int 0, .ref q12, .ref q20, .ref q28, .int 0, .null, .null, .null, .null, .null, .null, .int 0])), (q12, .inl (cI, 9, .inl (fun j => nI ((fun _ => 0) j)))), (q20, .inl (cI, 9, .inl (fun j => nI ((fun _ => 0) j)))), (q28, .inl (cI, 9, .inl (fun j => nI ((fun _ => 0) j))))] H := hP
    have hD : va_D A [(h0, .inr (4, [.int 0, .ref q12, .ref q20, .ref q28, .int 0, .null, .null, .null, .null, .null, .null, .int 0])), (q12, .inl (cI, 9, .inl (fun j => nI ((fun _ => 0) j)))), (q20, .inl (cI, 9, .inl (fun j => nI ((fun _ => 0) j)))), (q28, .inl (cI, 9, .inl (fun j => nI ((fun _ => 0) j))))] := hD
    refine lv_aload_n hx hb dX4_init_33 rfl (lv_at hl 0 rfl) ?_
    refine lv_iconst (v := 0) hx hb dX4_init_34 (by decide) ?_
    refine va_put (D := D) (ci := 4) (v := .int 0) (ty := .int) (C := RX4) (T := TX4) (N := 12) hx hb hts hiX4 tyX4 tyX4_ok nmX4 hown hK hP hD hS 0 rfl rfl 4 (by decide) f25 (fun _ h9 => h9) rfl (by decide +kernel) rfl rfl (Nat.le_of_ble_eq_true rfl) dX4_init_35 (fun H locs hP hD hS => ?_)
    have hP : va_P D vwCl [(h0, .inr (4, [.int 0, .ref q12, .ref q20, .ref q28, .int 0, .null, .null, .null, .null, .null, .null, .int 0])), (q12, .inl (cI, 9, .inl (fun j => nI ((fun _ => 0) j)))), (q20, .inl (cI, 9, .inl (fun j => nI ((fun _ => 0) j)))), (q28, .inl (cI, 9, .inl (fun j => nI ((fun _ => 0) j))))] H := hP
    have hD : va_D A [(h0, .inr (4, [.int 0, .ref q12, .ref q20, .ref q28, .int 0, .null, .null, .null, .null, .null, .null, .int 0])), (q12, .inl (cI, 9, .inl (fun j => nI ((fun _ => 0) j)))), (q20, .inl (cI, 9, .inl (fun j => nI ((fun _ => 0) j)))), (q28, .inl (cI, 9, .inl (fun j => nI ((fun _ => 0) j))))] := hD
    refine lv_aload_n hx hb dX4_init_38 rfl (lv_at hl 0 rfl) ?_
    refine lv_bipush (v := 6) hx hb dX4_init_39 (by decide) ?_
    refine ly_newI hx hb (hts (.arrayClass .int) (by decide +kernel)) hK hP hD hS hA 6 rfl (by decide) (Nat.le_of_ble_eq_true rfl) (Nat.le_of_ble_eq_true rfl) dX4_init_41 (fun q41 H hP hD hS => ?_)
    have hP : va_P D vwCl [(h0, .inr (4, [.int 0, .ref q12, .ref q20, .ref q28, .int 0, .null, .null, .null, .null, .null, .null, .int 0])), (q12, .inl (cI, 9, .inl (fun j => nI ((fun _ => 0) j)))), (q20, .inl (cI, 9, .inl (fun j => nI ((fun _ => 0) j)))), (q28, .inl (cI, 9, .inl (fun j => nI ((fun _ => 0) j)))), (q41, .inl (cI, 6, .inl (fun j => nI ((fun _ => 0) j))))] H := hP
    have hD : va_D A [(h0, .inr (4, [.int 0, .ref q12, .ref q20, .ref q28, .int 0, .null, .null, .null, .null, .null, .null, .int 0])), (q12, .inl (cI, 9, .inl (fun j => nI ((fun _ => 0) j)))), (q20, .inl (cI, 9, .inl (fun j => nI ((fun _ => 0) j)))), (q28, .inl (cI, 9, .inl (fun j => nI ((fun _ => 0) j)))), (q41, .inl (cI, 6, .inl (fun j => nI ((fun _ => 0) j))))] := hD
    refine W.widen (k := 4) (n := 33) (by omega) (by omega) ?_
    refine va_putF (D := D) (ci := 4) (v := .ref q41) (ty := .array .int) (C := RX4) (T := TX4) (N := 12) hx hb hts hiX4 tyX4 tyX4_ok nmX4 hown hK hP hD hS 0 rfl rfl 5 (by decide) f28 (fun _ h9 => h9) rfl hin rfl (by decide +kernel) rfl rfl (Nat.le_of_ble_eq_true rfl) dX4_init_43 (fun H locs hP hD hS => ?_)
    have hP : va_P D vwCl [(h0, .inr (4, [.int 0, .ref q12, .ref q20, .ref q28, .int 0, .ref q41, .null, .null, .null, .null, .null, .int 0])), (q12, .inl (cI, 9, .inl (fun j => nI ((fun _ => 0) j)))), (q20, .inl (cI, 9, .inl (fun j => nI ((fun _ => 0) j)))), (q28, .inl (cI, 9, .inl (fun j => nI ((fun _ => 0) j)))), (q41, .inl (cI, 6, .inl (fun j => nI ((fun _ => 0) j))))] H := hP
    have hD : va_D A [(h0, .inr (4, [.int 0, .ref q12, .ref q20, .ref q28, .int 0, .ref q41, .null, .null, .null, .null, .null, .int 0])), (q12, .inl (cI, 9, .inl (fun j => nI ((fun _ => 0) j)))), (q20, .inl (cI, 9, .inl (fun j => nI ((fun _ => 0) j)))), (q28, .inl (cI, 9, .inl (fun j => nI ((fun _ => 0) j)))), (q41, .inl (cI, 6, .inl (fun j => nI ((fun _ => 0) j))))] := hD
    refine lv_aload_n hx hb dX4_init_46 rfl (lv_at hl 0 rfl) ?_
    refine lv_bipush (v := 6) hx hb dX4_init_47 (by decide) ?_
    refine ly_newI hx hb (hts (.arrayClass .int) (by decide +kernel)) hK hP hD hS hA 6 rfl (by decide) (Nat.le_of_ble_eq_true rfl) (Nat.le_of_ble_eq_true rfl) dX4_init_49 (fun q49 H hP hD hS => ?_)
    have hP : va_P D vwCl [(h0, .inr (4, [.int 0, .ref q12, .ref q20, .ref q28, .int 0, .ref q41, .null, .null, .null, .null, .null, .int 0])), (q12, .inl (cI, 9, .inl (fun j => nI ((fun _ => 0) j)))), (q20, .inl (cI, 9, .inl (fun j => nI ((fun _ => 0) j)))), (q28, .inl (cI, 9, .inl (fun j => nI ((fun _ => 0) j)))), (q41, .inl (cI, 6, .inl (fun j => nI ((fun _ => 0) j)))), (q49, .inl (cI, 6, .inl (fun j => nI ((fun _ => 0) j))))] H := hP
    have hD : va_D A [(h0, .inr (4, [.int 0, .ref q12, .ref q20, .ref q28, .int 0, .ref q41, .null, .null, .null, .null, .null, .int 0])), (q12, .inl (cI, 9, .inl (fun j => nI ((fun _ => 0) j)))), (q20, .inl (cI, 9, .inl (fun j => nI ((fun _ => 0) j)))), (q28, .inl (cI, 9, .inl (fun j => nI ((fun _ => 0) j)))), (q41, .inl (cI, 6, .inl (fun j => nI ((fun _ => 0) j)))), (q49, .inl (cI, 6, .inl (fun j => nI ((fun _ => 0) j))))] := hD
    refine W.widen (k := 5) (n := 39) (by omega) (by omega) ?_
    refine va_putF (D := D) (ci := 4) (v := .ref q49) (ty := .array .int) (C := RX4) (T := TX4) (N := 12) hx hb hts hiX4 tyX4 tyX4_ok nmX4 hown hK hP hD hS 0 rfl rfl 6 (by decide) f31 (fun _ h9 => h9) rfl hin rfl (by decide +kernel) rfl rfl (Nat.le_of_ble_eq_true rfl) dX4_init_51 (fun H locs hP hD hS => ?_)
    have hP : va_P D vwCl [(h0, .inr (4, [.int 0, .ref q12, .ref q20, .ref q28, .int 0, .ref q41, .ref q49, .null, .null, .null, .null, .int 0])), (q12, .inl (cI, 9, .inl (fun j => nI ((fun _ => 0) j)))), (q20, .inl (cI, 9, .inl (fun j => nI ((fun _ => 0) j)))), (q28, .inl (cI, 9, .inl (fun j => nI ((fun _ => 0) j)))), (q41, .inl (cI, 6, .inl (fun j => nI ((fun _ => 0) j)))), (q49, .inl (cI, 6, .inl (fun j => nI ((fun _ => 0) j))))] H := hP
    have hD : va_D A [(h0, .inr (4, [.int 0, .ref q12, .ref q20, .ref q28, .int 0, .ref q41, .ref q49, .null, .null, .null, .null, .int 0])), (q12, .inl (cI, 9, .inl (fun j => nI ((fun _ => 0) j)))), (q20, .inl (cI, 9, .inl (fun j => nI ((fun _ => 0) j)))), (q28, .inl (cI, 9, .inl (fun j => nI ((fun _ => 0) j)))), (q41, .inl (cI, 6, .inl (fun j => nI ((fun _ => 0) j)))), (q49, .inl (cI, 6, .inl (fun j => nI ((fun _ => 0) j))))] := hD
    refine lv_aload_n hx hb dX4_init_54 rfl (lv_at hl 0 rfl) ?_
    refine lv_bipush (v := 6) hx hb dX4_init_55 (by decide) ?_
    refine ly_newI hx hb (hts (.arrayClass .int) (by decide +kernel)) hK hP hD hS hA 6 rfl (by decide) (Nat.le_of_ble_eq_true rfl) (Nat.le_of_ble_eq_true rfl) dX4_init_57 (fun q57 H hP hD hS => ?_)
    have hP : va_P D vwCl [(h0, .inr (4, [.int 0, .ref q12, .ref q20, .ref q28, .int 0, .ref q41, .ref q49, .null, .null, .null, .null, .int 0])), (q12, .inl (cI, 9, .inl (fun j => nI ((fun _ => 0) j)))), (q20, .inl (cI, 9, .inl (fun j => nI ((fun _ => 0) j)))), (q28, .inl (cI, 9, .inl (fun j => nI ((fun _ => 0) j)))), (q41, .inl (cI, 6, .inl (fun j => nI ((fun _ => 0) j)))), (q49, .inl (cI, 6, .inl (fun j => nI ((fun _ => 0) j)))), (q57, .inl (cI, 6, .inl (fun j => nI ((fun _ => 0) j))))] H := hP
    have hD : va_D A [(h0, .inr (4, [.int 0, .ref q12, .ref q20, .ref q28, .int 0, .ref q41, .ref q49, .null, .null, .null, .null, .int 0])), (q12, .inl (cI, 9, .inl (fun j => nI ((fun _ => 0) j)))), (q20, .inl (cI, 9, .inl (fun j => nI ((fun _ => 0) j)))), (q28, .inl (cI, 9, .inl (fun j => nI ((fun _ => 0) j)))), (q41, .inl (cI, 6, .inl (fun j => nI ((fun _ => 0) j)))), (q49, .inl (cI, 6, .inl (fun j => nI ((fun _ => 0) j)))), (q57, .inl (cI, 6, .inl (fun j => nI ((fun _ => 0) j))))] := hD
    refine W.widen (k := 6) (n := 45) (by omega) (by omega) ?_
    refine va_putF (D := D) (ci := 4) (v := .ref q57) (ty := .array .int) (C := RX4) (T := TX4) (N := 12) hx hb hts hiX4 tyX4 tyX4_ok nmX4 hown hK hP hD hS 0 rfl rfl 7 (by decide) f34 (fun _ h9 => h9) rfl hin rfl (by decide +kernel) rfl rfl (Nat.le_of_ble_eq_true rfl) dX4_init_59 (fun H locs hP hD hS => ?_)
    have hP : va_P D vwCl [(h0, .inr (4, [.int 0, .ref q12, .ref q20, .ref q28, .int 0, .ref q41, .ref q49, .ref q57, .null, .null, .null, .int 0])), (q12, .inl (cI, 9, .inl (fun j => nI ((fun _ => 0) j)))), (q20, .inl (cI, 9, .inl (fun j => nI ((fun _ => 0) j)))), (q28, .inl (cI, 9, .inl (fun j => nI ((fun _ => 0) j)))), (q41, .inl (cI, 6, .inl (fun j => nI ((fun _ => 0) j)))), (q49, .inl (cI, 6, .inl (fun j => nI ((fun _ => 0) j)))), (q57, .inl (cI, 6, .inl (fun j => nI ((fun _ => 0) j))))] H := hP
    have hD : va_D A [(h0, .inr (4, [.int 0, .ref q12, .ref q20, .ref q28, .int 0, .ref q41, .ref q49, .ref q57, .null, .null, .null, .int 0])), (q12, .inl (cI, 9, .inl (fun j => nI ((fun _ => 0) j)))), (q20, .inl (cI, 9, .inl (fun j => nI ((fun _ => 0) j)))), (q28, .inl (cI, 9, .inl (fun j => nI ((fun _ => 0) j)))), (q41, .inl (cI, 6, .inl (fun j => nI ((fun _ => 0) j)))), (q49, .inl (cI, 6, .inl (fun j => nI ((fun _ => 0) j)))), (q57, .inl (cI, 6, .inl (fun j => nI ((fun _ => 0) j))))] := hD
    refine lv_aload_n hx hb dX4_init_62 rfl (lv_at hl 0 rfl) ?_
    refine lv_iconst (v := 5) hx hb dX4_init_63 (by decide) ?_
    refine ly_newI hx hb (hts (.arrayClass .int) (by decide +kernel)) hK hP hD hS hA 5 rfl (by decide) (Nat.le_of_ble_eq_true rfl) (Nat.le_of_ble_eq_true rfl) dX4_init_64 (fun q64 H hP hD hS => ?_)
    have hP : va_P D vwCl [(h0, .inr (4, [.int 0, .ref q12, .ref q20, .ref q28, .int 0, .ref q41, .ref q49, .ref q57, .null, .null, .null, .int 0])), (q12, .inl (cI, 9, .inl (fun j => nI ((fun _ => 0) j)))), (q20, .inl (cI, 9, .inl (fun j => nI ((fun _ => 0) j)))), (q28, .inl (cI, 9, .inl (fun j => nI ((fun _ => 0) j)))), (q41, .inl (cI, 6, .inl (fun j => nI ((fun _ => 0) j)))), (q49, .inl (cI, 6, .inl (fun j => nI ((fun _ => 0) j)))), (q57, .inl (cI, 6, .inl (fun j => nI ((fun _ => 0) j)))), (q64, .inl (cI, 5, .inl (fun j => nI ((fun _ => 0) j))))] H := hP
    have hD : va_D A [(h0, .inr (4, [.int 0, .ref q12, .ref q20, .ref q28, .int 0, .ref q41, .ref q49, .ref q57, .null, .null, .null, .int 0])), (q12, .inl (cI, 9, .inl (fun j => nI ((fun _ => 0) j)))), (q20, .inl (cI, 9, .inl (fun j => nI ((fun _ => 0) j)))), (q28, .inl (cI, 9, .inl (fun j => nI ((fun _ => 0) j)))), (q41, .inl (cI, 6, .inl (fun j => nI ((fun _ => 0) j)))), (q49, .inl (cI, 6, .inl (fun j => nI ((fun _ => 0) j)))), (q57, .inl (cI, 6, .inl (fun j => nI ((fun _ => 0) j)))), (q64, .inl (cI, 5, .inl (fun j => nI ((fun _ => 0) j))))] := hD
    refine W.widen (k := 7) (n := 50) (by omega) (by omega) ?_
    refine va_putF (D := D) (ci := 4) (v := .ref q64) (ty := .array .int) (C := RX4) (T := TX4) (N := 12) hx hb hts hiX4 tyX4 tyX4_ok nmX4 hown hK hP hD hS 0 rfl rfl 8 (by decide) f37 (fun _ h9 => h9) rfl hin rfl (by decide +kernel) rfl rfl (Nat.le_of_ble_eq_true rfl) dX4_init_66 (fun H locs hP hD hS => ?_)
    have hP : va_P D vwCl [(h0, .inr (4, [.int 0, .ref q12, .ref q20, .ref q28, .int 0, .ref q41, .ref q49, .ref q57, .ref q64, .null, .null, .int 0])), (q12, .inl (cI, 9, .inl (fun j => nI ((fun _ => 0) j)))), (q20, .inl (cI, 9, .inl (fun j => nI ((fun _ => 0) j)))), (q28, .inl (cI, 9, .inl (fun j => nI ((fun _ => 0) j)))), (q41, .inl (cI, 6, .inl (fun j => nI ((fun _ => 0) j)))), (q49, .inl (cI, 6, .inl (fun j => nI ((fun _ => 0) j)))), (q57, .inl (cI, 6, .inl (fun j => nI ((fun _ => 0) j)))), (q64, .inl (cI, 5, .inl (fun j => nI ((fun _ => 0) j))))] H := hP
    have hD : va_D A [(h0, .inr (4, [.int 0, .ref q12, .ref q20, .ref q28, .int 0, .ref q41, .ref q49, .ref q57, .ref q64, .null, .null, .int 0])), (q12, .inl (cI, 9, .inl (fun j => nI ((fun _ => 0) j)))), (q20, .inl (cI, 9, .inl (fun j => nI ((fun _ => 0) j)))), (q28, .inl (cI, 9, .inl (fun j => nI ((fun _ => 0) j)))), (q41, .inl (cI, 6, .inl (fun j => nI ((fun _ => 0) j)))), (q49, .inl (cI, 6, .inl (fun j => nI ((fun _ => 0) j)))), (q57, .inl (cI, 6, .inl (fun j => nI ((fun _ => 0) j)))), (q64, .inl (cI, 5, .inl (fun j => nI ((fun _ => 0) j))))] := hD
    refine lv_aload_n hx hb dX4_init_69 rfl (lv_at hl 0 rfl) ?_
    refine lv_iconst (v := 5) hx hb dX4_init_70 (by decide) ?_
    refine ly_newI hx hb (hts (.arrayClass .int) (by decide +kernel)) hK hP hD hS hA 5 rfl (by decide) (Nat.le_of_ble_eq_true rfl) (Nat.le_of_ble_eq_true rfl) dX4_init_71 (fun q71 H hP hD hS => ?_)
    have hP : va_P D vwCl [(h0, .inr (4, [.int 0, .ref q12, .ref q20, .ref q28, .int 0, .ref q41, .ref q49, .ref q57, .ref q64, .null, .null, .int 0])), (q12, .inl (cI, 9, .inl (fun j => nI ((fun _ => 0) j)))), (q20, .inl (cI, 9, .inl (fun j => nI ((fun _ => 0) j)))), (q28, .inl (cI, 9, .inl (fun j => nI ((fun _ => 0) j)))), (q41, .inl (cI, 6, .inl (fun j => nI ((fun _ => 0) j)))), (q49, .inl (cI, 6, .inl (fun j => nI ((fun _ => 0) j)))), (q57, .inl (cI, 6, .inl (fun j => nI ((fun _ => 0) j)))), (q64, .inl (cI, 5, .inl (fun j => nI ((fun _ => 0) j)))), (q71, .inl (cI, 5, .inl (fun j => nI ((fun _ => 0) j))))] H := hP
    have hD : va_D A [(h0, .inr (4, [.int 0, .ref q12, .ref q20, .ref q28, .int 0, .ref q41, .ref q49, .ref q57, .ref q64, .null, .null, .int 0])), (q12, .inl (cI, 9, .inl (fun j => nI ((fun _ => 0) j)))), (q20, .inl (cI, 9, .inl (fun j => nI ((fun _ => 0) j)))), (q28, .inl (cI, 9, .inl (fun j => nI ((fun _ => 0) j)))), (q41, .inl (cI, 6, .inl (fun j => nI ((fun _ => 0) j)))), (q49, .inl (cI, 6, .inl (fun j => nI ((fun _ => 0) j)))), (q57, .inl (cI, 6, .inl (fun j => nI ((fun _ => 0) j)))), (q64, .inl (cI, 5, .inl (fun j => nI ((fun _ => 0) j)))), (q71, .inl (cI, 5, .inl (fun j => nI ((fun _ => 0) j))))] := hD
    refine W.widen (k := 8) (n := 55) (by omega) (by omega) ?_
    refine va_putF (D := D) (ci := 4) (v := .ref q71) (ty := .array .int) (C := RX4) (T := TX4) (N := 12) hx hb hts hiX4 tyX4 tyX4_ok nmX4 hown hK hP hD hS 0 rfl rfl 9 (by decide) f40 (fun _ h9 => h9) rfl hin rfl (by decide +kernel) rfl rfl (Nat.le_of_ble_eq_true rfl) dX4_init_73 (fun H locs hP hD hS => ?_)
    have hP : va_P D vwCl [(h0, .inr (4, [.int 0, .ref q12, .ref q20, .ref q28, .int 0, .ref q41, .ref q49, .ref q57, .ref q64, .ref q71, .null, .int 0])), (q12, .inl (cI, 9, .inl (fun j => nI ((fun _ => 0) j)))), (q20, .inl (cI, 9, .inl (fun j => nI ((fun _ => 0) j)))), (q28, .inl (cI, 9, .inl (fun j => nI ((fun _ => 0) j)))), (q41, .inl (cI, 6, .inl (fun j => nI ((fun _ => 0) j)))), (q49, .inl (cI, 6, .inl (fun j => nI ((fun _ => 0) j)))), (q57, .inl (cI, 6, .inl (fun j => nI ((fun _ => 0) j)))), (q64, .inl (cI, 5, .inl (fun j => nI ((fun _ => 0) j)))), (q71, .inl (cI, 5, .inl (fun j => nI ((fun _ => 0) j))))] H := hP
    have hD : va_D A [(h0, .inr (4, [.int 0, .ref q12, .ref q20, .ref q28, .int 0, .ref q41, .ref q49, .ref q57, .ref q64, .ref q71, .null, .int 0])), (q12, .inl (cI, 9, .inl (fun j => nI ((fun _ => 0) j)))), (q20, .inl (cI, 9, .inl (fun j => nI ((fun _ => 0) j)))), (q28, .inl (cI, 9, .inl (fun j => nI ((fun _ => 0) j)))), (q41, .inl (cI, 6, .inl (fun j => nI ((fun _ => 0) j)))), (q49, .inl (cI, 6, .inl (fun j => nI ((fun _ => 0) j)))), (q57, .inl (cI, 6, .inl (fun j => nI ((fun _ => 0) j)))), (q64, .inl (cI, 5, .inl (fun j => nI ((fun _ => 0) j)))), (q71, .inl (cI, 5, .inl (fun j => nI ((fun _ => 0) j))))] := hD
    refine lv_aload_n hx hb dX4_init_76 rfl (lv_at hl 0 rfl) ?_
    refine lv_iconst (v := 5) hx hb dX4_init_77 (by decide) ?_
    refine ly_newI hx hb (hts (.arrayClass .int) (by decide +kernel)) hK hP hD hS hA 5 rfl (by decide) (Nat.le_of_ble_eq_true rfl) (Nat.le_of_ble_eq_true rfl) dX4_init_78 (fun q78 H hP hD hS => ?_)
    have hP : va_P D vwCl [(h0, .inr (4, [.int 0, .ref q12, .ref q20, .ref q28, .int 0, .ref q41, .ref q49, .ref q57, .ref q64, .ref q71, .null, .int 0])), (q12, .inl (cI, 9, .inl (fun j => nI ((fun _ => 0) j)))), (q20, .inl (cI, 9, .inl (fun j => nI ((fun _ => 0) j)))), (q28, .inl (cI, 9, .inl (fun j => nI ((fun _ => 0) j)))), (q41, .inl (cI, 6, .inl (fun j => nI ((fun _ => 0) j)))), (q49, .inl (cI, 6, .inl (fun j => nI ((fun _ => 0) j)))), (q57, .inl (cI, 6, .inl (fun j => nI ((fun _ => 0) j)))), (q64, .inl (cI, 5, .inl (fun j => nI ((fun _ => 0) j)))), (q71, .inl (cI, 5, .inl (fun j => nI ((fun _ => 0) j)))), (q78, .inl (cI, 5, .inl (fun j => nI ((fun _ => 0) j))))] H := hP
    have hD : va_D A [(h0, .inr (4, [.int 0, .ref q12, .ref q20, .ref q28, .int 0, .ref q41, .ref q49, .ref q57, .ref q64, .ref q71, .null, .int 0])), (q12, .inl (cI, 9, .inl (fun j => nI ((fun _ => 0) j)))), (q20, .inl (cI, 9, .inl (fun j => nI ((fun _ => 0) j)))), (q28, .inl (cI, 9, .inl (fun j => nI ((fun _ => 0) j)))), (q41, .inl (cI, 6, .inl (fun j => nI ((fun _ => 0) j)))), (q49, .inl (cI, 6, .inl (fun j => nI ((fun _ => 0) j)))), (q57, .inl (cI, 6, .inl (fun j => nI ((fun _ => 0) j)))), (q64, .inl (cI, 5, .inl (fun j => nI ((fun _ => 0) j)))), (q71, .inl (cI, 5, .inl (fun j => nI ((fun _ => 0) j)))), (q78, .inl (cI, 5, .inl (fun j => nI ((fun _ => 0) j))))] := hD
    refine W.widen (k := 9) (n := 60) (by omega) (by omega) ?_
    refine va_putF (D := D) (ci := 4) (v := .ref q78) (ty := .array .int) (C := RX4) (T := TX4) (N := 12) hx hb hts hiX4 tyX4 tyX4_ok nmX4 hown hK hP hD hS 0 rfl rfl 10 (by decide) f43 (fun _ h9 => h9) rfl hin rfl (by decide +kernel) rfl rfl (Nat.le_of_ble_eq_true rfl) dX4_init_80 (fun H locs hP hD hS => ?_)
    have hP : va_P D vwCl [(h0, .inr (4, [.int 0, .ref q12, .ref q20, .ref q28, .int 0, .ref q41, .ref q49, .ref q57, .ref q64, .ref q71, .ref q78, .int 0])), (q12, .inl (cI, 9, .inl (fun j => nI ((fun _ => 0) j)))), (q20, .inl (cI, 9, .inl (fun j => nI ((fun _ => 0) j)))), (q28, .inl (cI, 9, .inl (fun j => nI ((fun _ => 0) j)))), (q41, .inl (cI, 6, .inl (fun j => nI ((fun _ => 0) j)))), (q49, .inl (cI, 6, .inl (fun j => nI ((fun _ => 0) j)))), (q57, .inl (cI, 6, .inl (fun j => nI ((fun _ => 0) j)))), (q64, .inl (cI, 5, .inl (fun j => nI ((fun _ => 0) j)))), (q71, .inl (cI, 5, .inl (fun j => nI ((fun _ => 0) j)))), (q78, .inl (cI, 5, .inl (fun j => nI ((fun _ => 0) j))))] H := hP
    have hD : va_D A [(h0, .inr (4, [.int 0, .ref q12, .ref q20, .ref q28, .int 0, .ref q41, .ref q49, .ref q57, .ref q64, .ref q71, .ref q78, .int 0])), (q12, .inl (cI, 9, .inl (fun j => nI ((fun _ => 0) j)))), (q20, .inl (cI, 9, .inl (fun j => nI ((fun _ => 0) j)))), (q28, .inl (cI, 9, .inl (fun j => nI ((fun _ => 0) j)))), (q41, .inl (cI, 6, .inl (fun j => nI ((fun _ => 0) j)))), (q49, .inl (cI, 6, .inl (fun j => nI ((fun _ => 0) j)))), (q57, .inl (cI, 6, .inl (fun j => nI ((fun _ => 0) j)))), (q64, .inl (cI, 5, .inl (fun j => nI ((fun _ => 0) j)))), (q71, .inl (cI, 5, .inl (fun j => nI ((fun _ => 0) j)))), (q78, .inl (cI, 5, .inl (fun j => nI ((fun _ => 0) j))))] := hD
    refine lv_aload_n hx hb dX4_init_83 rfl (lv_at hl 0 rfl) ?_
    refine lv_iconst (v := 0) hx hb dX4_init_84 (by decide) ?_
    refine va_put (D := D) (ci := 4) (v := .int 0) (ty := .int) (C := RX4) (T := TX4) (N := 12) hx hb hts hiX4 tyX4 tyX4_ok nmX4 hown hK hP hD hS 0 rfl rfl 11 (by decide) f46 (fun _ h9 => h9) rfl (by decide +kernel) rfl rfl (Nat.le_of_ble_eq_true rfl) dX4_init_85 (fun H locs hP hD hS => ?_)
    have hP : va_P D vwCl [(h0, .inr (4, [.int 0, .ref q12, .ref q20, .ref q28, .int 0, .ref q41, .ref q49, .ref q57, .ref q64, .ref q71, .ref q78, .int 0])), (q12, .inl (cI, 9, .inl (fun j => nI ((fun _ => 0) j)))), (q20, .inl (cI, 9, .inl (fun j => nI ((fun _ => 0) j)))), (q28, .inl (cI, 9, .inl (fun j => nI ((fun _ => 0) j)))), (q41, .inl (cI, 6, .inl (fun j => nI ((fun _ => 0) j)))), (q49, .inl (cI, 6, .inl (fun j => nI ((fun _ => 0) j)))), (q57, .inl (cI, 6, .inl (fun j => nI ((fun _ => 0) j)))), (q64, .inl (cI, 5, .inl (fun j => nI ((fun _ => 0) j)))), (q71, .inl (cI, 5, .inl (fun j => nI ((fun _ => 0) j)))), (q78, .inl (cI, 5, .inl (fun j => nI ((fun _ => 0) j))))] H := hP
    have hD : va_D A [(h0, .inr (4, [.int 0, .ref q12, .ref q20, .ref q28, .int 0, .ref q41, .ref q49, .ref q57, .ref q64, .ref q71, .ref q78, .int 0])), (q12, .inl (cI, 9, .inl (fun j => nI ((fun _ => 0) j)))), (q20, .inl (cI, 9, .inl (fun j => nI ((fun _ => 0) j)))), (q28, .inl (cI, 9, .inl (fun j => nI ((fun _ => 0) j)))), (q41, .inl (cI, 6, .inl (fun j => nI ((fun _ => 0) j)))), (q49, .inl (cI, 6, .inl (fun j => nI ((fun _ => 0) j)))), (q57, .inl (cI, 6, .inl (fun j => nI ((fun _ => 0) j)))), (q64, .inl (cI, 5, .inl (fun j => nI ((fun _ => 0) j)))), (q71, .inl (cI, 5, .inl (fun j => nI ((fun _ => 0) j)))), (q78, .inl (cI, 5, .inl (fun j => nI ((fun _ => 0) j))))] := hD
    refine lv_aload_n hx hb dX4_init_88 rfl (lv_at hl 0 rfl) ?_
    have hPc_89 := hP.sub (ws' := [(h0, .inr (4, [.int 0, .ref q12, .ref q20, .ref q28, .int 0, .ref q41, .ref q49, .ref q57, .ref q64, .ref q71, .ref q78, .int 0])), (q12, .inl (cI, 9, .inl (fun j => nI ((fun _ => 0) j)))), (q20, .inl (cI, 9, .inl (fun j => nI ((fun _ => 0) j)))), (q28, .inl (cI, 9, .inl (fun j => nI ((fun _ => 0) j)))), (q41, .inl (cI, 6, .inl (fun j => nI ((fun _ => 0) j)))), (q49, .inl (cI, 6, .inl (fun j => nI ((fun _ => 0) j)))), (q57, .inl (cI, 6, .inl (fun j => nI ((fun _ => 0) j)))), (q64, .inl (cI, 5, .inl (fun j => nI ((fun _ => 0) j)))), (q71, .inl (cI, 5, .inl (fun j => nI ((fun _ => 0) j)))), (q78, .inl (cI, 5, .inl (fun j => nI ((fun _ => 0) j))))]) [0, 1, 2, 3, 4, 5, 6, 7, 8, 9] rfl
    refine ly_m (wr := []) (va_runV (As := []) (rest := []) ⟨hx, hb, hml, hown, hts⟩ (c_X4_desert l D cI cC cZ cN (fun j => [h0, q12, q20, q28, q41, q49, q57, q64, q71, q78].getD j 0) g_00 (ly_addr2 (hD.sub (ws' := [(h0, .inr (4, [.int 0, .ref q12, .ref q20, .ref q28, .int 0, .ref q41, .ref q49, .ref q57, .ref q64, .ref q71, .ref q78, .int 0])), (q12, .inl (cI, 9, .inl (fun j => nI ((fun _ => 0) j)))), (q20, .inl (cI, 9, .inl (fun j => nI ((fun _ => 0) j)))), (q28, .inl (cI, 9, .inl (fun j => nI ((fun _ => 0) j)))), (q41, .inl (cI, 6, .inl (fun j => nI ((fun _ => 0) j)))), (q49, .inl (cI, 6, .inl (fun j => nI ((fun _ => 0) j)))), (q57, .inl (cI, 6, .inl (fun j => nI ((fun _ => 0) j)))), (q64, .inl (cI, 5, .inl (fun j => nI ((fun _ => 0) j)))), (q71, .inl (cI, 5, .inl (fun j => nI ((fun _ => 0) j)))), (q78, .inl (cI, 5, .inl (fun j => nI ((fun _ => 0) j))))]) [0, 1, 2, 3, 4, 5, 6, 7, 8, 9] (by decide) rfl |>.weaken (fun _ _ _ _ => trivial)) rfl)) (cwV 0 hts gX4_init_X4_desert rfl rfl rfl (by decide +kernel) ⟨Nat.le_of_ble_eq_true rfl, Nat.le_of_ble_eq_true rfl⟩) (ly_pv hK hN hPc_89 0 4 rfl rfl rfl) rfl rfl hl.1 rfl (lv_room (Nat.le_of_ble_eq_true rfl)) dX4_init_89 ⟨Nat.le_of_ble_eq_true rfl, Nat.le_of_ble_eq_true rfl⟩) hP hD hS [0, 1, 2, 3, 4, 5, 6, 7, 8, 9] [] rfl rfl (by decide) ?_
    rintro _ _ H locs ⟨rfl, rfl⟩ - hP hD hS
    have hP : va_P D vwCl [(h0, .inr (4, [.int 0, .ref q12, .ref q20, .ref q28, .int 0, .ref q41, .ref q49, .ref q57, .ref q64, .ref q71, .ref q78, .int 0])), (q12, .inl (cI, 9, .inl (fun j => nI ((fun _ => 0) j)))), (q20, .inl (cI, 9, .inl (fun j => nI ((fun _ => 0) j)))), (q28, .inl (cI, 9, .inl (fun j => nI ((fun _ => 0) j)))), (q41, .inl (cI, 6, .inl (fun j => nI ((fun _ => 0) j)))), (q49, .inl (cI, 6, .inl (fun j => nI ((fun _ => 0) j)))), (q57, .inl (cI, 6, .inl (fun j => nI ((fun _ => 0) j)))), (q64, .inl (cI, 5, .inl (fun j => nI ((fun _ => 0) j)))), (q71, .inl (cI, 5, .inl (fun j => nI ((fun _ => 1) j)))), (q78, .inl (cI, 5, .inl (fun j => ly_h ((fun _ => 1) j))))] H := hP
    have hD : va_D A [(h0, .inr (4, [.int 0, .ref q12, .ref q20, .ref q28, .int 0, .ref q41, .ref q49, .ref q57, .ref q64, .ref q71, .ref q78, .int 0])), (q12, .inl (cI, 9, .inl (fun j => nI ((fun _ => 0) j)))), (q20, .inl (cI, 9, .inl (fun j => nI ((fun _ => 0) j)))), (q28, .inl (cI, 9, .inl (fun j => nI ((fun _ => 0) j)))), (q41, .inl (cI, 6, .inl (fun j => nI ((fun _ => 0) j)))), (q49, .inl (cI, 6, .inl (fun j => nI ((fun _ => 0) j)))), (q57, .inl (cI, 6, .inl (fun j => nI ((fun _ => 0) j)))), (q64, .inl (cI, 5, .inl (fun j => nI ((fun _ => 0) j)))), (q71, .inl (cI, 5, .inl (fun j => nI ((fun _ => 1) j)))), (q78, .inl (cI, 5, .inl (fun j => ly_h ((fun _ => 1) j))))] := hD
    refine W.eq (g2 := F0 m 92 ls []) rfl ?_
    refine lv_aload_n hx hb dX4_init_92 rfl (lv_at hl 0 rfl) ?_
    refine va_get (D := D) (ci := 4) (v := .ref q78) (C := RX4) (T := TX4) (N := 12) hx hb hts hiX4 hown hK hP 0 rfl rfl 10 (by decide) f43 (fun _ h9 => h9) rfl dX4_init_93 ?_
    refine lv_bipush (v := (-9)) hx hb dX4_init_96 (by decide) ?_
    have hPc_98 := hP.sub (ws' := [(q78, .inl (cI, 5, .inl (fun j => ly_h ((fun _ => 1) j))))]) [9] rfl
    refine ly_m (wr := [(h0, .inr (4, [.int 0, .ref q12, .ref q20, .ref q28, .int 0, .ref q41, .ref q49, .ref q57, .ref q64, .ref q71, .ref q78, .int 0])), (q12, .inl (cI, 9, .inl (fun j => nI ((fun _ => 0) j)))), (q20, .inl (cI, 9, .inl (fun j => nI ((fun _ => 0) j)))), (q28, .inl (cI, 9, .inl (fun j => nI ((fun _ => 0) j)))), (q41, .inl (cI, 6, .inl (fun j => nI ((fun _ => 0) j)))), (q49, .inl (cI, 6, .inl (fun j => nI ((fun _ => 0) j)))), (q57, .inl (cI, 6, .inl (fun j => nI ((fun _ => 0) j)))), (q64, .inl (cI, 5, .inl (fun j => nI ((fun _ => 0) j)))), (q71, .inl (cI, 5, .inl (fun j => nI ((fun _ => 1) j))))]) (va_runS (As := [.ref q78, .int (-9)]) (rest := []) ⟨hx, hb, hml, hown, hts⟩ (c_J7_fill_53178 l D cI cC cZ cN q78 5 _ (-9) (by decide) (hD.sub (ws' := [(q78, .inl (cI, 5, .inl (fun j => ly_h ((fun _ => 1) j))))]) [9] (by decide) rfl |>.weaken (fun _ _ _ _ => trivial))) (va_cwS 2 hts gX4_init_J7_fill_53178 rfl rfl rfl (by decide +kernel) ⟨Nat.le_of_ble_eq_true rfl, Nat.le_of_ble_eq_true rfl⟩) (ly_ps hK hN hPc_98) rfl rfl hl.1 rfl (lv_room (Nat.le_of_ble_eq_true rfl)) dX4_init_98 ⟨Nat.le_of_ble_eq_true rfl, Nat.le_of_ble_eq_true rfl⟩) hP hD hS [9] [0, 1, 2, 3, 4, 5, 6, 7, 8] rfl rfl (by decide) ?_
    rintro _ _ H locs ⟨rfl, rfl⟩ - hP hD hS
    have hP : va_P D vwCl [(h0, .inr (4, [.int 0, .ref q12, .ref q20, .ref q28, .int 0, .ref q41, .ref q49, .ref q57, .ref q64, .ref q71, .ref q78, .int 0])), (q12, .inl (cI, 9, .inl (fun j => nI ((fun _ => 0) j)))), (q20, .inl (cI, 9, .inl (fun j => nI ((fun _ => 0) j)))), (q28, .inl (cI, 9, .inl (fun j => nI ((fun _ => 0) j)))), (q41, .inl (cI, 6, .inl (fun j => nI ((fun _ => 0) j)))), (q49, .inl (cI, 6, .inl (fun j => nI ((fun _ => 0) j)))), (q57, .inl (cI, 6, .inl (fun j => nI ((fun _ => 0) j)))), (q64, .inl (cI, 5, .inl (fun j => nI ((fun _ => 0) j)))), (q71, .inl (cI, 5, .inl (fun j => nI ((fun _ => 1) j)))), (q78, .inl (cI, 5, .inl (fun j => ly_h ((fun _ => 0) j))))] H := hP
    have hD : va_D A [(h0, .inr (4, [.int 0, .ref q12, .ref q20, .ref q28, .int 0, .ref q41, .ref q49, .ref q57, .ref q64, .ref q71, .ref q78, .int 0])), (q12, .inl (cI, 9, .inl (fun j => nI ((fun _ => 0) j)))), (q20, .inl (cI, 9, .inl (fun j => nI ((fun _ => 0) j)))), (q28, .inl (cI, 9, .inl (fun j => nI ((fun _ => 0) j)))), (q41, .inl (cI, 6, .inl (fun j => nI ((fun _ => 0) j)))), (q49, .inl (cI, 6, .inl (fun j => nI ((fun _ => 0) j)))), (q57, .inl (cI, 6, .inl (fun j => nI ((fun _ => 0) j)))), (q64, .inl (cI, 5, .inl (fun j => nI ((fun _ => 0) j)))), (q71, .inl (cI, 5, .inl (fun j => nI ((fun _ => 1) j)))), (q78, .inl (cI, 5, .inl (fun j => ly_h ((fun _ => 0) j))))] := hD
    refine W.eq (g2 := F0 m 101 ls []) rfl ?_
    exact W.vret hx hb hr (fun t_9 ht_9 _ => by rw [hQc]; exact ⟨⟨[(h0, .inr (4, [.int 0, .ref q12, .ref q20, .ref q28, .int 0, .ref q41, .ref q49, .ref q57, .ref q64, .ref q71, .ref q78, .int 0])), (q12, .inl (cI, 9, .inl (fun j => nI ((fun _ => 0) j)))), (q20, .inl (cI, 9, .inl (fun j => nI ((fun _ => 0) j)))), (q28, .inl (cI, 9, .inl (fun j => nI ((fun _ => 0) j)))), (q41, .inl (cI, 6, .inl (fun j => nI ((fun _ => 0) j)))), (q49, .inl (cI, 6, .inl (fun j => nI ((fun _ => 0) j)))), (q57, .inl (cI, 6, .inl (fun j => nI ((fun _ => 0) j)))), (q64, .inl (cI, 5, .inl (fun j => nI ((fun _ => 0) j)))), (q71, .inl (cI, 5, .inl (fun j => nI ((fun _ => 1) j)))), (q78, .inl (cI, 5, .inl (fun j => ly_h ((fun _ => 0) j))))], rfl, ⟨(fun j => [h0, q12, q20, q28, q41, q49, q57, q64, q71, q78].getD j 0), rfl, rfl⟩, by rw [ht_9]; exact hP.sub [0, 1, 2, 3, 4, 5, 6, 7, 8, 9] rfl, by rw [← hAe]; exact hD.sub [0, 1, 2, 3, 4, 5, 6, 7, 8, 9] (by decide) rfl⟩, by rw [← hAe]; exact hS.F ht_9⟩) hS.2.2 dX4_init_101
  exact hmain _ _ hP va_S.rf
