def jbits (x : Int32) : Int32 := ((((((((x - (((x.toUInt32 >>> ((1 : Int32).toUInt32 &&& Int32.toUInt32 31)).toInt32) &&& 1431655765)) &&& 858993459) + ((((x - (((x.toUInt32 >>> ((1 : Int32).toUInt32 &&& Int32.toUInt32 31)).toInt32) &&& 1431655765)).toUInt32 >>> ((2 : Int32).toUInt32 &&& Int32.toUInt32 31)).toInt32) &&& 858993459)) + (((((x - (((x.toUInt32 >>> ((1 : Int32).toUInt32 &&& Int32.toUInt32 31)).toInt32) &&& 1431655765)) &&& 858993459) + ((((x - (((x.toUInt32 >>> ((1 : Int32).toUInt32 &&& Int32.toUInt32 31)).toInt32) &&& 1431655765)).toUInt32 >>> ((2 : Int32).toUInt32 &&& Int32.toUInt32 31)).toInt32) &&& 858993459)).toUInt32 >>> ((4 : Int32).toUInt32 &&& Int32.toUInt32 31)).toInt32)) &&& 252645135) + (((((((x - (((x.toUInt32 >>> ((1 : Int32).toUInt32 &&& Int32.toUInt32 31)).toInt32) &&& 1431655765)) &&& 858993459) + ((((x - (((x.toUInt32 >>> ((1 : Int32).toUInt32 &&& Int32.toUInt32 31)).toInt32) &&& 1431655765)).toUInt32 >>> ((2 : Int32).toUInt32 &&& Int32.toUInt32 31)).toInt32) &&& 858993459)) + (((((x - (((x.toUInt32 >>> ((1 : Int32).toUInt32 &&& Int32.toUInt32 31)).toInt32) &&& 1431655765)) &&& 858993459) + ((((x - (((x.toUInt32 >>> ((1 : Int32).toUInt32 &&& Int32.toUInt32 31)).toInt32) &&& 1431655765)).toUInt32 >>> ((2 : Int32).toUInt32 &&& Int32.toUInt32 31)).toInt32) &&& 858993459)).toUInt32 >>> ((4 : Int32).toUInt32 &&& Int32.toUInt32 31)).toInt32)) &&& 252645135).toUInt32 >>> ((8 : Int32).toUInt32 &&& Int32.toUInt32 31)).toInt32)) + ((((((((x - (((x.toUInt32 >>> ((1 : Int32).toUInt32 &&& Int32.toUInt32 31)).toInt32) &&& 1431655765)) &&& 858993459) + ((((x - (((x.toUInt32 >>> ((1 : Int32).toUInt32 &&& Int32.toUInt32 31)).toInt32) &&& 1431655765)).toUInt32 >>> ((2 : Int32).toUInt32 &&& Int32.toUInt32 31)).toInt32) &&& 858993459)) + (((((x - (((x.toUInt32 >>> ((1 : Int32).toUInt32 &&& Int32.toUInt32 31)).toInt32) &&& 1431655765)) &&& 858993459) + ((((x - (((x.toUInt32 >>> ((1 : Int32).toUInt32 &&& Int32.toUInt32 31)).toInt32) &&& 1431655765)).toUInt32 >>> ((2 : Int32).toUInt32 &&& Int32.toUInt32 31)).toInt32) &&& 858993459)).toUInt32 >>> ((4 : Int32).toUInt32 &&& Int32.toUInt32 31)).toInt32)) &&& 252645135) + (((((((x - (((x.toUInt32 >>> ((1 : Int32).toUInt32 &&& Int32.toUInt32 31)).toInt32) &&& 1431655765)) &&& 858993459) + ((((x - (((x.toUInt32 >>> ((1 : Int32).toUInt32 &&& Int32.toUInt32 31)).toInt32) &&& 1431655765)).toUInt32 >>> ((2 : Int32).toUInt32 &&& Int32.toUInt32 31)).toInt32) &&& 858993459)) + (((((x - (((x.toUInt32 >>> ((1 : Int32).toUInt32 &&& Int32.toUInt32 31)).toInt32) &&& 1431655765)) &&& 858993459) + ((((x - (((x.toUInt32 >>> ((1 : Int32).toUInt32 &&& Int32.toUInt32 31)).toInt32) &&& 1431655765)).toUInt32 >>> ((2 : Int32).toUInt32 &&& Int32.toUInt32 31)).toInt32) &&& 858993459)).toUInt32 >>> ((4 : Int32).toUInt32 &&& Int32.toUInt32 31)).toInt32)) &&& 252645135).toUInt32 >>> ((8 : Int32).toUInt32 &&& Int32.toUInt32 31)).toInt32)).toUInt32 >>> ((16 : Int32).toUInt32 &&& Int32.toUInt32 31)).toInt32)) &&& 63)
set_option maxHeartbeats 4000000 in
set_option maxRecDepth 100000 in
theorem c_J6_bitCount_0f7a4 (l : Launch) (D : va_G) (cI cC cZ cN : ClassId) (x : Int32) : Met l yJ6_bitCount_0f7a4 wsJ6_bitCount_0f7a4 (ly_rm 1) (ly_Pre D (ly_tys cI cC cZ cN) [] [.int x]) (QcRead (jbits x)) 0 0 (fun _ => False) := by
  refine Met.ofW (cc := cJ6_bitCount_0f7a4) (maxL := 1) (ret := (some .int)) (by decide) rfl ?_
  intro p e s m args below meth c s₁ B hml hv
  obtain ⟨rfl, hP, hK, hN⟩ := hv
  have hx := B.exec
  have hb := B.bytes
  have hr := B.returns
  have hts := atoms_spec (ws := wsJ6_bitCount_0f7a4) B.pre
  have hown : s.vm.findClass RJ6 = some m.cls := findClass_of_methodNamed B.named
  have hlocks := B.notSynchronized
  have hl := lv_entry ([.int x]) (n := 1) (Nat.le_of_ble_eq_true rfl)
  rw [lg_entry_eq]
  generalize (lg_sl ([.int x]) ++ List.replicate (1 - (lg_sl ([.int x])).length) Slot.unset).toArray = ls at hl ⊢
  have hl : lv_has ls 1 [(0, .int x)] := hl
  generalize ([.int x] : List Value).toArray = av at hts ⊢
  obtain ⟨Qc, hQc⟩ : ∃ Qc, Qc = (QcRead (jbits x)) := ⟨_, rfl⟩
  rw [← hQc]
  have k265 := hts (.constant RJ6 265 (1431655765)) (by decide +kernel)
  have k266 := hts (.constant RJ6 266 (858993459)) (by decide +kernel)
  have k267 := hts (.constant RJ6 267 (252645135)) (by decide +kernel)
  refine lv_iload_n hx hb dJ6_bitCount_0f7a4_0 rfl (lv_at hl 0 rfl) ?_
  refine lv_iload_n hx hb dJ6_bitCount_0f7a4_1 rfl (lv_at hl 0 rfl) ?_
  refine lv_iconst (v := 1) hx hb dJ6_bitCount_0f7a4_2 (by decide) ?_
  refine lv_iushr hx hb dJ6_bitCount_0f7a4_3 rfl ?_
  refine lv_ldcw (v := 1431655765) hx hb hown k265 dJ6_bitCount_0f7a4_4 ?_
  refine lv_iand hx hb dJ6_bitCount_0f7a4_7 ?_
  refine lv_isub hx hb dJ6_bitCount_0f7a4_8 ?_
  refine lv_istore_n (lv' := [(0, .int (x - (((x.toUInt32 >>> ((1 : Int32).toUInt32 &&& Int32.toUInt32 31)).toInt32) &&& 1431655765)))]) hx hb dJ6_bitCount_0f7a4_9 rfl hl (by decide) rfl (fun ls hl => ?_)
  refine lv_iload_n hx hb dJ6_bitCount_0f7a4_10 rfl (lv_at hl 0 rfl) ?_
  refine lv_ldcw (v := 858993459) hx hb hown k266 dJ6_bitCount_0f7a4_11 ?_
  refine lv_iand hx hb dJ6_bitCount_0f7a4_14 ?_
  refine lv_iload_n hx hb dJ6_bitCount_0f7a4_15 rfl (lv_at hl 0 rfl) ?_
  refine lv_iconst (v := 2) hx hb dJ6_bitCount_0f7a4_16 (by decide) ?_
  refine lv_iushr hx hb dJ6_bitCount_0f7a4_17 rfl ?_
  refine lv_ldcw (v := 858993459) hx hb hown k266 dJ6_bitCount_0f7a4_18 ?_
  refine lv_iand hx hb dJ6_bitCount_0f7a4_21 ?_
  refine lv_iadd hx hb dJ6_bitCount_0f7a4_22 ?_
  refine lv_istore_n (lv' := [(0, .int (((x - (((x.toUInt32 >>> ((1 : Int32).toUInt32 &&& Int32.toUInt32 31)).toInt32) &&& 1431655765)) &&& 858993459) + ((((x - (((x.toUInt32 >>> ((1 : Int32).toUInt32 &&& Int32.toUInt32 31)).toInt32) &&& 1431655765)).toUInt32 >>> ((2 : Int32).toUInt32 &&& Int32.toUInt32 31)).toInt32) &&& 858993459)))]) hx hb dJ6_bitCount_0f7a4_23 rfl hl (by decide) rfl (fun ls hl => ?_)
  refine lv_iload_n hx hb dJ6_bitCount_0f7a4_24 rfl (lv_at hl 0 rfl) ?_
  refine lv_iload_n hx hb dJ6_bitCount_0f7a4_25 rfl (lv_at hl 0 rfl) ?_
  refine lv_iconst (v := 4) hx hb dJ6_bitCount_0f7a4_26 (by decide) ?_
  refine lv_iushr hx hb dJ6_bitCount_0f7a4_27 rfl ?_
  refine lv_iadd hx hb dJ6_bitCount_0f7a4_28 ?_
  refine lv_ldcw (v := 252645135) hx hb hown k267 dJ6_bitCount_0f7a4_29 ?_
  refine lv_iand hx hb dJ6_bitCount_0f7a4_32 ?_
  refine lv_istore_n (lv' := [(0, .int (((((x - (((x.toUInt32 >>> ((1 : Int32).toUInt32 &&& Int32.toUInt32 31)).toInt32) &&& 1431655765)) &&& 858993459) + ((((x - (((x.toUInt32 >>> ((1 : Int32).toUInt32 &&& Int32.toUInt32 31)).toInt32) &&& 1431655765)).toUInt32 >>> ((2 : Int32).toUInt32 &&& Int32.toUInt32 31)).toInt32) &&& 858993459)) + (((((x - (((x.toUInt32 >>> ((1 : Int32).toUInt32 &&& Int32.toUInt32 31)).toInt32) &&& 1431655765)) &&& 858993459) + ((((x - (((x.toUInt32 >>> ((1 : Int32).toUInt32 &&& Int32.toUInt32 31)).toInt32) &&& 1431655765)).toUInt32 >>> ((2 : Int32).toUInt32 &&& Int32.toUInt32 31)).toInt32) &&& 858993459)).toUInt32 >>> ((4 : Int32).toUInt32 &&& Int32.toUInt32 31)).toInt32)) &&& 252645135))]) hx hb dJ6_bitCount_0f7a4_33 rfl hl (by decide) rfl (fun ls hl => ?_)
  refine lv_iload_n hx hb dJ6_bitCount_0f7a4_34 rfl (lv_at hl 0 rfl) ?_
  refine lv_iload_n hx hb dJ6_bitCount_0f7a4_35 rfl (lv_at hl 0 rfl) ?_
  refine lv_bipush (v := 8) hx hb dJ6_bitCount_0f7a4_36 (by decide) ?_
  refine lv_iushr hx hb dJ6_bitCount_0f7a4_38 rfl ?_
  refine lv_iadd hx hb dJ6_bitCount_0f7a4_39 ?_
  refine lv_istore_n (lv' := [(0, .int ((((((x - (((x.toUInt32 >>> ((1 : Int32).toUInt32 &&& Int32.toUInt32 31)).toInt32) &&& 1431655765)) &&& 858993459) + ((((x - (((x.toUInt32 >>> ((1 : Int32).toUInt32 &&& Int32.toUInt32 31)).toInt32) &&& 1431655765)).toUInt32 >>> ((2 : Int32).toUInt32 &&& Int32.toUInt32 31)).toInt32) &&& 858993459)) + (((((x - (((x.toUInt32 >>> ((1 : Int32).toUInt32 &&& Int32.toUInt32 31)).toInt32) &&& 1431655765)) &&& 858993459) + ((((x - (((x.toUInt32 >>> ((1 : Int32).toUInt32 &&& Int32.toUInt32 31)).toInt32) &&& 1431655765)).toUInt32 >>> ((2 : Int32).toUInt32 &&& Int32.toUInt32 31)).toInt32) &&& 858993459)).toUInt32 >>> ((4 : Int32).toUInt32 &&& Int32.toUInt32 31)).toInt32)) &&& 252645135) + (((((((x - (((x.toUInt32 >>> ((1 : Int32).toUInt32 &&& Int32.toUInt32 31)).toInt32) &&& 1431655765)) &&& 858993459) + ((((x - (((x.toUInt32 >>> ((1 : Int32).toUInt32 &&& Int32.toUInt32 31)).toInt32) &&& 1431655765)).toUInt32 >>> ((2 : Int32).toUInt32 &&& Int32.toUInt32 31)).toInt32) &&& 858993459)) + (((((x - (((x.toUInt32 >>> ((1 : Int32).toUInt32 &&& Int32.toUInt32 31)).toInt32) &&& 1431655765)) &&& 858993459) + ((((x - (((x.toUInt32 >>> ((1 : Int32).toUInt32 &&& Int32.toUInt32 31)).toInt32) &&& 1431655765)).toUInt32 >>> ((2 : Int32).toUInt32 &&& Int32.toUInt32 31)).toInt32) &&& 858993459)).toUInt32 >>> ((4 : Int32).toUInt32 &&& Int32.toUInt32 31)).toInt32)) &&& 252645135).toUInt32 >>> ((8 : Int32).toUInt32 &&& Int32.toUInt32 31)).toInt32)))]) hx hb dJ6_bitCount_0f7a4_40 rfl hl (by decide) rfl (fun ls hl => ?_)
  refine lv_iload_n hx hb dJ6_bitCount_0f7a4_41 rfl (lv_at hl 0 rfl) ?_
  refine lv_iload_n hx hb dJ6_bitCount_0f7a4_42 rfl (lv_at hl 0 rfl) ?_
  refine lv_bipush (v := 16) hx hb dJ6_bitCount_0f7a4_43 (by decide) ?_
  refine lv_iushr hx hb dJ6_bitCount_0f7a4_45 rfl ?_
  refine lv_iadd hx hb dJ6_bitCount_0f7a4_46 ?_
  refine lv_istore_n (lv' := [(0, .int (((((((x - (((x.toUInt32 >>> ((1 : Int32).toUInt32 &&& Int32.toUInt32 31)).toInt32) &&& 1431655765)) &&& 858993459) + ((((x - (((x.toUInt32 >>> ((1 : Int32).toUInt32 &&& Int32.toUInt32 31)).toInt32) &&& 1431655765)).toUInt32 >>> ((2 : Int32).toUInt32 &&& Int32.toUInt32 31)).toInt32) &&& 858993459)) + (((((x - (((x.toUInt32 >>> ((1 : Int32).toUInt32 &&& Int32.toUInt32 31)).toInt32) &&& 1431655765)) &&& 858993459) + ((((x - (((x.toUInt32 >>> ((1 : Int32).toUInt32 &&& Int32.toUInt32 31)).toInt32) &&& 1431655765)).toUInt32 >>> ((2 : Int32).toUInt32 &&& Int32.toUInt32 31)).toInt32) &&& 858993459)).toUInt32 >>> ((4 : Int32).toUInt32 &&& Int32.toUInt32 31)).toInt32)) &&& 252645135) + (((((((x - (((x.toUInt32 >>> ((1 : Int32).toUInt32 &&& Int32.toUInt32 31)).toInt32) &&& 1431655765)) &&& 858993459) + ((((x - (((x.toUInt32 >>> ((1 : Int32).toUInt32 &&& Int32.toUInt32 31)).toInt32) &&& 1431655765)).toUInt32 >>> ((2 : Int32).toUInt32 &&& Int32.toUInt32 31)).toInt32) &&& 858993459)) + (((((x - (((x.toUInt32 >>> ((1 : Int32).toUInt32 &&& Int32.toUInt32 31)).toInt32) &&& 1431655765)) &&& 858993459) + ((((x - (((x.toUInt32 >>> ((1 : Int32).toUInt32 &&& Int32.toUInt32 31)).toInt32) &&& 1431655765)).toUInt32 >>> ((2 : Int32).toUInt32 &&& Int32.toUInt32 31)).toInt32) &&& 858993459)).toUInt32 >>> ((4 : Int32).toUInt32 &&& Int32.toUInt32 31)).toInt32)) &&& 252645135).toUInt32 >>> ((8 : Int32).toUInt32 &&& Int32.toUInt32 31)).toInt32)) + ((((((((x - (((x.toUInt32 >>> ((1 : Int32).toUInt32 &&& Int32.toUInt32 31)).toInt32) &&& 1431655765)) &&& 858993459) + ((((x - (((x.toUInt32 >>> ((1 : Int32).toUInt32 &&& Int32.toUInt32 31)).toInt32) &&& 1431655765)).toUInt32 >>> ((2 : Int32).toUInt32 &&& Int32.toUInt32 31)).toInt32) &&& 858993459)) + (((((x - (((x.toUInt32 >>> ((1 : Int32).toUInt32 &&& Int32.toUInt32 31)).toInt32) &&& 1431655765)) &&& 858993459) + ((((x - (((x.toUInt32 >>> ((1 : Int32).toUInt32 &&& Int32.toUInt32 31)).toInt32) &&& 1431655765)).toUInt32 >>> ((2 : Int32).toUInt32 &&& Int32.toUInt32 31)).toInt32) &&& 858993459)).toUInt32 >>> ((4 : Int32).toUInt32 &&& Int32.toUInt32 31)).toInt32)) &&& 252645135) + (((((((x - (((x.toUInt32 >>> ((1 : Int32).toUInt32 &&& Int32.toUInt32 31)).toInt32) &&& 1431655765)) &&& 858993459) + ((((x - (((x.toUInt32 >>> ((1 : Int32).toUInt32 &&& Int32.toUInt32 31)).toInt32) &&& 1431655765)).toUInt32 >>> ((2 : Int32).toUInt32 &&& Int32.toUInt32 31)).toInt32) &&& 858993459)) + (((((x - (((x.toUInt32 >>> ((1 : Int32).toUInt32 &&& Int32.toUInt32 31)).toInt32) &&& 1431655765)) &&& 858993459) + ((((x - (((x.toUInt32 >>> ((1 : Int32).toUInt32 &&& Int32.toUInt32 31)).toInt32) &&& 1431655765)).toUInt32 >>> ((2 : Int32).toUInt32 &&& Int32.toUInt32 31)).toInt32) &&& 858993459)).toUInt32 >>> ((4 : Int32).toUInt32 &&& Int32.toUInt32 31)).toInt32)) &&& 252645135).toUInt32 >>> ((8 : Int32).toUInt32 &&& Int32.toUInt32 31)).toInt32)).toUInt32 >>> ((16 : Int32).toUInt32 &&& Int32.toUInt32 31)).toInt32)))]) hx hb dJ6_bitCount_0f7a4_47 rfl hl (by decide) rfl (fun ls hl => ?_)
  refine lv_iload_n hx hb dJ6_bitCount_0f7a4_48 rfl (lv_at hl 0 rfl) ?_
  refine lv_bipush (v := 63) hx hb dJ6_bitCount_0f7a4_49 (by decide) ?_
  refine lv_iand hx hb dJ6_bitCount_0f7a4_51 ?_
  exact W.iret (v := ((((((((x - (((x.toUInt32 >>> ((1 : Int32).toUInt32 &&& Int32.toUInt32 31)).toInt32) &&& 1431655765)) &&& 858993459) + ((((x - (((x.toUInt32 >>> ((1 : Int32).toUInt32 &&& Int32.toUInt32 31)).toInt32) &&& 1431655765)).toUInt32 >>> ((2 : Int32).toUInt32 &&& Int32.toUInt32 31)).toInt32) &&& 858993459)) + (((((x - (((x.toUInt32 >>> ((1 : Int32).toUInt32 &&& Int32.toUInt32 31)).toInt32) &&& 1431655765)) &&& 858993459) + ((((x - (((x.toUInt32 >>> ((1 : Int32).toUInt32 &&& Int32.toUInt32 31)).toInt32) &&& 1431655765)).toUInt32 >>> ((2 : Int32).toUInt32 &&& Int32.toUInt32 31)).toInt32) &&& 858993459)).toUInt32 >>> ((4 : Int32).toUInt32 &&& Int32.toUInt32 31)).toInt32)) &&& 252645135) + (((((((x - (((x.toUInt32 >>> ((1 : Int32).toUInt32 &&& Int32.toUInt32 31)).toInt32) &&& 1431655765)) &&& 858993459) + ((((x - (((x.toUInt32 >>> ((1 : Int32).toUInt32 &&& Int32.toUInt32 31)).toInt32) &&& 1431655765)).toUInt32 >>> ((2 : Int32).toUInt32 &&& Int32.toUInt32 31)).toInt32) &&& 858993459)) + (((((x - (((x.toUInt32 >>> ((1 : Int32).toUInt32 &&& Int32.toUInt32 31)).toInt32) &&& 1431655765)) &&& 858993459) + ((((x - (((x.toUInt32 >>> ((1 : Int32).toUInt32 &&& Int32.toUInt32 31)).toInt32) &&& 1431655765)).toUInt32 >>> ((2 : Int32).toUInt32 &&& Int32.toUInt32 31)).toInt32) &&& 858993459)).toUInt32 >>> ((4 : Int32).toUInt32 &&& Int32.toUInt32 31)).toInt32)) &&& 252645135).toUInt32 >>> ((8 : Int32).toUInt32 &&& Int32.toUInt32 31)).toInt32)) + ((((((((x - (((x.toUInt32 >>> ((1 : Int32).toUInt32 &&& Int32.toUInt32 31)).toInt32) &&& 1431655765)) &&& 858993459) + ((((x - (((x.toUInt32 >>> ((1 : Int32).toUInt32 &&& Int32.toUInt32 31)).toInt32) &&& 1431655765)).toUInt32 >>> ((2 : Int32).toUInt32 &&& Int32.toUInt32 31)).toInt32) &&& 858993459)) + (((((x - (((x.toUInt32 >>> ((1 : Int32).toUInt32 &&& Int32.toUInt32 31)).toInt32) &&& 1431655765)) &&& 858993459) + ((((x - (((x.toUInt32 >>> ((1 : Int32).toUInt32 &&& Int32.toUInt32 31)).toInt32) &&& 1431655765)).toUInt32 >>> ((2 : Int32).toUInt32 &&& Int32.toUInt32 31)).toInt32) &&& 858993459)).toUInt32 >>> ((4 : Int32).toUInt32 &&& Int32.toUInt32 31)).toInt32)) &&& 252645135) + (((((((x - (((x.toUInt32 >>> ((1 : Int32).toUInt32 &&& Int32.toUInt32 31)).toInt32) &&& 1431655765)) &&& 858993459) + ((((x - (((x.toUInt32 >>> ((1 : Int32).toUInt32 &&& Int32.toUInt32 31)).toInt32) &&& 1431655765)).toUInt32 >>> ((2 : Int32).toUInt32 &&& Int32.toUInt32 31)).toInt32) &&& 858993459)) + (((((x - (((x.toUInt32 >>> ((1 : Int32).toUInt32 &&& Int32.toUInt32 31)).toInt32) &&& 1431655765)) &&& 858993459) + ((((x - (((x.toUInt32 >>> ((1 : Int32).toUInt32 &&& Int32.toUInt32 31)).toInt32) &&& 1431655765)).toUInt32 >>> ((2 : Int32).toUInt32 &&& Int32.toUInt32 31)).toInt32) &&& 858993459)).toUInt32 >>> ((4 : Int32).toUInt32 &&& Int32.toUInt32 31)).toInt32)) &&& 252645135).toUInt32 >>> ((8 : Int32).toUInt32 &&& Int32.toUInt32 31)).toInt32)).toUInt32 >>> ((16 : Int32).toUInt32 &&& Int32.toUInt32 31)).toInt32)) &&& 63)) hx hb hr (fun t_9 ht_9 _ => by rw [hQc]; exact ⟨(by unfold jbits; rfl), ht_9⟩) t_nil dJ6_bitCount_0f7a4_52

set_option maxHeartbeats 4000000 in
set_option maxRecDepth 100000 in
theorem c_X6_type_b (l : Launch) (D : va_G) (cI cC cZ cN : ClassId) (t a2 a b : Nat → Nat) (lt : Nat) (tr : Int64) (x : Int32) (hb9 : jin x 0 255 = 0) : Met l yX6_type wsX6_type (ly_rm 5) (ly_Pre D (ly_tys cI cC cZ cN) [((t 0), .inr (6, [.ref (t 1), .int (nI lt), .ref (t 2), .ref (a 0), .ref (a2 0), .ref (b 0), .ref (t 4), .ref (t 5), .ref (t 6), .ref (t 7), .ref (t 8), .long tr]))] [.ref (t 0), .int x]) (QcRead (-1)) 0 0 (fun _ => False) := by
  refine Met.ofW (cc := cX6_type) (maxL := 2) (ret := (some .int)) (by decide) rfl ?_
  intro p e s m args below meth c s₁ B hml hv
  obtain ⟨rfl, hP, hK, hN⟩ := hv
  have hx := B.exec
  have hb := B.bytes
  have hr := B.returns
  have hts := atoms_spec (ws := wsX6_type) B.pre
  have hown : s.vm.findClass RX6 = some m.cls := findClass_of_methodNamed B.named
  have hlocks := B.notSynchronized
  have hl := lv_entry ([.ref (t 0), .int x]) (n := 2) (Nat.le_of_ble_eq_true rfl)
  rw [lg_entry_eq]
  generalize (lg_sl ([.ref (t 0), .int x]) ++ List.replicate (2 - (lg_sl ([.ref (t 0), .int x])).length) Slot.unset).toArray = ls at hl ⊢
  have hl : lv_has ls 2 [(0, .ref (t 0)), (1, .int x)] := hl
  generalize ([.ref (t 0), .int x] : List Value).toArray = av at hts ⊢
  obtain ⟨Qc, hQc⟩ : ∃ Qc, Qc = (QcRead (-1)) := ⟨_, rfl⟩
  rw [← hQc]
  refine lv_iload_n hx hb dX6_type_0 rfl (lv_at hl 1 rfl) ?_
  refine lv_iconst (v := 0) hx hb dX6_type_1 (by decide) ?_
  refine lv_sipush (v := 255) hx hb dX6_type_2 (by decide) ?_
  have hPc_5 := hP.sub (ws' := []) [] rfl
  refine ly_r (va_runS (As := [.int x, .int 0, .int 255]) (rest := []) ⟨hx, hb, hml, hown, hts⟩ (c_X6_within l D cI cC cZ cN x 0 255) (va_cwS 3 hts gX6_type_X6_within rfl rfl rfl (by decide +kernel) ⟨Nat.le_of_ble_eq_true rfl, Nat.le_of_ble_eq_true rfl⟩) (ly_ps hK hN hPc_5) rfl rfl hl.1 rfl (lv_room (Nat.le_of_ble_eq_true rfl)) dX6_type_5 ⟨Nat.zero_le _, Nat.zero_le _⟩) ?_
  refine lv_if_ne (tgt := 13) hx hb dX6_type_8 (by decide) (fun h_9 => absurd hb9 h_9) (fun _ => ?_)
  refine lv_iconst (v := (-1)) hx hb dX6_type_11 (by decide) ?_
  exact W.iret (v := (-1)) hx hb hr (fun t_9 ht_9 _ => by rw [hQc]; exact ⟨rfl, ht_9⟩) t_nil dX6_type_12

set_option maxHeartbeats 4000000 in
set_option maxRecDepth 100000 in
theorem c_X6_type_f (l : Launch) (D : va_G) (cI cC cZ cN : ClassId) (t a2 a b : Nat → Nat) (lt : Nat) (tr : Int64) (k : Nat) (hk : k ≤ 255) (hf9 : lt = 180) : Met l yX6_type wsX6_type (ly_rm 5) (ly_Pre D (ly_tys cI cC cZ cN) [((t 0), .inr (6, [.ref (t 1), .int (nI lt), .ref (t 2), .ref (a 0), .ref (a2 0), .ref (b 0), .ref (t 4), .ref (t 5), .ref (t 6), .ref (t 7), .ref (t 8), .long tr]))] [.ref (t 0), .int (nI k)]) (QcRead (-3)) 0 0 (fun _ => False) := by
  refine Met.ofW (cc := cX6_type) (maxL := 2) (ret := (some .int)) (by decide) rfl ?_
  intro p e s m args below meth c s₁ B hml hv
  obtain ⟨rfl, hP, hK, hN⟩ := hv
  have hx := B.exec
  have hb := B.bytes
  have hr := B.returns
  have hts := atoms_spec (ws := wsX6_type) B.pre
  have hown : s.vm.findClass RX6 = some m.cls := findClass_of_methodNamed B.named
  have hlocks := B.notSynchronized
  have hl := lv_entry ([.ref (t 0), .int (nI k)]) (n := 2) (Nat.le_of_ble_eq_true rfl)
  rw [lg_entry_eq]
  generalize (lg_sl ([.ref (t 0), .int (nI k)]) ++ List.replicate (2 - (lg_sl ([.ref (t 0), .int (nI k)])).length) Slot.unset).toArray = ls at hl ⊢
  have hl : lv_has ls 2 [(0, .ref (t 0)), (1, .int (nI k))] := hl
  generalize ([.ref (t 0), .int (nI k)] : List Value).toArray = av at hts ⊢
  obtain ⟨Qc, hQc⟩ : ∃ Qc, Qc = (QcRead (-3)) := ⟨_, rfl⟩
  rw [← hQc]
  have f13 := hts (.fieldLink RX6 13 "KneesLent" "letters" "I") (by decide +kernel)
  have hiX6 : ∀ w ∈ u_ws RX6 TX6 12, w ∈ wsX6_type := by decide +kernel
  refine lv_iload_n hx hb dX6_type_0 rfl (lv_at hl 1 rfl) ?_
  refine lv_iconst (v := 0) hx hb dX6_type_1 (by decide) ?_
  refine lv_sipush (v := 255) hx hb dX6_type_2 (by decide) ?_
  have hPc_5 := hP.sub (ws' := []) [] rfl
  refine ly_r (va_runS (As := [.int (nI k), .int 0, .int 255]) (rest := []) ⟨hx, hb, hml, hown, hts⟩ (c_X6_within l D cI cC cZ cN (nI k) 0 255) (va_cwS 3 hts gX6_type_X6_within rfl rfl rfl (by decide +kernel) ⟨Nat.le_of_ble_eq_true rfl, Nat.le_of_ble_eq_true rfl⟩) (ly_ps hK hN hPc_5) rfl rfl hl.1 rfl (lv_room (Nat.le_of_ble_eq_true rfl)) dX6_type_5 ⟨Nat.zero_le _, Nat.zero_le _⟩) ?_
  refine lv_if_ne (tgt := 13) hx hb dX6_type_8 (by decide) (fun _ => ?_) (fun h_9 => absurd h_9 (jin_yes (b := 255) hk (by omega)))
  refine lv_aload_n hx hb dX6_type_13 rfl (lv_at hl 0 rfl) ?_
  refine va_get (D := D) (ci := 6) (v := .int (nI lt)) (C := RX6) (T := TX6) (N := 12) hx hb hts hiX6 hown hK hP 0 rfl rfl 1 (by decide) f13 (fun _ h9 => h9) rfl dX6_type_14 ?_
  refine lv_sipush (v := 180) hx hb dX6_type_17 (by decide) ?_
  refine lv_icmp_lt (tgt := 26) hx hb dX6_type_20 (by decide) (fun h_9 => absurd h_9 (nI_nlt (a := lt) (b := 180) (by omega) (by omega))) (fun _ => ?_)
  refine lv_bipush (v := (-3)) hx hb dX6_type_23 (by decide) ?_
  exact W.iret (v := (-3)) hx hb hr (fun t_9 ht_9 _ => by rw [hQc]; exact ⟨rfl, ht_9⟩) t_nil dX6_type_25

set_option maxHeartbeats 4000000 in
set_option maxRecDepth 100000 in
theorem c_X6_type_g (l : Launch) (D : va_G) (cI cC cZ cN : ClassId) (t a2 a b : Nat → Nat) (lt : Nat) (tr : Int64) (tx : Nat → Nat) (k : Nat) (hk : k ≤ 255) (hf9 : lt < 180) (hD0 : va_D (fun _ => True) [((t 0), .inr (6, [.ref (t 1), .int (nI lt), .ref (t 2), .ref (a 0), .ref (a2 0), .ref (b 0), .ref (t 4), .ref (t 5), .ref (t 6), .ref (t 7), .ref (t 8), .long tr])), ((t 1), .inl (cC, 180, .inl (fun j => nI (tx j))))]) : Met l yX6_type wsX6_type (ly_rm 6) (ly_Pre D (ly_tys cI cC cZ cN) [((t 0), .inr (6, [.ref (t 1), .int (nI lt), .ref (t 2), .ref (a 0), .ref (a2 0), .ref (b 0), .ref (t 4), .ref (t 5), .ref (t 6), .ref (t 7), .ref (t 8), .long tr])), ((t 1), .inl (cC, 180, .inl (fun j => nI (tx j))))] [.ref (t 0), .int (nI k)]) (ly_Q D [((t 0), .inr (6, [.ref (t 1), .int (nI lt), .ref (t 2), .ref (a 0), .ref (a2 0), .ref (b 0), .ref (t 4), .ref (t 5), .ref (t 6), .ref (t 7), .ref (t 8), .long tr])), ((t 1), .inl (cC, 180, .inl (fun j => nI (tx j))))] (fun r_9 w_9 => r_9 = some (.int (nI (lt + 1))) ∧ w_9 = [((t 0), .inr (6, [.ref (t 1), .int (nI (lt + 1)), .ref (t 2), .ref (a 0), .ref (a2 0), .ref (b 0), .ref (t 4), .ref (t 5), .ref (t 6), .ref (t 7), .ref (t 8), .long tr])), ((t 1), .inl (cC, 180, .inl (fun j => nI ((va_up tx lt k) j))))])) 0 0 (ly_in [((t 0), .inr (6, [.ref (t 1), .int (nI lt), .ref (t 2), .ref (a 0), .ref (a2 0), .ref (b 0), .ref (t 4), .ref (t 5), .ref (t 6), .ref (t 7), .ref (t 8), .long tr])), ((t 1), .inl (cC, 180, .inl (fun j => nI (tx j))))]) := by
  refine Met.ofW (cc := cX6_type) (maxL := 2) (ret := (some .int)) (by decide) rfl ?_
  intro p e s m args below meth c s₁ B hml hv
  obtain ⟨rfl, hP, hK, hN⟩ := hv
  have hx := B.exec
  have hb := B.bytes
  have hr := B.returns
  have hts := atoms_spec (ws := wsX6_type) B.pre
  have hown : s.vm.findClass RX6 = some m.cls := findClass_of_methodNamed B.named
  have hlocks := B.notSynchronized
  have hl := lv_entry ([.ref (t 0), .int (nI k)]) (n := 2) (Nat.le_of_ble_eq_true rfl)
  rw [lg_entry_eq]
  generalize (lg_sl ([.ref (t 0), .int (nI k)]) ++ List.replicate (2 - (lg_sl ([.ref (t 0), .int (nI k)])).length) Slot.unset).toArray = ls at hl ⊢
  have hl : lv_has ls 2 [(0, .ref (t 0)), (1, .int (nI k))] := hl
  generalize ([.ref (t 0), .int (nI k)] : List Value).toArray = av at hts ⊢
  obtain ⟨Qc, hQc⟩ : ∃ Qc, Qc = (ly_Q D [((t 0), .inr (6, [.ref (t 1), .int (nI lt), .ref (t 2), .ref (a 0), .ref (a2 0), .ref (b 0), .ref (t 4), .ref (t 5), .ref (t 6), .ref (t 7), .ref (t 8), .long tr])), ((t 1), .inl (cC, 180, .inl (fun j => nI (tx j))))] (fun r_9 w_9 => r_9 = some (.int (nI (lt + 1))) ∧ w_9 = [((t 0), .inr (6, [.ref (t 1), .int (nI (lt + 1)), .ref (t 2), .ref (a 0), .ref (a2 0), .ref (b 0), .ref (t 4), .ref (t 5), .ref (t 6), .ref (t 7), .ref (t 8), .long tr])), ((t 1), .inl (cC, 180, .inl (fun j => nI ((va_up tx lt k) j))))])) := ⟨_, rfl⟩
  rw [← hQc]
  obtain ⟨A, hAe⟩ : ∃ A, A = ly_in [((t 0), .inr (6, [.ref (t 1), .int (nI lt), .ref (t 2), .ref (a 0), .ref (a2 0), .ref (b 0), .ref (t 4), .ref (t 5), .ref (t 6), .ref (t 7), .ref (t 8), .long tr])), ((t 1), .inl (cC, 180, .inl (fun j => nI (tx j))))] := ⟨_, rfl⟩
  rw [← hAe]
  have hD := ly_self hD0
  rw [← hAe] at hD
  have f13 := hts (.fieldLink RX6 13 "KneesLent" "letters" "I") (by decide +kernel)
  have f9 := hts (.fieldLink RX6 9 "KneesLent" "text" "[C") (by decide +kernel)
  have hiX6 : ∀ w ∈ u_ws RX6 TX6 12, w ∈ wsX6_type := by decide +kernel
  have hmain : ∀ (H : Heap) (locs : List Loc), va_P D vwCl [((t 0), .inr (6, [.ref (t 1), .int (nI lt), .ref (t 2), .ref (a 0), .ref (a2 0), .ref (b 0), .ref (t 4), .ref (t 5), .ref (t 6), .ref (t 7), .ref (t 8), .long tr])), ((t 1), .inl (cC, 180, .inl (fun j => nI (tx j))))] H → va_S A s.heap H locs → W p l e (headSpec wsX6_type (ly_rm 6)).room s m av below meth c H locs 0 0 (MQ below Qc av s 0 0 A) (F0 m 0 ls []) := by
    intro H locs hP hS
    refine lv_iload_n hx hb dX6_type_0 rfl (lv_at hl 1 rfl) ?_
    refine lv_iconst (v := 0) hx hb dX6_type_1 (by decide) ?_
    refine lv_sipush (v := 255) hx hb dX6_type_2 (by decide) ?_
    have hPc_5 := hP.sub (ws' := []) [] rfl
    refine ly_r (va_runS (As := [.int (nI k), .int 0, .int 255]) (rest := []) ⟨hx, hb, hml, hown, hts⟩ (c_X6_within l D cI cC cZ cN (nI k) 0 255) (va_cwS 3 hts gX6_type_X6_within rfl rfl rfl (by decide +kernel) ⟨Nat.le_of_ble_eq_true rfl, Nat.le_of_ble_eq_true rfl⟩) (ly_ps hK hN hPc_5) rfl rfl hl.1 rfl (lv_room (Nat.le_of_ble_eq_true rfl)) dX6_type_5 ⟨Nat.zero_le _, Nat.zero_le _⟩) ?_
    refine lv_if_ne (tgt := 13) hx hb dX6_type_8 (by decide) (fun _ => ?_) (fun h_9 => absurd h_9 (jin_yes (b := 255) hk (by omega)))
    refine lv_aload_n hx hb dX6_type_13 rfl (lv_at hl 0 rfl) ?_
    refine va_get (D := D) (ci := 6) (v := .int (nI lt)) (C := RX6) (T := TX6) (N := 12) hx hb hts hiX6 hown hK hP 0 rfl rfl 1 (by decide) f13 (fun _ h9 => h9) rfl dX6_type_14 ?_
    refine lv_sipush (v := 180) hx hb dX6_type_17 (by decide) ?_
    refine lv_icmp_lt (tgt := 26) hx hb dX6_type_20 (by decide) (fun _ => ?_) (fun h_9 => absurd (nI_lt (a := lt) (b := 180) (by omega) (by omega)) h_9)
    refine lv_aload_n hx hb dX6_type_26 rfl (lv_at hl 0 rfl) ?_
    refine va_get (D := D) (ci := 6) (v := .ref (t 1)) (C := RX6) (T := TX6) (N := 12) hx hb hts hiX6 hown hK hP 0 rfl rfl 0 (by decide) f9 (fun _ h9 => h9) rfl dX6_type_27 ?_
    refine lv_aload_n hx hb dX6_type_30 rfl (lv_at hl 0 rfl) ?_
    refine va_get (D := D) (ci := 6) (v := .int (nI lt)) (C := RX6) (T := TX6) (N := 12) hx hb hts hiX6 hown hK hP 0 rfl rfl 1 (by decide) f13 (fun _ h9 => h9) rfl dX6_type_31 ?_
    refine lv_iload_n hx hb dX6_type_34 rfl (lv_at hl 1 rfl) ?_
    refine lv_i2c (v := (nI k)) hx hb dX6_type_35 (ly_i2c rfl (by omega)) ?_
    refine ly_castN hx hb hK hP hD hS 1 1 rfl rfl (k := lt) (v := k) (by decide) rfl (by omega) rfl (by omega) dX6_type_36 (fun H locs hP hD hS => ?_)
    have hP : va_P D vwCl [((t 0), .inr (6, [.ref (t 1), .int (nI lt), .ref (t 2), .ref (a 0), .ref (a2 0), .ref (b 0), .ref (t 4), .ref (t 5), .ref (t 6), .ref (t 7), .ref (t 8), .long tr])), ((t 1), .inl (cC, 180, .inl (fun j => nI ((va_up tx lt k) j))))] H := hP
    have hD : va_D A [((t 0), .inr (6, [.ref (t 1), .int (nI lt), .ref (t 2), .ref (a 0), .ref (a2 0), .ref (b 0), .ref (t 4), .ref (t 5), .ref (t 6), .ref (t 7), .ref (t 8), .long tr])), ((t 1), .inl (cC, 180, .inl (fun j => nI ((va_up tx lt k) j))))] := hD
    refine lv_aload_n hx hb dX6_type_37 rfl (lv_at hl 0 rfl) ?_
    refine lv_dup hx hb dX6_type_38 rfl ?_
    refine va_get (D := D) (ci := 6) (v := .int (nI lt)) (C := RX6) (T := TX6) (N := 12) hx hb hts hiX6 hown hK hP 0 rfl rfl 1 (by decide) f13 (fun _ h9 => h9) rfl dX6_type_39 ?_
    refine lv_iconst (v := 1) hx hb dX6_type_42 (by decide) ?_
    refine lv_iadd hx hb dX6_type_43 ?_
    refine ly_eqi (show ((nI lt) + 1) = (nI (lt + 1)) from ly_add rfl rfl) ?_
    refine va_put (D := D) (ci := 6) (v := .int (nI (lt + 1))) (ty := .int) (C := RX6) (T := TX6) (N := 12) hx hb hts hiX6 tyX6 tyX6_ok nmX6 hown hK hP hD hS 0 rfl rfl 1 (by decide) f13 (fun _ h9 => h9) rfl (by decide +kernel) rfl rfl (Nat.le_of_ble_eq_true rfl) dX6_type_44 (fun H locs hP hD hS => ?_)
    have hP : va_P D vwCl [((t 0), .inr (6, [.ref (t 1), .int (nI (lt + 1)), .ref (t 2), .ref (a 0), .ref (a2 0), .ref (b 0), .ref (t 4), .ref (t 5), .ref (t 6), .ref (t 7), .ref (t 8), .long tr])), ((t 1), .inl (cC, 180, .inl (fun j => nI ((va_up tx lt k) j))))] H := hP
    have hD : va_D A [((t 0), .inr (6, [.ref (t 1), .int (nI (lt + 1)), .ref (t 2), .ref (a 0), .ref (a2 0), .ref (b 0), .ref (t 4), .ref (t 5), .ref (t 6), .ref (t 7), .ref (t 8), .long tr])), ((t 1), .inl (cC, 180, .inl (fun j => nI ((va_up tx lt k) j))))] := hD
    refine lv_aload_n hx hb dX6_type_47 rfl (lv_at hl 0 rfl) ?_
    refine va_get (D := D) (ci := 6) (v := .int (nI (lt + 1))) (C := RX6) (T := TX6) (N := 12) hx hb hts hiX6 hown hK hP 0 rfl rfl 1 (by decide) f13 (fun _ h9 => h9) rfl dX6_type_48 ?_
    exact W.iret (v := (nI (lt + 1))) hx hb hr (fun t_9 ht_9 _ => by rw [hQc]; exact ⟨_, [((t 0), .inr (6, [.ref (t 1), .int (nI (lt + 1)), .ref (t 2), .ref (a 0), .ref (a2 0), .ref (b 0), .ref (t 4), .ref (t 5), .ref (t 6), .ref (t 7), .ref (t 8), .long tr])), ((t 1), .inl (cC, 180, .inl (fun j => nI ((va_up tx lt k) j))))], rfl, ⟨rfl, rfl⟩, by simp only [List.map_cons, List.map_nil], by rw [ht_9]; exact hP.sub [0, 1] rfl, by rw [← hAe]; exact hS.F ht_9⟩) hS.2.2 dX6_type_51
  exact hmain _ _ hP va_S.rf

set_option maxHeartbeats 4000000 in
set_option maxRecDepth 100000 in
theorem c_X6_clear (l : Launch) (D : va_G) (cI cC cZ cN : ClassId) (t a2 a b : Nat → Nat) (lt : Nat) (tr : Int64) (hD0 : va_D (fun _ => True) [((t 0), .inr (6, [.ref (t 1), .int (nI lt), .ref (t 2), .ref (a 0), .ref (a2 0), .ref (b 0), .ref (t 4), .ref (t 5), .ref (t 6), .ref (t 7), .ref (t 8), .long tr]))]) : Met l yX6_clear wsX6_clear (ly_rm 6) (ly_Pre D (ly_tys cI cC cZ cN) [((t 0), .inr (6, [.ref (t 1), .int (nI lt), .ref (t 2), .ref (a 0), .ref (a2 0), .ref (b 0), .ref (t 4), .ref (t 5), .ref (t 6), .ref (t 7), .ref (t 8), .long tr]))] [.ref (t 0)]) (ly_Q D [((t 0), .inr (6, [.ref (t 1), .int (nI lt), .ref (t 2), .ref (a 0), .ref (a2 0), .ref (b 0), .ref (t 4), .ref (t 5), .ref (t 6), .ref (t 7), .ref (t 8), .long tr]))] (fun r_9 w_9 => r_9 = some (.int (nI lt)) ∧ w_9 = [((t 0), .inr (6, [.ref (t 1), .int (nI 0), .ref (t 2), .ref (a 0), .ref (a2 0), .ref (b 0), .ref (t 4), .ref (t 5), .ref (t 6), .ref (t 7), .ref (t 8), .long tr]))])) 0 0 (ly_in [((t 0), .inr (6, [.ref (t 1), .int (nI lt), .ref (t 2), .ref (a 0), .ref (a2 0), .ref (b 0), .ref (t 4), .ref (t 5), .ref (t 6), .ref (t 7), .ref (t 8), .long tr]))]) := by
  refine Met.ofW (cc := cX6_clear) (maxL := 2) (ret := (some .int)) (by decide) rfl ?_
  intro p e s m args below meth c s₁ B hml hv
  obtain ⟨rfl, hP, hK, hN⟩ := hv
  have hx := B.exec
  have hb := B.bytes
  have hr := B.returns
  have hts := atoms_spec (ws := wsX6_clear) B.pre
  have hown : s.vm.findClass RX6 = some m.cls := findClass_of_methodNamed B.named
  have hlocks := B.notSynchronized
  have hl := lv_entry ([.ref (t 0)]) (n := 2) (Nat.le_of_ble_eq_true rfl)
  rw [lg_entry_eq]
  generalize (lg_sl ([.ref (t 0)]) ++ List.replicate (2 - (lg_sl ([.ref (t 0)])).length) Slot.unset).toArray = ls at hl ⊢
  have hl : lv_has ls 2 [(0, .ref (t 0))] := hl
  generalize ([.ref (t 0)] : List Value).toArray = av at hts ⊢
  obtain ⟨Qc, hQc⟩ : ∃ Qc, Qc = (ly_Q D [((t 0), .inr (6, [.ref (t 1), .int (nI lt), .ref (t 2), .ref (a 0), .ref (a2 0), .ref (b 0), .ref (t 4), .ref (t 5), .ref (t 6), .ref (t 7), .ref (t 8), .long tr]))] (fun r_9 w_9 => r_9 = some (.int (nI lt)) ∧ w_9 = [((t 0), .inr (6, [.ref (t 1), .int (nI 0), .ref (t 2), .ref (a 0), .ref (a2 0), .ref (b 0), .ref (t 4), .ref (t 5), .ref (t 6), .ref (t 7), .ref (t 8), .long tr]))])) := ⟨_, rfl⟩
  rw [← hQc]
  obtain ⟨A, hAe⟩ : ∃ A, A = ly_in [((t 0), .inr (6, [.ref (t 1), .int (nI lt), .ref (t 2), .ref (a 0), .ref (a2 0), .ref (b 0), .ref (t 4), .ref (t 5), .ref (t 6), .ref (t 7), .ref (t 8), .long tr]))] := ⟨_, rfl⟩
  rw [← hAe]
  have hD := ly_self hD0
  rw [← hAe] at hD
  have f13 := hts (.fieldLink RX6 13 "KneesLent" "letters" "I") (by decide +kernel)
  have hiX6 : ∀ w ∈ u_ws RX6 TX6 12, w ∈ wsX6_clear := by decide +kernel
  have hmain : ∀ (H : Heap) (locs : List Loc), va_P D vwCl [((t 0), .inr (6, [.ref (t 1), .int (nI lt), .ref (t 2), .ref (a 0), .ref (a2 0), .ref (b 0), .ref (t 4), .ref (t 5), .ref (t 6), .ref (t 7), .ref (t 8), .long tr]))] H → va_S A s.heap H locs → W p l e (headSpec wsX6_clear (ly_rm 6)).room s m av below meth c H locs 0 0 (MQ below Qc av s 0 0 A) (F0 m 0 ls []) := by
    intro H locs hP hS
    refine lv_aload_n hx hb dX6_clear_0 rfl (lv_at hl 0 rfl) ?_
    refine va_get (D := D) (ci := 6) (v := .int (nI lt)) (C := RX6) (T := TX6) (N := 12) hx hb hts hiX6 hown hK hP 0 rfl rfl 1 (by decide) f13 (fun _ h9 => h9) rfl dX6_clear_1 ?_
    refine lv_istore_n (lv' := [(1, .int (nI lt)), (0, .ref (t 0))]) hx hb dX6_clear_4 rfl hl (by decide) rfl (fun ls hl => ?_)
    refine lv_aload_n hx hb dX6_clear_5 rfl (lv_at hl 1 rfl) ?_
    refine lv_iconst (v := 0) hx hb dX6_clear_6 (by decide) ?_
    refine va_put (D := D) (ci := 6) (v := .int 0) (ty := .int) (C := RX6) (T := TX6) (N := 12) hx hb hts hiX6 tyX6 tyX6_ok nmX6 hown hK hP hD hS 0 rfl rfl 1 (by decide) f13 (fun _ h9 => h9) rfl (by decide +kernel) rfl rfl (Nat.le_of_ble_eq_true rfl) dX6_clear_7 (fun H locs hP hD hS => ?_)
    have hP : va_P D vwCl [((t 0), .inr (6, [.ref (t 1), .int 0, .ref (t 2), .ref (a 0), .ref (a2 0), .ref (b 0), .ref (t 4), .ref (t 5), .ref (t 6), .ref (t 7), .ref (t 8), .long tr]))] H := hP
    have hD : va_D A [((t 0), .inr (6, [.ref (t 1), .int 0, .ref (t 2), .ref (a 0), .ref (a2 0), .ref (b 0), .ref (t 4), .ref (t 5), .ref (t 6), .ref (t 7), .ref (t 8), .long tr]))] := hD
    refine lv_iload_n hx hb dX6_clear_10 rfl (lv_at hl 0 rfl) ?_
    exact W.iret (v := (nI lt)) hx hb hr (fun t_9 ht_9 _ => by rw [hQc]; exact ⟨_, [((t 0), .inr (6, [.ref (t 1), .int 0, .ref (t 2), .ref (a 0), .ref (a2 0), .ref (b 0), .ref (t 4), .ref (t 5), .ref (t 6), .ref (t 7), .ref (t 8), .long tr]))], rfl, ⟨rfl, rfl⟩, by simp only [List.map_cons, List.map_nil], by rw [ht_9]; exact hP.sub [0] rfl, by rw [← hAe]; exact hS.F ht_9⟩) hS.2.2 dX6_clear_11
  exact hmain _ _ hP va_S.rf

set_option maxHeartbeats 4000000 in
set_option maxRecDepth 100000 in
theorem c_X6_tells_b (l : Launch) (D : va_G) (cI cC cZ cN : ClassId) (t a2 b : Nat → Nat) (lt : Nat) (tr : Int64) (a : Nat → Nat) (g : Nat → Nat → Nat) (hv : Nat → Nat) (x y z : Int32) (hb9 : jin x 0 (nI (g 0 1) - 1) = 0 ∨ jin y 0 40 = 0 ∨ jin z 0 80 = 0) : Met l yX6_tells wsX6_tells (ly_rm 6) (ly_Pre D (ly_tys cI cC cZ cN) [((t 0), .inr (6, [.ref (t 1), .int (nI lt), .ref (t 2), .ref (a 0), .ref (a2 0), .ref (b 0), .ref (t 4), .ref (t 5), .ref (t 6), .ref (t 7), .ref (t 8), .long tr])), ((a 0), .inr (4, [.int (nI (g 0 0)), .ref (a 1), .ref (a 2), .ref (a 3), .int (nI (g 0 1)), .ref (a 4), .ref (a 5), .ref (a 6), .ref (a 7), .ref (a 8), .ref (a 9), .int (nI (g 0 2))])), ((a 1), .inl (cI, 9, .inl (fun j => nI ((g 1) j)))), ((a 2), .inl (cI, 9, .inl (fun j => nI ((g 2) j)))), ((a 3), .inl (cI, 9, .inl (fun j => nI ((g 3) j)))), ((a 4), .inl (cI, 6, .inl (fun j => nI ((g 4) j)))), ((a 5), .inl (cI, 6, .inl (fun j => nI ((g 5) j)))), ((a 6), .inl (cI, 6, .inl (fun j => nI ((g 6) j)))), ((a 7), .inl (cI, 5, .inl (fun j => nI ((g 7) j)))), ((a 8), .inl (cI, 5, .inl (fun j => nI ((g 8) j)))), ((a 9), .inl (cI, 5, .inl (fun j => ly_h ((g 9) j)))), ((t 5), .inr (1, [.int (nI (hv 0)), .int (nI (hv 1)), .int (nI (hv 2)), .int (nI (hv 3)), .int (nI (hv 4)), .int (nI (hv 5))]))] [.ref (t 0), .int x, .int y, .int z]) (QcRead (-1)) 0 0 (fun _ => False) := by
  refine Met.ofW (cc := cX6_tells) (maxL := 4) (ret := (some .int)) (by decide) rfl ?_
  intro p e s m args below meth c s₁ B hml hv
  obtain ⟨rfl, hP, hK, hN⟩ := hv
  have hx := B.exec
  have hb := B.bytes
  have hr := B.returns
  have hts := atoms_spec (ws := wsX6_tells) B.pre
  have hown : s.vm.findClass RX6 = some m.cls := findClass_of_methodNamed B.named
  have hlocks := B.notSynchronized
  have hl := lv_entry ([.ref (t 0), .int x, .int y, .int z]) (n := 4) (Nat.le_of_ble_eq_true rfl)
  rw [lg_entry_eq]
  generalize (lg_sl ([.ref (t 0), .int x, .int y, .int z]) ++ List.replicate (4 - (lg_sl ([.ref (t 0), .int x, .int y, .int z])).length) Slot.unset).toArray = ls at hl ⊢
  have hl : lv_has ls 4 [(0, .ref (t 0)), (1, .int x), (2, .int y), (3, .int z)] := hl
  generalize ([.ref (t 0), .int x, .int y, .int z] : List Value).toArray = av at hts ⊢
  obtain ⟨Qc, hQc⟩ : ∃ Qc, Qc = (QcRead (-1)) := ⟨_, rfl⟩
  rw [← hQc]
  have f27 := hts (.fieldLink RX6 27 "KneesLent" "parish" "LKneesLent$Parish;") (by decide +kernel)
  have hiX6 : ∀ w ∈ u_ws RX6 TX6 12, w ∈ wsX6_tells := by decide +kernel
  refine lv_aload_n hx hb dX6_tells_0 rfl (lv_at hl 0 rfl) ?_
  refine va_get (D := D) (ci := 6) (v := .ref (a 0)) (C := RX6) (T := TX6) (N := 12) hx hb hts hiX6 hown hK hP 0 rfl rfl 3 (by decide) f27 (fun _ h9 => h9) rfl dX6_tells_1 ?_
  refine lv_iload_n hx hb dX6_tells_4 rfl (lv_at hl 1 rfl) ?_
  have hPc_5 := hP.sub (ws' := [((a 0), .inr (4, [.int (nI (g 0 0)), .ref (a 1), .ref (a 2), .ref (a 3), .int (nI (g 0 1)), .ref (a 4), .ref (a 5), .ref (a 6), .ref (a 7), .ref (a 8), .ref (a 9), .int (nI (g 0 2))])), ((a 1), .inl (cI, 9, .inl (fun j => nI ((g 1) j)))), ((a 2), .inl (cI, 9, .inl (fun j => nI ((g 2) j)))), ((a 3), .inl (cI, 9, .inl (fun j => nI ((g 3) j)))), ((a 4), .inl (cI, 6, .inl (fun j => nI ((g 4) j)))), ((a 5), .inl (cI, 6, .inl (fun j => nI ((g 5) j)))), ((a 6), .inl (cI, 6, .inl (fun j => nI ((g 6) j)))), ((a 7), .inl (cI, 5, .inl (fun j => nI ((g 7) j)))), ((a 8), .inl (cI, 5, .inl (fun j => nI ((g 8) j)))), ((a 9), .inl (cI, 5, .inl (fun j => ly_h ((g 9) j))))]) [1, 2, 3, 4, 5, 6, 7, 8, 9, 10] rfl
  refine ly_r (va_runV (As := [.int x]) (rest := []) ⟨hx, hb, hml, hown, hts⟩ (c_X4_hasPerson l D cI cC cZ cN a g x) (cwV 1 hts gX6_tells_X4_hasPerson rfl rfl rfl (by decide +kernel) ⟨Nat.le_of_ble_eq_true rfl, Nat.le_of_ble_eq_true rfl⟩) (ly_pv hK hN hPc_5 0 4 rfl rfl rfl) rfl rfl hl.1 rfl (lv_room (Nat.le_of_ble_eq_true rfl)) dX6_tells_5 ⟨Nat.zero_le _, Nat.zero_le _⟩) ?_
  refine lv_if_eq (tgt := 31) hx hb dX6_tells_8 (by decide) (fun c_1 => ?_) (fun c_1 => ?_)
  · refine lv_iconst (v := (-1)) hx hb dX6_tells_31 (by decide) ?_
    exact W.iret (v := (-1)) hx hb hr (fun t_9 ht_9 _ => by rw [hQc]; exact ⟨rfl, ht_9⟩) t_nil dX6_tells_32
  · refine lv_iload_n hx hb dX6_tells_11 rfl (lv_at hl 2 rfl) ?_
    refine lv_iconst (v := 0) hx hb dX6_tells_12 (by decide) ?_
    refine lv_bipush (v := 40) hx hb dX6_tells_13 (by decide) ?_
    have hPc_15 := hP.sub (ws' := []) [] rfl
    refine ly_r (va_runS (As := [.int y, .int 0, .int 40]) (rest := []) ⟨hx, hb, hml, hown, hts⟩ (c_X6_within l D cI cC cZ cN y 0 40) (va_cwS 3 hts gX6_tells_X6_within rfl rfl rfl (by decide +kernel) ⟨Nat.le_of_ble_eq_true rfl, Nat.le_of_ble_eq_true rfl⟩) (ly_ps hK hN hPc_15) rfl rfl hl.1 rfl (lv_room (Nat.le_of_ble_eq_true rfl)) dX6_tells_15 ⟨Nat.zero_le _, Nat.zero_le _⟩) ?_
    refine lv_if_eq (tgt := 31) hx hb dX6_tells_18 (by decide) (fun c_2 => ?_) (fun c_2 => ?_)
    · refine lv_iconst (v := (-1)) hx hb dX6_tells_31 (by decide) ?_
      exact W.iret (v := (-1)) hx hb hr (fun t_9 ht_9 _ => by rw [hQc]; exact ⟨rfl, ht_9⟩) t_nil dX6_tells_32
    · refine lv_iload_n hx hb dX6_tells_21 rfl (lv_at hl 3 rfl) ?_
      refine lv_iconst (v := 0) hx hb dX6_tells_22 (by decide) ?_
      refine lv_bipush (v := 80) hx hb dX6_tells_23 (by decide) ?_
      have hPc_25 := hP.sub (ws' := []) [] rfl
      refine ly_r (va_runS (As := [.int z, .int 0, .int 80]) (rest := []) ⟨hx, hb, hml, hown, hts⟩ (c_X6_within l D cI cC cZ cN z 0 80) (va_cwS 3 hts gX6_tells_X6_within rfl rfl rfl (by decide +kernel) ⟨Nat.le_of_ble_eq_true rfl, Nat.le_of_ble_eq_true rfl⟩) (ly_ps hK hN hPc_25) rfl rfl hl.1 rfl (lv_room (Nat.le_of_ble_eq_true rfl)) dX6_tells_25 ⟨Nat.zero_le _, Nat.zero_le _⟩) ?_
      refine lv_if_ne (tgt := 33) hx hb dX6_tells_28 (by decide) (fun c_3 => ?_) (fun c_3 => ?_)
      · rcases hb9 with h_9 | h_9 | h_9 <;> exact absurd h_9 (by assumption)
      · refine lv_iconst (v := (-1)) hx hb dX6_tells_31 (by decide) ?_
        exact W.iret (v := (-1)) hx hb hr (fun t_9 ht_9 _ => by rw [hQc]; exact ⟨rfl, ht_9⟩) t_nil dX6_tells_32

set_option maxHeartbeats 4000000 in
set_option maxRecDepth 100000 in
theorem c_X6_tells_f (l : Launch) (D : va_G) (cI cC cZ cN : ClassId) (t a2 b : Nat → Nat) (lt : Nat) (tr : Int64) (a : Nat → Nat) (g : Nat → Nat → Nat) (hv : Nat → Nat) (q n w : Nat) (hp9 : q < g 0 1) (hm6 : g 0 1 ≤ 6) (h1 : n ≤ 40) (h2 : w ≤ 80) (hf9 : hv 0 = 6) : Met l yX6_tells wsX6_tells (ly_rm 5) (ly_Pre D (ly_tys cI cC cZ cN) [((t 0), .inr (6, [.ref (t 1), .int (nI lt), .ref (t 2), .ref (a 0), .ref (a2 0), .ref (b 0), .ref (t 4), .ref (t 5), .ref (t 6), .ref (t 7), .ref (t 8), .long tr])), ((a 0), .inr (4, [.int (nI (g 0 0)), .ref (a 1), .ref (a 2), .ref (a 3), .int (nI (g 0 1)), .ref (a 4), .ref (a 5), .ref (a 6), .ref (a 7), .ref (a 8), .ref (a 9), .int (nI (g 0 2))])), ((a 1), .inl (cI, 9, .inl (fun j => nI ((g 1) j)))), ((a 2), .inl (cI, 9, .inl (fun j => nI ((g 2) j)))), ((a 3), .inl (cI, 9, .inl (fun j => nI ((g 3) j)))), ((a 4), .inl (cI, 6, .inl (fun j => nI ((g 4) j)))), ((a 5), .inl (cI, 6, .inl (fun j => nI ((g 5) j)))), ((a 6), .inl (cI, 6, .inl (fun j => nI ((g 6) j)))), ((a 7), .inl (cI, 5, .inl (fun j => nI ((g 7) j)))), ((a 8), .inl (cI, 5, .inl (fun j => nI ((g 8) j)))), ((a 9), .inl (cI, 5, .inl (fun j => ly_h ((g 9) j)))), ((t 5), .inr (1, [.int (nI (hv 0)), .int (nI (hv 1)), .int (nI (hv 2)), .int (nI (hv 3)), .int (nI (hv 4)), .int (nI (hv 5))]))] [.ref (t 0), .int (nI q), .int (nI n), .int (nI w)]) (QcRead (-3)) 0 0 (fun _ => False) := by
  refine Met.ofW (cc := cX6_tells) (maxL := 4) (ret := (some .int)) (by decide) rfl ?_
  intro p e s m args below meth c s₁ B hml hv
  obtain ⟨rfl, hP, hK, hN⟩ := hv
  have hx := B.exec
  have hb := B.bytes
  have hr := B.returns
  have hts := atoms_spec (ws := wsX6_tells) B.pre
  have hown : s.vm.findClass RX6 = some m.cls := findClass_of_methodNamed B.named
  have hlocks := B.notSynchronized
  have hl := lv_entry ([.ref (t 0), .int (nI q), .int (nI n), .int (nI w)]) (n := 4) (Nat.le_of_ble_eq_true rfl)
  rw [lg_entry_eq]
  generalize (lg_sl ([.ref (t 0), .int (nI q), .int (nI n), .int (nI w)]) ++ List.replicate (4 - (lg_sl ([.ref (t 0), .int (nI q), .int (nI n), .int (nI w)])).length) Slot.unset).toArray = ls at hl ⊢
  have hl : lv_has ls 4 [(0, .ref (t 0)), (1, .int (nI q)), (2, .int (nI n)), (3, .int (nI w))] := hl
  generalize ([.ref (t 0), .int (nI q), .int (nI n), .int (nI w)] : List Value).toArray = av at hts ⊢
  obtain ⟨Qc, hQc⟩ : ∃ Qc, Qc = (QcRead (-3)) := ⟨_, rfl⟩
  rw [← hQc]
  have f27 := hts (.fieldLink RX6 27 "KneesLent" "parish" "LKneesLent$Parish;") (by decide +kernel)
  have f51 := hts (.fieldLink RX6 51 "KneesLent" "hearsay" "LKneesLent$Hearsay;") (by decide +kernel)
  have f239 := hts (.fieldLink RX6 239 "KneesLent$Hearsay" "told" "I") (by decide +kernel)
  have hiX6 : ∀ w ∈ u_ws RX6 TX6 12, w ∈ wsX6_tells := by decide +kernel
  have hiX1 : ∀ w ∈ u_ws RX1 TX1 6, w ∈ wsX6_tells := by decide +kernel
  refine lv_aload_n hx hb dX6_tells_0 rfl (lv_at hl 0 rfl) ?_
  refine va_get (D := D) (ci := 6) (v := .ref (a 0)) (C := RX6) (T := TX6) (N := 12) hx hb hts hiX6 hown hK hP 0 rfl rfl 3 (by decide) f27 (fun _ h9 => h9) rfl dX6_tells_1 ?_
  refine lv_iload_n hx hb dX6_tells_4 rfl (lv_at hl 1 rfl) ?_
  have hPc_5 := hP.sub (ws' := [((a 0), .inr (4, [.int (nI (g 0 0)), .ref (a 1), .ref (a 2), .ref (a 3), .int (nI (g 0 1)), .ref (a 4), .ref (a 5), .ref (a 6), .ref (a 7), .ref (a 8), .ref (a 9), .int (nI (g 0 2))])), ((a 1), .inl (cI, 9, .inl (fun j => nI ((g 1) j)))), ((a 2), .inl (cI, 9, .inl (fun j => nI ((g 2) j)))), ((a 3), .inl (cI, 9, .inl (fun j => nI ((g 3) j)))), ((a 4), .inl (cI, 6, .inl (fun j => nI ((g 4) j)))), ((a 5), .inl (cI, 6, .inl (fun j => nI ((g 5) j)))), ((a 6), .inl (cI, 6, .inl (fun j => nI ((g 6) j)))), ((a 7), .inl (cI, 5, .inl (fun j => nI ((g 7) j)))), ((a 8), .inl (cI, 5, .inl (fun j => nI ((g 8) j)))), ((a 9), .inl (cI, 5, .inl (fun j => ly_h ((g 9) j))))]) [1, 2, 3, 4, 5, 6, 7, 8, 9, 10] rfl
  refine ly_r (va_runV (As := [.int (nI q)]) (rest := []) ⟨hx, hb, hml, hown, hts⟩ (c_X4_hasPerson l D cI cC cZ cN a g (nI q)) (cwV 1 hts gX6_tells_X4_hasPerson rfl rfl rfl (by decide +kernel) ⟨Nat.le_of_ble_eq_true rfl, Nat.le_of_ble_eq_true rfl⟩) (ly_pv hK hN hPc_5 0 4 rfl rfl rfl) rfl rfl hl.1 rfl (lv_room (Nat.le_of_ble_eq_true rfl)) dX6_tells_5 ⟨Nat.zero_le _, Nat.zero_le _⟩) ?_
  refine lv_if_eq (tgt := 31) hx hb dX6_tells_8 (by decide) (fun h_9 => absurd h_9 (jin_ix hp9 (by omega))) (fun _ => ?_)
  refine lv_iload_n hx hb dX6_tells_11 rfl (lv_at hl 2 rfl) ?_
  refine lv_iconst (v := 0) hx hb dX6_tells_12 (by decide) ?_
  refine lv_bipush (v := 40) hx hb dX6_tells_13 (by decide) ?_
  have hPc_15 := hP.sub (ws' := []) [] rfl
  refine ly_r (va_runS (As := [.int (nI n), .int 0, .int 40]) (rest := []) ⟨hx, hb, hml, hown, hts⟩ (c_X6_within l D cI cC cZ cN (nI n) 0 40) (va_cwS 3 hts gX6_tells_X6_within rfl rfl rfl (by decide +kernel) ⟨Nat.le_of_ble_eq_true rfl, Nat.le_of_ble_eq_true rfl⟩) (ly_ps hK hN hPc_15) rfl rfl hl.1 rfl (lv_room (Nat.le_of_ble_eq_true rfl)) dX6_tells_15 ⟨Nat.zero_le _, Nat.zero_le _⟩) ?_
  refine lv_if_eq (tgt := 31) hx hb dX6_tells_18 (by decide) (fun h_9 => absurd h_9 (jin_yes (b := 40) h1 (by omega))) (fun _ => ?_)
  refine lv_iload_n hx hb dX6_tells_21 rfl (lv_at hl 3 rfl) ?_
  refine lv_iconst (v := 0) hx hb dX6_tells_22 (by decide) ?_
  refine lv_bipush (v := 80) hx hb dX6_tells_23 (by decide) ?_
  have hPc_25 := hP.sub (ws' := []) [] rfl
  refine ly_r (va_runS (As := [.int (nI w), .int 0, .int 80]) (rest := []) ⟨hx, hb, hml, hown, hts⟩ (c_X6_within l D cI cC cZ cN (nI w) 0 80) (va_cwS 3 hts gX6_tells_X6_within rfl rfl rfl (by decide +kernel) ⟨Nat.le_of_ble_eq_true rfl, Nat.le_of_ble_eq_true rfl⟩) (ly_ps hK hN hPc_25) rfl rfl hl.1 rfl (lv_room (Nat.le_of_ble_eq_true rfl)) dX6_tells_25 ⟨Nat.zero_le _, Nat.zero_le _⟩) ?_
  refine lv_if_ne (tgt := 33) hx hb dX6_tells_28 (by decide) (fun _ => ?_) (fun h_9 => absurd h_9 (jin_yes (b := 80) h2 (by omega)))
  refine lv_aload_n hx hb dX6_tells_33 rfl (lv_at hl 0 rfl) ?_
  refine va_get (D := D) (ci := 6) (v := .ref (t 5)) (C := RX6) (T := TX6) (N := 12) hx hb hts hiX6 hown hK hP 0 rfl rfl 7 (by decide) f51 (fun _ h9 => h9) rfl dX6_tells_34 ?_
  refine va_get (D := D) (ci := 1) (v := .int (nI (hv 0))) (C := RX1) (T := TX1) (N := 6) hx hb hts hiX1 hown hK hP 11 rfl rfl 0 (by decide) f239 (fun _ h9 => h9) rfl dX6_tells_37 ?_
  refine lv_bipush (v := 6) hx hb dX6_tells_40 (by decide) ?_
  refine lv_icmp_lt (tgt := 48) hx hb dX6_tells_42 (by decide) (fun h_9 => absurd h_9 (nI_nlt (a := hv 0) (b := 6) (by omega) (by omega))) (fun _ => ?_)
  refine lv_bipush (v := (-3)) hx hb dX6_tells_45 (by decide) ?_
  exact W.iret (v := (-3)) hx hb hr (fun t_9 ht_9 _ => by rw [hQc]; exact ⟨rfl, ht_9⟩) t_nil dX6_tells_47

set_option maxHeartbeats 4000000 in
set_option maxRecDepth 100000 in
theorem c_X6_tells_g (l : Launch) (D : va_G) (cI cC cZ cN : ClassId) (t a2 b : Nat → Nat) (lt : Nat) (tr : Int64) (a : Nat → Nat) (g : Nat → Nat → Nat) (hv : Nat → Nat) (q n w : Nat) (hp9 : q < g 0 1) (hm6 : g 0 1 ≤ 6) (h1 : n ≤ 40) (h2 : w ≤ 80) (hf9 : hv 0 < 6) (hD0 : va_D (fun _ => True) [((t 0), .inr (6, [.ref (t 1), .int (nI lt), .ref (t 2), .ref (a 0), .ref (a2 0), .ref (b 0), .ref (t 4), .ref (t 5), .ref (t 6), .ref (t 7), .ref (t 8), .long tr])), ((a 0), .inr (4, [.int (nI (g 0 0)), .ref (a 1), .ref (a 2), .ref (a 3), .int (nI (g 0 1)), .ref (a 4), .ref (a 5), .ref (a 6), .ref (a 7), .ref (a 8), .ref (a 9), .int (nI (g 0 2))])), ((a 1), .inl (cI, 9, .inl (fun j => nI ((g 1) j)))), ((a 2), .inl (cI, 9, .inl (fun j => nI ((g 2) j)))), ((a 3), .inl (cI, 9, .inl (fun j => nI ((g 3) j)))), ((a 4), .inl (cI, 6, .inl (fun j => nI ((g 4) j)))), ((a 5), .inl (cI, 6, .inl (fun j => nI ((g 5) j)))), ((a 6), .inl (cI, 6, .inl (fun j => nI ((g 6) j)))), ((a 7), .inl (cI, 5, .inl (fun j => nI ((g 7) j)))), ((a 8), .inl (cI, 5, .inl (fun j => nI ((g 8) j)))), ((a 9), .inl (cI, 5, .inl (fun j => ly_h ((g 9) j)))), ((t 5), .inr (1, [.int (nI (hv 0)), .int (nI (hv 1)), .int (nI (hv 2)), .int (nI (hv 3)), .int (nI (hv 4)), .int (nI (hv 5))]))]) : Met l yX6_tells wsX6_tells (ly_rm 6) (ly_Pre D (ly_tys cI cC cZ cN) [((t 0), .inr (6, [.ref (t 1), .int (nI lt), .ref (t 2), .ref (a 0), .ref (a2 0), .ref (b 0), .ref (t 4), .ref (t 5), .ref (t 6), .ref (t 7), .ref (t 8), .long tr])), ((a 0), .inr (4, [.int (nI (g 0 0)), .ref (a 1), .ref (a 2), .ref (a 3), .int (nI (g 0 1)), .ref (a 4), .ref (a 5), .ref (a 6), .ref (a 7), .ref (a 8), .ref (a 9), .int (nI (g 0 2))])), ((a 1), .inl (cI, 9, .inl (fun j => nI ((g 1) j)))), ((a 2), .inl (cI, 9, .inl (fun j => nI ((g 2) j)))), ((a 3), .inl (cI, 9, .inl (fun j => nI ((g 3) j)))), ((a 4), .inl (cI, 6, .inl (fun j => nI ((g 4) j)))), ((a 5), .inl (cI, 6, .inl (fun j => nI ((g 5) j)))), ((a 6), .inl (cI, 6, .inl (fun j => nI ((g 6) j)))), ((a 7), .inl (cI, 5, .inl (fun j => nI ((g 7) j)))), ((a 8), .inl (cI, 5, .inl (fun j => nI ((g 8) j)))), ((a 9), .inl (cI, 5, .inl (fun j => ly_h ((g 9) j)))), ((t 5), .inr (1, [.int (nI (hv 0)), .int (nI (hv 1)), .int (nI (hv 2)), .int (nI (hv 3)), .int (nI (hv 4)), .int (nI (hv 5))]))] [.ref (t 0), .int (nI q), .int (nI n), .int (nI w)]) (ly_Q D [((t 0), .inr (6, [.ref (t 1), .int (nI lt), .ref (t 2), .ref (a 0), .ref (a2 0), .ref (b 0), .ref (t 4), .ref (t 5), .ref (t 6), .ref (t 7), .ref (t 8), .long tr])), ((a 0), .inr (4, [.int (nI (g 0 0)), .ref (a 1), .ref (a 2), .ref (a 3), .int (nI (g 0 1)), .ref (a 4), .ref (a 5), .ref (a 6), .ref (a 7), .ref (a 8), .ref (a 9), .int (nI (g 0 2))])), ((a 1), .inl (cI, 9, .inl (fun j => nI ((g 1) j)))), ((a 2), .inl (cI, 9, .inl (fun j => nI ((g 2) j)))), ((a 3), .inl (cI, 9, .inl (fun j => nI ((g 3) j)))), ((a 4), .inl (cI, 6, .inl (fun j => nI ((g 4) j)))), ((a 5), .inl (cI, 6, .inl (fun j => nI ((g 5) j)))), ((a 6), .inl (cI, 6, .inl (fun j => nI ((g 6) j)))), ((a 7), .inl (cI, 5, .inl (fun j => nI ((g 7) j)))), ((a 8), .inl (cI, 5, .inl (fun j => nI ((g 8) j)))), ((a 9), .inl (cI, 5, .inl (fun j => ly_h ((g 9) j)))), ((t 5), .inr (1, [.int (nI (hv 0)), .int (nI (hv 1)), .int (nI (hv 2)), .int (nI (hv 3)), .int (nI (hv 4)), .int (nI (hv 5))]))] (fun r_9 w_9 => r_9 = some (.int (nI (hv 0 + 1))) ∧ w_9 = [((t 0), .inr (6, [.ref (t 1), .int (nI lt), .ref (t 2), .ref (a 0), .ref (a2 0), .ref (b 0), .ref (t 4), .ref (t 5), .ref (t 6), .ref (t 7), .ref (t 8), .long tr])), ((a 0), .inr (4, [.int (nI (g 0 0)), .ref (a 1), .ref (a 2), .ref (a 3), .int (nI (g 0 1)), .ref (a 4), .ref (a 5), .ref (a 6), .ref (a 7), .ref (a 8), .ref (a 9), .int (nI (g 0 2))])), ((a 1), .inl (cI, 9, .inl (fun j => nI ((g 1) j)))), ((a 2), .inl (cI, 9, .inl (fun j => nI ((g 2) j)))), ((a 3), .inl (cI, 9, .inl (fun j => nI ((g 3) j)))), ((a 4), .inl (cI, 6, .inl (fun j => nI ((g 4) j)))), ((a 5), .inl (cI, 6, .inl (fun j => nI ((g 5) j)))), ((a 6), .inl (cI, 6, .inl (fun j => nI ((g 6) j)))), ((a 7), .inl (cI, 5, .inl (fun j => nI ((g 7) j)))), ((a 8), .inl (cI, 5, .inl (fun j => nI ((g 8) j)))), ((a 9), .inl (cI, 5, .inl (fun j => ly_h ((g 9) j)))), ((t 5), .inr (1, [.int (nI (hv 0 + 1)), .int (nI (if jin (nI w - nI n) 0 (nI n) = 0 then hv 1 else (if nI w - nI n ≤ 0 then hv 1 else hv 1 ||| 2 ^ q))), .int (nI (if jin (nI w - nI n) 0 (nI n) = 0 then hv 2 ||| 2 ^ q else hv 2)), .int (nI (hv 3)), .int (nI (hv 4)), .int (nI (hv 5))]))])) 0 0 (ly_in [((t 0), .inr (6, [.ref (t 1), .int (nI lt), .ref (t 2), .ref (a 0), .ref (a2 0), .ref (b 0), .ref (t 4), .ref (t 5), .ref (t 6), .ref (t 7), .ref (t 8), .long tr])), ((a 0), .inr (4, [.int (nI (g 0 0)), .ref (a 1), .ref (a 2), .ref (a 3), .int (nI (g 0 1)), .ref (a 4), .ref (a 5), .ref (a 6), .ref (a 7), .ref (a 8), .ref (a 9), .int (nI (g 0 2))])), ((a 1), .inl (cI, 9, .inl (fun j => nI ((g 1) j)))), ((a 2), .inl (cI, 9, .inl (fun j => nI ((g 2) j)))), ((a 3), .inl (cI, 9, .inl (fun j => nI ((g 3) j)))), ((a 4), .inl (cI, 6, .inl (fun j => nI ((g 4) j)))), ((a 5), .inl (cI, 6, .inl (fun j => nI ((g 5) j)))), ((a 6), .inl (cI, 6, .inl (fun j => nI ((g 6) j)))), ((a 7), .inl (cI, 5, .inl (fun j => nI ((g 7) j)))), ((a 8), .inl (cI, 5, .inl (fun j => nI ((g 8) j)))), ((a 9), .inl (cI, 5, .inl (fun j => ly_h ((g 9) j)))), ((t 5), .inr (1, [.int (nI (hv 0)), .int (nI (hv 1)), .int (nI (hv 2)), .int (nI (hv 3)), .int (nI (hv 4)), .int (nI (hv 5))]))]) := by
  refine Met.ofW (cc := cX6_tells) (maxL := 4) (ret := (some .int)) (by decide) rfl ?_
  intro p e s m args below meth c s₁ B hml hv
  obtain ⟨rfl, hP, hK, hN⟩ := hv
  have hx := B.exec
  have hb := B.bytes
  have hr := B.returns
  have hts := atoms_spec (ws := wsX6_tells) B.pre
  have hown : s.vm.findClass RX6 = some m.cls := findClass_of_methodNamed B.named
  have hlocks := B.notSynchronized
  have hl := lv_entry ([.ref (t 0), .int (nI q), .int (nI n), .int (nI w)]) (n := 4) (Nat.le_of_ble_eq_true rfl)
  rw [lg_entry_eq]
  generalize (lg_sl ([.ref (t 0), .int (nI q), .int (nI n), .int (nI w)]) ++ List.replicate (4 - (lg_sl ([.ref (t 0), .int (nI q), .int (nI n), .int (nI w)])).length) Slot.unset).toArray = ls at hl ⊢
  have hl : lv_has ls 4 [(0, .ref (t 0)), (1, .int (nI q)), (2, .int (nI n)), (3, .int (nI w))] := hl
  generalize ([.ref (t 0), .int (nI q), .int (nI n), .int (nI w)] : List Value).toArray = av at hts ⊢
  obtain ⟨Qc, hQc⟩ : ∃ Qc, Qc = (ly_Q D [((t 0), .inr (6, [.ref (t 1), .int (nI lt), .ref (t 2), .ref (a 0), .ref (a2 0), .ref (b 0), .ref (t 4), .ref (t 5), .ref (t 6), .ref (t 7), .ref (t 8), .long tr])), ((a 0), .inr (4, [.int (nI (g 0 0)), .ref (a 1), .ref (a 2), .ref (a 3), .int (nI (g 0 1)), .ref (a 4), .ref (a 5), .ref (a 6), .ref (a 7), .ref (a 8), .ref (a 9), .int (nI (g 0 2))])), ((a 1), .inl (cI, 9, .inl (fun j => nI ((g 1) j)))), ((a 2), .inl (cI, 9, .inl (fun j => nI ((g 2) j)))), ((a 3), .inl (cI, 9, .inl (fun j => nI ((g 3) j)))), ((a 4), .inl (cI, 6, .inl (fun j => nI ((g 4) j)))), ((a 5), .inl (cI, 6, .inl (fun j => nI ((g 5) j)))), ((a 6), .inl (cI, 6, .inl (fun j => nI ((g 6) j)))), ((a 7), .inl (cI, 5, .inl (fun j => nI ((g 7) j)))), ((a 8), .inl (cI, 5, .inl (fun j => nI ((g 8) j)))), ((a 9), .inl (cI, 5, .inl (fun j => ly_h ((g 9) j)))), ((t 5), .inr (1, [.int (nI (hv 0)), .int (nI (hv 1)), .int (nI (hv 2)), .int (nI (hv 3)), .int (nI (hv 4)), .int (nI (hv 5))]))] (fun r_9 w_9 => r_9 = some (.int (nI (hv 0 + 1))) ∧ w_9 = [((t 0), .inr (6, [.ref (t 1), .int (nI lt), .ref (t 2), .ref (a 0), .ref (a2 0), .ref (b 0), .ref (t 4), .ref (t 5), .ref (t 6), .ref (t 7), .ref (t 8), .long tr])), ((a 0), .inr (4, [.int (nI (g 0 0)), .ref (a 1), .ref (a 2), .ref (a 3), .int (nI (g 0 1)), .ref (a 4), .ref (a 5), .ref (a 6), .ref (a 7), .ref (a 8), .ref (a 9), .int (nI (g 0 2))])), ((a 1), .inl (cI, 9, .inl (fun j => nI ((g 1) j)))), ((a 2), .inl (cI, 9, .inl (fun j => nI ((g 2) j)))), ((a 3), .inl (cI, 9, .inl (fun j => nI ((g 3) j)))), ((a 4), .inl (cI, 6, .inl (fun j => nI ((g 4) j)))), ((a 5), .inl (cI, 6, .inl (fun j => nI ((g 5) j)))), ((a 6), .inl (cI, 6, .inl (fun j => nI ((g 6) j)))), ((a 7), .inl (cI, 5, .inl (fun j => nI ((g 7) j)))), ((a 8), .inl (cI, 5, .inl (fun j => nI ((g 8) j)))), ((a 9), .inl (cI, 5, .inl (fun j => ly_h ((g 9) j)))), ((t 5), .inr (1, [.int (nI (hv 0 + 1)), .int (nI (if jin (nI w - nI n) 0 (nI n) = 0 then hv 1 else (if nI w - nI n ≤ 0 then hv 1 else hv 1 ||| 2 ^ q))), .int (nI (if jin (nI w - nI n) 0 (nI n) = 0 then hv 2 ||| 2 ^ q else hv 2)), .int (nI (hv 3)), .int (nI (hv 4)), .int (nI (hv 5))]))])) := ⟨_, rfl⟩
  rw [← hQc]
  obtain ⟨A, hAe⟩ : ∃ A, A = ly_in [((t 0), .inr (6, [.ref (t 1), .int (nI lt), .ref (t 2), .ref (a 0), .ref (a2 0), .ref (b 0), .ref (t 4), .ref (t 5), .ref (t 6), .ref (t 7), .ref (t 8), .long tr])), ((a 0), .inr (4, [.int (nI (g 0 0)), .ref (a 1), .ref (a 2), .ref (a 3), .int (nI (g 0 1)), .ref (a 4), .ref (a 5), .ref (a 6), .ref (a 7), .ref (a 8), .ref (a 9), .int (nI (g 0 2))])), ((a 1), .inl (cI, 9, .inl (fun j => nI ((g 1) j)))), ((a 2), .inl (cI, 9, .inl (fun j => nI ((g 2) j)))), ((a 3), .inl (cI, 9, .inl (fun j => nI ((g 3) j)))), ((a 4), .inl (cI, 6, .inl (fun j => nI ((g 4) j)))), ((a 5), .inl (cI, 6, .inl (fun j => nI ((g 5) j)))), ((a 6), .inl (cI, 6, .inl (fun j => nI ((g 6) j)))), ((a 7), .inl (cI, 5, .inl (fun j => nI ((g 7) j)))), ((a 8), .inl (cI, 5, .inl (fun j => nI ((g 8) j)))), ((a 9), .inl (cI, 5, .inl (fun j => ly_h ((g 9) j)))), ((t 5), .inr (1, [.int (nI (hv 0)), .int (nI (hv 1)), .int (nI (hv 2)), .int (nI (hv 3)), .int (nI (hv 4)), .int (nI (hv 5))]))] := ⟨_, rfl⟩
  rw [← hAe]
  have hD := ly_self hD0
  rw [← hAe] at hD
  have f27 := hts (.fieldLink RX6 27 "KneesLent" "parish" "LKneesLent$Parish;") (by decide +kernel)
  have f51 := hts (.fieldLink RX6 51 "KneesLent" "hearsay" "LKneesLent$Hearsay;") (by decide +kernel)
  have f239 := hts (.fieldLink RX6 239 "KneesLent$Hearsay" "told" "I") (by decide +kernel)
  have hiX6 : ∀ w ∈ u_ws RX6 TX6 12, w ∈ wsX6_tells := by decide +kernel
  have hiX1 : ∀ w ∈ u_ws RX1 TX1 6, w ∈ wsX6_tells := by decide +kernel
  have hmain : ∀ (H : Heap) (locs : List Loc), va_P D vwCl [((t 0), .inr (6, [.ref (t 1), .int (nI lt), .ref (t 2), .ref (a 0), .ref (a2 0), .ref (b 0), .ref (t 4), .ref (t 5), .ref (t 6), .ref (t 7), .ref (t 8), .long tr])), ((a 0), .inr (4, [.int (nI (g 0 0)), .ref (a 1), .ref (a 2), .ref (a 3), .int (nI (g 0 1)), .ref (a 4), .ref (a 5), .ref (a 6), .ref (a 7), .ref (a 8), .ref (a 9), .int (nI (g 0 2))])), ((a 1), .inl (cI, 9, .inl (fun j => nI ((g 1) j)))), ((a 2), .inl (cI, 9, .inl (fun j => nI ((g 2) j)))), ((a 3), .inl (cI, 9, .inl (fun j => nI ((g 3) j)))), ((a 4), .inl (cI, 6, .inl (fun j => nI ((g 4) j)))), ((a 5), .inl (cI, 6, .inl (fun j => nI ((g 5) j)))), ((a 6), .inl (cI, 6, .inl (fun j => nI ((g 6) j)))), ((a 7), .inl (cI, 5, .inl (fun j => nI ((g 7) j)))), ((a 8), .inl (cI, 5, .inl (fun j => nI ((g 8) j)))), ((a 9), .inl (cI, 5, .inl (fun j => ly_h ((g 9) j)))), ((t 5), .inr (1, [.int (nI (hv 0)), .int (nI (hv 1)), .int (nI (hv 2)), .int (nI (hv 3)), .int (nI (hv 4)), .int (nI (hv 5))]))] H → va_S A s.heap H locs → W p l e (headSpec wsX6_tells (ly_rm 6)).room s m av below meth c H locs 0 0 (MQ below Qc av s 0 0 A) (F0 m 0 ls []) := by
    intro H locs hP hS
    refine lv_aload_n hx hb dX6_tells_0 rfl (lv_at hl 0 rfl) ?_
    refine va_get (D := D) (ci := 6) (v := .ref (a 0)) (C := RX6) (T := TX6) (N := 12) hx hb hts hiX6 hown hK hP 0 rfl rfl 3 (by decide) f27 (fun _ h9 => h9) rfl dX6_tells_1 ?_
    refine lv_iload_n hx hb dX6_tells_4 rfl (lv_at hl 1 rfl) ?_
    have hPc_5 := hP.sub (ws' := [((a 0), .inr (4, [.int (nI (g 0 0)), .ref (a 1), .ref (a 2), .ref (a 3), .int (nI (g 0 1)), .ref (a 4), .ref (a 5), .ref (a 6), .ref (a 7), .ref (a 8), .ref (a 9), .int (nI (g 0 2))])), ((a 1), .inl (cI, 9, .inl (fun j => nI ((g 1) j)))), ((a 2), .inl (cI, 9, .inl (fun j => nI ((g 2) j)))), ((a 3), .inl (cI, 9, .inl (fun j => nI ((g 3) j)))), ((a 4), .inl (cI, 6, .inl (fun j => nI ((g 4) j)))), ((a 5), .inl (cI, 6, .inl (fun j => nI ((g 5) j)))), ((a 6), .inl (cI, 6, .inl (fun j => nI ((g 6) j)))), ((a 7), .inl (cI, 5, .inl (fun j => nI ((g 7) j)))), ((a 8), .inl (cI, 5, .inl (fun j => nI ((g 8) j)))), ((a 9), .inl (cI, 5, .inl (fun j => ly_h ((g 9) j))))]) [1, 2, 3, 4, 5, 6, 7, 8, 9, 10] rfl
    refine ly_r (va_runV (As := [.int (nI q)]) (rest := []) ⟨hx, hb, hml, hown, hts⟩ (c_X4_hasPerson l D cI cC cZ cN a g (nI q)) (cwV 1 hts gX6_tells_X4_hasPerson rfl rfl rfl (by decide +kernel) ⟨Nat.le_of_ble_eq_true rfl, Nat.le_of_ble_eq_true rfl⟩) (ly_pv hK hN hPc_5 0 4 rfl rfl rfl) rfl rfl hl.1 rfl (lv_room (Nat.le_of_ble_eq_true rfl)) dX6_tells_5 ⟨Nat.zero_le _, Nat.zero_le _⟩) ?_
    refine lv_if_eq (tgt := 31) hx hb dX6_tells_8 (by decide) (fun h_9 => absurd h_9 (jin_ix hp9 (by omega))) (fun _ => ?_)
    refine lv_iload_n hx hb dX6_tells_11 rfl (lv_at hl 2 rfl) ?_
    refine lv_iconst (v := 0) hx hb dX6_tells_12 (by decide) ?_
    refine lv_bipush (v := 40) hx hb dX6_tells_13 (by decide) ?_
    have hPc_15 := hP.sub (ws' := []) [] rfl
    refine ly_r (va_runS (As := [.int (nI n), .int 0, .int 40]) (rest := []) ⟨hx, hb, hml, hown, hts⟩ (c_X6_within l D cI cC cZ cN (nI n) 0 40) (va_cwS 3 hts gX6_tells_X6_within rfl rfl rfl (by decide +kernel) ⟨Nat.le_of_ble_eq_true rfl, Nat.le_of_ble_eq_true rfl⟩) (ly_ps hK hN hPc_15) rfl rfl hl.1 rfl (lv_room (Nat.le_of_ble_eq_true rfl)) dX6_tells_15 ⟨Nat.zero_le _, Nat.zero_le _⟩) ?_
    refine lv_if_eq (tgt := 31) hx hb dX6_tells_18 (by decide) (fun h_9 => absurd h_9 (jin_yes (b := 40) h1 (by omega))) (fun _ => ?_)
    refine lv_iload_n hx hb dX6_tells_21 rfl (lv_at hl 3 rfl) ?_
    refine lv_iconst (v := 0) hx hb dX6_tells_22 (by decide) ?_
    refine lv_bipush (v := 80) hx hb dX6_tells_23 (by decide) ?_
    have hPc_25 := hP.sub (ws' := []) [] rfl
    refine ly_r (va_runS (As := [.int (nI w), .int 0, .int 80]) (rest := []) ⟨hx, hb, hml, hown, hts⟩ (c_X6_within l D cI cC cZ cN (nI w) 0 80) (va_cwS 3 hts gX6_tells_X6_within rfl rfl rfl (by decide +kernel) ⟨Nat.le_of_ble_eq_true rfl, Nat.le_of_ble_eq_true rfl⟩) (ly_ps hK hN hPc_25) rfl rfl hl.1 rfl (lv_room (Nat.le_of_ble_eq_true rfl)) dX6_tells_25 ⟨Nat.zero_le _, Nat.zero_le _⟩) ?_
    refine lv_if_ne (tgt := 33) hx hb dX6_tells_28 (by decide) (fun _ => ?_) (fun h_9 => absurd h_9 (jin_yes (b := 80) h2 (by omega)))
    refine lv_aload_n hx hb dX6_tells_33 rfl (lv_at hl 0 rfl) ?_
    refine va_get (D := D) (ci := 6) (v := .ref (t 5)) (C := RX6) (T := TX6) (N := 12) hx hb hts hiX6 hown hK hP 0 rfl rfl 7 (by decide) f51 (fun _ h9 => h9) rfl dX6_tells_34 ?_
    refine va_get (D := D) (ci := 1) (v := .int (nI (hv 0))) (C := RX1) (T := TX1) (N := 6) hx hb hts hiX1 hown hK hP 11 rfl rfl 0 (by decide) f239 (fun _ h9 => h9) rfl dX6_tells_37 ?_
    refine lv_bipush (v := 6) hx hb dX6_tells_40 (by decide) ?_
    refine lv_icmp_lt (tgt := 48) hx hb dX6_tells_42 (by decide) (fun _ => ?_) (fun h_9 => absurd (nI_lt (a := hv 0) (b := 6) (by omega) (by omega)) h_9)
    refine lv_aload_n hx hb dX6_tells_48 rfl (lv_at hl 0 rfl) ?_
    refine va_get (D := D) (ci := 6) (v := .ref (t 5)) (C := RX6) (T := TX6) (N := 12) hx hb hts hiX6 hown hK hP 0 rfl rfl 7 (by decide) f51 (fun _ h9 => h9) rfl dX6_tells_49 ?_
    refine lv_iload_n hx hb dX6_tells_52 rfl (lv_at hl 1 rfl) ?_
    refine lv_iload_n hx hb dX6_tells_53 rfl (lv_at hl 2 rfl) ?_
    refine lv_iload_n hx hb dX6_tells_54 rfl (lv_at hl 3 rfl) ?_
    have hPc_55 := hP.sub (ws' := [((t 5), .inr (1, [.int (nI (hv 0)), .int (nI (hv 1)), .int (nI (hv 2)), .int (nI (hv 3)), .int (nI (hv 4)), .int (nI (hv 5))]))]) [11] rfl
    refine ly_m (wr := [((t 0), .inr (6, [.ref (t 1), .int (nI lt), .ref (t 2), .ref (a 0), .ref (a2 0), .ref (b 0), .ref (t 4), .ref (t 5), .ref (t 6), .ref (t 7), .ref (t 8), .long tr])), ((a 0), .inr (4, [.int (nI (g 0 0)), .ref (a 1), .ref (a 2), .ref (a 3), .int (nI (g 0 1)), .ref (a 4), .ref (a 5), .ref (a 6), .ref (a 7), .ref (a 8), .ref (a 9), .int (nI (g 0 2))])), ((a 1), .inl (cI, 9, .inl (fun j => nI ((g 1) j)))), ((a 2), .inl (cI, 9, .inl (fun j => nI ((g 2) j)))), ((a 3), .inl (cI, 9, .inl (fun j => nI ((g 3) j)))), ((a 4), .inl (cI, 6, .inl (fun j => nI ((g 4) j)))), ((a 5), .inl (cI, 6, .inl (fun j => nI ((g 5) j)))), ((a 6), .inl (cI, 6, .inl (fun j => nI ((g 6) j)))), ((a 7), .inl (cI, 5, .inl (fun j => nI ((g 7) j)))), ((a 8), .inl (cI, 5, .inl (fun j => nI ((g 8) j)))), ((a 9), .inl (cI, 5, .inl (fun j => ly_h ((g 9) j))))]) (va_runV (As := [.int (nI q), .int (nI n), .int (nI w)]) (rest := []) ⟨hx, hb, hml, hown, hts⟩ (c_X1_hearSteps l D cI cC cZ cN t hv q n w (by omega) ((hD.sub [11] (by decide) rfl).weaken (fun _ _ _ _ => trivial))) (cwV 3 hts gX6_tells_X1_hearSteps rfl rfl rfl (by decide +kernel) ⟨Nat.le_of_ble_eq_true rfl, Nat.le_of_ble_eq_true rfl⟩) (ly_pv hK hN hPc_55 0 1 rfl rfl rfl) rfl rfl hl.1 rfl (lv_room (Nat.le_of_ble_eq_true rfl)) dX6_tells_55 ⟨Nat.zero_le _, Nat.zero_le _⟩) hP hD hS [11] [0, 1, 2, 3, 4, 5, 6, 7, 8, 9, 10] rfl rfl (by decide) ?_
    rintro _ _ H locs ⟨rfl, rfl⟩ - hP hD hS
    have hP : va_P D vwCl [((t 0), .inr (6, [.ref (t 1), .int (nI lt), .ref (t 2), .ref (a 0), .ref (a2 0), .ref (b 0), .ref (t 4), .ref (t 5), .ref (t 6), .ref (t 7), .ref (t 8), .long tr])), ((a 0), .inr (4, [.int (nI (g 0 0)), .ref (a 1), .ref (a 2), .ref (a 3), .int (nI (g 0 1)), .ref (a 4), .ref (a 5), .ref (a 6), .ref (a 7), .ref (a 8), .ref (a 9), .int (nI (g 0 2))])), ((a 1), .inl (cI, 9, .inl (fun j => nI ((g 1) j)))), ((a 2), .inl (cI, 9, .inl (fun j => nI ((g 2) j)))), ((a 3), .inl (cI, 9, .inl (fun j => nI ((g 3) j)))), ((a 4), .inl (cI, 6, .inl (fun j => nI ((g 4) j)))), ((a 5), .inl (cI, 6, .inl (fun j => nI ((g 5) j)))), ((a 6), .inl (cI, 6, .inl (fun j => nI ((g 6) j)))), ((a 7), .inl (cI, 5, .inl (fun j => nI ((g 7) j)))), ((a 8), .inl (cI, 5, .inl (fun j => nI ((g 8) j)))), ((a 9), .inl (cI, 5, .inl (fun j => ly_h ((g 9) j)))), ((t 5), .inr (1, [.int (nI (hv 0 + 1)), .int (nI (if jin (nI w - nI n) 0 (nI n) = 0 then hv 1 else (if nI w - nI n ≤ 0 then hv 1 else hv 1 ||| 2 ^ q))), .int (nI (if jin (nI w - nI n) 0 (nI n) = 0 then hv 2 ||| 2 ^ q else hv 2)), .int (nI (hv 3)), .int (nI (hv 4)), .int (nI (hv 5))]))] H := hP
    have hD : va_D A [((t 0), .inr (6, [.ref (t 1), .int (nI lt), .ref (t 2), .ref (a 0), .ref (a2 0), .ref (b 0), .ref (t 4), .ref (t 5), .ref (t 6), .ref (t 7), .ref (t 8), .long tr])), ((a 0), .inr (4, [.int (nI (g 0 0)), .ref (a 1), .ref (a 2), .ref (a 3), .int (nI (g 0 1)), .ref (a 4), .ref (a 5), .ref (a 6), .ref (a 7), .ref (a 8), .ref (a 9), .int (nI (g 0 2))])), ((a 1), .inl (cI, 9, .inl (fun j => nI ((g 1) j)))), ((a 2), .inl (cI, 9, .inl (fun j => nI ((g 2) j)))), ((a 3), .inl (cI, 9, .inl (fun j => nI ((g 3) j)))), ((a 4), .inl (cI, 6, .inl (fun j => nI ((g 4) j)))), ((a 5), .inl (cI, 6, .inl (fun j => nI ((g 5) j)))), ((a 6), .inl (cI, 6, .inl (fun j => nI ((g 6) j)))), ((a 7), .inl (cI, 5, .inl (fun j => nI ((g 7) j)))), ((a 8), .inl (cI, 5, .inl (fun j => nI ((g 8) j)))), ((a 9), .inl (cI, 5, .inl (fun j => ly_h ((g 9) j)))), ((t 5), .inr (1, [.int (nI (hv 0 + 1)), .int (nI (if jin (nI w - nI n) 0 (nI n) = 0 then hv 1 else (if nI w - nI n ≤ 0 then hv 1 else hv 1 ||| 2 ^ q))), .int (nI (if jin (nI w - nI n) 0 (nI n) = 0 then hv 2 ||| 2 ^ q else hv 2)), .int (nI (hv 3)), .int (nI (hv 4)), .int (nI (hv 5))]))] := hD
    refine W.eq (g2 := F0 m 58 ls []) rfl ?_
    refine lv_aload_n hx hb dX6_tells_58 rfl (lv_at hl 0 rfl) ?_
    refine va_get (D := D) (ci := 6) (v := .ref (t 5)) (C := RX6) (T := TX6) (N := 12) hx hb hts hiX6 hown hK hP 0 rfl rfl 7 (by decide) f51 (fun _ h9 => h9) rfl dX6_tells_59 ?_
    refine va_get (D := D) (ci := 1) (v := .int (nI (hv 0 + 1))) (C := RX1) (T := TX1) (N := 6) hx hb hts hiX1 hown hK hP 11 rfl rfl 0 (by decide) f239 (fun _ h9 => h9) rfl dX6_tells_62 ?_
    exact W.iret (v := (nI (hv 0 + 1))) hx hb hr (fun t_9 ht_9 _ => by rw [hQc]; exact ⟨_, [((t 0), .inr (6, [.ref (t 1), .int (nI lt), .ref (t 2), .ref (a 0), .ref (a2 0), .ref (b 0), .ref (t 4), .ref (t 5), .ref (t 6), .ref (t 7), .ref (t 8), .long tr])), ((a 0), .inr (4, [.int (nI (g 0 0)), .ref (a 1), .ref (a 2), .ref (a 3), .int (nI (g 0 1)), .ref (a 4), .ref (a 5), .ref (a 6), .ref (a 7), .ref (a 8), .ref (a 9), .int (nI (g 0 2))])), ((a 1), .inl (cI, 9, .inl (fun j => nI ((g 1) j)))), ((a 2), .inl (cI, 9, .inl (fun j => nI ((g 2) j)))), ((a 3), .inl (cI, 9, .inl (fun j => nI ((g 3) j)))), ((a 4), .inl (cI, 6, .inl (fun j => nI ((g 4) j)))), ((a 5), .inl (cI, 6, .inl (fun j => nI ((g 5) j)))), ((a 6), .inl (cI, 6, .inl (fun j => nI ((g 6) j)))), ((a 7), .inl (cI, 5, .inl (fun j => nI ((g 7) j)))), ((a 8), .inl (cI, 5, .inl (fun j => nI ((g 8) j)))), ((a 9), .inl (cI, 5, .inl (fun j => ly_h ((g 9) j)))), ((t 5), .inr (1, [.int (nI (hv 0 + 1)), .int (nI (if jin (nI w - nI n) 0 (nI n) = 0 then hv 1 else (if nI w - nI n ≤ 0 then hv 1 else hv 1 ||| 2 ^ q))), .int (nI (if jin (nI w - nI n) 0 (nI n) = 0 then hv 2 ||| 2 ^ q else hv 2)), .int (nI (hv 3)), .int (nI (hv 4)), .int (nI (hv 5))]))], rfl, ⟨rfl, rfl⟩, by simp only [List.map_cons, List.map_nil], by rw [ht_9]; exact hP.sub [0, 1, 2, 3, 4, 5, 6, 7, 8, 9, 10, 11] rfl, by rw [← hAe]; exact hS.F ht_9⟩) hS.2.2 dX6_tells_65
  exact hmain _ _ hP va_S.rf

set_option maxHeartbeats 4000000 in
set_option maxRecDepth 100000 in
theorem c_X6_felt_b (l : Launch) (D : va_G) (cI cC cZ cN : ClassId) (t a2 a b : Nat → Nat) (lt : Nat) (tr : Int64) (hv : Nat → Nat) (x y : Int32) (hb9 : jin x 0 4 = 0 ∨ jin y 0 1 = 0) : Met l yX6_felt wsX6_felt (ly_rm 6) (ly_Pre D (ly_tys cI cC cZ cN) [((t 0), .inr (6, [.ref (t 1), .int (nI lt), .ref (t 2), .ref (a 0), .ref (a2 0), .ref (b 0), .ref (t 4), .ref (t 5), .ref (t 6), .ref (t 7), .ref (t 8), .long tr])), ((t 5), .inr (1, [.int (nI (hv 0)), .int (nI (hv 1)), .int (nI (hv 2)), .int (nI (hv 3)), .int (nI (hv 4)), .int (nI (hv 5))]))] [.ref (t 0), .int x, .int y]) (QcRead (-1)) 0 0 (fun _ => False) := by
  refine Met.ofW (cc := cX6_felt) (maxL := 3) (ret := (some .int)) (by decide) rfl ?_
  intro p e s m args below meth c s₁ B hml hv
  obtain ⟨rfl, hP, hK, hN⟩ := hv
  have hx := B.exec
  have hb := B.bytes
  have hr := B.returns
  have hts := atoms_spec (ws := wsX6_felt) B.pre
  have hown : s.vm.findClass RX6 = some m.cls := findClass_of_methodNamed B.named
  have hlocks := B.notSynchronized
  have hl := lv_entry ([.ref (t 0), .int x, .int y]) (n := 3) (Nat.le_of_ble_eq_true rfl)
  rw [lg_entry_eq]
  generalize (lg_sl ([.ref (t 0), .int x, .int y]) ++ List.replicate (3 - (lg_sl ([.ref (t 0), .int x, .int y])).length) Slot.unset).toArray = ls at hl ⊢
  have hl : lv_has ls 3 [(0, .ref (t 0)), (1, .int x), (2, .int y)] := hl
  generalize ([.ref (t 0), .int x, .int y] : List Value).toArray = av at hts ⊢
  obtain ⟨Qc, hQc⟩ : ∃ Qc, Qc = (QcRead (-1)) := ⟨_, rfl⟩
  rw [← hQc]
  refine lv_iload_n hx hb dX6_felt_0 rfl (lv_at hl 1 rfl) ?_
  refine lv_iconst (v := 0) hx hb dX6_felt_1 (by decide) ?_
  refine lv_iconst (v := 4) hx hb dX6_felt_2 (by decide) ?_
  have hPc_3 := hP.sub (ws' := []) [] rfl
  refine ly_r (va_runS (As := [.int x, .int 0, .int 4]) (rest := []) ⟨hx, hb, hml, hown, hts⟩ (c_X6_within l D cI cC cZ cN x 0 4) (va_cwS 3 hts gX6_felt_X6_within rfl rfl rfl (by decide +kernel) ⟨Nat.le_of_ble_eq_true rfl, Nat.le_of_ble_eq_true rfl⟩) (ly_ps hK hN hPc_3) rfl rfl hl.1 rfl (lv_room (Nat.le_of_ble_eq_true rfl)) dX6_felt_3 ⟨Nat.zero_le _, Nat.zero_le _⟩) ?_
  refine lv_if_eq (tgt := 18) hx hb dX6_felt_6 (by decide) (fun c_1 => ?_) (fun c_1 => ?_)
  · refine lv_iconst (v := (-1)) hx hb dX6_felt_18 (by decide) ?_
    exact W.iret (v := (-1)) hx hb hr (fun t_9 ht_9 _ => by rw [hQc]; exact ⟨rfl, ht_9⟩) t_nil dX6_felt_19
  · refine lv_iload_n hx hb dX6_felt_9 rfl (lv_at hl 2 rfl) ?_
    refine lv_iconst (v := 0) hx hb dX6_felt_10 (by decide) ?_
    refine lv_iconst (v := 1) hx hb dX6_felt_11 (by decide) ?_
    have hPc_12 := hP.sub (ws' := []) [] rfl
    refine ly_r (va_runS (As := [.int y, .int 0, .int 1]) (rest := []) ⟨hx, hb, hml, hown, hts⟩ (c_X6_within l D cI cC cZ cN y 0 1) (va_cwS 3 hts gX6_felt_X6_within rfl rfl rfl (by decide +kernel) ⟨Nat.le_of_ble_eq_true rfl, Nat.le_of_ble_eq_true rfl⟩) (ly_ps hK hN hPc_12) rfl rfl hl.1 rfl (lv_room (Nat.le_of_ble_eq_true rfl)) dX6_felt_12 ⟨Nat.zero_le _, Nat.zero_le _⟩) ?_
    refine lv_if_ne (tgt := 20) hx hb dX6_felt_15 (by decide) (fun c_2 => ?_) (fun c_2 => ?_)
    · rcases hb9 with h_9 | h_9 <;> exact absurd h_9 (by assumption)
    · refine lv_iconst (v := (-1)) hx hb dX6_felt_18 (by decide) ?_
      exact W.iret (v := (-1)) hx hb hr (fun t_9 ht_9 _ => by rw [hQc]; exact ⟨rfl, ht_9⟩) t_nil dX6_felt_19

set_option maxHeartbeats 4000000 in
set_option maxRecDepth 100000 in
theorem c_X6_felt_f0 (l : Launch) (D : va_G) (cI cC cZ cN : ClassId) (t a2 a b : Nat → Nat) (lt : Nat) (tr : Int64) (hv : Nat → Nat) (f : Nat) (hf5 : f < 5) (hf9 : hv 3 = 5) : Met l yX6_felt wsX6_felt (ly_rm 5) (ly_Pre D (ly_tys cI cC cZ cN) [((t 0), .inr (6, [.ref (t 1), .int (nI lt), .ref (t 2), .ref (a 0), .ref (a2 0), .ref (b 0), .ref (t 4), .ref (t 5), .ref (t 6), .ref (t 7), .ref (t 8), .long tr])), ((t 5), .inr (1, [.int (nI (hv 0)), .int (nI (hv 1)), .int (nI (hv 2)), .int (nI (hv 3)), .int (nI (hv 4)), .int (nI (hv 5))]))] [.ref (t 0), .int (nI f), .int (nI 0)]) (QcRead (-3)) 0 0 (fun _ => False) := by
  refine Met.ofW (cc := cX6_felt) (maxL := 3) (ret := (some .int)) (by decide) rfl ?_
  intro p e s m args below meth c s₁ B hml hv
  obtain ⟨rfl, hP, hK, hN⟩ := hv
  have hx := B.exec
  have hb := B.bytes
  have hr := B.returns
  have hts := atoms_spec (ws := wsX6_felt) B.pre
  have hown : s.vm.findClass RX6 = some m.cls := findClass_of_methodNamed B.named
  have hlocks := B.notSynchronized
  have hl := lv_entry ([.ref (t 0), .int (nI f), .int (nI 0)]) (n := 3) (Nat.le_of_ble_eq_true rfl)
  rw [lg_entry_eq]
  generalize (lg_sl ([.ref (t 0), .int (nI f), .int (nI 0)]) ++ List.replicate (3 - (lg_sl ([.ref (t 0), .int (nI f), .int (nI 0)])).length) Slot.unset).toArray = ls at hl ⊢
  have hl : lv_has ls 3 [(0, .ref (t 0)), (1, .int (nI f)), (2, .int (nI 0))] := hl
  generalize ([.ref (t 0), .int (nI f), .int (nI 0)] : List Value).toArray = av at hts ⊢
  obtain ⟨Qc, hQc⟩ : ∃ Qc, Qc = (QcRead (-3)) := ⟨_, rfl⟩
  rw [← hQc]
  have f51 := hts (.fieldLink RX6 51 "KneesLent" "hearsay" "LKneesLent$Hearsay;") (by decide +kernel)
  have f252 := hts (.fieldLink RX6 252 "KneesLent$Hearsay" "felt" "I") (by decide +kernel)
  have hiX6 : ∀ w ∈ u_ws RX6 TX6 12, w ∈ wsX6_felt := by decide +kernel
  have hiX1 : ∀ w ∈ u_ws RX1 TX1 6, w ∈ wsX6_felt := by decide +kernel
  refine lv_iload_n hx hb dX6_felt_0 rfl (lv_at hl 1 rfl) ?_
  refine lv_iconst (v := 0) hx hb dX6_felt_1 (by decide) ?_
  refine lv_iconst (v := 4) hx hb dX6_felt_2 (by decide) ?_
  have hPc_3 := hP.sub (ws' := []) [] rfl
  refine ly_r (va_runS (As := [.int (nI f), .int 0, .int 4]) (rest := []) ⟨hx, hb, hml, hown, hts⟩ (c_X6_within l D cI cC cZ cN (nI f) 0 4) (va_cwS 3 hts gX6_felt_X6_within rfl rfl rfl (by decide +kernel) ⟨Nat.le_of_ble_eq_true rfl, Nat.le_of_ble_eq_true rfl⟩) (ly_ps hK hN hPc_3) rfl rfl hl.1 rfl (lv_room (Nat.le_of_ble_eq_true rfl)) dX6_felt_3 ⟨Nat.zero_le _, Nat.zero_le _⟩) ?_
  refine lv_if_eq (tgt := 18) hx hb dX6_felt_6 (by decide) (fun h_9 => absurd h_9 (jin_yes (b := 4) (by omega) (by omega))) (fun _ => ?_)
  refine lv_iload_n hx hb dX6_felt_9 rfl (lv_at hl 2 rfl) ?_
  refine lv_iconst (v := 0) hx hb dX6_felt_10 (by decide) ?_
  refine lv_iconst (v := 1) hx hb dX6_felt_11 (by decide) ?_
  have hPc_12 := hP.sub (ws' := []) [] rfl
  refine ly_r (va_runS (As := [.int (nI 0), .int 0, .int 1]) (rest := []) ⟨hx, hb, hml, hown, hts⟩ (c_X6_within l D cI cC cZ cN (nI 0) 0 1) (va_cwS 3 hts gX6_felt_X6_within rfl rfl rfl (by decide +kernel) ⟨Nat.le_of_ble_eq_true rfl, Nat.le_of_ble_eq_true rfl⟩) (ly_ps hK hN hPc_12) rfl rfl hl.1 rfl (lv_room (Nat.le_of_ble_eq_true rfl)) dX6_felt_12 ⟨Nat.zero_le _, Nat.zero_le _⟩) ?_
  refine lv_if_ne (tgt := 20) hx hb dX6_felt_15 (by decide) (fun _ => ?_) (fun h_9 => absurd h_9 (jin_yes (b := 1) (by omega) (by omega)))
  refine lv_aload_n hx hb dX6_felt_20 rfl (lv_at hl 0 rfl) ?_
  refine va_get (D := D) (ci := 6) (v := .ref (t 5)) (C := RX6) (T := TX6) (N := 12) hx hb hts hiX6 hown hK hP 0 rfl rfl 7 (by decide) f51 (fun _ h9 => h9) rfl dX6_felt_21 ?_
  refine va_get (D := D) (ci := 1) (v := .int (nI (hv 3))) (C := RX1) (T := TX1) (N := 6) hx hb hts hiX1 hown hK hP 1 rfl rfl 3 (by decide) f252 (fun _ h9 => h9) rfl dX6_felt_24 ?_
  refine lv_iconst (v := 5) hx hb dX6_felt_27 (by decide) ?_
  refine lv_icmp_lt (tgt := 34) hx hb dX6_felt_28 (by decide) (fun h_9 => absurd h_9 (nI_nlt (a := hv 3) (b := 5) (by omega) (by omega))) (fun _ => ?_)
  refine lv_bipush (v := (-3)) hx hb dX6_felt_31 (by decide) ?_
  exact W.iret (v := (-3)) hx hb hr (fun t_9 ht_9 _ => by rw [hQc]; exact ⟨rfl, ht_9⟩) t_nil dX6_felt_33

set_option maxHeartbeats 4000000 in
set_option maxRecDepth 100000 in
theorem c_X6_felt_g0 (l : Launch) (D : va_G) (cI cC cZ cN : ClassId) (t a2 a b : Nat → Nat) (lt : Nat) (tr : Int64) (hv : Nat → Nat) (f : Nat) (hf5 : f < 5) (hf9 : hv 3 < 5) (hD0 : va_D (fun _ => True) [((t 0), .inr (6, [.ref (t 1), .int (nI lt), .ref (t 2), .ref (a 0), .ref (a2 0), .ref (b 0), .ref (t 4), .ref (t 5), .ref (t 6), .ref (t 7), .ref (t 8), .long tr])), ((t 5), .inr (1, [.int (nI (hv 0)), .int (nI (hv 1)), .int (nI (hv 2)), .int (nI (hv 3)), .int (nI (hv 4)), .int (nI (hv 5))]))]) : Met l yX6_felt wsX6_felt (ly_rm 6) (ly_Pre D (ly_tys cI cC cZ cN) [((t 0), .inr (6, [.ref (t 1), .int (nI lt), .ref (t 2), .ref (a 0), .ref (a2 0), .ref (b 0), .ref (t 4), .ref (t 5), .ref (t 6), .ref (t 7), .ref (t 8), .long tr])), ((t 5), .inr (1, [.int (nI (hv 0)), .int (nI (hv 1)), .int (nI (hv 2)), .int (nI (hv 3)), .int (nI (hv 4)), .int (nI (hv 5))]))] [.ref (t 0), .int (nI f), .int (nI 0)]) (ly_Q D [((t 0), .inr (6, [.ref (t 1), .int (nI lt), .ref (t 2), .ref (a 0), .ref (a2 0), .ref (b 0), .ref (t 4), .ref (t 5), .ref (t 6), .ref (t 7), .ref (t 8), .long tr])), ((t 5), .inr (1, [.int (nI (hv 0)), .int (nI (hv 1)), .int (nI (hv 2)), .int (nI (hv 3)), .int (nI (hv 4)), .int (nI (hv 5))]))] (fun r_9 w_9 => r_9 = some (.int (nI (hv 3 + 1))) ∧ w_9 = [((t 0), .inr (6, [.ref (t 1), .int (nI lt), .ref (t 2), .ref (a 0), .ref (a2 0), .ref (b 0), .ref (t 4), .ref (t 5), .ref (t 6), .ref (t 7), .ref (t 8), .long tr])), ((t 5), .inr (1, [.int (nI (hv 0)), .int (nI (hv 1)), .int (nI (hv 2)), .int (nI (hv 3 + 1)), .int (nI (hv 4)), .int (nI (hv 5 ||| 2 ^ f))]))])) 0 0 (ly_in [((t 0), .inr (6, [.ref (t 1), .int (nI lt), .ref (t 2), .ref (a 0), .ref (a2 0), .ref (b 0), .ref (t 4), .ref (t 5), .ref (t 6), .ref (t 7), .ref (t 8), .long tr])), ((t 5), .inr (1, [.int (nI (hv 0)), .int (nI (hv 1)), .int (nI (hv 2)), .int (nI (hv 3)), .int (nI (hv 4)), .int (nI (hv 5))]))]) := by
  refine Met.ofW (cc := cX6_felt) (maxL := 3) (ret := (some .int)) (by decide) rfl ?_
  intro p e s m args below meth c s₁ B hml hv
  obtain ⟨rfl, hP, hK, hN⟩ := hv
  have hx := B.exec
  have hb := B.bytes
  have hr := B.returns
  have hts := atoms_spec (ws := wsX6_felt) B.pre
  have hown : s.vm.findClass RX6 = some m.cls := findClass_of_methodNamed B.named
  have hlocks := B.notSynchronized
  have hl := lv_entry ([.ref (t 0), .int (nI f), .int (nI 0)]) (n := 3) (Nat.le_of_ble_eq_true rfl)
  rw [lg_entry_eq]
  generalize (lg_sl ([.ref (t 0), .int (nI f), .int (nI 0)]) ++ List.replicate (3 - (lg_sl ([.ref (t 0), .int (nI f), .int (nI 0)])).length) Slot.unset).toArray = ls at hl ⊢
  have hl : lv_has ls 3 [(0, .ref (t 0)), (1, .int (nI f)), (2, .int (nI 0))] := hl
  generalize ([.ref (t 0), .int (nI f), .int (nI 0)] : List Value).toArray = av at hts ⊢
  obtain ⟨Qc, hQc⟩ : ∃ Qc, Qc = (ly_Q D [((t 0), .inr (6, [.ref (t 1), .int (nI lt), .ref (t 2), .ref (a 0), .ref (a2 0), .ref (b 0), .ref (t 4), .ref (t 5), .ref (t 6), .ref (t 7), .ref (t 8), .long tr])), ((t 5), .inr (1, [.int (nI (hv 0)), .int (nI (hv 1)), .int (nI (hv 2)), .int (nI (hv 3)), .int (nI (hv 4)), .int (nI (hv 5))]))] (fun r_9 w_9 => r_9 = some (.int (nI (hv 3 + 1))) ∧ w_9 = [((t 0), .inr (6, [.ref (t 1), .int (nI lt), .ref (t 2), .ref (a 0), .ref (a2 0), .ref (b 0), .ref (t 4), .ref (t 5), .ref (t 6), .ref (t 7), .ref (t 8), .long tr])), ((t 5), .inr (1, [.int (nI (hv 0)), .int (nI (hv 1)), .int (nI (hv 2)), .int (nI (hv 3 + 1)), .int (nI (hv 4)), .int (nI (hv 5 ||| 2 ^ f))]))])) := ⟨_, rfl⟩
  rw [← hQc]
  obtain ⟨A, hAe⟩ : ∃ A, A = ly_in [((t 0), .inr (6, [.ref (t 1), .int (nI lt), .ref (t 2), .ref (a 0), .ref (a2 0), .ref (b 0), .ref (t 4), .ref (t 5), .ref (t 6), .ref (t 7), .ref (t 8), .long tr])), ((t 5), .inr (1, [.int (nI (hv 0)), .int (nI (hv 1)), .int (nI (hv 2)), .int (nI (hv 3)), .int (nI (hv 4)), .int (nI (hv 5))]))] := ⟨_, rfl⟩
  rw [← hAe]
  have hD := ly_self hD0
  rw [← hAe] at hD
  have f51 := hts (.fieldLink RX6 51 "KneesLent" "hearsay" "LKneesLent$Hearsay;") (by decide +kernel)
  have f252 := hts (.fieldLink RX6 252 "KneesLent$Hearsay" "felt" "I") (by decide +kernel)
  have hiX6 : ∀ w ∈ u_ws RX6 TX6 12, w ∈ wsX6_felt := by decide +kernel
  have hiX1 : ∀ w ∈ u_ws RX1 TX1 6, w ∈ wsX6_felt := by decide +kernel
  have hmain : ∀ (H : Heap) (locs : List Loc), va_P D vwCl [((t 0), .inr (6, [.ref (t 1), .int (nI lt), .ref (t 2), .ref (a 0), .ref (a2 0), .ref (b 0), .ref (t 4), .ref (t 5), .ref (t 6), .ref (t 7), .ref (t 8), .long tr])), ((t 5), .inr (1, [.int (nI (hv 0)), .int (nI (hv 1)), .int (nI (hv 2)), .int (nI (hv 3)), .int (nI (hv 4)), .int (nI (hv 5))]))] H → va_S A s.heap H locs → W p l e (headSpec wsX6_felt (ly_rm 6)).room s m av below meth c H locs 0 0 (MQ below Qc av s 0 0 A) (F0 m 0 ls []) := by
    intro H locs hP hS
    refine lv_iload_n hx hb dX6_felt_0 rfl (lv_at hl 1 rfl) ?_
    refine lv_iconst (v := 0) hx hb dX6_felt_1 (by decide) ?_
    refine lv_iconst (v := 4) hx hb dX6_felt_2 (by decide) ?_
    have hPc_3 := hP.sub (ws' := []) [] rfl
    refine ly_r (va_runS (As := [.int (nI f), .int 0, .int 4]) (rest := []) ⟨hx, hb, hml, hown, hts⟩ (c_X6_within l D cI cC cZ cN (nI f) 0 4) (va_cwS 3 hts gX6_felt_X6_within rfl rfl rfl (by decide +kernel) ⟨Nat.le_of_ble_eq_true rfl, Nat.le_of_ble_eq_true rfl⟩) (ly_ps hK hN hPc_3) rfl rfl hl.1 rfl (lv_room (Nat.le_of_ble_eq_true rfl)) dX6_felt_3 ⟨Nat.zero_le _, Nat.zero_le _⟩) ?_
    refine lv_if_eq (tgt := 18) hx hb dX6_felt_6 (by decide) (fun h_9 => absurd h_9 (jin_yes (b := 4) (by omega) (by omega))) (fun _ => ?_)
    refine lv_iload_n hx hb dX6_felt_9 rfl (lv_at hl 2 rfl) ?_
    refine lv_iconst (v := 0) hx hb dX6_felt_10 (by decide) ?_
    refine lv_iconst (v := 1) hx hb dX6_felt_11 (by decide) ?_
    have hPc_12 := hP.sub (ws' := []) [] rfl
    refine ly_r (va_runS (As := [.int (nI 0), .int 0, .int 1]) (rest := []) ⟨hx, hb, hml, hown, hts⟩ (c_X6_within l D cI cC cZ cN (nI 0) 0 1) (va_cwS 3 hts gX6_felt_X6_within rfl rfl rfl (by decide +kernel) ⟨Nat.le_of_ble_eq_true rfl, Nat.le_of_ble_eq_true rfl⟩) (ly_ps hK hN hPc_12) rfl rfl hl.1 rfl (lv_room (Nat.le_of_ble_eq_true rfl)) dX6_felt_12 ⟨Nat.zero_le _, Nat.zero_le _⟩) ?_
    refine lv_if_ne (tgt := 20) hx hb dX6_felt_15 (by decide) (fun _ => ?_) (fun h_9 => absurd h_9 (jin_yes (b := 1) (by omega) (by omega)))
    refine lv_aload_n hx hb dX6_felt_20 rfl (lv_at hl 0 rfl) ?_
    refine va_get (D := D) (ci := 6) (v := .ref (t 5)) (C := RX6) (T := TX6) (N := 12) hx hb hts hiX6 hown hK hP 0 rfl rfl 7 (by decide) f51 (fun _ h9 => h9) rfl dX6_felt_21 ?_
    refine va_get (D := D) (ci := 1) (v := .int (nI (hv 3))) (C := RX1) (T := TX1) (N := 6) hx hb hts hiX1 hown hK hP 1 rfl rfl 3 (by decide) f252 (fun _ h9 => h9) rfl dX6_felt_24 ?_
    refine lv_iconst (v := 5) hx hb dX6_felt_27 (by decide) ?_
    refine lv_icmp_lt (tgt := 34) hx hb dX6_felt_28 (by decide) (fun _ => ?_) (fun h_9 => absurd (nI_lt (a := hv 3) (b := 5) (by omega) (by omega)) h_9)
    refine lv_aload_n hx hb dX6_felt_34 rfl (lv_at hl 0 rfl) ?_
    refine va_get (D := D) (ci := 6) (v := .ref (t 5)) (C := RX6) (T := TX6) (N := 12) hx hb hts hiX6 hown hK hP 0 rfl rfl 7 (by decide) f51 (fun _ h9 => h9) rfl dX6_felt_35 ?_
    refine lv_iload_n hx hb dX6_felt_38 rfl (lv_at hl 1 rfl) ?_
    refine lv_iload_n hx hb dX6_felt_39 rfl (lv_at hl 2 rfl) ?_
    have hPc_40 := hP.sub (ws' := [((t 5), .inr (1, [.int (nI (hv 0)), .int (nI (hv 1)), .int (nI (hv 2)), .int (nI (hv 3)), .int (nI (hv 4)), .int (nI (hv 5))]))]) [1] rfl
    refine ly_m (wr := [((t 0), .inr (6, [.ref (t 1), .int (nI lt), .ref (t 2), .ref (a 0), .ref (a2 0), .ref (b 0), .ref (t 4), .ref (t 5), .ref (t 6), .ref (t 7), .ref (t 8), .long tr]))]) (va_runV (As := [.int (nI f), .int (nI 0)]) (rest := []) ⟨hx, hb, hml, hown, hts⟩ (c_X1_hearRain_0 l D cI cC cZ cN t hv f (by omega) ((hD.sub [1] (by decide) rfl).weaken (fun _ _ _ _ => trivial))) (cwV 2 hts gX6_felt_X1_hearRain rfl rfl rfl (by decide +kernel) ⟨Nat.le_of_ble_eq_true rfl, Nat.le_of_ble_eq_true rfl⟩) (ly_pv hK hN hPc_40 0 1 rfl rfl rfl) rfl rfl hl.1 rfl (lv_room (Nat.le_of_ble_eq_true rfl)) dX6_felt_40 ⟨Nat.zero_le _, Nat.zero_le _⟩) hP hD hS [1] [0] rfl rfl (by decide) ?_
    rintro _ _ H locs ⟨rfl, rfl⟩ - hP hD hS
    have hP : va_P D vwCl [((t 0), .inr (6, [.ref (t 1), .int (nI lt), .ref (t 2), .ref (a 0), .ref (a2 0), .ref (b 0), .ref (t 4), .ref (t 5), .ref (t 6), .ref (t 7), .ref (t 8), .long tr])), ((t 5), .inr (1, [.int (nI (hv 0)), .int (nI (hv 1)), .int (nI (hv 2)), .int (nI (hv 3 + 1)), .int (nI (hv 4)), .int (nI (hv 5 ||| 2 ^ f))]))] H := hP
    have hD : va_D A [((t 0), .inr (6, [.ref (t 1), .int (nI lt), .ref (t 2), .ref (a 0), .ref (a2 0), .ref (b 0), .ref (t 4), .ref (t 5), .ref (t 6), .ref (t 7), .ref (t 8), .long tr])), ((t 5), .inr (1, [.int (nI (hv 0)), .int (nI (hv 1)), .int (nI (hv 2)), .int (nI (hv 3 + 1)), .int (nI (hv 4)), .int (nI (hv 5 ||| 2 ^ f))]))] := hD
    refine W.eq (g2 := F0 m 43 ls []) rfl ?_
    refine lv_aload_n hx hb dX6_felt_43 rfl (lv_at hl 0 rfl) ?_
    refine va_get (D := D) (ci := 6) (v := .ref (t 5)) (C := RX6) (T := TX6) (N := 12) hx hb hts hiX6 hown hK hP 0 rfl rfl 7 (by decide) f51 (fun _ h9 => h9) rfl dX6_felt_44 ?_
    refine va_get (D := D) (ci := 1) (v := .int (nI (hv 3 + 1))) (C := RX1) (T := TX1) (N := 6) hx hb hts hiX1 hown hK hP 1 rfl rfl 3 (by decide) f252 (fun _ h9 => h9) rfl dX6_felt_47 ?_
    exact W.iret (v := (nI (hv 3 + 1))) hx hb hr (fun t_9 ht_9 _ => by rw [hQc]; exact ⟨_, [((t 0), .inr (6, [.ref (t 1), .int (nI lt), .ref (t 2), .ref (a 0), .ref (a2 0), .ref (b 0), .ref (t 4), .ref (t 5), .ref (t 6), .ref (t 7), .ref (t 8), .long tr])), ((t 5), .inr (1, [.int (nI (hv 0)), .int (nI (hv 1)), .int (nI (hv 2)), .int (nI (hv 3 + 1)), .int (nI (hv 4)), .int (nI (hv 5 ||| 2 ^ f))]))], rfl, ⟨rfl, rfl⟩, by simp only [List.map_cons, List.map_nil], by rw [ht_9]; exact hP.sub [0, 1] rfl, by rw [← hAe]; exact hS.F ht_9⟩) hS.2.2 dX6_felt_50
  exact hmain _ _ hP va_S.rf

set_option maxHeartbeats 4000000 in
set_option maxRecDepth 100000 in
theorem c_X6_felt_f1 (l : Launch) (D : va_G) (cI cC cZ cN : ClassId) (t a2 a b : Nat → Nat) (lt : Nat) (tr : Int64) (hv : Nat → Nat) (f : Nat) (hf5 : f < 5) (hf9 : hv 3 = 5) : Met l yX6_felt wsX6_felt (ly_rm 5) (ly_Pre D (ly_tys cI cC cZ cN) [((t 0), .inr (6, [.ref (t 1), .int (nI lt), .ref (t 2), .ref (a 0), .ref (a2 0), .ref (b 0), .ref (t 4), .ref (t 5), .ref (t 6), .ref (t 7), .ref (t 8), .long tr])), ((t 5), .inr (1, [.int (nI (hv 0)), .int (nI (hv 1)), .int (nI (hv 2)), .int (nI (hv 3)), .int (nI (hv 4)), .int (nI (hv 5))]))] [.ref (t 0), .int (nI f), .int (nI 1)]) (QcRead (-3)) 0 0 (fun _ => False) := by
  refine Met.ofW (cc := cX6_felt) (maxL := 3) (ret := (some .int)) (by decide) rfl ?_
  intro p e s m args below meth c s₁ B hml hv
  obtain ⟨rfl, hP, hK, hN⟩ := hv
  have hx := B.exec
  have hb := B.bytes
  have hr := B.returns
  have hts := atoms_spec (ws := wsX6_felt) B.pre
  have hown : s.vm.findClass RX6 = some m.cls := findClass_of_methodNamed B.named
  have hlocks := B.notSynchronized
  have hl := lv_entry ([.ref (t 0), .int (nI f), .int (nI 1)]) (n := 3) (Nat.le_of_ble_eq_true rfl)
  rw [lg_entry_eq]
  generalize (lg_sl ([.ref (t 0), .int (nI f), .int (nI 1)]) ++ List.replicate (3 - (lg_sl ([.ref (t 0), .int (nI f), .int (nI 1)])).length) Slot.unset).toArray = ls at hl ⊢
  have hl : lv_has ls 3 [(0, .ref (t 0)), (1, .int (nI f)), (2, .int (nI 1))] := hl
  generalize ([.ref (t 0), .int (nI f), .int (nI 1)] : List Value).toArray = av at hts ⊢
  obtain ⟨Qc, hQc⟩ : ∃ Qc, Qc = (QcRead (-3)) := ⟨_, rfl⟩
  rw [← hQc]
  have f51 := hts (.fieldLink RX6 51 "KneesLent" "hearsay" "LKneesLent$Hearsay;") (by decide +kernel)
  have f252 := hts (.fieldLink RX6 252 "KneesLent$Hearsay" "felt" "I") (by decide +kernel)
  have hiX6 : ∀ w ∈ u_ws RX6 TX6 12, w ∈ wsX6_felt := by decide +kernel
  have hiX1 : ∀ w ∈ u_ws RX1 TX1 6, w ∈ wsX6_felt := by decide +kernel
  refine lv_iload_n hx hb dX6_felt_0 rfl (lv_at hl 1 rfl) ?_
  refine lv_iconst (v := 0) hx hb dX6_felt_1 (by decide) ?_
  refine lv_iconst (v := 4) hx hb dX6_felt_2 (by decide) ?_
  have hPc_3 := hP.sub (ws' := []) [] rfl
  refine ly_r (va_runS (As := [.int (nI f), .int 0, .int 4]) (rest := []) ⟨hx, hb, hml, hown, hts⟩ (c_X6_within l D cI cC cZ cN (nI f) 0 4) (va_cwS 3 hts gX6_felt_X6_within rfl rfl rfl (by decide +kernel) ⟨Nat.le_of_ble_eq_true rfl, Nat.le_of_ble_eq_true rfl⟩) (ly_ps hK hN hPc_3) rfl rfl hl.1 rfl (lv_room (Nat.le_of_ble_eq_true rfl)) dX6_felt_3 ⟨Nat.zero_le _, Nat.zero_le _⟩) ?_
  refine lv_if_eq (tgt := 18) hx hb dX6_felt_6 (by decide) (fun h_9 => absurd h_9 (jin_yes (b := 4) (by omega) (by omega))) (fun _ => ?_)
  refine lv_iload_n hx hb dX6_felt_9 rfl (lv_at hl 2 rfl) ?_
  refine lv_iconst (v := 0) hx hb dX6_felt_10 (by decide) ?_
  refine lv_iconst (v := 1) hx hb dX6_felt_11 (by decide) ?_
  have hPc_12 := hP.sub (ws' := []) [] rfl
  refine ly_r (va_runS (As := [.int (nI 1), .int 0, .int 1]) (rest := []) ⟨hx, hb, hml, hown, hts⟩ (c_X6_within l D cI cC cZ cN (nI 1) 0 1) (va_cwS 3 hts gX6_felt_X6_within rfl rfl rfl (by decide +kernel) ⟨Nat.le_of_ble_eq_true rfl, Nat.le_of_ble_eq_true rfl⟩) (ly_ps hK hN hPc_12) rfl rfl hl.1 rfl (lv_room (Nat.le_of_ble_eq_true rfl)) dX6_felt_12 ⟨Nat.zero_le _, Nat.zero_le _⟩) ?_
  refine lv_if_ne (tgt := 20) hx hb dX6_felt_15 (by decide) (fun _ => ?_) (fun h_9 => absurd h_9 (jin_yes (b := 1) (by omega) (by omega)))
  refine lv_aload_n hx hb dX6_felt_20 rfl (lv_at hl 0 rfl) ?_
  refine va_get (D := D) (ci := 6) (v := .ref (t 5)) (C := RX6) (T := TX6) (N := 12) hx hb hts hiX6 hown hK hP 0 rfl rfl 7 (by decide) f51 (fun _ h9 => h9) rfl dX6_felt_21 ?_
  refine va_get (D := D) (ci := 1) (v := .int (nI (hv 3))) (C := RX1) (T := TX1) (N := 6) hx hb hts hiX1 hown hK hP 1 rfl rfl 3 (by decide) f252 (fun _ h9 => h9) rfl dX6_felt_24 ?_
  refine lv_iconst (v := 5) hx hb dX6_felt_27 (by decide) ?_
  refine lv_icmp_lt (tgt := 34) hx hb dX6_felt_28 (by decide) (fun h_9 => absurd h_9 (nI_nlt (a := hv 3) (b := 5) (by omega) (by omega))) (fun _ => ?_)
  refine lv_bipush (v := (-3)) hx hb dX6_felt_31 (by decide) ?_
  exact W.iret (v := (-3)) hx hb hr (fun t_9 ht_9 _ => by rw [hQc]; exact ⟨rfl, ht_9⟩) t_nil dX6_felt_33

set_option maxHeartbeats 4000000 in
set_option maxRecDepth 100000 in
theorem c_X6_felt_g1 (l : Launch) (D : va_G) (cI cC cZ cN : ClassId) (t a2 a b : Nat → Nat) (lt : Nat) (tr : Int64) (hv : Nat → Nat) (f : Nat) (hf5 : f < 5) (hf9 : hv 3 < 5) (hD0 : va_D (fun _ => True) [((t 0), .inr (6, [.ref (t 1), .int (nI lt), .ref (t 2), .ref (a 0), .ref (a2 0), .ref (b 0), .ref (t 4), .ref (t 5), .ref (t 6), .ref (t 7), .ref (t 8), .long tr])), ((t 5), .inr (1, [.int (nI (hv 0)), .int (nI (hv 1)), .int (nI (hv 2)), .int (nI (hv 3)), .int (nI (hv 4)), .int (nI (hv 5))]))]) : Met l yX6_felt wsX6_felt (ly_rm 6) (ly_Pre D (ly_tys cI cC cZ cN) [((t 0), .inr (6, [.ref (t 1), .int (nI lt), .ref (t 2), .ref (a 0), .ref (a2 0), .ref (b 0), .ref (t 4), .ref (t 5), .ref (t 6), .ref (t 7), .ref (t 8), .long tr])), ((t 5), .inr (1, [.int (nI (hv 0)), .int (nI (hv 1)), .int (nI (hv 2)), .int (nI (hv 3)), .int (nI (hv 4)), .int (nI (hv 5))]))] [.ref (t 0), .int (nI f), .int (nI 1)]) (ly_Q D [((t 0), .inr (6, [.ref (t 1), .int (nI lt), .ref (t 2), .ref (a 0), .ref (a2 0), .ref (b 0), .ref (t 4), .ref (t 5), .ref (t 6), .ref (t 7), .ref (t 8), .long tr])), ((t 5), .inr (1, [.int (nI (hv 0)), .int (nI (hv 1)), .int (nI (hv 2)), .int (nI (hv 3)), .int (nI (hv 4)), .int (nI (hv 5))]))] (fun r_9 w_9 => r_9 = some (.int (nI (hv 3 + 1))) ∧ w_9 = [((t 0), .inr (6, [.ref (t 1), .int (nI lt), .ref (t 2), .ref (a 0), .ref (a2 0), .ref (b 0), .ref (t 4), .ref (t 5), .ref (t 6), .ref (t 7), .ref (t 8), .long tr])), ((t 5), .inr (1, [.int (nI (hv 0)), .int (nI (hv 1)), .int (nI (hv 2)), .int (nI (hv 3 + 1)), .int (nI (hv 4 ||| 2 ^ f)), .int (nI (hv 5))]))])) 0 0 (ly_in [((t 0), .inr (6, [.ref (t 1), .int (nI lt), .ref (t 2), .ref (a 0), .ref (a2 0), .ref (b 0), .ref (t 4), .ref (t 5), .ref (t 6), .ref (t 7), .ref (t 8), .long tr])), ((t 5), .inr (1, [.int (nI (hv 0)), .int (nI (hv 1)), .int (nI (hv 2)), .int (nI (hv 3)), .int (nI (hv 4)), .int (nI (hv 5))]))]) := by
  refine Met.ofW (cc := cX6_felt) (maxL := 3) (ret := (some .int)) (by decide) rfl ?_
  intro p e s m args below meth c s₁ B hml hv
  obtain ⟨rfl, hP, hK, hN⟩ := hv
  have hx := B.exec
  have hb := B.bytes
  have hr := B.returns
  have hts := atoms_spec (ws := wsX6_felt) B.pre
  have hown : s.vm.findClass RX6 = some m.cls := findClass_of_methodNamed B.named
  have hlocks := B.notSynchronized
  have hl := lv_entry ([.ref (t 0), .int (nI f), .int (nI 1)]) (n := 3) (Nat.le_of_ble_eq_true rfl)
  rw [lg_entry_eq]
  generalize (lg_sl ([.ref (t 0), .int (nI f), .int (nI 1)]) ++ List.replicate (3 - (lg_sl ([.ref (t 0), .int (nI f), .int (nI 1)])).length) Slot.unset).toArray = ls at hl ⊢
  have hl : lv_has ls 3 [(0, .ref (t 0)), (1, .int (nI f)), (2, .int (nI 1))] := hl
  generalize ([.ref (t 0), .int (nI f), .int (nI 1)] : List Value).toArray = av at hts ⊢
  obtain ⟨Qc, hQc⟩ : ∃ Qc, Qc = (ly_Q D [((t 0), .inr (6, [.ref (t 1), .int (nI lt), .ref (t 2), .ref (a 0), .ref (a2 0), .ref (b 0), .ref (t 4), .ref (t 5), .ref (t 6), .ref (t 7), .ref (t 8), .long tr])), ((t 5), .inr (1, [.int (nI (hv 0)), .int (nI (hv 1)), .int (nI (hv 2)), .int (nI (hv 3)), .int (nI (hv 4)), .int (nI (hv 5))]))] (fun r_9 w_9 => r_9 = some (.int (nI (hv 3 + 1))) ∧ w_9 = [((t 0), .inr (6, [.ref (t 1), .int (nI lt), .ref (t 2), .ref (a 0), .ref (a2 0), .ref (b 0), .ref (t 4), .ref (t 5), .ref (t 6), .ref (t 7), .ref (t 8), .long tr])), ((t 5), .inr (1, [.int (nI (hv 0)), .int (nI (hv 1)), .int (nI (hv 2)), .int (nI (hv 3 + 1)), .int (nI (hv 4 ||| 2 ^ f)), .int (nI (hv 5))]))])) := ⟨_, rfl⟩
  rw [← hQc]
  obtain ⟨A, hAe⟩ : ∃ A, A = ly_in [((t 0), .inr (6, [.ref (t 1), .int (nI lt), .ref (t 2), .ref (a 0), .ref (a2 0), .ref (b 0), .ref (t 4), .ref (t 5), .ref (t 6), .ref (t 7), .ref (t 8), .long tr])), ((t 5), .inr (1, [.int (nI (hv 0)), .int (nI (hv 1)), .int (nI (hv 2)), .int (nI (hv 3)), .int (nI (hv 4)), .int (nI (hv 5))]))] := ⟨_, rfl⟩
  rw [← hAe]
  have hD := ly_self hD0
  rw [← hAe] at hD
  have f51 := hts (.fieldLink RX6 51 "KneesLent" "hearsay" "LKneesLent$Hearsay;") (by decide +kernel)
  have f252 := hts (.fieldLink RX6 252 "KneesLent$Hearsay" "felt" "I") (by decide +kernel)
  have hiX6 : ∀ w ∈ u_ws RX6 TX6 12, w ∈ wsX6_felt := by decide +kernel
  have hiX1 : ∀ w ∈ u_ws RX1 TX1 6, w ∈ wsX6_felt := by decide +kernel
  have hmain : ∀ (H : Heap) (locs : List Loc), va_P D vwCl [((t 0), .inr (6, [.ref (t 1), .int (nI lt), .ref (t 2), .ref (a 0), .ref (a2 0), .ref (b 0), .ref (t 4), .ref (t 5), .ref (t 6), .ref (t 7), .ref (t 8), .long tr])), ((t 5), .inr (1, [.int (nI (hv 0)), .int (nI (hv 1)), .int (nI (hv 2)), .int (nI (hv 3)), .int (nI (hv 4)), .int (nI (hv 5))]))] H → va_S A s.heap H locs → W p l e (headSpec wsX6_felt (ly_rm 6)).room s m av below meth c H locs 0 0 (MQ below Qc av s 0 0 A) (F0 m 0 ls []) := by
    intro H locs hP hS
    refine lv_iload_n hx hb dX6_felt_0 rfl (lv_at hl 1 rfl) ?_
    refine lv_iconst (v := 0) hx hb dX6_felt_1 (by decide) ?_
    refine lv_iconst (v := 4) hx hb dX6_felt_2 (by decide) ?_
    have hPc_3 := hP.sub (ws' := []) [] rfl
    refine ly_r (va_runS (As := [.int (nI f), .int 0, .int 4]) (rest := []) ⟨hx, hb, hml, hown, hts⟩ (c_X6_within l D cI cC cZ cN (nI f) 0 4) (va_cwS 3 hts gX6_felt_X6_within rfl rfl rfl (by decide +kernel) ⟨Nat.le_of_ble_eq_true rfl, Nat.le_of_ble_eq_true rfl⟩) (ly_ps hK hN hPc_3) rfl rfl hl.1 rfl (lv_room (Nat.le_of_ble_eq_true rfl)) dX6_felt_3 ⟨Nat.zero_le _, Nat.zero_le _⟩) ?_
    refine lv_if_eq (tgt := 18) hx hb dX6_felt_6 (by decide) (fun h_9 => absurd h_9 (jin_yes (b := 4) (by omega) (by omega))) (fun _ => ?_)
    refine lv_iload_n hx hb dX6_felt_9 rfl (lv_at hl 2 rfl) ?_
    refine lv_iconst (v := 0) hx hb dX6_felt_10 (by decide) ?_
    refine lv_iconst (v := 1) hx hb dX6_felt_11 (by decide) ?_
    have hPc_12 := hP.sub (ws' := []) [] rfl
    refine ly_r (va_runS (As := [.int (nI 1), .int 0, .int 1]) (rest := []) ⟨hx, hb, hml, hown, hts⟩ (c_X6_within l D cI cC cZ cN (nI 1) 0 1) (va_cwS 3 hts gX6_felt_X6_within rfl rfl rfl (by decide +kernel) ⟨Nat.le_of_ble_eq_true rfl, Nat.le_of_ble_eq_true rfl⟩) (ly_ps hK hN hPc_12) rfl rfl hl.1 rfl (lv_room (Nat.le_of_ble_eq_true rfl)) dX6_felt_12 ⟨Nat.zero_le _, Nat.zero_le _⟩) ?_
    refine lv_if_ne (tgt := 20) hx hb dX6_felt_15 (by decide) (fun _ => ?_) (fun h_9 => absurd h_9 (jin_yes (b := 1) (by omega) (by omega)))
    refine lv_aload_n hx hb dX6_felt_20 rfl (lv_at hl 0 rfl) ?_
    refine va_get (D := D) (ci := 6) (v := .ref (t 5)) (C := RX6) (T := TX6) (N := 12) hx hb hts hiX6 hown hK hP 0 rfl rfl 7 (by decide) f51 (fun _ h9 => h9) rfl dX6_felt_21 ?_
    refine va_get (D := D) (ci := 1) (v := .int (nI (hv 3))) (C := RX1) (T := TX1) (N := 6) hx hb hts hiX1 hown hK hP 1 rfl rfl 3 (by decide) f252 (fun _ h9 => h9) rfl dX6_felt_24 ?_
    refine lv_iconst (v := 5) hx hb dX6_felt_27 (by decide) ?_
    refine lv_icmp_lt (tgt := 34) hx hb dX6_felt_28 (by decide) (fun _ => ?_) (fun h_9 => absurd (nI_lt (a := hv 3) (b := 5) (by omega) (by omega)) h_9)
    refine lv_aload_n hx hb dX6_felt_34 rfl (lv_at hl 0 rfl) ?_
    refine va_get (D := D) (ci := 6) (v := .ref (t 5)) (C := RX6) (T := TX6) (N := 12) hx hb hts hiX6 hown hK hP 0 rfl rfl 7 (by decide) f51 (fun _ h9 => h9) rfl dX6_felt_35 ?_
    refine lv_iload_n hx hb dX6_felt_38 rfl (lv_at hl 1 rfl) ?_
    refine lv_iload_n hx hb dX6_felt_39 rfl (lv_at hl 2 rfl) ?_
    have hPc_40 := hP.sub (ws' := [((t 5), .inr (1, [.int (nI (hv 0)), .int (nI (hv 1)), .int (nI (hv 2)), .int (nI (hv 3)), .int (nI (hv 4)), .int (nI (hv 5))]))]) [1] rfl
    refine ly_m (wr := [((t 0), .inr (6, [.ref (t 1), .int (nI lt), .ref (t 2), .ref (a 0), .ref (a2 0), .ref (b 0), .ref (t 4), .ref (t 5), .ref (t 6), .ref (t 7), .ref (t 8), .long tr]))]) (va_runV (As := [.int (nI f), .int (nI 1)]) (rest := []) ⟨hx, hb, hml, hown, hts⟩ (c_X1_hearRain_1 l D cI cC cZ cN t hv f (by omega) ((hD.sub [1] (by decide) rfl).weaken (fun _ _ _ _ => trivial))) (cwV 2 hts gX6_felt_X1_hearRain rfl rfl rfl (by decide +kernel) ⟨Nat.le_of_ble_eq_true rfl, Nat.le_of_ble_eq_true rfl⟩) (ly_pv hK hN hPc_40 0 1 rfl rfl rfl) rfl rfl hl.1 rfl (lv_room (Nat.le_of_ble_eq_true rfl)) dX6_felt_40 ⟨Nat.zero_le _, Nat.zero_le _⟩) hP hD hS [1] [0] rfl rfl (by decide) ?_
    rintro _ _ H locs ⟨rfl, rfl⟩ - hP hD hS
    have hP : va_P D vwCl [((t 0), .inr (6, [.ref (t 1), .int (nI lt), .ref (t 2), .ref (a 0), .ref (a2 0), .ref (b 0), .ref (t 4), .ref (t 5), .ref (t 6), .ref (t 7), .ref (t 8), .long tr])), ((t 5), .inr (1, [.int (nI (hv 0)), .int (nI (hv 1)), .int (nI (hv 2)), .int (nI (hv 3 + 1)), .int (nI (hv 4 ||| 2 ^ f)), .int (nI (hv 5))]))] H := hP
    have hD : va_D A [((t 0), .inr (6, [.ref (t 1), .int (nI lt), .ref (t 2), .ref (a 0), .ref (a2 0), .ref (b 0), .ref (t 4), .ref (t 5), .ref (t 6), .ref (t 7), .ref (t 8), .long tr])), ((t 5), .inr (1, [.int (nI (hv 0)), .int (nI (hv 1)), .int (nI (hv 2)), .int (nI (hv 3 + 1)), .int (nI (hv 4 ||| 2 ^ f)), .int (nI (hv 5))]))] := hD
    refine W.eq (g2 := F0 m 43 ls []) rfl ?_
    refine lv_aload_n hx hb dX6_felt_43 rfl (lv_at hl 0 rfl) ?_
    refine va_get (D := D) (ci := 6) (v := .ref (t 5)) (C := RX6) (T := TX6) (N := 12) hx hb hts hiX6 hown hK hP 0 rfl rfl 7 (by decide) f51 (fun _ h9 => h9) rfl dX6_felt_44 ?_
    refine va_get (D := D) (ci := 1) (v := .int (nI (hv 3 + 1))) (C := RX1) (T := TX1) (N := 6) hx hb hts hiX1 hown hK hP 1 rfl rfl 3 (by decide) f252 (fun _ h9 => h9) rfl dX6_felt_47 ?_
    exact W.iret (v := (nI (hv 3 + 1))) hx hb hr (fun t_9 ht_9 _ => by rw [hQc]; exact ⟨_, [((t 0), .inr (6, [.ref (t 1), .int (nI lt), .ref (t 2), .ref (a 0), .ref (a2 0), .ref (b 0), .ref (t 4), .ref (t 5), .ref (t 6), .ref (t 7), .ref (t 8), .long tr])), ((t 5), .inr (1, [.int (nI (hv 0)), .int (nI (hv 1)), .int (nI (hv 2)), .int (nI (hv 3 + 1)), .int (nI (hv 4 ||| 2 ^ f)), .int (nI (hv 5))]))], rfl, ⟨rfl, rfl⟩, by simp only [List.map_cons, List.map_nil], by rw [ht_9]; exact hP.sub [0, 1] rfl, by rw [← hAe]; exact hS.F ht_9⟩) hS.2.2 dX6_felt_50
  exact hmain _ _ hP va_S.rf

set_option maxHeartbeats 4000000 in
set_option maxRecDepth 100000 in
theorem c_X6_forget (l : Launch) (D : va_G) (cI cC cZ cN : ClassId) (t a2 a b : Nat → Nat) (lt : Nat) (tr : Int64) (hv : Nat → Nat) (hD0 : va_D (fun _ => True) [((t 0), .inr (6, [.ref (t 1), .int (nI lt), .ref (t 2), .ref (a 0), .ref (a2 0), .ref (b 0), .ref (t 4), .ref (t 5), .ref (t 6), .ref (t 7), .ref (t 8), .long tr])), ((t 5), .inr (1, [.int (nI (hv 0)), .int (nI (hv 1)), .int (nI (hv 2)), .int (nI (hv 3)), .int (nI (hv 4)), .int (nI (hv 5))]))]) : Met l yX6_forget wsX6_forget (ly_rm 6) (ly_Pre D (ly_tys cI cC cZ cN) [((t 0), .inr (6, [.ref (t 1), .int (nI lt), .ref (t 2), .ref (a 0), .ref (a2 0), .ref (b 0), .ref (t 4), .ref (t 5), .ref (t 6), .ref (t 7), .ref (t 8), .long tr])), ((t 5), .inr (1, [.int (nI (hv 0)), .int (nI (hv 1)), .int (nI (hv 2)), .int (nI (hv 3)), .int (nI (hv 4)), .int (nI (hv 5))]))] [.ref (t 0)]) (ly_Q D [((t 0), .inr (6, [.ref (t 1), .int (nI lt), .ref (t 2), .ref (a 0), .ref (a2 0), .ref (b 0), .ref (t 4), .ref (t 5), .ref (t 6), .ref (t 7), .ref (t 8), .long tr])), ((t 5), .inr (1, [.int (nI (hv 0)), .int (nI (hv 1)), .int (nI (hv 2)), .int (nI (hv 3)), .int (nI (hv 4)), .int (nI (hv 5))]))] (fun r_9 w_9 => r_9 = some (.int (nI (hv 0 + hv 3))) ∧ w_9 = [((t 0), .inr (6, [.ref (t 1), .int (nI lt), .ref (t 2), .ref (a 0), .ref (a2 0), .ref (b 0), .ref (t 4), .ref (t 5), .ref (t 6), .ref (t 7), .ref (t 8), .long tr])), ((t 5), .inr (1, [.int (nI ((fun _ => 0) 0)), .int (nI ((fun _ => 0) 1)), .int (nI ((fun _ => 0) 2)), .int (nI ((fun _ => 0) 3)), .int (nI ((fun _ => 0) 4)), .int (nI ((fun _ => 0) 5))]))])) 0 0 (ly_in [((t 0), .inr (6, [.ref (t 1), .int (nI lt), .ref (t 2), .ref (a 0), .ref (a2 0), .ref (b 0), .ref (t 4), .ref (t 5), .ref (t 6), .ref (t 7), .ref (t 8), .long tr])), ((t 5), .inr (1, [.int (nI (hv 0)), .int (nI (hv 1)), .int (nI (hv 2)), .int (nI (hv 3)), .int (nI (hv 4)), .int (nI (hv 5))]))]) := by
  refine Met.ofW (cc := cX6_forget) (maxL := 2) (ret := (some .int)) (by decide) rfl ?_
  intro p e s m args below meth c s₁ B hml hv
  obtain ⟨rfl, hP, hK, hN⟩ := hv
  have hx := B.exec
  have hb := B.bytes
  have hr := B.returns
  have hts := atoms_spec (ws := wsX6_forget) B.pre
  have hown : s.vm.findClass RX6 = some m.cls := findClass_of_methodNamed B.named
  have hlocks := B.notSynchronized
  have hl := lv_entry ([.ref (t 0)]) (n := 2) (Nat.le_of_ble_eq_true rfl)
  rw [lg_entry_eq]
  generalize (lg_sl ([.ref (t 0)]) ++ List.replicate (2 - (lg_sl ([.ref (t 0)])).length) Slot.unset).toArray = ls at hl ⊢
  have hl : lv_has ls 2 [(0, .ref (t 0))] := hl
  generalize ([.ref (t 0)] : List Value).toArray = av at hts ⊢
  obtain ⟨Qc, hQc⟩ : ∃ Qc, Qc = (ly_Q D [((t 0), .inr (6, [.ref (t 1), .int (nI lt), .ref (t 2), .ref (a 0), .ref (a2 0), .ref (b 0), .ref (t 4), .ref (t 5), .ref (t 6), .ref (t 7), .ref (t 8), .long tr])), ((t 5), .inr (1, [.int (nI (hv 0)), .int (nI (hv 1)), .int (nI (hv 2)), .int (nI (hv 3)), .int (nI (hv 4)), .int (nI (hv 5))]))] (fun r_9 w_9 => r_9 = some (.int (nI (hv 0 + hv 3))) ∧ w_9 = [((t 0), .inr (6, [.ref (t 1), .int (nI lt), .ref (t 2), .ref (a 0), .ref (a2 0), .ref (b 0), .ref (t 4), .ref (t 5), .ref (t 6), .ref (t 7), .ref (t 8), .long tr])), ((t 5), .inr (1, [.int (nI ((fun _ => 0) 0)), .int (nI ((fun _ => 0) 1)), .int (nI ((fun _ => 0) 2)), .int (nI ((fun _ => 0) 3)), .int (nI ((fun _ => 0) 4)), .int (nI ((fun _ => 0) 5))]))])) := ⟨_, rfl⟩
  rw [← hQc]
  obtain ⟨A, hAe⟩ : ∃ A, A = ly_in [((t 0), .inr (6, [.ref (t 1), .int (nI lt), .ref (t 2), .ref (a 0), .ref (a2 0), .ref (b 0), .ref (t 4), .ref (t 5), .ref (t 6), .ref (t 7), .ref (t 8), .long tr])), ((t 5), .inr (1, [.int (nI (hv 0)), .int (nI (hv 1)), .int (nI (hv 2)), .int (nI (hv 3)), .int (nI (hv 4)), .int (nI (hv 5))]))] := ⟨_, rfl⟩
  rw [← hAe]
  have hD := ly_self hD0
  rw [← hAe] at hD
  have f51 := hts (.fieldLink RX6 51 "KneesLent" "hearsay" "LKneesLent$Hearsay;") (by decide +kernel)
  have f239 := hts (.fieldLink RX6 239 "KneesLent$Hearsay" "told" "I") (by decide +kernel)
  have f252 := hts (.fieldLink RX6 252 "KneesLent$Hearsay" "felt" "I") (by decide +kernel)
  have hiX6 : ∀ w ∈ u_ws RX6 TX6 12, w ∈ wsX6_forget := by decide +kernel
  have hiX1 : ∀ w ∈ u_ws RX1 TX1 6, w ∈ wsX6_forget := by decide +kernel
  have hmain : ∀ (H : Heap) (locs : List Loc), va_P D vwCl [((t 0), .inr (6, [.ref (t 1), .int (nI lt), .ref (t 2), .ref (a 0), .ref (a2 0), .ref (b 0), .ref (t 4), .ref (t 5), .ref (t 6), .ref (t 7), .ref (t 8), .long tr])), ((t 5), .inr (1, [.int (nI (hv 0)), .int (nI (hv 1)), .int (nI (hv 2)), .int (nI (hv 3)), .int (nI (hv 4)), .int (nI (hv 5))]))] H → va_S A s.heap H locs → W p l e (headSpec wsX6_forget (ly_rm 6)).room s m av below meth c H locs 0 0 (MQ below Qc av s 0 0 A) (F0 m 0 ls []) := by
    intro H locs hP hS
    refine lv_aload_n hx hb dX6_forget_0 rfl (lv_at hl 0 rfl) ?_
    refine va_get (D := D) (ci := 6) (v := .ref (t 5)) (C := RX6) (T := TX6) (N := 12) hx hb hts hiX6 hown hK hP 0 rfl rfl 7 (by decide) f51 (fun _ h9 => h9) rfl dX6_forget_1 ?_
    refine va_get (D := D) (ci := 1) (v := .int (nI (hv 0))) (C := RX1) (T := TX1) (N := 6) hx hb hts hiX1 hown hK hP 1 rfl rfl 0 (by decide) f239 (fun _ h9 => h9) rfl dX6_forget_4 ?_
    refine lv_aload_n hx hb dX6_forget_7 rfl (lv_at hl 0 rfl) ?_
    refine va_get (D := D) (ci := 6) (v := .ref (t 5)) (C := RX6) (T := TX6) (N := 12) hx hb hts hiX6 hown hK hP 0 rfl rfl 7 (by decide) f51 (fun _ h9 => h9) rfl dX6_forget_8 ?_
    refine va_get (D := D) (ci := 1) (v := .int (nI (hv 3))) (C := RX1) (T := TX1) (N := 6) hx hb hts hiX1 hown hK hP 1 rfl rfl 3 (by decide) f252 (fun _ h9 => h9) rfl dX6_forget_11 ?_
    refine lv_iadd hx hb dX6_forget_14 ?_
    refine ly_eqi (show ((nI (hv 0)) + (nI (hv 3))) = (nI (hv 0 + hv 3)) from ly_add rfl rfl) ?_
    refine lv_istore_n (lv' := [(1, .int (nI (hv 0 + hv 3))), (0, .ref (t 0))]) hx hb dX6_forget_15 rfl hl (by decide) rfl (fun ls hl => ?_)
    refine lv_aload_n hx hb dX6_forget_16 rfl (lv_at hl 1 rfl) ?_
    refine va_get (D := D) (ci := 6) (v := .ref (t 5)) (C := RX6) (T := TX6) (N := 12) hx hb hts hiX6 hown hK hP 0 rfl rfl 7 (by decide) f51 (fun _ h9 => h9) rfl dX6_forget_17 ?_
    have hPc_20 := hP.sub (ws' := [((t 5), .inr (1, [.int (nI (hv 0)), .int (nI (hv 1)), .int (nI (hv 2)), .int (nI (hv 3)), .int (nI (hv 4)), .int (nI (hv 5))]))]) [1] rfl
    refine ly_m (wr := [((t 0), .inr (6, [.ref (t 1), .int (nI lt), .ref (t 2), .ref (a 0), .ref (a2 0), .ref (b 0), .ref (t 4), .ref (t 5), .ref (t 6), .ref (t 7), .ref (t 8), .long tr]))]) (va_runV (As := []) (rest := []) ⟨hx, hb, hml, hown, hts⟩ (c_X1_silence l D cI cC cZ cN t hv ((hD.sub [1] (by decide) rfl).weaken (fun _ _ _ _ => trivial))) (cwV 0 hts gX6_forget_X1_silence rfl rfl rfl (by decide +kernel) ⟨Nat.le_of_ble_eq_true rfl, Nat.le_of_ble_eq_true rfl⟩) (ly_pv hK hN hPc_20 0 1 rfl rfl rfl) rfl rfl hl.1 rfl (lv_room (Nat.le_of_ble_eq_true rfl)) dX6_forget_20 ⟨Nat.zero_le _, Nat.zero_le _⟩) hP hD hS [1] [0] rfl rfl (by decide) ?_
    rintro _ _ H locs ⟨rfl, rfl⟩ - hP hD hS
    have hP : va_P D vwCl [((t 0), .inr (6, [.ref (t 1), .int (nI lt), .ref (t 2), .ref (a 0), .ref (a2 0), .ref (b 0), .ref (t 4), .ref (t 5), .ref (t 6), .ref (t 7), .ref (t 8), .long tr])), ((t 5), .inr (1, [.int (nI ((fun _ => 0) 0)), .int (nI ((fun _ => 0) 1)), .int (nI ((fun _ => 0) 2)), .int (nI ((fun _ => 0) 3)), .int (nI ((fun _ => 0) 4)), .int (nI ((fun _ => 0) 5))]))] H := hP
    have hD : va_D A [((t 0), .inr (6, [.ref (t 1), .int (nI lt), .ref (t 2), .ref (a 0), .ref (a2 0), .ref (b 0), .ref (t 4), .ref (t 5), .ref (t 6), .ref (t 7), .ref (t 8), .long tr])), ((t 5), .inr (1, [.int (nI ((fun _ => 0) 0)), .int (nI ((fun _ => 0) 1)), .int (nI ((fun _ => 0) 2)), .int (nI ((fun _ => 0) 3)), .int (nI ((fun _ => 0) 4)), .int (nI ((fun _ => 0) 5))]))] := hD
    refine W.eq (g2 := F0 m 23 ls []) rfl ?_
    refine lv_iload_n hx hb dX6_forget_23 rfl (lv_at hl 0 rfl) ?_
    exact W.iret (v := (nI (hv 0 + hv 3))) hx hb hr (fun t_9 ht_9 _ => by rw [hQc]; exact ⟨_, [((t 0), .inr (6, [.ref (t 1), .int (nI lt), .ref (t 2), .ref (a 0), .ref (a2 0), .ref (b 0), .ref (t 4), .ref (t 5), .ref (t 6), .ref (t 7), .ref (t 8), .long tr])), ((t 5), .inr (1, [.int (nI ((fun _ => 0) 0)), .int (nI ((fun _ => 0) 1)), .int (nI ((fun _ => 0) 2)), .int (nI ((fun _ => 0) 3)), .int (nI ((fun _ => 0) 4)), .int (nI ((fun _ => 0) 5))]))], rfl, ⟨rfl, rfl⟩, by simp only [List.map_cons, List.map_nil], by rw [ht_9]; exact hP.sub [0, 1] rfl, by rw [← hAe]; exact hS.F ht_9⟩) hS.2.2 dX6_forget_24
  exact hmain _ _ hP va_S.rf

set_option maxHeartbeats 4000000 in
set_option maxRecDepth 100000 in
theorem c_X6_trace (l : Launch) (D : va_G) (cI cC cZ cN : ClassId) (t a2 a b : Nat → Nat) (lt : Nat) (tr : Int64) (hD0 : va_D (fun _ => True) [((t 0), .inr (6, [.ref (t 1), .int (nI lt), .ref (t 2), .ref (a 0), .ref (a2 0), .ref (b 0), .ref (t 4), .ref (t 5), .ref (t 6), .ref (t 7), .ref (t 8), .long tr]))]) : Met l yX6_trace wsX6_trace (ly_rm 6) (ly_Pre D (ly_tys cI cC cZ cN) [((t 0), .inr (6, [.ref (t 1), .int (nI lt), .ref (t 2), .ref (a 0), .ref (a2 0), .ref (b 0), .ref (t 4), .ref (t 5), .ref (t 6), .ref (t 7), .ref (t 8), .long tr]))] [.ref (t 0)]) (ly_Q D [((t 0), .inr (6, [.ref (t 1), .int (nI lt), .ref (t 2), .ref (a 0), .ref (a2 0), .ref (b 0), .ref (t 4), .ref (t 5), .ref (t 6), .ref (t 7), .ref (t 8), .long tr]))] (fun r_9 w_9 => r_9 = some (.long tr) ∧ w_9 = [((t 0), .inr (6, [.ref (t 1), .int (nI lt), .ref (t 2), .ref (a 0), .ref (a2 0), .ref (b 0), .ref (t 4), .ref (t 5), .ref (t 6), .ref (t 7), .ref (t 8), .long tr]))])) 0 0 (ly_in [((t 0), .inr (6, [.ref (t 1), .int (nI lt), .ref (t 2), .ref (a 0), .ref (a2 0), .ref (b 0), .ref (t 4), .ref (t 5), .ref (t 6), .ref (t 7), .ref (t 8), .long tr]))]) := by
  refine Met.ofW (cc := cX6_trace) (maxL := 1) (ret := (some .long)) (by decide) rfl ?_
  intro p e s m args below meth c s₁ B hml hv
  obtain ⟨rfl, hP, hK, hN⟩ := hv
  have hx := B.exec
  have hb := B.bytes
  have hr := B.returns
  have hts := atoms_spec (ws := wsX6_trace) B.pre
  have hown : s.vm.findClass RX6 = some m.cls := findClass_of_methodNamed B.named
  have hlocks := B.notSynchronized
  have hl := lv_entry ([.ref (t 0)]) (n := 1) (Nat.le_of_ble_eq_true rfl)
  rw [lg_entry_eq]
  generalize (lg_sl ([.ref (t 0)]) ++ List.replicate (1 - (lg_sl ([.ref (t 0)])).length) Slot.unset).toArray = ls at hl ⊢
  have hl : lv_has ls 1 [(0, .ref (t 0))] := hl
  generalize ([.ref (t 0)] : List Value).toArray = av at hts ⊢
  obtain ⟨Qc, hQc⟩ : ∃ Qc, Qc = (ly_Q D [((t 0), .inr (6, [.ref (t 1), .int (nI lt), .ref (t 2), .ref (a 0), .ref (a2 0), .ref (b 0), .ref (t 4), .ref (t 5), .ref (t 6), .ref (t 7), .ref (t 8), .long tr]))] (fun r_9 w_9 => r_9 = some (.long tr) ∧ w_9 = [((t 0), .inr (6, [.ref (t 1), .int (nI lt), .ref (t 2), .ref (a 0), .ref (a2 0), .ref (b 0), .ref (t 4), .ref (t 5), .ref (t 6), .ref (t 7), .ref (t 8), .long tr]))])) := ⟨_, rfl⟩
  rw [← hQc]
  obtain ⟨A, hAe⟩ : ∃ A, A = ly_in [((t 0), .inr (6, [.ref (t 1), .int (nI lt), .ref (t 2), .ref (a 0), .ref (a2 0), .ref (b 0), .ref (t 4), .ref (t 5), .ref (t 6), .ref (t 7), .ref (t 8), .long tr]))] := ⟨_, rfl⟩
  rw [← hAe]
  have hD := ly_self hD0
  rw [← hAe] at hD
  have f70 := hts (.fieldLink RX6 70 "KneesLent" "trace" "J") (by decide +kernel)
  have hiX6 : ∀ w ∈ u_ws RX6 TX6 12, w ∈ wsX6_trace := by decide +kernel
  have hmain : ∀ (H : Heap) (locs : List Loc), va_P D vwCl [((t 0), .inr (6, [.ref (t 1), .int (nI lt), .ref (t 2), .ref (a 0), .ref (a2 0), .ref (b 0), .ref (t 4), .ref (t 5), .ref (t 6), .ref (t 7), .ref (t 8), .long tr]))] H → va_S A s.heap H locs → W p l e (headSpec wsX6_trace (ly_rm 6)).room s m av below meth c H locs 0 0 (MQ below Qc av s 0 0 A) (F0 m 0 ls []) := by
    intro H locs hP hS
    refine lv_aload_n hx hb dX6_trace_0 rfl (lv_at hl 0 rfl) ?_
    refine va_get (D := D) (ci := 6) (v := .long tr) (C := RX6) (T := TX6) (N := 12) hx hb hts hiX6 hown hK hP 0 rfl rfl 11 (by decide) f70 (fun _ h9 => h9) rfl dX6_trace_1 ?_
    exact W.lret (v := tr) hx hb hr (fun t_9 ht_9 _ => by rw [hQc]; exact ⟨_, [((t 0), .inr (6, [.ref (t 1), .int (nI lt), .ref (t 2), .ref (a 0), .ref (a2 0), .ref (b 0), .ref (t 4), .ref (t 5), .ref (t 6), .ref (t 7), .ref (t 8), .long tr]))], rfl, ⟨rfl, rfl⟩, by simp only [List.map_cons, List.map_nil], by rw [ht_9]; exact hP.sub [0] rfl, by rw [← hAe]; exact hS.F ht_9⟩) hS.2.2 dX6_trace_4
  exact hmain _ _ hP va_S.rf
