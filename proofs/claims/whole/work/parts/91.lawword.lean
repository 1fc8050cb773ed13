/-! the tables' words that the start needs -/
section LWW
variable {args : Array Value} {s : State}
theorem lt_i0 (h : ∀ w ∈ lw_tbl, w.before args s = true) : (Cond.instantiable RX0 3).before args s = true := h _ (List.mem_append_right _ (List.mem_of_getElem? (i := 167) (by decide +kernel)))
theorem lt_n0 (h : ∀ w ∈ lw_tbl, w.before args s = true) : (Cond.initialized RX0).before args s = true := h _ (List.mem_append_right _ (List.mem_of_getElem? (i := 6) (by decide +kernel)))
theorem lt_i1 (h : ∀ w ∈ lw_tbl, w.before args s = true) : (Cond.instantiable RX1 6).before args s = true := h _ (List.mem_append_right _ (List.mem_of_getElem? (i := 187) (by decide +kernel)))
theorem lt_n1 (h : ∀ w ∈ lw_tbl, w.before args s = true) : (Cond.initialized RX1).before args s = true := h _ (List.mem_append_right _ (List.mem_of_getElem? (i := 7) (by decide +kernel)))
theorem lt_i2 (h : ∀ w ∈ lw_tbl, w.before args s = true) : (Cond.instantiable RX2 6).before args s = true := h _ (List.mem_append_right _ (List.mem_of_getElem? (i := 216) (by decide +kernel)))
theorem lt_n2 (h : ∀ w ∈ lw_tbl, w.before args s = true) : (Cond.initialized RX2).before args s = true := h _ (List.mem_append_right _ (List.mem_of_getElem? (i := 8) (by decide +kernel)))
theorem lt_i3 (h : ∀ w ∈ lw_tbl, w.before args s = true) : (Cond.instantiable RX3 7).before args s = true := h _ (List.mem_append_right _ (List.mem_of_getElem? (i := 132) (by decide +kernel)))
theorem lt_n3 (h : ∀ w ∈ lw_tbl, w.before args s = true) : (Cond.initialized RX3).before args s = true := h _ (List.mem_append_right _ (List.mem_of_getElem? (i := 5) (by decide +kernel)))
theorem lt_i4 (h : ∀ w ∈ lw_tbl, w.before args s = true) : (Cond.instantiable RX4 12).before args s = true := h _ (List.mem_append_right _ (List.mem_of_getElem? (i := 60) (by decide +kernel)))
theorem lt_n4 (h : ∀ w ∈ lw_tbl, w.before args s = true) : (Cond.initialized RX4).before args s = true := h _ (List.mem_append_right _ (List.mem_of_getElem? (i := 3) (by decide +kernel)))
theorem lt_i5 (h : ∀ w ∈ lw_tbl, w.before args s = true) : (Cond.instantiable RX5 9).before args s = true := h _ (List.mem_append_right _ (List.mem_of_getElem? (i := 22) (by decide +kernel)))
theorem lt_n5 (h : ∀ w ∈ lw_tbl, w.before args s = true) : (Cond.initialized RX5).before args s = true := h _ (List.mem_append_right _ (List.mem_of_getElem? (i := 2) (by decide +kernel)))
theorem lt_i6 (h : ∀ w ∈ lw_tbl, w.before args s = true) : (Cond.instantiable RX6 12).before args s = true := h _ (List.mem_append_right _ (List.mem_of_getElem? (i := 14) (by decide +kernel)))
theorem lt_n6 (h : ∀ w ∈ lw_tbl, w.before args s = true) : (Cond.initialized RX6).before args s = true := h _ (List.mem_append_right _ (List.mem_of_getElem? (i := 1) (by decide +kernel)))
theorem lt_i7 (h : ∀ w ∈ lw_tbl, w.before args s = true) : (Cond.instantiable RX7 35).before args s = true := h _ (List.mem_append_right _ (List.mem_of_getElem? (i := 689) (by decide +kernel)))
theorem lt_n7 (h : ∀ w ∈ lw_tbl, w.before args s = true) : (Cond.initialized RX7).before args s = true := h _ (List.mem_append_right _ (List.mem_of_getElem? (i := 9) (by decide +kernel)))
theorem lt_aI (h : ∀ w ∈ lw_tbl, w.before args s = true) : (Cond.arrayClass .int).before args s = true := h _ (List.mem_append_right _ (List.mem_of_getElem? (i := 58) (by decide +kernel)))
theorem lt_aC (h : ∀ w ∈ lw_tbl, w.before args s = true) : (Cond.arrayClass .char).before args s = true := h _ (List.mem_append_right _ (List.mem_of_getElem? (i := 57) (by decide +kernel)))
theorem lt_aZ (h : ∀ w ∈ lw_tbl, w.before args s = true) : (Cond.arrayClass .boolean).before args s = true := h _ (List.mem_append_right _ (List.mem_of_getElem? (i := 277) (by decide +kernel)))
theorem lt_aN (h : ∀ w ∈ lw_tbl, w.before args s = true) : (Cond.arrayOver (.object RX3)).before args s = true := h _ (List.mem_append_right _ (List.mem_of_getElem? (i := 173) (by decide +kernel)))
theorem lt_m1 (h : ∀ w ∈ lw_tbl, w.before args s = true) : (Cond.methodLinkNest RX6 19 yX5_init RX6).before args s = true := h _ (List.mem_append_right _ (List.mem_of_getElem? (i := 23) (by decide +kernel)))
theorem lt_m2 (h : ∀ w ∈ lw_tbl, w.before args s = true) : (Cond.methodLinkNest RX6 36 yX3_init RX6).before args s = true := h _ (List.mem_append_right _ (List.mem_of_getElem? (i := 133) (by decide +kernel)))
theorem lt_m3 (h : ∀ w ∈ lw_tbl, w.before args s = true) : (Cond.methodLinkNest RX0 22 yX3_init RX6).before args s = true := h _ (List.mem_append_right _ (List.mem_of_getElem? (i := 174) (by decide +kernel)))
theorem lt_m4 (h : ∀ w ∈ lw_tbl, w.before args s = true) : (Cond.methodLinkNest RX6 50 yX1_init RX6).before args s = true := h _ (List.mem_append_right _ (List.mem_of_getElem? (i := 188) (by decide +kernel)))
theorem lt_m5 (h : ∀ w ∈ lw_tbl, w.before args s = true) : (Cond.methodLinkNest RX6 57 yX2_init RX6).before args s = true := h _ (List.mem_append_right _ (List.mem_of_getElem? (i := 217) (by decide +kernel)))
theorem lt_m6 (h : ∀ w ∈ lw_tbl, w.before args s = true) : (Cond.methodLinkNest RX5 108 yX6_within RX6).before args s = true := h _ (List.mem_append_right _ (List.mem_of_getElem? (i := 324) (by decide +kernel)))
theorem lt_m7 (h : ∀ w ∈ lw_tbl, w.before args s = true) : (Cond.methodLinkNest RX4 62 yX6_bit RX6).before args s = true := h _ (List.mem_append_right _ (List.mem_of_getElem? (i := 365) (by decide +kernel)))
theorem lt_m8 (h : ∀ w ∈ lw_tbl, w.before args s = true) : (Cond.methodLinkNest RX4 58 yX6_within RX6).before args s = true := h _ (List.mem_append_right _ (List.mem_of_getElem? (i := 388) (by decide +kernel)))
theorem lt_m9 (h : ∀ w ∈ lw_tbl, w.before args s = true) : (Cond.methodLinkNest RX3 51 yX6_bit RX6).before args s = true := h _ (List.mem_append_right _ (List.mem_of_getElem? (i := 431) (by decide +kernel)))
theorem lt_m10 (h : ∀ w ∈ lw_tbl, w.before args s = true) : (Cond.methodLinkNest RX4 66 yX6_wear RX6).before args s = true := h _ (List.mem_append_right _ (List.mem_of_getElem? (i := 506) (by decide +kernel)))
theorem lt_m11 (h : ∀ w ∈ lw_tbl, w.before args s = true) : (Cond.methodLinkNest RX2 51 yX6_bit RX6).before args s = true := h _ (List.mem_append_right _ (List.mem_of_getElem? (i := 535) (by decide +kernel)))
theorem lt_m12 (h : ∀ w ∈ lw_tbl, w.before args s = true) : (Cond.methodLinkNest RX1 28 yX6_within RX6).before args s = true := h _ (List.mem_append_right _ (List.mem_of_getElem? (i := 608) (by decide +kernel)))
theorem lt_N (h : ∀ w ∈ lw_tbl, w.before args s = true) : ly_N s := ⟨va_Nw.of rfl (lt_m1 h), va_Nw.of rfl (lt_m2 h), va_Nw.of rfl (lt_m3 h), va_Nw.of rfl (lt_m4 h), va_Nw.of rfl (lt_m5 h), va_Nw.of rfl (lt_m6 h), va_Nw.of rfl (lt_m7 h), va_Nw.of rfl (lt_m8 h), va_Nw.of rfl (lt_m9 h), va_Nw.of rfl (lt_m10 h), va_Nw.of rfl (lt_m11 h), va_Nw.of rfl (lt_m12 h)⟩
theorem lt_s0 (h : ∀ w ∈ lw_tbl, w.before args s = true) : (Cond.laysStatic RX5 "KNEE_LEAST" "[I").before args s = true := h _ (List.mem_append_right _ (List.mem_of_getElem? (i := 317) (by decide +kernel)))
theorem lt_s1 (h : ∀ w ∈ lw_tbl, w.before args s = true) : (Cond.laysStatic RX5 "KNEE_MOST" "[I").before args s = true := h _ (List.mem_append_right _ (List.mem_of_getElem? (i := 319) (by decide +kernel)))
theorem lt_s2 (h : ∀ w ∈ lw_tbl, w.before args s = true) : (Cond.laysStatic RX5 "PERSON_LEAST" "[I").before args s = true := h _ (List.mem_append_right _ (List.mem_of_getElem? (i := 330) (by decide +kernel)))
theorem lt_s3 (h : ∀ w ∈ lw_tbl, w.before args s = true) : (Cond.laysStatic RX5 "PERSON_MOST" "[I").before args s = true := h _ (List.mem_append_right _ (List.mem_of_getElem? (i := 332) (by decide +kernel)))
theorem lt_s4 (h : ∀ w ∈ lw_tbl, w.before args s = true) : (Cond.laysStatic RX5 "FEUD_LEAST" "[I").before args s = true := h _ (List.mem_append_right _ (List.mem_of_getElem? (i := 338) (by decide +kernel)))
theorem lt_s5 (h : ∀ w ∈ lw_tbl, w.before args s = true) : (Cond.laysStatic RX5 "FEUD_MOST" "[I").before args s = true := h _ (List.mem_append_right _ (List.mem_of_getElem? (i := 340) (by decide +kernel)))
theorem lt_s6 (h : ∀ w ∈ lw_tbl, w.before args s = true) : (Cond.laysStatic RX5 "OIL_LEAST" "[I").before args s = true := h _ (List.mem_append_right _ (List.mem_of_getElem? (i := 346) (by decide +kernel)))
theorem lt_s7 (h : ∀ w ∈ lw_tbl, w.before args s = true) : (Cond.laysStatic RX5 "OIL_MOST" "[I").before args s = true := h _ (List.mem_append_right _ (List.mem_of_getElem? (i := 348) (by decide +kernel)))
theorem lt_t0 (h : ∀ w ∈ lw_tbl, w.before args s = true) (hg : (Jvm.Cond.and given_1 narrow_1).before args s = true) : ∃ t : Nat, va_Z RX5 "KNEE_LEAST" "[I" (.ref t) (fun q => s.heap.size ≤ q) s s.heap ∧ va_T .int t 3 (st_v [0, 0, 1]) (fun q => s.heap.size ≤ q) s s.heap := by
  have hq := flat_of_before _ hg
  obtain ⟨t, h1, h2⟩ := va_Tof (tm := (.static RX5 "KNEE_LEAST" "[I")) (ty := .int) (N := 3) (f := st_v [0, 0, 1]) (A := fun q => s.heap.size ≤ q) (by decide) (hq (.arrayOf (.static RX5 "KNEE_LEAST" "[I") .int) (by decide +kernel)) (va_eqt (hq (.eq (.length (.static RX5 "KNEE_LEAST" "[I")) (.int 3)) (by decide +kernel))) (fun j hj => by
    rcases (show j = 0 ∨ j = 1 ∨ j = 2 by omega) with rfl | rfl | rfl
    · exact va_eqt (hq (.eq (.elem (.static RX5 "KNEE_LEAST" "[I") (.int 0)) (.int 0)) (by decide +kernel))
    · exact va_eqt (hq (.eq (.elem (.static RX5 "KNEE_LEAST" "[I") (.int 1)) (.int 0)) (by decide +kernel))
    · exact va_eqt (hq (.eq (.elem (.static RX5 "KNEE_LEAST" "[I") (.int 2)) (.int 1)) (by decide +kernel))) (fun a ha h9 => absurd ha (Nat.not_lt.mpr h9))
  exact ⟨t, va_Zref (lt_s0 h) (lt_n5 h) h1 (fun a ha h9 => absurd ha (Nat.not_lt.mpr h9)), h2⟩
theorem lt_t1 (h : ∀ w ∈ lw_tbl, w.before args s = true) (hg : (Jvm.Cond.and given_1 narrow_1).before args s = true) : ∃ t : Nat, va_Z RX5 "KNEE_MOST" "[I" (.ref t) (fun q => s.heap.size ≤ q) s s.heap ∧ va_T .int t 3 (st_v [1, 4, 60]) (fun q => s.heap.size ≤ q) s s.heap := by
  have hq := flat_of_before _ hg
  obtain ⟨t, h1, h2⟩ := va_Tof (tm := (.static RX5 "KNEE_MOST" "[I")) (ty := .int) (N := 3) (f := st_v [1, 4, 60]) (A := fun q => s.heap.size ≤ q) (by decide) (hq (.arrayOf (.static RX5 "KNEE_MOST" "[I") .int) (by decide +kernel)) (va_eqt (hq (.eq (.length (.static RX5 "KNEE_MOST" "[I")) (.int 3)) (by decide +kernel))) (fun j hj => by
    rcases (show j = 0 ∨ j = 1 ∨ j = 2 by omega) with rfl | rfl | rfl
    · exact va_eqt (hq (.eq (.elem (.static RX5 "KNEE_MOST" "[I") (.int 0)) (.int 1)) (by decide +kernel))
    · exact va_eqt (hq (.eq (.elem (.static RX5 "KNEE_MOST" "[I") (.int 1)) (.int 4)) (by decide +kernel))
    · exact va_eqt (hq (.eq (.elem (.static RX5 "KNEE_MOST" "[I") (.int 2)) (.int 60)) (by decide +kernel))) (fun a ha h9 => absurd ha (Nat.not_lt.mpr h9))
  exact ⟨t, va_Zref (lt_s1 h) (lt_n5 h) h1 (fun a ha h9 => absurd ha (Nat.not_lt.mpr h9)), h2⟩
theorem lt_t2 (h : ∀ w ∈ lw_tbl, w.before args s = true) (hg : (Jvm.Cond.and given_1 narrow_1).before args s = true) : ∃ t : Nat, va_Z RX5 "PERSON_LEAST" "[I" (.ref t) (fun q => s.heap.size ≤ q) s s.heap ∧ va_T .int t 3 (st_v [1, 0, 0]) (fun q => s.heap.size ≤ q) s s.heap := by
  have hq := flat_of_before _ hg
  obtain ⟨t, h1, h2⟩ := va_Tof (tm := (.static RX5 "PERSON_LEAST" "[I")) (ty := .int) (N := 3) (f := st_v [1, 0, 0]) (A := fun q => s.heap.size ≤ q) (by decide) (hq (.arrayOf (.static RX5 "PERSON_LEAST" "[I") .int) (by decide +kernel)) (va_eqt (hq (.eq (.length (.static RX5 "PERSON_LEAST" "[I")) (.int 3)) (by decide +kernel))) (fun j hj => by
    rcases (show j = 0 ∨ j = 1 ∨ j = 2 by omega) with rfl | rfl | rfl
    · exact va_eqt (hq (.eq (.elem (.static RX5 "PERSON_LEAST" "[I") (.int 0)) (.int 1)) (by decide +kernel))
    · exact va_eqt (hq (.eq (.elem (.static RX5 "PERSON_LEAST" "[I") (.int 1)) (.int 0)) (by decide +kernel))
    · exact va_eqt (hq (.eq (.elem (.static RX5 "PERSON_LEAST" "[I") (.int 2)) (.int 0)) (by decide +kernel))) (fun a ha h9 => absurd ha (Nat.not_lt.mpr h9))
  exact ⟨t, va_Zref (lt_s2 h) (lt_n5 h) h1 (fun a ha h9 => absurd ha (Nat.not_lt.mpr h9)), h2⟩
theorem lt_t3 (h : ∀ w ∈ lw_tbl, w.before args s = true) (hg : (Jvm.Cond.and given_1 narrow_1).before args s = true) : ∃ t : Nat, va_Z RX5 "PERSON_MOST" "[I" (.ref t) (fun q => s.heap.size ≤ q) s s.heap ∧ va_T .int t 3 (st_v [3, 20, 20]) (fun q => s.heap.size ≤ q) s s.heap := by
  have hq := flat_of_before _ hg
  obtain ⟨t, h1, h2⟩ := va_Tof (tm := (.static RX5 "PERSON_MOST" "[I")) (ty := .int) (N := 3) (f := st_v [3, 20, 20]) (A := fun q => s.heap.size ≤ q) (by decide) (hq (.arrayOf (.static RX5 "PERSON_MOST" "[I") .int) (by decide +kernel)) (va_eqt (hq (.eq (.length (.static RX5 "PERSON_MOST" "[I")) (.int 3)) (by decide +kernel))) (fun j hj => by
    rcases (show j = 0 ∨ j = 1 ∨ j = 2 by omega) with rfl | rfl | rfl
    · exact va_eqt (hq (.eq (.elem (.static RX5 "PERSON_MOST" "[I") (.int 0)) (.int 3)) (by decide +kernel))
    · exact va_eqt (hq (.eq (.elem (.static RX5 "PERSON_MOST" "[I") (.int 1)) (.int 20)) (by decide +kernel))
    · exact va_eqt (hq (.eq (.elem (.static RX5 "PERSON_MOST" "[I") (.int 2)) (.int 20)) (by decide +kernel))) (fun a ha h9 => absurd ha (Nat.not_lt.mpr h9))
  exact ⟨t, va_Zref (lt_s3 h) (lt_n5 h) h1 (fun a ha h9 => absurd ha (Nat.not_lt.mpr h9)), h2⟩
theorem lt_t4 (h : ∀ w ∈ lw_tbl, w.before args s = true) (hg : (Jvm.Cond.and given_1 narrow_1).before args s = true) : ∃ t : Nat, va_Z RX5 "FEUD_LEAST" "[I" (.ref t) (fun q => s.heap.size ≤ q) s s.heap ∧ va_T .int t 2 (st_v [0, 0]) (fun q => s.heap.size ≤ q) s s.heap := by
  have hq := flat_of_before _ hg
  obtain ⟨t, h1, h2⟩ := va_Tof (tm := (.static RX5 "FEUD_LEAST" "[I")) (ty := .int) (N := 2) (f := st_v [0, 0]) (A := fun q => s.heap.size ≤ q) (by decide) (hq (.arrayOf (.static RX5 "FEUD_LEAST" "[I") .int) (by decide +kernel)) (va_eqt (hq (.eq (.length (.static RX5 "FEUD_LEAST" "[I")) (.int 2)) (by decide +kernel))) (fun j hj => by
    rcases (show j = 0 ∨ j = 1 by omega) with rfl | rfl
    · exact va_eqt (hq (.eq (.elem (.static RX5 "FEUD_LEAST" "[I") (.int 0)) (.int 0)) (by decide +kernel))
    · exact va_eqt (hq (.eq (.elem (.static RX5 "FEUD_LEAST" "[I") (.int 1)) (.int 0)) (by decide +kernel))) (fun a ha h9 => absurd ha (Nat.not_lt.mpr h9))
  exact ⟨t, va_Zref (lt_s4 h) (lt_n5 h) h1 (fun a ha h9 => absurd ha (Nat.not_lt.mpr h9)), h2⟩
theorem lt_t5 (h : ∀ w ∈ lw_tbl, w.before args s = true) (hg : (Jvm.Cond.and given_1 narrow_1).before args s = true) : ∃ t : Nat, va_Z RX5 "FEUD_MOST" "[I" (.ref t) (fun q => s.heap.size ≤ q) s s.heap ∧ va_T .int t 2 (st_v [4, 4]) (fun q => s.heap.size ≤ q) s s.heap := by
  have hq := flat_of_before _ hg
  obtain ⟨t, h1, h2⟩ := va_Tof (tm := (.static RX5 "FEUD_MOST" "[I")) (ty := .int) (N := 2) (f := st_v [4, 4]) (A := fun q => s.heap.size ≤ q) (by decide) (hq (.arrayOf (.static RX5 "FEUD_MOST" "[I") .int) (by decide +kernel)) (va_eqt (hq (.eq (.length (.static RX5 "FEUD_MOST" "[I")) (.int 2)) (by decide +kernel))) (fun j hj => by
    rcases (show j = 0 ∨ j = 1 by omega) with rfl | rfl
    · exact va_eqt (hq (.eq (.elem (.static RX5 "FEUD_MOST" "[I") (.int 0)) (.int 4)) (by decide +kernel))
    · exact va_eqt (hq (.eq (.elem (.static RX5 "FEUD_MOST" "[I") (.int 1)) (.int 4)) (by decide +kernel))) (fun a ha h9 => absurd ha (Nat.not_lt.mpr h9))
  exact ⟨t, va_Zref (lt_s5 h) (lt_n5 h) h1 (fun a ha h9 => absurd ha (Nat.not_lt.mpr h9)), h2⟩
theorem lt_t6 (h : ∀ w ∈ lw_tbl, w.before args s = true) (hg : (Jvm.Cond.and given_1 narrow_1).before args s = true) : ∃ t : Nat, va_Z RX5 "OIL_LEAST" "[I" (.ref t) (fun q => s.heap.size ≤ q) s s.heap ∧ va_T .int t 2 (st_v [0, 0]) (fun q => s.heap.size ≤ q) s s.heap := by
  have hq := flat_of_before _ hg
  obtain ⟨t, h1, h2⟩ := va_Tof (tm := (.static RX5 "OIL_LEAST" "[I")) (ty := .int) (N := 2) (f := st_v [0, 0]) (A := fun q => s.heap.size ≤ q) (by decide) (hq (.arrayOf (.static RX5 "OIL_LEAST" "[I") .int) (by decide +kernel)) (va_eqt (hq (.eq (.length (.static RX5 "OIL_LEAST" "[I")) (.int 2)) (by decide +kernel))) (fun j hj => by
    rcases (show j = 0 ∨ j = 1 by omega) with rfl | rfl
    · exact va_eqt (hq (.eq (.elem (.static RX5 "OIL_LEAST" "[I") (.int 0)) (.int 0)) (by decide +kernel))
    · exact va_eqt (hq (.eq (.elem (.static RX5 "OIL_LEAST" "[I") (.int 1)) (.int 0)) (by decide +kernel))) (fun a ha h9 => absurd ha (Nat.not_lt.mpr h9))
  exact ⟨t, va_Zref (lt_s6 h) (lt_n5 h) h1 (fun a ha h9 => absurd ha (Nat.not_lt.mpr h9)), h2⟩
theorem lt_t7 (h : ∀ w ∈ lw_tbl, w.before args s = true) (hg : (Jvm.Cond.and given_1 narrow_1).before args s = true) : ∃ t : Nat, va_Z RX5 "OIL_MOST" "[I" (.ref t) (fun q => s.heap.size ≤ q) s s.heap ∧ va_T .int t 2 (st_v [4, 9]) (fun q => s.heap.size ≤ q) s s.heap := by
  have hq := flat_of_before _ hg
  obtain ⟨t, h1, h2⟩ := va_Tof (tm := (.static RX5 "OIL_MOST" "[I")) (ty := .int) (N := 2) (f := st_v [4, 9]) (A := fun q => s.heap.size ≤ q) (by decide) (hq (.arrayOf (.static RX5 "OIL_MOST" "[I") .int) (by decide +kernel)) (va_eqt (hq (.eq (.length (.static RX5 "OIL_MOST" "[I")) (.int 2)) (by decide +kernel))) (fun j hj => by
    rcases (show j = 0 ∨ j = 1 by omega) with rfl | rfl
    · exact va_eqt (hq (.eq (.elem (.static RX5 "OIL_MOST" "[I") (.int 0)) (.int 4)) (by decide +kernel))
    · exact va_eqt (hq (.eq (.elem (.static RX5 "OIL_MOST" "[I") (.int 1)) (.int 9)) (by decide +kernel))) (fun a ha h9 => absurd ha (Nat.not_lt.mpr h9))
  exact ⟨t, va_Zref (lt_s7 h) (lt_n5 h) h1 (fun a ha h9 => absurd ha (Nat.not_lt.mpr h9)), h2⟩
theorem lt_Z (h : ∀ w ∈ lw_tbl, w.before args s = true) (hg : (Jvm.Cond.and given_1 narrow_1).before args s = true) : ∃ ts : Nat → Nat, st_Z ts (fun q => s.heap.size ≤ q) s := by
  obtain ⟨t0, z0, y0⟩ := lt_t0 h hg
  obtain ⟨t1, z1, y1⟩ := lt_t1 h hg
  obtain ⟨t2, z2, y2⟩ := lt_t2 h hg
  obtain ⟨t3, z3, y3⟩ := lt_t3 h hg
  obtain ⟨t4, z4, y4⟩ := lt_t4 h hg
  obtain ⟨t5, z5, y5⟩ := lt_t5 h hg
  obtain ⟨t6, z6, y6⟩ := lt_t6 h hg
  obtain ⟨t7, z7, y7⟩ := lt_t7 h hg
  exact ⟨fun j => [t0, t1, t2, t3, t4, t5, t6, t7].getD j 0, ⟨z0, z1, z2, z3, z4, z5, z6, z7⟩, ⟨y0, y1⟩, ⟨y2, y3⟩, ⟨y4, y5⟩, ⟨y6, y7⟩⟩
theorem lt_K (h : ∀ w ∈ lw_tbl, w.before args s = true) : ∃ (D : va_G) (cI cC cZ cN : ClassId), va_K D vwCl (ly_tys cI cC cZ cN) s := by
  obtain ⟨c0, i0, k0⟩ := u_known (C := RX0) (T := TX0) (N := 3) (n := 3) h inX0 (lt_i0 h)
  obtain ⟨c1, i1, k1⟩ := u_known (C := RX1) (T := TX1) (N := 6) (n := 6) h inX1 (lt_i1 h)
  obtain ⟨c2, i2, k2⟩ := u_known (C := RX2) (T := TX2) (N := 6) (n := 6) h inX2 (lt_i2 h)
  obtain ⟨c3, i3, k3⟩ := u_known (C := RX3) (T := TX3) (N := 7) (n := 7) h inX3 (lt_i3 h)
  obtain ⟨c4, i4, k4⟩ := u_known (C := RX4) (T := TX4) (N := 12) (n := 12) h inX4 (lt_i4 h)
  obtain ⟨c5, i5, k5⟩ := u_known (C := RX5) (T := TX5) (N := 9) (n := 9) h inX5 (lt_i5 h)
  obtain ⟨c6, i6, k6⟩ := u_known (C := RX6) (T := TX6) (N := 12) (n := 12) h inX6 (lt_i6 h)
  obtain ⟨c7, i7, k7⟩ := u_known (C := RX7) (T := TX7) (N := 35) (n := 35) h inX7 (lt_i7 h)
  obtain ⟨cI, aI, pI, fI, gI, hI⟩ := Cond.arrayClass_spec (lt_aI h)
  obtain ⟨cC, aC, pC, fC, gC, hC⟩ := Cond.arrayClass_spec (lt_aC h)
  obtain ⟨cZ, aZ, pZ, fZ, gZ, hZ⟩ := Cond.arrayClass_spec (lt_aZ h)
  obtain ⟨pN, cN, aN, fN, -, gN, hN, eN⟩ := Cond.arrayOver_spec (lt_aN h)
  refine ⟨(fun k => [c0, c1, c2, c3, c4, c5, c6, c7].getD k c0, fun k => [i0, i1, i2, i3, i4, i5, i6, i7].getD k i0), cI, cC, cZ, cN, fun k q hq => ?_, fun k q hq => ?_⟩
  · match k, hq with
    | 0, hq => cases hq; exact k0
    | 1, hq => cases hq; exact k1
    | 2, hq => cases hq; exact k2
    | 3, hq => cases hq; exact k3
    | 4, hq => cases hq; exact k4
    | 5, hq => cases hq; exact k5
    | 6, hq => cases hq; exact k6
    | 7, hq => cases hq; exact k7
    | k + 8, hq => simp [vwCl] at hq
  · match k, hq with
    | 0, hq => cases hq; exact ⟨fun n z => ⟨fun k h => (by cases h), aI, gI, pI, hI⟩, fI⟩
    | 1, hq => cases hq; exact ⟨fun n z => ⟨fun k h => (by cases h), aC, gC, pC, hC⟩, fC⟩
    | 2, hq => cases hq; exact ⟨fun n z => ⟨fun k h => (by cases h), aZ, gZ, pZ, hZ⟩, fZ⟩
    | 3, hq => cases hq; exact ⟨fun n z => ⟨fun k h => (by cases h), aN, gN, pN, hN⟩, aN, pN, gN, hN, fN, eN⟩
    | k + 4, hq => simp [ly_tys] at hq
end LWW
