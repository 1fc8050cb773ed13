/-! the Reader's tables: static rows that nobody writes -/
def ly_PreX (D : va_G) (tys : List (ClassId × FieldType)) (ws : va_W) (av : List Value) (X : State → Prop) : Array Value → State → Prop := fun v_1 U => (v_1 = av.toArray ∧ va_P D vwCl ws U.heap ∧ va_K D vwCl tys U ∧ ly_N U) ∧ X U
def ly_bl (X : State → Prop) : Prop := ∀ (u U : State), u.heap = U.heap → u.vm.Alike U.vm → X u → X U
theorem ly_pvX {D : va_G} {tys : List (ClassId × FieldType)} {wc : va_W} {s : State} {H : Heap} {C : String} {b : Nat} {As : List Value} {X : State → Prop} (hp : PreV s H C b (ly_Pre D tys wc (.ref b :: As)) As) (hX : ly_bl X ∧ ∀ U : State, U.heap = H → s.vm.Alike U.vm → X U) : PreV s H C b (ly_PreX D tys wc (.ref b :: As) X) As :=
  ⟨fun a1 U g1 mk h => ⟨hp.1 a1 U g1 mk h.1, hX.1 U (U.calling g1 mk a1) rfl (Vm.Alike.refl U.vm) h.2⟩, hp.2.1, fun U hU hW => ⟨hp.2.2 U hU hW, hX.2 U hU hW.alike⟩⟩
def st_v (l1 : List Int32) : Nat → Value := fun j => .int (l1.getD j 0)
def st_T (ta tb na nb : Nat) (la lb : List Int32) (A : Nat → Prop) (U : State) : Prop := va_T .int ta na (st_v la) A U U.heap ∧ va_T .int tb nb (st_v lb) A U U.heap
theorem st_T.bl {ta tb na nb : Nat} {la lb : List Int32} {A : Nat → Prop} : ly_bl (st_T ta tb na nb la lb A) := fun u U hh hv h => by
  obtain ⟨h1, h2⟩ := h
  rw [hh] at h1 h2
  exact ⟨va_T.moved hv h1, va_T.moved hv h2⟩
theorem st_T.at {ta tb na nb : Nat} {la lb : List Int32} {A B : Nat → Prop} {s : State} {H : Heap} {locs : List Loc} (h : st_T ta tb na nb la lb A s) (hS : va_S A s.heap H locs) (hAB : ∀ q, B q → A q) : ly_bl (st_T ta tb na nb la lb B) ∧ ∀ U : State, U.heap = H → s.vm.Alike U.vm → st_T ta tb na nb la lb B U :=
  ⟨st_T.bl, fun U hU hv => ⟨by rw [hU]; exact ((h.1.kept hS.2.1).moved hv).narrow hAB, by rw [hU]; exact ((h.2.kept hS.2.1).moved hv).narrow hAB⟩⟩
/-- all eight -/
def st_Z (ts : Nat → Nat) (A : Nat → Prop) (U : State) : Prop :=
  (va_Z RX5 "KNEE_LEAST" "[I" (.ref (ts 0)) A U U.heap ∧ va_Z RX5 "KNEE_MOST" "[I" (.ref (ts 1)) A U U.heap ∧ va_Z RX5 "PERSON_LEAST" "[I" (.ref (ts 2)) A U U.heap ∧ va_Z RX5 "PERSON_MOST" "[I" (.ref (ts 3)) A U U.heap ∧
   va_Z RX5 "FEUD_LEAST" "[I" (.ref (ts 4)) A U U.heap ∧ va_Z RX5 "FEUD_MOST" "[I" (.ref (ts 5)) A U U.heap ∧ va_Z RX5 "OIL_LEAST" "[I" (.ref (ts 6)) A U U.heap ∧ va_Z RX5 "OIL_MOST" "[I" (.ref (ts 7)) A U U.heap) ∧
  st_T (ts 0) (ts 1) 3 3 [0, 0, 1] [1, 4, 60] A U ∧ st_T (ts 2) (ts 3) 3 3 [1, 0, 0] [3, 20, 20] A U ∧ st_T (ts 4) (ts 5) 2 2 [0, 0] [4, 4] A U ∧ st_T (ts 6) (ts 7) 2 2 [0, 0] [4, 9] A U
theorem st_Z.bl {ts : Nat → Nat} {A : Nat → Prop} : ly_bl (st_Z ts A) := fun u U hh hv h => by
  obtain ⟨⟨h1, h2, h3, h4, h5, h6, h7, h8⟩, g1, g2, g3, g4⟩ := h
  rw [hh] at h1 h2 h3 h4 h5 h6 h7 h8
  exact ⟨⟨va_Z.moved hv h1, va_Z.moved hv h2, va_Z.moved hv h3, va_Z.moved hv h4, va_Z.moved hv h5, va_Z.moved hv h6, va_Z.moved hv h7, va_Z.moved hv h8⟩, st_T.bl u U hh hv g1, st_T.bl u U hh hv g2, st_T.bl u U hh hv g3, st_T.bl u U hh hv g4⟩
theorem st_Z.at {ts : Nat → Nat} {A B : Nat → Prop} {s : State} {H : Heap} {locs : List Loc} (h : st_Z ts A s) (hS : va_S A s.heap H locs) (hAB : ∀ q, B q → A q) : ly_bl (st_Z ts B) ∧ ∀ U : State, U.heap = H → s.vm.Alike U.vm → st_Z ts B U := by
  refine ⟨st_Z.bl, fun U hU hv => ?_⟩
  obtain ⟨⟨h1, h2, h3, h4, h5, h6, h7, h8⟩, g1, g2, g3, g4⟩ := h
  refine ⟨?_, (g1.at hS hAB).2 U hU hv, (g2.at hS hAB).2 U hU hv, (g3.at hS hAB).2 U hU hv, (g4.at hS hAB).2 U hU hv⟩
  rw [hU]
  exact ⟨((h1.kept hS.2.1).moved hv).narrow hAB, ((h2.kept hS.2.1).moved hv).narrow hAB, ((h3.kept hS.2.1).moved hv).narrow hAB, ((h4.kept hS.2.1).moved hv).narrow hAB, ((h5.kept hS.2.1).moved hv).narrow hAB, ((h6.kept hS.2.1).moved hv).narrow hAB, ((h7.kept hS.2.1).moved hv).narrow hAB, ((h8.kept hS.2.1).moved hv).narrow hAB⟩
/-- the cells of a part of a world are among the world's -/
theorem ly_sub_in {A : Nat → Prop} {ws wc : va_W} (hD : va_D A ws) (isC : List Nat) (hC : isC.map (fun i => ws[i]?) = wc.map some) : ∀ q, ly_in wc q → A q := by
  rintro q ⟨k, e, hq⟩
  obtain ⟨i, -, h2⟩ := ly_of_map hC hq
  exact hD.2 i _ h2
