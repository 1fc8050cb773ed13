/-! constructors: worlds that grow -/
abbrev ly_rc (h c n : Nat) : Room := { frames := h, cells := c, slots := n, locals := 40 * h }
/-- a constructor's start -/
def ly_PreC (D : va_G) (tys : List (ClassId × FieldType)) (ws : va_W) (av : List Value) (sz : Nat) : Array Value → State → Prop := fun v U => (v = av.toArray ∧ va_P D vwCl ws U.heap ∧ va_K D vwCl tys U ∧ ly_N U) ∧ va_AO RX3 U ∧ U.heap.size = sz
theorem ly_psC {D : va_G} {tys : List (ClassId × FieldType)} {wc : va_W} {s : State} {H : Heap} {As : List Value} {sz : Nat} (hK : va_K D vwCl tys s) (hN : ly_N s) (hO : va_AO RX3 s) (hPc : va_P D vwCl wc H) (hz : H.size = sz) : PreS s H (ly_PreC D tys wc As sz) As :=
  ⟨fun a U g mk h => ⟨⟨h.1.1, h.1.2.1, va_K.moved (u := U) (U := U.calling g mk a) (Vm.Alike.refl U.vm) h.1.2.2.1, ly_N.same (u := U) (U := U.calling g mk a) rfl h.1.2.2.2⟩, va_AO.moved (u := U) (U := U.calling g mk a) (Vm.Alike.refl U.vm) h.2.1, h.2.2⟩, fun U hU hW => ⟨⟨rfl, by rw [hU]; exact hPc, va_K.moved hW.alike hK, hN.warm hW⟩, va_AO.moved hW.alike hO, by rw [hU]; exact hz⟩⟩
/-- a constructor's end -/
abbrev ly_QC (D : va_G) (w0 : va_W) (sz : Nat) (post : va_W → Prop) : Array Value → State → Outcome → State → Prop := va_Qv post (fun w t => va_P D vwCl w t.heap ∧ va_D (va_A w0 sz) w) (va_A w0 sz)
theorem ly_D1 {q : Nat} {e : va_E} : va_D (fun _ => True) [(q, e)] := by
  refine ⟨fun i j x y hi hj _ => ?_, fun _ _ _ => trivial⟩
  have h1 : i < 1 := (List.getElem?_eq_some_iff.mp hi).1
  have h2 : j < 1 := (List.getElem?_eq_some_iff.mp hj).1
  omega
theorem ly_qcong {D : va_G} {ws : va_W} {H : Heap} (hP : va_P D vwCl ws H) (q0 : Nat) {ad n : Nat} {cA : ClassId} {f1 f2 : Nat → Option Nat} (ha : ws[q0]? = some (ad, .inl (cA, n, .inr (.inr (.inr (.inr f1)))))) (h : ∀ j, j < n → f1 j = f2 j) : va_P D vwCl (ws.set q0 (ad, .inl (cA, n, .inr (.inr (.inr (.inr f2)))))) H := by
  have he : vp_cell cA (n, .inr (.inr (.inr (.inr f1)))) = vp_cell cA (n, .inr (.inr (.inr (.inr f2)))) := by
    show arrV cA n (fun j => va_rf (f1 j)) = arrV cA n (fun j => va_rf (f2 j))
    unfold arrV
    congr 1
    apply congrArg
    funext j
    exact congrArg va_rf (h j.val j.isLt)
  intro k q hk
  by_cases hq : q0 = k
  · subst hq
    have hlt : q0 < ws.length := (List.getElem?_eq_some_iff.mp ha).1
    rw [List.getElem?_set_self hlt] at hk
    cases hk
    show H[ad]? = some (vp_cell cA (n, .inr (.inr (.inr (.inr f2)))))
    rw [← he]
    exact hP q0 _ ha
  · rw [List.getElem?_set_ne hq] at hk
    exact hP k q hk
section LYN
variable {p : Program} {l : Launch} {e : Env} {R : Room} {s : State} {m : MethodId} {args : Array Value} {below : List Frame} {meth : Method} {c : Code} {H : Heap} {locs : List Loc} {cells slots : Nat} {Q : State → Prop}
variable {pc : Nat} {ls : Array Slot} {rest st0 : List Value} {a : Array Value} {A : Nat → Prop} {H0 : Heap}
variable {cc : ByteArray} {D : va_G} {ws : va_W} {cI cC cZ cN : ClassId}
/-- behind a constructor -/
theorem ly_c {wc wr : va_W} {post : va_W → Prop} {mc ms : Nat} (hr : va_Run p l e R s m args below meth c H locs cells slots mc ms (F0 m pc ls st0) rest (ly_QC D wc H.size post a) (va_A wc H.size)) (hP : va_P D vwCl ws H) (hD : va_D A ws) (hS : va_S A H0 H locs) (hA : ∀ q, H0.size ≤ q → A q) (isC isR : List Nat) (hC : isC.map (fun i => ws[i]?) = wc.map some) (hR : isR.map (fun i => ws[i]?) = wr.map some) (hn : va_nd isR = true) (hdis : ∀ i ∈ isR, i ∉ isC)
    (kk : ∀ (w1 : va_W) (H1 : Heap) (locs1 : List Loc), post w1 → va_P D vwCl (wr ++ w1) H1 → va_D A (wr ++ w1) → va_S A H0 H1 locs1 → W p l e R s m args below meth c H1 locs1 (cells + mc) (slots + ms) Q (F0 m (pc + 3) ls rest)) : W p l e R s m args below meth c H locs cells slots Q (F0 m pc ls st0) := by
  have hF := va_free hD hS hA isC hC
  refine va_callv hr hS (fun q _ h => hF q h) hF (fun u t H1 locs1 ht hvm hw hB hz hk hS1 => ?_)
  obtain ⟨hP1, hD1⟩ := hB
  rw [ht] at hP1
  obtain ⟨hP2, hD2⟩ := va_join hP hD isC isR hC hR hn hdis hk hF hP1 hD1
  exact kk u H1 locs1 hw hP2 hD2 hS1
theorem ly_newI (hexec : p.tables.exec = Jvm.exec) (hb : c.code = cc) (harr : (Cond.arrayClass .int).before args s = true) (hK : va_K D vwCl (ly_tys cI cC cZ cN) s) (hP : va_P D vwCl ws H) (hD : va_D A ws) (hS : va_S A H0 H locs) (hA : ∀ q, H0.size ≤ q → A q) {n : Int32} (N' : Nat) (hn : n = nI N') (hN : N' < 2 ^ 20) (hcells : cells + 1 ≤ R.cells) (hslots : slots + N' ≤ R.slots) (hdg : decode cc pc = .ok (.newarray .int, 2))
    (kk : ∀ (q : Nat) (H1 : Heap), va_P D vwCl (ws ++ [(q, .inl (cI, N', .inl (fun _ => nI 0)))]) H1 → va_D A (ws ++ [(q, .inl (cI, N', .inl (fun _ => nI 0)))]) → va_S A H0 H1 locs → W p l e R s m args below meth c H1 locs (cells + 1) (slots + N') Q (F0 m (pc + 2) ls (.ref q :: rest))) : W p l e R s m args below meth c H locs cells slots Q (F0 m pc ls (.int n :: rest)) := by
  refine va_newa (atype := .int) (ty := .int) (N' := N') (a0 := (N', .inl (fun _ => nI 0))) hexec hb harr rfl hK hP hD hS hA (fun _ => rfl) (by rw [hn]; exact nI_pos (by omega)) (by rw [hn]; exact nI_clamp (by omega)) (by show N' * 4 ≤ 536870912; omega) hcells hslots hdg (fun q cA H1 hK1 hP1 hD1 hS1 => ?_)
  have e1 : s.vm.findClass ("[" ++ FieldType.int.toString) = some cA := (hK1.2 4 (cA, .int) rfl).2
  have e2 : s.vm.findClass ("[" ++ FieldType.int.toString) = some cI := (hK.2 0 (cI, .int) rfl).2
  have e3 : cA = cI := Option.some.inj (e1.symm.trans e2)
  subst e3
  exact kk q H1 hP1 hD1 hS1
theorem ly_newC (hexec : p.tables.exec = Jvm.exec) (hb : c.code = cc) (harr : (Cond.arrayClass .char).before args s = true) (hK : va_K D vwCl (ly_tys cI cC cZ cN) s) (hP : va_P D vwCl ws H) (hD : va_D A ws) (hS : va_S A H0 H locs) (hA : ∀ q, H0.size ≤ q → A q) {n : Int32} (N' : Nat) (hn : n = nI N') (hN : N' < 2 ^ 20) (hcells : cells + 1 ≤ R.cells) (hslots : slots + N' ≤ R.slots) (hdg : decode cc pc = .ok (.newarray .char, 2))
    (kk : ∀ (q : Nat) (H1 : Heap), va_P D vwCl (ws ++ [(q, .inl (cC, N', .inl (fun _ => nI 0)))]) H1 → va_D A (ws ++ [(q, .inl (cC, N', .inl (fun _ => nI 0)))]) → va_S A H0 H1 locs → W p l e R s m args below meth c H1 locs (cells + 1) (slots + N') Q (F0 m (pc + 2) ls (.ref q :: rest))) : W p l e R s m args below meth c H locs cells slots Q (F0 m pc ls (.int n :: rest)) := by
  refine va_newa (atype := .char) (ty := .char) (N' := N') (a0 := (N', .inl (fun _ => nI 0))) hexec hb harr rfl hK hP hD hS hA (fun _ => rfl) (by rw [hn]; exact nI_pos (by omega)) (by rw [hn]; exact nI_clamp (by omega)) (by show N' * 2 ≤ 536870912; omega) hcells hslots hdg (fun q cA H1 hK1 hP1 hD1 hS1 => ?_)
  have e1 : s.vm.findClass ("[" ++ FieldType.char.toString) = some cA := (hK1.2 4 (cA, .char) rfl).2
  have e2 : s.vm.findClass ("[" ++ FieldType.char.toString) = some cC := (hK.2 1 (cC, .char) rfl).2
  have e3 : cA = cC := Option.some.inj (e1.symm.trans e2)
  subst e3
  exact kk q H1 hP1 hD1 hS1
theorem ly_newZ (hexec : p.tables.exec = Jvm.exec) (hb : c.code = cc) (harr : (Cond.arrayClass .boolean).before args s = true) (hK : va_K D vwCl (ly_tys cI cC cZ cN) s) (hP : va_P D vwCl ws H) (hD : va_D A ws) (hS : va_S A H0 H locs) (hA : ∀ q, H0.size ≤ q → A q) {n : Int32} (N' : Nat) (hn : n = nI N') (hN : N' < 2 ^ 20) (hcells : cells + 1 ≤ R.cells) (hslots : slots + N' ≤ R.slots) (hdg : decode cc pc = .ok (.newarray .boolean, 2))
    (kk : ∀ (q : Nat) (H1 : Heap), va_P D vwCl (ws ++ [(q, .inl (cZ, N', .inl (fun _ => nI 0)))]) H1 → va_D A (ws ++ [(q, .inl (cZ, N', .inl (fun _ => nI 0)))]) → va_S A H0 H1 locs → W p l e R s m args below meth c H1 locs (cells + 1) (slots + N') Q (F0 m (pc + 2) ls (.ref q :: rest))) : W p l e R s m args below meth c H locs cells slots Q (F0 m pc ls (.int n :: rest)) := by
  refine va_newa (atype := .boolean) (ty := .boolean) (N' := N') (a0 := (N', .inl (fun _ => nI 0))) hexec hb harr rfl hK hP hD hS hA (fun _ => rfl) (by rw [hn]; exact nI_pos (by omega)) (by rw [hn]; exact nI_clamp (by omega)) (by show N' * 1 ≤ 536870912; omega) hcells hslots hdg (fun q cA H1 hK1 hP1 hD1 hS1 => ?_)
  have e1 : s.vm.findClass ("[" ++ FieldType.boolean.toString) = some cA := (hK1.2 4 (cA, .boolean) rfl).2
  have e2 : s.vm.findClass ("[" ++ FieldType.boolean.toString) = some cZ := (hK.2 2 (cZ, .boolean) rfl).2
  have e3 : cA = cZ := Option.some.inj (e1.symm.trans e2)
  subst e3
  exact kk q H1 hP1 hD1 hS1
theorem ly_newQ (hexec : p.tables.exec = Jvm.exec) (hb : c.code = cc) {own : String} {index : Nat} (hown : s.vm.findClass own = some m.cls) (hclink : (Cond.classLink own index RX3).before args s = true) (hO : va_AO RX3 s) (hK : va_K D vwCl (ly_tys cI cC cZ cN) s) (hP : va_P D vwCl ws H) (hD : va_D A ws) (hS : va_S A H0 H locs) (hA : ∀ q, H0.size ≤ q → A q) {n : Int32} (N' : Nat) (hn : n = nI N') (hN : N' < 2 ^ 20) (hcells : cells + 1 ≤ R.cells) (hslots : slots + N' ≤ R.slots) (hdg : decode cc pc = .ok (.anewarray index, 3))
    (kk : ∀ (q : Nat) (H1 : Heap), va_P D vwCl (ws ++ [(q, .inl (cN, N', .inr (.inr (.inr (.inr (fun _ => none))))))]) H1 → va_D A (ws ++ [(q, .inl (cN, N', .inr (.inr (.inr (.inr (fun _ => none))))))]) → va_S A H0 H1 locs → W p l e R s m args below meth c H1 locs (cells + 1) (slots + N') Q (F0 m (pc + 3) ls (.ref q :: rest))) : W p l e R s m args below meth c H locs cells slots Q (F0 m pc ls (.int n :: rest)) := by
  refine va_newq (C := RX3) (N' := N') hexec hb hown hclink hO hK hP hD hS hA (by rw [hn]; exact nI_pos (by omega)) (by rw [hn]; exact nI_clamp (by omega)) (by omega) hcells hslots hdg (fun q cA H1 hK1 hP1 hD1 hS1 => ?_)
  obtain ⟨kA, comp, -, -, -, e1⟩ := (hK1.2 4 (cA, .object RX3) rfl).2
  obtain ⟨kA2, comp2, -, -, -, e2⟩ := (hK.2 3 (cN, .object "KneesLent$Now") rfl).2
  have e3 : cA = cN := Option.some.inj (e1.symm.trans e2)
  subst e3
  exact kk q H1 hP1 hD1 hS1
theorem ly_astq (hexec : p.tables.exec = Jvm.exec) (hb : c.code = cc) (hK : va_K D vwCl (ly_tys cI cC cZ cN) s) (hP : va_P D vwCl ws H) (hD : va_D A ws) (hS : va_S A H0 H locs) (q0 qk : Nat) {ad n v : Nat} {vs : List Value} {f : Nat → Option Nat} (ha : ws[q0]? = some (ad, .inl (cN, n, .inr (.inr (.inr (.inr f)))))) (hv : ws[qk]? = some (v, .inr (3, vs))) {i : Int32} (k : Nat) (hn : n < 2 ^ 31) (he : i = nI k) (hk : k < n) (hdg : decode cc pc = .ok (.aastore, 1))
    (kk : ∀ (H1 : Heap) (locs1 : List Loc), va_P D vwCl (ws.set q0 (ad, .inl (cN, n, .inr (.inr (.inr (.inr (va_up f k (some v)))))))) H1 → va_D A (ws.set q0 (ad, .inl (cN, n, .inr (.inr (.inr (.inr (va_up f k (some v)))))))) → va_S A H0 H1 locs1 → W p l e R s m args below meth c H1 locs1 cells slots Q (F0 m (pc + 1) ls rest)) : W p l e R s m args below meth c H locs cells slots Q (F0 m pc ls (.ref v :: .int i :: .ref ad :: rest)) := by
  refine va_astq (r := (RX3, TX3, 7)) hexec hb hK hP hD hS q0 3 qk 3 ha rfl hv rfl (i := i) (by rw [he]; exact vp_in_nI hk hn) hdg ?_
  rw [ly_clamp hn he hk]; exact kk
end LYN
